/-! KEPT QUESTIONS: the clock, a question kept, its latest count -/
def kA (kk : Nat → Nat) (n : Nat) : Nat → Option Nat := fun i => if i < n then some (kk i) else none
theorem kA_lt {kk : Nat → Nat} {n i : Nat} (h : i < n) : va_rf (kA kk n i) = Value.ref (kk i) := by unfold kA; rw [if_pos h]; rfl
theorem kA_put {kk : Nat → Nat} {n v : Nat} : va_up (kA kk n) n (some v) = kA (up kk n v) (n + 1) := by
  funext j
  simp only [va_up, kA, up]
  by_cases h : j = n
  · subst h; rw [if_pos rfl, if_pos (by omega), if_pos rfl]
  · rw [if_neg h, if_neg h]
    by_cases h2 : j < n
    · rw [if_pos h2, if_pos (by omega)]
    · rw [if_neg h2, if_neg (by omega)]
theorem kA_0 {kk : Nat → Nat} : kA kk 0 = fun _ => none := by funext j; exact if_neg (Nat.not_lt_zero j)
noncomputable def kB (g : Nat → ClassId) (kk : Nat → Nat) (kq : Nat → Nat → Nat) (Kf : Nat → KD) (i : Nat) : va_W := wKept (kk i) (kq i 0) (Kf i).2.1 (Kf i).2.2.1 (Kf i).2.2.2 ++ wQc g (kq i) (Kf i).1
noncomputable def sK (g : Nat → ClassId) (kk : Nat → Nat) (kq : Nat → Nat → Nat) (Kf : Nat → KD) (n : Nat) : va_W := ((List.range n).map (kB g kk kq Kf)).flatten
noncomputable def sKx (g : Nat → ClassId) (kk : Nat → Nat) (kq : Nat → Nat → Nat) (Kf : Nat → KD) (n i : Nat) : va_W := (((List.range n).erase i).map (kB g kk kq Kf)).flatten
section KEPT
variable {g : Nat → ClassId} {kk : Nat → Nat} {kq : Nat → Nat → Nat} {Kf : Nat → KD} {n i : Nat} {p : Nat × va_E → Bool}
theorem sK_c (h : i < n) : (sK g kk kq Kf n).countP p = (wKept (kk i) (kq i 0) (Kf i).2.1 (Kf i).2.2.1 (Kf i).2.2.2).countP p + (wQc g (kq i) (Kf i).1).countP p + (sKx g kk kq Kf n i).countP p := by
  have e : (sK g kk kq Kf n).Perm (kB g kk kq Kf i ++ sKx g kk kq Kf n i) := ((List.perm_cons_erase (List.mem_range.mpr h)).map (kB g kk kq Kf)).flatten
  rw [e.countP_eq, List.countP_append]
  unfold kB
  rw [List.countP_append]
theorem sKx_up {d : KD} : sKx g kk kq (up Kf i d) n i = sKx g kk kq Kf n i := by
  unfold sKx
  congr 1
  apply List.map_congr_left
  intro j hj
  have : j ≠ i := fun e => by
    subst e
    exact (List.Nodup.not_mem_erase List.nodup_range) hj
  unfold kB
  rw [up_n this]
theorem sK_up {d : KD} (h : i < n) : (sK g kk kq (up Kf i d) n).countP p = (wKept (kk i) (kq i 0) d.2.1 d.2.2.1 d.2.2.2).countP p + (wQc g (kq i) d.1).countP p + (sKx g kk kq Kf n i).countP p := by
  rw [sK_c h, up_s, sKx_up]
theorem sK_new {a : Nat} {q : Nat → Nat} {d : KD} : (sK g (up kk n a) (up kq n q) (up Kf n d) (n + 1)).countP p = (sK g kk kq Kf n).countP p + ((wKept a (q 0) d.2.1 d.2.2.1 d.2.2.2).countP p + (wQc g q d.1).countP p) := by
  unfold sK
  rw [List.range_succ, List.map_append, List.flatten_append, List.countP_append]
  congr 1
  · congr 2
    apply List.map_congr_left
    intro j hj
    have : j ≠ n := Nat.ne_of_lt (List.mem_range.mp hj)
    unfold kB
    rw [up_n this, up_n this, up_n this]
  · rw [List.map_cons, List.map_nil, List.flatten_cons, List.flatten_nil, List.append_nil]
    unfold kB
    rw [up_s, up_s, up_s, List.countP_append]
theorem sK_mem (h : i < n) : (kk i, .inr (2, [.ref (kq i 0), .long (lI (Kf i).2.1), .long (lI (Kf i).2.2.1), .int (iI (Kf i).2.2.2)])) ∈ sK g kk kq Kf n :=
  List.mem_flatten.mpr ⟨kB g kk kq Kf i, List.mem_map.mpr ⟨i, List.mem_range.mpr h, rfl⟩, .head _⟩
end KEPT
section TCK
variable (mk : Nat → Bool) (cb : Int) (B : Nat → Nat → Nat → Bool) (Vv U Dn : Nat → Nat → Int) (n : Nat) (t : Int) (Kf : Nat → KD)
noncomputable def tckK : Nat → Nat → KD
  | 0 => Kf
  | k + 1 => up (tckK k) k (kUp mk cb B Vv U Dn n t (Kf k)).2
noncomputable def tckN : Nat → Int
  | 0 => 0
  | k + 1 => tckN k + (kUp mk cb B Vv U Dn n t (Kf k)).1
theorem tckK_ge {k j : Nat} (h : k ≤ j) : tckK mk cb B Vv U Dn n t Kf k j = Kf j := by
  induction k with
  | zero => rfl
  | succ k ih =>
    show up (tckK mk cb B Vv U Dn n t Kf k) k _ j = _
    rw [up_n (by omega), ih (by omega)]
noncomputable def tickU (tm : Int) (kc : Nat) : Int × Int × (Nat → KD) := if t < tm ∨ 1000 < t - tm then (-1000002, tm, Kf) else (tckN mk cb B Vv U Dn n t Kf kc, t, tckK mk cb B Vv U Dn n t Kf kc)
end TCK
def savX (Kf : Nat → KD) (kc : Nat) (i : Int) : Int := if 1 ≤ i ∧ i ≤ (kc : Int) then (Kf (i - 1).toNat).2.2.2 else -1000001
def kOK (tm : Int) (d : KD) : Prop := qOK d.1 ∧ (1 ≤ d.2.1 ∧ d.2.1 ≤ 1000) ∧ tm ≤ d.2.2.1 ∧ d.2.2.1 < 1000000000
section ASTQ
variable {p : Program} {l : Launch} {e : Env} {R : Room} {s : State} {m : MethodId} {args : Array Value} {below : List Frame} {meth : Method} {c : Code} {H H0 : Heap} {locs : List Loc} {cells slots : Nat} {Q : State → Prop}
variable {cc : ByteArray} {pc : Nat} {ls : Array Slot} {rest : List Value} {D : va_G} {g : Nat → ClassId} {A : Nat → Prop} {ws : va_W} {nL : Nat} {own : String}
theorem r_astq (C : Cx p m c cc nL s args own) (h : Hx D g s A H0 ws H locs) (q0 qk : Nat) {a n v : Nat} {vs : List Value} {f : Nat → Option Nat} (ws' : va_W) (he : ws[q0]? = some (a, cQ g n f)) (hv : ws[qk]? = some (v, .inr (2, vs))) {z : Int} (k : Nat) (hw : ws.set q0 (a, cQ g n (va_up f k (some v))) = ws') (hz : z = (k : Int)) (hk : k < n) (hn : n < 2147483648) (hdg : decode cc pc = .ok (.aastore, 1))
    (kk : ∀ (H1 : Heap) (locs1 : List Loc), Hx D g s A H0 ws' H1 locs1 → W p l e R s m args below meth c H1 locs1 cells slots Q (F0 m (pc + 1) ls rest)) : W p l e R s m args below meth c H locs cells slots Q (F0 m pc ls (.ref v :: .int (iI z) :: .ref a :: rest)) :=
  va_astq C.1 C.2.1 h.1.1 h.2.1 h.2.2.1 h.2.2.2.1 q0 5 qk 2 he rfl hv rfl (iI_in hz hk hn).1 hdg (fun H1 locs1 hP hD hS => kk H1 locs1 (by
    rw [(iI_in hz hk hn).2] at hP hD
    subst hw
    exact ⟨h.1, hP, hD, hS, h.2.2.2.2⟩))
end ASTQ

set_option maxHeartbeats 4000000 in
set_option maxRecDepth 100000 in
theorem c_X7_saved (l : Launch) (D : va_G) (g : Nat → ClassId) (x j ta ka : Nat) (ra ga da qa fa pa : Nat → Nat) (sg kc : Nat) (mk : Nat → Bool) (cb lc tm : Int) (an : Bool) (kk : Nat → Nat) (kq : Nat → Nat → Nat) (Kf : Nat → KD) (i : Int) (hi : R32 i) (hkc : kc ≤ 20) : Ct (S := Int) l D g yX7_saved cX7_saved 3 (some .int) rmX7_saved [.ref x, .int (iI i)] (wX x j ta ka ra ga da qa fa pa sg kc mk cb lc tm an ++ ([(ka, cQ g 20 (kA kk kc))] ++ sK g kk kq Kf kc)) (fun u => some (.int (iI u))) (fun u => u = savX Kf kc i) (fun u => wX x j ta ka ra ga da qa fa pa sg kc mk cb lc tm an ++ ([(ka, cQ g 20 (kA kk kc))] ++ sK g kk kq Kf kc)) := by
  refine Ct.of RX7 rfl (by decide +kernel) [(0, .ref x), (1, .int (iI i))] rfl (Nat.le_of_ble_eq_true rfl) ?_
  intro pg evn sT mI bl mtd cd aA ls ar qQ zC zr zk zi zQ h hl
  have zx := zC.1
  have zb := zC.2.1
  have h : Hx D g sT aA sT.heap ((x, .inr (7, [.ref (ra 0), .ref (ga 0), .ref (da 0), .ref j, .ref ta, .int (iI (sg : Int)), .int (iI (bZ mk)), .int (iI cb), .long (lI lc), .ref (qa 0), .int (bI an), .ref (fa 0), .ref (pa 0), .ref ka, .int (iI (kc : Int)), .long (lI tm)])) :: (ka, cQ g 20 (kA kk kc)) :: (sK g kk kq Kf kc)) sT.heap [] := h
  skip
  refine lv_iload_n zx zb dX7_saved_0 rfl (lv_at hl 1 rfl) ?_
  refine lv_iconst (v := iI (1)) zx zb dX7_saved_1 rfl ?_
  refine i_clt (a := i) (b := 1) (tgt := 22) zC dX7_saved_2 (by decide) (by omega) (fun c_1 => ?_) (fun c_1 => ?_)
  · skip
    refine kc7_103 zC dX7_saved_22 ?_
    exact r_iret zC zQ zr zk h dX7_saved_24 (u := (-1000001)) rfl (List.Perm.refl _) (by unfold savX; rw [if_neg (by omega)]) (Nat.le_of_ble_eq_true rfl) (Nat.le_of_ble_eq_true rfl)
  · skip
    refine lv_iload_n zx zb dX7_saved_5 rfl (lv_at hl 1 rfl) ?_
    refine lv_aload_n zx zb dX7_saved_6 rfl (lv_at hl 0 rfl) ?_
    refine gf7_83 (v := .int (iI (kc : Int))) zC h 0 rfl rfl dX7_saved_7 ?_
    refine i_cgt (a := i) (b := (kc : Int)) (tgt := 22) zC dX7_saved_10 (by decide) (by omega) (fun c_2 => ?_) (fun c_2 => ?_)
    · skip
      refine kc7_103 zC dX7_saved_22 ?_
      exact r_iret zC zQ zr zk h dX7_saved_24 (u := (-1000001)) rfl (List.Perm.refl _) (by unfold savX; rw [if_neg (by omega)]) (Nat.le_of_ble_eq_true rfl) (Nat.le_of_ble_eq_true rfl)
    · skip
      refine lv_iload_n zx zb dX7_saved_13 rfl (lv_at hl 1 rfl) ?_
      refine lv_aload_n zx zb dX7_saved_14 rfl (lv_at hl 0 rfl) ?_
      refine gf7_79 (v := .ref ka) zC h 0 rfl rfl dX7_saved_15 ?_
      refine a_len zC h 1 5 rfl rfl (20) rfl dX7_saved_18 ?_
      refine i_cle (a := i) (b := 20) (tgt := 25) zC dX7_saved_19 (by decide) (by omega) (fun c_3 => ?_) (fun c_3 => absurd c_3 (by omega))
      refine lv_aload_n zx zb dX7_saved_25 rfl (lv_at hl 0 rfl) ?_
      refine gf7_79 (v := .ref ka) zC h 0 rfl rfl dX7_saved_26 ?_
      refine lv_iload_n zx zb dX7_saved_29 rfl (lv_at hl 1 rfl) ?_
      refine lv_iconst (v := iI (1)) zx zb dX7_saved_30 rfl ?_
      refine i_sub zC (a := i) (b := 1) dX7_saved_31 ?_
      refine a_qld zC h 1 rfl (z := i - 1) ((i - 1).toNat) (by omega) (by omega) (by decide) dX7_saved_32 ?_
      rw [kA_lt (show (i - 1).toNat < kc by omega)]
      refine lv_astore_n (lv' := [(2, .ref (kk ((i - 1).toNat))), (0, .ref x), (1, .int (iI i))]) zx zb dX7_saved_33 rfl hl (by decide) rfl (fun ls hl => ?_)
      refine lv_aload_n zx zb dX7_saved_34 rfl (lv_at hl 0 rfl) ?_
      refine lv_ifnonnull (tgt := 43) zx zb dX7_saved_35 (by decide) ?_
      refine lv_aload_n zx zb dX7_saved_43 rfl (lv_at hl 0 rfl) ?_
      refine r_invV (As := []) (rest := []) (wr := (x, .inr (7, [.ref (ra 0), .ref (ga 0), .ref (da 0), .ref j, .ref ta, .int (iI (sg : Int)), .int (iI (bZ mk)), .int (iI cb), .long (lI lc), .ref (qa 0), .int (bI an), .ref (fa 0), .ref (pa 0), .ref ka, .int (iI (kc : Int)), .long (lI tm)])) :: (ka, cQ g 20 (kA kk kc)) :: ((wQc g (kq (i - 1).toNat) (Kf (i - 1).toNat).1) ++ (sKx g kk kq Kf kc (i - 1).toNat))) (ws2 := fun u_4 => (x, .inr (7, [.ref (ra 0), .ref (ga 0), .ref (da 0), .ref j, .ref ta, .int (iI (sg : Int)), .int (iI (bZ mk)), .int (iI cb), .long (lI lc), .ref (qa 0), .int (bI an), .ref (fa 0), .ref (pa 0), .ref ka, .int (iI (kc : Int)), .long (lI tm)])) :: (ka, cQ g 20 (kA kk kc)) :: (sK g kk kq Kf kc)) 0 0 zC h hl.1 (c_X2_latestCount l D g (kk (i - 1).toNat) (kq (i - 1).toNat 0) (Kf (i - 1).toNat).2.1 (Kf (i - 1).toNat).2.2.1 (Kf (i - 1).toNat).2.2.2) (cs7_169 zC ⟨(Nat.le_of_ble_eq_true rfl), (Nat.le_of_ble_eq_true rfl)⟩) (.tail _ (.tail _ (sK_mem (show (i - 1).toNat < kc by omega)))) rfl rfl rfl (Nat.le_of_ble_eq_true rfl) (pm fun cp_q => by simp only [cp_o, List.countP_append, List.countP_nil, sK_c (show (i - 1).toNat < kc by omega)] <;> omega) (fun u => (pm fun cp_q => by simp only [cp_o, List.countP_append, List.countP_nil, sK_c (show (i - 1).toNat < kc by omega)] <;> omega)) ⟨(Nat.le_of_ble_eq_true rfl), (Nat.le_of_ble_eq_true rfl)⟩ (Nat.le_of_ble_eq_true rfl) (Nat.le_of_ble_eq_true rfl) dX7_saved_44 (fun u_4 H locs hu_4 hz_4 h => ?_)
      exact r_iret zC zQ zr zk h dX7_saved_47 (u := ((Kf (i - 1).toNat).2.2.2)) rfl (List.Perm.refl _) (by unfold savX; rw [if_pos (by omega)]) (Nat.le_of_ble_eq_true rfl) (Nat.le_of_ble_eq_true rfl)

set_option maxHeartbeats 4000000 in
set_option maxRecDepth 100000 in
theorem c_X7_tick (l : Launch) (D : va_G) (g : Nat → ClassId) (x j ta ka : Nat) (ra ga da qa fa pa : Nat → Nat) (sg kc : Nat) (mk : Nat → Bool) (cb lc tm : Int) (an : Bool) (gr : Nat → Nat) (gn : Nat) (B : Nat → Nat → Nat → Bool) (Cn : Nat → Int) (r1 r2 r3 : Nat → Nat) (n : Nat) (Vv U Dn : Nat → Nat → Int) (kk : Nat → Nat) (kq : Nat → Nat → Nat) (Kf : Nat → KD) (J : JS4) (F : FS) (t : Int) (hK : ∀ k, k < kc → kOK tm (Kf k)) (hkc : kc ≤ 20) (ht : R64 t) (htm : 0 ≤ tm ∧ tm < 900000000) (hcb : 0 ≤ cb ∧ cb ≤ 1000000) (hn : n ≤ 300) (hv : vOK n Vv) (ho : oOK n U Dn) : Ct (S := Int × Int × (Nat → KD) × JS4 × FS) l D g yX7_tick cX7_tick 5 (some .int) rmX7_tick [.ref x, .long (lI t)] (wX x j ta ka ra ga da qa fa pa sg kc mk cb lc tm an ++ ([(ka, cQ g 20 (kA kk kc))] ++ (wJ4 j J ++ (wRights g ga gr gn B Cn ++ (wRows g ra r1 r2 r3 n Vv U Dn ++ (sK g kk kq Kf kc ++ wF4 g pa F)))))) (fun u => some (.int (iI u.1))) (fun u => (u.1, u.2.1, u.2.2.1) = tickU mk cb B Vv U Dn n t Kf tm kc) (fun u => wX x j ta ka ra ga da qa fa pa sg kc mk cb lc u.2.1 an ++ ([(ka, cQ g 20 (kA kk kc))] ++ (wJ4 j u.2.2.2.1 ++ (wRights g ga gr gn B Cn ++ (wRows g ra r1 r2 r3 n Vv U Dn ++ (sK g kk kq u.2.2.1 kc ++ wF4 g pa u.2.2.2.2)))))) := by
  refine Ct.of RX7 rfl (by decide +kernel) [(0, .ref x), (1, .long (lI t))] rfl (Nat.le_of_ble_eq_true rfl) ?_
  intro pg evn sT mI bl mtd cd aA ls ar qQ zC zr zk zi zQ h hl
  have zx := zC.1
  have zb := zC.2.1
  have h : Hx D g sT aA sT.heap ((x, .inr (7, [.ref (ra 0), .ref (ga 0), .ref (da 0), .ref j, .ref ta, .int (iI (sg : Int)), .int (iI (bZ mk)), .int (iI cb), .long (lI lc), .ref (qa 0), .int (bI an), .ref (fa 0), .ref (pa 0), .ref ka, .int (iI (kc : Int)), .long (lI tm)])) :: (ka, cQ g 20 (kA kk kc)) :: ((wJ4 j J) ++ ((wRights g ga gr gn B Cn) ++ ((wRows g ra r1 r2 r3 n Vv U Dn) ++ ((sK g kk kq Kf kc) ++ (wF4 g pa F)))))) sT.heap [] := h
  skip
  refine lv_lload_n zx zb dX7_tick_0 rfl (lv_at hl 1 rfl) ?_
  refine lv_aload_n zx zb dX7_tick_1 rfl (lv_at hl 0 rfl) ?_
  refine gf7_86 (v := .long (lI tm)) zC h 0 rfl rfl dX7_tick_2 ?_
  refine l_cmp zC (a := t) (b := tm) dX7_tick_5 (by omega) (by omega) ?_
  refine i_zlt (a := lC t tm) (tgt := 22) zC dX7_tick_6 (by decide) (lC_R _ _) (fun c_1 => ?_) (fun c_1 => ?_)
  · have c_1 := lC_lt.mp c_1
    refine kc7_93 zC dX7_tick_22 ?_
    exact r_iret zC zQ zr zk h dX7_tick_24 (u := (-1000002, tm, Kf, J, F)) rfl (List.Perm.refl _) (by unfold tickU; rw [if_pos (by omega)]) (Nat.le_of_ble_eq_true rfl) (Nat.le_of_ble_eq_true rfl)
  · have c_1 := lC_ge.mp c_1
    refine lv_lload_n zx zb dX7_tick_9 rfl (lv_at hl 1 rfl) ?_
    refine lv_aload_n zx zb dX7_tick_10 rfl (lv_at hl 0 rfl) ?_
    refine gf7_86 (v := .long (lI tm)) zC h 0 rfl rfl dX7_tick_11 ?_
    refine l_sub zC (a := t) (b := tm) dX7_tick_14 ?_
    refine kl7_160 zC dX7_tick_15 ?_
    refine l_cmp zC (a := t - tm) (b := 1000) dX7_tick_18 (by omega) (by omega) ?_
    refine i_zle (a := lC (t - tm) 1000) (tgt := 25) zC dX7_tick_19 (by decide) (lC_R _ _) (fun c_2 => ?_) (fun c_2 => ?_)
    · have c_2 := lC_le.mp c_2
      refine lv_aload_n zx zb dX7_tick_25 rfl (lv_at hl 0 rfl) ?_
      refine lv_lload_n zx zb dX7_tick_26 rfl (lv_at hl 1 rfl) ?_
      refine pf7_86 (x := lI t) zC h 0 (ws' := (x, .inr (7, [.ref (ra 0), .ref (ga 0), .ref (da 0), .ref j, .ref ta, .int (iI (sg : Int)), .int (iI (bZ mk)), .int (iI cb), .long (lI lc), .ref (qa 0), .int (bI an), .ref (fa 0), .ref (pa 0), .ref ka, .int (iI (kc : Int)), .long (lI t)])) :: (ka, cQ g 20 (kA kk kc)) :: ((wJ4 j J) ++ ((wRights g ga gr gn B Cn) ++ ((wRows g ra r1 r2 r3 n Vv U Dn) ++ ((sK g kk kq Kf kc) ++ (wF4 g pa F)))))) rfl rfl (Nat.le_of_ble_eq_true rfl) dX7_tick_27 (fun H locs h => ?_)
      refine lv_iconst (v := iI (0)) zx zb dX7_tick_30 rfl ?_
      refine lv_istore_n (lv' := [(3, .int (iI 0)), (0, .ref x), (1, .long (lI t))]) zx zb dX7_tick_31 rfl hl (by decide) rfl (fun ls hl => ?_)
      refine lv_iconst (v := iI (0)) zx zb dX7_tick_32 rfl ?_
      refine lv_istore (lv' := [(4, .int (iI 0)), (3, .int (iI 0)), (0, .ref x), (1, .long (lI t))]) zx zb dX7_tick_33 hl (by decide) rfl (fun ls hl => ?_)
      have L35_3 : ∀ (fuel : Nat) (k : Nat) (J : JS4) (F : FS) (H : Heap) (locs : List Loc) (ls : Array Slot), kc - k < fuel → (k ≤ kc) → Hx D g sT aA sT.heap ((x, .inr (7, [.ref (ra 0), .ref (ga 0), .ref (da 0), .ref j, .ref ta, .int (iI (sg : Int)), .int (iI (bZ mk)), .int (iI cb), .long (lI lc), .ref (qa 0), .int (bI an), .ref (fa 0), .ref (pa 0), .ref ka, .int (iI (kc : Int)), .long (lI t)])) :: (ka, cQ g 20 (kA kk kc)) :: ((wJ4 j J) ++ ((wRights g ga gr gn B Cn) ++ ((wRows g ra r1 r2 r3 n Vv U Dn) ++ ((sK g kk kq (tckK mk cb B Vv U Dn n t Kf k) kc) ++ (wF4 g pa F)))))) H locs → lv_has ls 5 [(0, .ref x), (1, .long (lI t)), (3, .int (iI (tckN mk cb B Vv U Dn n t Kf k))), (4, .int (iI (k : Int)))] → W pg l evn rmX7_tick sT mI ar bl mtd cd H locs 0 0 qQ (F0 mI 35 ls []) := by
        intro fuel
        induction fuel with
        | zero => intro k J F H locs ls hm; exact absurd hm (Nat.not_lt_zero _)
        | succ fuel ih =>
          intro k J F H locs ls hm hkk h hl
          refine lv_iload zx zb dX7_tick_35 (lv_at hl 3 rfl) ?_
          refine lv_aload_n zx zb dX7_tick_37 rfl (lv_at hl 0 rfl) ?_
          refine gf7_83 (v := .int (iI (kc : Int))) zC h 0 rfl rfl dX7_tick_38 ?_
          refine i_cge (a := (k : Int)) (b := (kc : Int)) (tgt := 74) zC dX7_tick_41 (by decide) (by omega) (fun c_4 => ?_) (fun c_4 => ?_)
          · skip
            refine lv_iload_n zx zb dX7_tick_74 rfl (lv_at hl 2 rfl) ?_
            exact r_iret zC zQ zr zk h dX7_tick_75 (u := (tckN mk cb B Vv U Dn n t Kf k, t, tckK mk cb B Vv U Dn n t Kf k, J, F)) rfl (List.Perm.refl _) (by unfold tickU; rw [if_neg (by omega), show k = kc from by omega]) (Nat.le_of_ble_eq_true rfl) (Nat.le_of_ble_eq_true rfl)
          · skip
            refine lv_iload zx zb dX7_tick_44 (lv_at hl 3 rfl) ?_
            refine lv_aload_n zx zb dX7_tick_46 rfl (lv_at hl 0 rfl) ?_
            refine gf7_79 (v := .ref ka) zC h 0 rfl rfl dX7_tick_47 ?_
            refine a_len zC h 1 5 rfl rfl (20) rfl dX7_tick_50 ?_
            refine i_cge (a := (k : Int)) (b := 20) (tgt := 74) zC dX7_tick_51 (by decide) (by omega) (fun c_5 => absurd c_5 (by omega)) (fun c_5 => ?_)
            refine lv_iload_n zx zb dX7_tick_54 rfl (lv_at hl 2 rfl) ?_
            refine lv_aload_n zx zb dX7_tick_55 rfl (lv_at hl 0 rfl) ?_
            refine lv_aload_n zx zb dX7_tick_56 rfl (lv_at hl 0 rfl) ?_
            refine gf7_79 (v := .ref ka) zC h 0 rfl rfl dX7_tick_57 ?_
            refine lv_iload zx zb dX7_tick_60 (lv_at hl 3 rfl) ?_
            have h_k := hK k (by omega)
            have h_k3 := h_k.2.2
            have h_k4 := h_k.2.1
            refine a_qld zC h 1 rfl (z := (k : Int)) k rfl (by omega) (by decide) dX7_tick_62 ?_
            rw [kA_lt (show k < kc by omega)]
            refine r_invV (As := [.ref (kk k)]) (rest := [.int (iI (tckN mk cb B Vv U Dn n t Kf k))]) (wr := (ka, cQ g 20 (kA kk kc)) :: (sKx g kk kq (tckK mk cb B Vv U Dn n t Kf k) kc k)) (ws2 := fun u_6 => (x, .inr (7, [.ref (ra 0), .ref (ga 0), .ref (da 0), .ref j, .ref ta, .int (iI (sg : Int)), .int (iI (bZ mk)), .int (iI cb), .long (lI lc), .ref (qa 0), .int (bI an), .ref (fa 0), .ref (pa 0), .ref ka, .int (iI (kc : Int)), .long (lI t)])) :: (ka, cQ g 20 (kA kk kc)) :: ((wJ4 j u_6.2.1) ++ ((wRights g ga gr gn B Cn) ++ ((wRows g ra r1 r2 r3 n Vv U Dn) ++ ((sK g kk kq (up (tckK mk cb B Vv U Dn n t Kf k) k ((Kf k).1, (Kf k).2.1, u_6.1.2.2.2.1, u_6.1.2.2.2.2)) kc) ++ (wF4 g pa u_6.2.2)))))) 0 0 zC h hl.1 (c_X7_askKept l D g x j ta ka ra ga da qa fa pa sg kc mk cb lc t an gr gn B Cn r1 r2 r3 n Vv U Dn (kk k) (kq k) (Kf k).1 (Kf k).2.1 (Kf k).2.2.1 (Kf k).2.2.2 J F hcb h_k.2.1 ⟨by omega, by omega⟩ ⟨by omega, by omega⟩ (by omega) hn hv ho h_k.1) (cs7_165 zC ⟨(Nat.le_of_ble_eq_true rfl), (Nat.le_of_ble_eq_true rfl)⟩) (.head _) rfl rfl rfl (Nat.le_of_ble_eq_true rfl) (pm fun cp_q => by simp only [cp_o, List.countP_append, List.countP_nil, wX, sK_c (show k < kc by omega), tckK_ge mk cb B Vv U Dn n t Kf (Nat.le_refl k)] <;> omega) (fun u => (pm fun cp_q => by simp only [cp_o, List.countP_append, List.countP_nil, wX, sK_up (show k < kc by omega)] <;> omega)) ⟨(Nat.le_of_ble_eq_true rfl), (Nat.le_of_ble_eq_true rfl)⟩ (Nat.le_of_ble_eq_true rfl) (Nat.le_of_ble_eq_true rfl) dX7_tick_63 (fun u_6 H locs hu_6 hz_6 h => ?_)
            have HU := hu_6
            rw [show ((Kf k).1, (Kf k).2.1, u_6.1.2.2.2.1, u_6.1.2.2.2.2) = (kUp mk cb B Vv U Dn n t (Kf k)).2 from by rw [hu_6]; rfl] at h
            refine i_add zC (a := tckN mk cb B Vv U Dn n t Kf k) (b := u_6.1.1) dX7_tick_66 ?_
            rw [show (tckN mk cb B Vv U Dn n t Kf k + u_6.1.1 : Int) = tckN mk cb B Vv U Dn n t Kf (k + 1) from (by rw [HU]; rfl)]
            refine lv_istore_n (lv' := [(3, .int (iI (tckN mk cb B Vv U Dn n t Kf (k + 1)))), (0, .ref x), (1, .long (lI t)), (4, .int (iI (k : Int)))]) zx zb dX7_tick_67 rfl hl (by decide) rfl (fun ls hl => ?_)
            refine i_inc (q := 3) (a := (k : Int)) (lv' := [(4, .int (iI ((k : Int) + 1))), (3, .int (iI (tckN mk cb B Vv U Dn n t Kf (k + 1)))), (0, .ref x), (1, .long (lI t))]) zC hl dX7_tick_68 rfl (by decide) rfl (fun ls hl => ?_)
            refine lv_goto (tgt := 35) zx zb dX7_tick_71 (by decide) ?_
            exact ih (k + 1) u_6.2.1 u_6.2.2 _ _ _ (by omega) (by omega) h (lv_sub hl [2, 3, 1, 0] rfl)
      exact L35_3 _ 0 J F _ _ _ (Nat.lt_succ_self _) (by omega) h (lv_sub hl [2, 3, 1, 0] rfl)
    · have c_2 := lC_gt.mp c_2
      refine kc7_93 zC dX7_tick_22 ?_
      exact r_iret zC zQ zr zk h dX7_tick_24 (u := (-1000002, tm, Kf, J, F)) rfl (List.Perm.refl _) (by unfold tickU; rw [if_pos (by omega)]) (Nat.le_of_ble_eq_true rfl) (Nat.le_of_ble_eq_true rfl)
