/-! THE REFERENCE: a question asked, a page, questions kept -/
theorem z0 (tx : Nat → Int) : (fun k => tx (0 + k)) = tx := by funext k; show tx (0 + k) = tx k; rw [Nat.zero_add]
theorem z0R {tx : Nat → Int} {n : Nat} (h : ∀ k, k < n → R32 (tx k)) : ∀ k, k < n → R32 ((fun k => tx (0 + k)) k) := by rw [z0]; exact h
/-- what a text without a fault finds -/
def fndP (FI RO RW RK : Nat → Int) (rg : Nat) (mk : Nat → Bool) (tx : Nat → Int) (n : Nat) (r : RS) (ta : Nat) (w : Int) (many N : Nat) (s : SL) : Prop :=
  ∃ (IS : Nat → Bool) (GF GS : Nat → Int), selP FI (fM (atX tx n ta) (atX tx n (ta + 1))) (decide (atX tx n ta = 45)) (decide (atX tx n ta = 35)) many (isV IS (fun i => seeM RO RW RK FI w i rg && jV (jL (fun f _ => FI (5 * i + f)) 0 (rEndS (rGo mk tx (rBegin r) ta)))) many, GF, GS) N s
theorem selP_le {FI : Nat → Int} {f : Int} {neg gg : Bool} {many N : Nat} {s0 s : SL} (h : selP FI f neg gg many s0 N s) : N ≤ many := by
  have := sel_le h.2.2
  omega
theorem LQ_go {mk : Nat → Bool} {tx : Nat → Int} {n : Nat} {r : RS} {fa : Int} {te ta : Nat} (h : LQ mk tx n (rBegin r) fa te ta) (hfa : fa < 0) (hfg : R32 r.fg) : fa = -1 ∧ te ≤ 40 ∧ LE mk tx n (rBegin r) ta 0 te ∧ (ta < n → tOf (atX tx n ta) ≠ 0) ∧ (atX tx n ta ≠ 0 → 0 ≤ fOf (atX tx n (ta + 1))) := by
  have h1 := LQ_R h
  have e : fa = -1 := by omega
  subst e
  obtain ⟨v, hF, hq⟩ := h
  obtain ⟨q1, q2, q3, q4, q5⟩ := hq rfl
  obtain ⟨f1, f2, f3⟩ := rFF_1.mp hF
  have h2 := iv_tc (iv_endS (iv_go hfg f1))
  rw [← f3] at h2
  refine ⟨rfl, by omega, q3, fun z => (q5 z).1, fun z => (q5 ?_).2⟩
  exact (atX_c z).1
/-- the first k places are those of the other -/
def cpF (A B : Nat → Int) (k : Nat) : Nat → Int := fun i => if i < k then B i else A i
theorem cpF_0 {A B : Nat → Int} : cpF A B 0 = A := by funext i; exact if_neg (Nat.not_lt_zero i)
theorem cpF_s {A B : Nat → Int} {k : Nat} : up (cpF A B k) k (B k) = cpF A B (k + 1) := by
  funext i
  by_cases e : i = k
  · subst e; rw [up_s]; exact (if_pos (Nat.lt_succ_self i)).symm
  · rw [up_n e]
    unfold cpF
    by_cases q : i < k
    · rw [if_pos q, if_pos (by omega)]
    · rw [if_neg q, if_neg (by omega)]
theorem cpF_lt {A B : Nat → Int} {k i : Nat} (h : i < k) : cpF A B k i = B i := if_pos h
abbrev VM : Type := Int × Int × Bool × Int × Int × Int × Bool × (Nat → Int) × (Nat → Int) × (Nat → Int)
abbrev SM : Type := Int × Int × Int × Int × Int × Bool × (Nat → Int) × (Nat → Bool) × (Nat → Bool) × (Nat → Bool) × (Nat → Int) × (Nat → Int)
abbrev VM.sz (u : VM) : Int := u.1
abbrev VM.lc (u : VM) : Int := u.2.1
abbrev VM.an (u : VM) : Bool := u.2.2.1
abbrev VM.as_ (u : VM) : Int := u.2.2.2.1
abbrev VM.ak (u : VM) : Int := u.2.2.2.2.1
abbrev VM.ct (u : VM) : Int := u.2.2.2.2.2.1
abbrev VM.gr (u : VM) : Bool := u.2.2.2.2.2.2.1
abbrev VM.AQ (u : VM) : Nat → Int := u.2.2.2.2.2.2.2.1
abbrev VM.FR (u : VM) : Nat → Int := u.2.2.2.2.2.2.2.2.1
abbrev VM.SE (u : VM) : Nat → Int := u.2.2.2.2.2.2.2.2.2
def keepV (s u : VM) : Prop := u.an = s.an ∧ u.as_ = s.as_ ∧ u.ak = s.ak ∧ u.ct = s.ct ∧ u.gr = s.gr ∧ u.AQ = s.AQ ∧ u.FR = s.FR ∧ u.SE = s.SE
def askM (mk : Nat → Bool) (tx : Nat → Int) (sg n : Nat) (cb : Int) (FI RO RW RK : Nat → Int) (rg : Nat) (w : Int) (r : RS) (s : VM) (z : Int) (u : VM) : Prop :=
  (¬ (0 ≤ w ∧ w < 50) → z = -1000001 ∧ u = s) ∧ ((0 ≤ w ∧ w < 50) → ∃ (fa : Int) (te ta : Nat), LQ mk tx sg (rBegin r) fa te ta ∧ u.sz = 0 ∧
    (fa ≠ -1 → z = -1 - fa ∧ u.lc = s.lc ∧ keepV s u) ∧
    (fa = -1 → cb < ((te : Int) + 1) * (n : Int) → z = -1000003 ∧ u.lc = ((te : Int) + 1) * (n : Int) ∧ keepV s u) ∧
    (fa = -1 → ((te : Int) + 1) * (n : Int) ≤ cb → u.lc = ((te : Int) + 1) * (n : Int) ∧ u.an = true ∧ u.as_ = w ∧ u.ak = (sg : Int) ∧ (∀ k, k < sg → u.AQ k = tx k) ∧
      ∃ (N : Nat) (sl : SL), fndP FI RO RW RK rg mk tx sg r ta w n N sl ∧ z = (N : Int) ∧ u.ct = (N : Int) ∧ u.gr = decide (atX tx sg ta = 35) ∧ ∀ k, k < N → u.FR k = sl.2.1 k ∧ u.SE k = sl.2.2 k))

set_option maxHeartbeats 4000000 in
set_option maxRecDepth 100000 in
theorem c_X8_ask (l : Launch) (D : va_G) (g : Nat → ClassId) (a : Nat → Nat) (mth mbd mnw mlc mas mak mkp mfa mte mta mlv mct mgo : Int) (man mgr mgg : Bool) (n : Nat) (rg : Nat) (sg : Nat) (TX : Nat → Int) (NO : Nat → Int) (MK : Nat → Bool) (RO : Nat → Int) (RW : Nat → Int) (RK : Nat → Int) (FI : Nat → Int) (OR : Nat → Bool) (AN : Nat → Bool) (IS : Nat → Bool) (GF : Nat → Int) (GS : Nat → Int) (AQ : Nat → Int) (FR : Nat → Int) (SE : Nat → Int) (w : Int) (r : RS) (hw : R32 w) (hn : n ≤ 300) (hsg : sg ≤ 200) (hcb : 0 ≤ mbd ∧ mbd ≤ 1000000) (hTX : ∀ k, k < sg → R32 (TX k)) (hg : rg ≤ 100) (hRR : ∀ k, k < rg → R32 (RO k) ∧ R32 (RW k) ∧ R32 (RK k)) (hFI : ∀ k, k < 1505 → R32 (FI k)) (hfg : R32 r.fg) : Ct (S := Int × VM × SM) l D g yX8_ask cX8_ask 4 (some .int) rmX8_ask [.ref (a 0), .int (iI w)] ([(a 0, oM a mth (n : Int) (rg : Int) mbd mnw mlc (sg : Int) man mas mak mkp mfa mte mta mlv mct mgr mgo mgg), (a 6, cI g 200 TX), (a 14, cI g 22 NO), (a 5, cZ g 5 MK), (a 2, cI g 100 RO), (a 3, cI g 100 RW), (a 4, cI g 100 RK), (a 1, cI g 1505 FI), (a 15, cZ g 22 OR), (a 16, cZ g 22 AN), (a 21, cZ g 301 IS), (a 19, cI g 300 GF), (a 20, cI g 300 GS), (a 7, cI g 200 AQ), (a 17, cI g 300 FR), (a 18, cI g 300 SE)]) (fun u => some (.int (iI u.1))) (fun u => askM MK TX sg n mbd FI RO RW RK rg w r ((sg : Int), mlc, man, mak, mas, mct, mgr, AQ, FR, SE) u.1 u.2.1) (fun u => [(a 0, oM a 0 (n : Int) (rg : Int) mbd mnw u.2.1.2.1 u.2.1.1 u.2.1.2.2.1 u.2.1.2.2.2.2.1 u.2.1.2.2.2.1 mkp u.2.2.1 u.2.2.2.1 u.2.2.2.2.1 u.2.2.2.2.2.1 u.2.1.2.2.2.2.2.1 u.2.1.2.2.2.2.2.2.1 u.2.2.2.2.2.2.1 u.2.2.2.2.2.2.2.1), (a 6, cI g 200 TX), (a 14, cI g 22 u.2.2.2.2.2.2.2.2.1), (a 5, cZ g 5 MK), (a 2, cI g 100 RO), (a 3, cI g 100 RW), (a 4, cI g 100 RK), (a 1, cI g 1505 FI), (a 15, cZ g 22 u.2.2.2.2.2.2.2.2.2.1), (a 16, cZ g 22 u.2.2.2.2.2.2.2.2.2.2.1), (a 21, cZ g 301 u.2.2.2.2.2.2.2.2.2.2.2.1), (a 19, cI g 300 u.2.2.2.2.2.2.2.2.2.2.2.2.1), (a 20, cI g 300 u.2.2.2.2.2.2.2.2.2.2.2.2.2), (a 7, cI g 200 u.2.1.2.2.2.2.2.2.2.1), (a 17, cI g 300 u.2.1.2.2.2.2.2.2.2.2.1), (a 18, cI g 300 u.2.1.2.2.2.2.2.2.2.2.2)]) := by
  refine Ct.of RX8 rfl (by decide +kernel) [(0, .ref (a 0)), (1, .int (iI w))] rfl (Nat.le_of_ble_eq_true rfl) ?_
  intro pg evn sT mI bl mtd cd aA ls ar qQ zC zr zk zi zQ h hl
  have zx := zC.1
  have zb := zC.2.1
  skip
  refine lv_aload_n zx zb dX8_ask_0 rfl (lv_at hl 0 rfl) ?_
  refine lv_iconst (v := iI (0)) zx zb dX8_ask_1 rfl ?_
  refine pf8_85 (x := iI 0) zC h 0 (ws' := [(a 0, oM a 0 (n : Int) (rg : Int) mbd mnw mlc (sg : Int) man mas mak mkp mfa mte mta mlv mct mgr mgo mgg), (a 6, cI g 200 TX), (a 14, cI g 22 NO), (a 5, cZ g 5 MK), (a 2, cI g 100 RO), (a 3, cI g 100 RW), (a 4, cI g 100 RK), (a 1, cI g 1505 FI), (a 15, cZ g 22 OR), (a 16, cZ g 22 AN), (a 21, cZ g 301 IS), (a 19, cI g 300 GF), (a 20, cI g 300 GS), (a 7, cI g 200 AQ), (a 17, cI g 300 FR), (a 18, cI g 300 SE)]) rfl rfl (Nat.le_of_ble_eq_true rfl) dX8_ask_2 (fun H locs h => ?_)
  refine lv_iload_n zx zb dX8_ask_5 rfl (lv_at hl 1 rfl) ?_
  refine r_invS (As := [.int (iI w)]) (rest := []) (wr := [(a 0, oM a 0 (n : Int) (rg : Int) mbd mnw mlc (sg : Int) man mas mak mkp mfa mte mta mlv mct mgr mgo mgg), (a 6, cI g 200 TX), (a 14, cI g 22 NO), (a 5, cZ g 5 MK), (a 2, cI g 100 RO), (a 3, cI g 100 RW), (a 4, cI g 100 RK), (a 1, cI g 1505 FI), (a 15, cZ g 22 OR), (a 16, cZ g 22 AN), (a 21, cZ g 301 IS), (a 19, cI g 300 GF), (a 20, cI g 300 GS), (a 7, cI g 200 AQ), (a 17, cI g 300 FR), (a 18, cI g 300 SE)]) (ws2 := fun u_1 => [(a 0, oM a 0 (n : Int) (rg : Int) mbd mnw mlc (sg : Int) man mas mak mkp mfa mte mta mlv mct mgr mgo mgg), (a 6, cI g 200 TX), (a 14, cI g 22 NO), (a 5, cZ g 5 MK), (a 2, cI g 100 RO), (a 3, cI g 100 RW), (a 4, cI g 100 RK), (a 1, cI g 1505 FI), (a 15, cZ g 22 OR), (a 16, cZ g 22 AN), (a 21, cZ g 301 IS), (a 19, cI g 300 GF), (a 20, cI g 300 GS), (a 7, cI g 200 AQ), (a 17, cI g 300 FR), (a 18, cI g 300 SE)]) 0 0 zC h hl.1 (c_X8_isAsker l D g w (by omega)) (cs8_177 zC ⟨(Nat.le_of_ble_eq_true rfl), (Nat.le_of_ble_eq_true rfl)⟩) rfl rfl (Nat.le_of_ble_eq_true rfl) (List.Perm.refl _) (fun u => List.Perm.refl _) ⟨(Nat.le_of_ble_eq_true rfl), (Nat.le_of_ble_eq_true rfl)⟩ (Nat.le_of_ble_eq_true rfl) (Nat.le_of_ble_eq_true rfl) dX8_ask_6 (fun u_1 H locs hu_1 hz_1 h => ?_)
  refine b_zne (b := decide (0 ≤ w ∧ w < 50)) (tgt := 15) zC dX8_ask_9 (by decide) (fun c_2 => ?_) (fun c_2 => ?_)
  · skip
    simp only [decide_eq_true_eq, decide_eq_false_iff_not] at c_2
    refine lv_aload_n zx zb dX8_ask_15 rfl (lv_at hl 0 rfl) ?_
    refine lv_aload_n zx zb dX8_ask_16 rfl (lv_at hl 0 rfl) ?_
    refine gf8_32 (v := .ref (a 6)) zC h 0 rfl rfl dX8_ask_17 ?_
    refine lv_iconst (v := iI (0)) zx zb dX8_ask_20 rfl ?_
    refine lv_aload_n zx zb dX8_ask_21 rfl (lv_at hl 0 rfl) ?_
    refine gf8_104 (v := .int (iI (sg : Int))) zC h 0 rfl rfl dX8_ask_22 ?_
    refine r_invV (As := [.ref (a 6), .int (iI 0), .int (iI (sg : Int))]) (rest := []) (wr := [(a 2, cI g 100 RO), (a 3, cI g 100 RW), (a 4, cI g 100 RK), (a 1, cI g 1505 FI), (a 15, cZ g 22 OR), (a 16, cZ g 22 AN), (a 21, cZ g 301 IS), (a 19, cI g 300 GF), (a 20, cI g 300 GS), (a 7, cI g 200 AQ), (a 17, cI g 300 FR), (a 18, cI g 300 SE)]) (ws2 := fun u_3 => [(a 0, oM a 0 (n : Int) (rg : Int) mbd mnw mlc (sg : Int) man mas mak mkp u_3.1 (u_3.2.1 : Int) (u_3.2.2.1 : Int) (u_3.2.2.2.1 : Int) mct mgr mgo mgg), (a 6, cI g 200 TX), (a 14, cI g 22 u_3.2.2.2.2), (a 5, cZ g 5 MK), (a 2, cI g 100 RO), (a 3, cI g 100 RW), (a 4, cI g 100 RK), (a 1, cI g 1505 FI), (a 15, cZ g 22 OR), (a 16, cZ g 22 AN), (a 21, cZ g 301 IS), (a 19, cI g 300 GF), (a 20, cI g 300 GS), (a 7, cI g 200 AQ), (a 17, cI g 300 FR), (a 18, cI g 300 SE)]) 0 0 zC h hl.1 (c_X8_look l D g a 0 (n : Int) (rg : Int) mbd mnw mlc (sg : Int) mas mak mkp mfa mte mta mlv mct mgo man mgr mgg  (a 6) 200 TX NO MK 0 sg r (by omega) (by decide) (z0R hTX)) (cs8_181 zC ⟨(Nat.le_of_ble_eq_true rfl), (Nat.le_of_ble_eq_true rfl)⟩) (.head _) rfl rfl rfl (Nat.le_of_ble_eq_true rfl) (pm fun cp_q => by simp only [cp_o, List.countP_append, List.countP_nil] <;> omega) (fun u => (pm fun cp_q => by simp only [cp_o, List.countP_append, List.countP_nil] <;> omega)) ⟨(Nat.le_of_ble_eq_true rfl), (Nat.le_of_ble_eq_true rfl)⟩ (Nat.le_of_ble_eq_true rfl) (Nat.le_of_ble_eq_true rfl) dX8_ask_25 (fun u_3 H locs hu_3 hz_3 h => ?_)
    have hlk := hu_3
    have hle := LQ_R hu_3
    refine lv_aload_n zx zb dX8_ask_28 rfl (lv_at hl 0 rfl) ?_
    refine gf8_104 (v := .int (iI (sg : Int))) zC h 0 rfl rfl dX8_ask_29 ?_
    refine lv_istore_n (lv' := [(2, .int (iI (sg : Int))), (0, .ref (a 0)), (1, .int (iI w))]) zx zb dX8_ask_32 rfl hl (by decide) rfl (fun ls hl => ?_)
    refine lv_aload_n zx zb dX8_ask_33 rfl (lv_at hl 1 rfl) ?_
    refine lv_iconst (v := iI (0)) zx zb dX8_ask_34 rfl ?_
    refine pf8_104 (x := iI 0) zC h 0 (ws' := [(a 0, oM a 0 (n : Int) (rg : Int) mbd mnw mlc 0 man mas mak mkp u_3.1 (u_3.2.1 : Int) (u_3.2.2.1 : Int) (u_3.2.2.2.1 : Int) mct mgr mgo mgg), (a 6, cI g 200 TX), (a 14, cI g 22 u_3.2.2.2.2), (a 5, cZ g 5 MK), (a 2, cI g 100 RO), (a 3, cI g 100 RW), (a 4, cI g 100 RK), (a 1, cI g 1505 FI), (a 15, cZ g 22 OR), (a 16, cZ g 22 AN), (a 21, cZ g 301 IS), (a 19, cI g 300 GF), (a 20, cI g 300 GS), (a 7, cI g 200 AQ), (a 17, cI g 300 FR), (a 18, cI g 300 SE)]) rfl rfl (Nat.le_of_ble_eq_true rfl) dX8_ask_35 (fun H locs h => ?_)
    refine lv_aload_n zx zb dX8_ask_38 rfl (lv_at hl 1 rfl) ?_
    refine gf8_114 (v := .int (iI u_3.1)) zC h 0 rfl rfl dX8_ask_39 ?_
    refine i_zlt (a := u_3.1) (tgt := 52) zC dX8_ask_42 (by decide) (by omega) (fun c_4 => ?_) (fun c_4 => ?_)
    · skip
      obtain ⟨h_v, hte, hE, hTa, hSS⟩ := LQ_go hlk c_4 hfg
      have hcA : 0 ≤ ((u_3.2.1 : Int) + 1) * (n : Int) ∧ ((u_3.2.1 : Int) + 1) * (n : Int) ≤ 41 * 300 := ⟨Int.mul_nonneg (by omega) (by omega), Int.mul_le_mul (by omega) (by omega) (by omega) (by omega)⟩
      refine lv_aload_n zx zb dX8_ask_52 rfl (lv_at hl 1 rfl) ?_
      refine lv_aload_n zx zb dX8_ask_53 rfl (lv_at hl 1 rfl) ?_
      refine r_invV (As := []) (rest := [.ref (a 0)]) (wr := [(a 6, cI g 200 TX), (a 14, cI g 22 u_3.2.2.2.2), (a 5, cZ g 5 MK), (a 2, cI g 100 RO), (a 3, cI g 100 RW), (a 4, cI g 100 RK), (a 1, cI g 1505 FI), (a 15, cZ g 22 OR), (a 16, cZ g 22 AN), (a 21, cZ g 301 IS), (a 19, cI g 300 GF), (a 20, cI g 300 GS), (a 7, cI g 200 AQ), (a 17, cI g 300 FR), (a 18, cI g 300 SE)]) (ws2 := fun u_5 => [(a 0, oM a 0 (n : Int) (rg : Int) mbd mnw mlc 0 man mas mak mkp u_3.1 (u_3.2.1 : Int) (u_3.2.2.1 : Int) (u_3.2.2.2.1 : Int) mct mgr mgo mgg), (a 6, cI g 200 TX), (a 14, cI g 22 u_3.2.2.2.2), (a 5, cZ g 5 MK), (a 2, cI g 100 RO), (a 3, cI g 100 RW), (a 4, cI g 100 RK), (a 1, cI g 1505 FI), (a 15, cZ g 22 OR), (a 16, cZ g 22 AN), (a 21, cZ g 301 IS), (a 19, cI g 300 GF), (a 20, cI g 300 GS), (a 7, cI g 200 AQ), (a 17, cI g 300 FR), (a 18, cI g 300 SE)]) 0 0 zC h hl.1 (c_X8_costNow l D g a 0 (rg : Int) mbd mnw mlc 0 mas mak mkp u_3.1 (u_3.2.2.1 : Int) (u_3.2.2.2.1 : Int) mct mgo man mgr mgg u_3.2.1 n    (by omega) hn) (cs8_184 zC ⟨(Nat.le_of_ble_eq_true rfl), (Nat.le_of_ble_eq_true rfl)⟩) (.head _) rfl rfl rfl (Nat.le_of_ble_eq_true rfl) (pm fun cp_q => by simp only [cp_o, List.countP_append, List.countP_nil] <;> omega) (fun u => (pm fun cp_q => by simp only [cp_o, List.countP_append, List.countP_nil] <;> omega)) ⟨(Nat.le_of_ble_eq_true rfl), (Nat.le_of_ble_eq_true rfl)⟩ (Nat.le_of_ble_eq_true rfl) (Nat.le_of_ble_eq_true rfl) dX8_ask_54 (fun u_5 H locs hu_5 hz_5 h => ?_)
      refine pf8_188 (x := lI (((u_3.2.1 : Int) + 1) * (n : Int))) zC h 0 (ws' := [(a 0, oM a 0 (n : Int) (rg : Int) mbd mnw (((u_3.2.1 : Int) + 1) * (n : Int)) 0 man mas mak mkp u_3.1 (u_3.2.1 : Int) (u_3.2.2.1 : Int) (u_3.2.2.2.1 : Int) mct mgr mgo mgg), (a 6, cI g 200 TX), (a 14, cI g 22 u_3.2.2.2.2), (a 5, cZ g 5 MK), (a 2, cI g 100 RO), (a 3, cI g 100 RW), (a 4, cI g 100 RK), (a 1, cI g 1505 FI), (a 15, cZ g 22 OR), (a 16, cZ g 22 AN), (a 21, cZ g 301 IS), (a 19, cI g 300 GF), (a 20, cI g 300 GS), (a 7, cI g 200 AQ), (a 17, cI g 300 FR), (a 18, cI g 300 SE)]) rfl rfl (Nat.le_of_ble_eq_true rfl) dX8_ask_57 (fun H locs h => ?_)
      refine lv_aload_n zx zb dX8_ask_60 rfl (lv_at hl 1 rfl) ?_
      refine gf8_188 (v := .long (lI (((u_3.2.1 : Int) + 1) * (n : Int)))) zC h 0 rfl rfl dX8_ask_61 ?_
      refine lv_aload_n zx zb dX8_ask_64 rfl (lv_at hl 1 rfl) ?_
      refine gf8_28 (v := .long (lI mbd)) zC h 0 rfl rfl dX8_ask_65 ?_
      refine l_cmp zC (a := ((u_3.2.1 : Int) + 1) * (n : Int)) (b := mbd) dX8_ask_68 (by omega) (by omega) ?_
      refine i_zle (a := lC (((u_3.2.1 : Int) + 1) * (n : Int)) mbd) (tgt := 75) zC dX8_ask_69 (by decide) (lC_R _ _) (fun c_6 => ?_) (fun c_6 => ?_)
      · have c_6 := lC_le.mp c_6
        refine lv_aload_n zx zb dX8_ask_75 rfl (lv_at hl 1 rfl) ?_
        refine lv_aload_n zx zb dX8_ask_76 rfl (lv_at hl 1 rfl) ?_
        refine gf8_32 (v := .ref (a 6)) zC h 0 rfl rfl dX8_ask_77 ?_
        refine lv_iconst (v := iI (0)) zx zb dX8_ask_80 rfl ?_
        refine lv_iload_n zx zb dX8_ask_81 rfl (lv_at hl 0 rfl) ?_
        refine lv_iload_n zx zb dX8_ask_82 rfl (lv_at hl 2 rfl) ?_
        refine lv_aload_n zx zb dX8_ask_83 rfl (lv_at hl 1 rfl) ?_
        refine gf8_81 (v := .int (iI (n : Int))) zC h 0 rfl rfl dX8_ask_84 ?_
        refine r_invV (As := [.ref (a 6), .int (iI 0), .int (iI (sg : Int)), .int (iI w), .int (iI (n : Int))]) (rest := []) (wr := [(a 5, cZ g 5 MK), (a 7, cI g 200 AQ), (a 17, cI g 300 FR), (a 18, cI g 300 SE)]) (ws2 := fun u_7 => [(a 0, oM a 0 (n : Int) (rg : Int) mbd mnw (((u_3.2.1 : Int) + 1) * (n : Int)) 0 man mas mak mkp u_3.1 (u_3.2.1 : Int) (u_3.2.2.1 : Int) u_7.1 mct mgr (u_7.2.2.2.2.1 : Int) (decide (atX (fun k => TX (0 + k)) sg u_3.2.2.1 = 35))), (a 6, cI g 200 TX), (a 14, cI g 22 u_7.2.1), (a 5, cZ g 5 MK), (a 2, cI g 100 RO), (a 3, cI g 100 RW), (a 4, cI g 100 RK), (a 1, cI g 1505 FI), (a 15, cZ g 22 u_7.2.2.1), (a 16, cZ g 22 u_7.2.2.2.1), (a 21, cZ g 301 u_7.2.2.2.2.2.1), (a 19, cI g 300 u_7.2.2.2.2.2.2.1), (a 20, cI g 300 u_7.2.2.2.2.2.2.2), (a 7, cI g 200 AQ), (a 17, cI g 300 FR), (a 18, cI g 300 SE)]) 0 0 zC h hl.1 (c_X8_find l D g a 0 (n : Int) mbd mnw (((u_3.2.1 : Int) + 1) * (n : Int)) 0 mas mak mkp u_3.1 (u_3.2.1 : Int) (u_3.2.2.2.1 : Int) mct mgo man mgr mgg u_3.2.2.1 rg (a 6) 200 TX RO RW RK FI u_3.2.2.2.2 OR AN IS GF GS 0 sg u_3.2.1 n w r MK (by omega) (by decide) (z0R hTX) hE hTa hn hw hg hRR hSS hFI) (cs8_192 zC ⟨(Nat.le_of_ble_eq_true rfl), (Nat.le_of_ble_eq_true rfl)⟩) (.head _) rfl rfl rfl (Nat.le_of_ble_eq_true rfl) (pm fun cp_q => by simp only [cp_o, List.countP_append, List.countP_nil] <;> omega) (fun u => (pm fun cp_q => by simp only [cp_o, List.countP_append, List.countP_nil] <;> omega)) ⟨(Nat.le_of_ble_eq_true rfl), (Nat.le_of_ble_eq_true rfl)⟩ (Nat.le_of_ble_eq_true rfl) (Nat.le_of_ble_eq_true rfl) dX8_ask_87 (fun u_7 H locs hu_7 hz_7 h => ?_)
        have hfd := hu_7
        have hNle := selP_le hfd
        refine lv_aload_n zx zb dX8_ask_90 rfl (lv_at hl 1 rfl) ?_
        refine lv_iconst (v := iI (1)) zx zb dX8_ask_91 rfl ?_
        refine pf8_196 (b := true) zC h 0 (ws' := [(a 0, oM a 0 (n : Int) (rg : Int) mbd mnw (((u_3.2.1 : Int) + 1) * (n : Int)) 0 true mas mak mkp u_3.1 (u_3.2.1 : Int) (u_3.2.2.1 : Int) u_7.1 mct mgr (u_7.2.2.2.2.1 : Int) (decide (atX (fun k => TX (0 + k)) sg u_3.2.2.1 = 35))), (a 6, cI g 200 TX), (a 14, cI g 22 u_7.2.1), (a 5, cZ g 5 MK), (a 2, cI g 100 RO), (a 3, cI g 100 RW), (a 4, cI g 100 RK), (a 1, cI g 1505 FI), (a 15, cZ g 22 u_7.2.2.1), (a 16, cZ g 22 u_7.2.2.2.1), (a 21, cZ g 301 u_7.2.2.2.2.2.1), (a 19, cI g 300 u_7.2.2.2.2.2.2.1), (a 20, cI g 300 u_7.2.2.2.2.2.2.2), (a 7, cI g 200 AQ), (a 17, cI g 300 FR), (a 18, cI g 300 SE)]) rfl rfl (Nat.le_of_ble_eq_true rfl) dX8_ask_92 (fun H locs h => ?_)
        refine lv_aload_n zx zb dX8_ask_95 rfl (lv_at hl 1 rfl) ?_
        refine lv_iload_n zx zb dX8_ask_96 rfl (lv_at hl 2 rfl) ?_
        refine pf8_199 (x := iI w) zC h 0 (ws' := [(a 0, oM a 0 (n : Int) (rg : Int) mbd mnw (((u_3.2.1 : Int) + 1) * (n : Int)) 0 true mas w mkp u_3.1 (u_3.2.1 : Int) (u_3.2.2.1 : Int) u_7.1 mct mgr (u_7.2.2.2.2.1 : Int) (decide (atX (fun k => TX (0 + k)) sg u_3.2.2.1 = 35))), (a 6, cI g 200 TX), (a 14, cI g 22 u_7.2.1), (a 5, cZ g 5 MK), (a 2, cI g 100 RO), (a 3, cI g 100 RW), (a 4, cI g 100 RK), (a 1, cI g 1505 FI), (a 15, cZ g 22 u_7.2.2.1), (a 16, cZ g 22 u_7.2.2.2.1), (a 21, cZ g 301 u_7.2.2.2.2.2.1), (a 19, cI g 300 u_7.2.2.2.2.2.2.1), (a 20, cI g 300 u_7.2.2.2.2.2.2.2), (a 7, cI g 200 AQ), (a 17, cI g 300 FR), (a 18, cI g 300 SE)]) rfl rfl (Nat.le_of_ble_eq_true rfl) dX8_ask_97 (fun H locs h => ?_)
        refine lv_aload_n zx zb dX8_ask_100 rfl (lv_at hl 1 rfl) ?_
        refine lv_iload_n zx zb dX8_ask_101 rfl (lv_at hl 0 rfl) ?_
        refine pf8_202 (x := iI (sg : Int)) zC h 0 (ws' := [(a 0, oM a 0 (n : Int) (rg : Int) mbd mnw (((u_3.2.1 : Int) + 1) * (n : Int)) 0 true (sg : Int) w mkp u_3.1 (u_3.2.1 : Int) (u_3.2.2.1 : Int) u_7.1 mct mgr (u_7.2.2.2.2.1 : Int) (decide (atX (fun k => TX (0 + k)) sg u_3.2.2.1 = 35))), (a 6, cI g 200 TX), (a 14, cI g 22 u_7.2.1), (a 5, cZ g 5 MK), (a 2, cI g 100 RO), (a 3, cI g 100 RW), (a 4, cI g 100 RK), (a 1, cI g 1505 FI), (a 15, cZ g 22 u_7.2.2.1), (a 16, cZ g 22 u_7.2.2.2.1), (a 21, cZ g 301 u_7.2.2.2.2.2.1), (a 19, cI g 300 u_7.2.2.2.2.2.2.1), (a 20, cI g 300 u_7.2.2.2.2.2.2.2), (a 7, cI g 200 AQ), (a 17, cI g 300 FR), (a 18, cI g 300 SE)]) rfl rfl (Nat.le_of_ble_eq_true rfl) dX8_ask_102 (fun H locs h => ?_)
        refine lv_iconst (v := iI (0)) zx zb dX8_ask_105 rfl ?_
        refine lv_istore_n (lv' := [(3, .int (iI 0)), (2, .int (iI (sg : Int))), (0, .ref (a 0)), (1, .int (iI w))]) zx zb dX8_ask_106 rfl hl (by decide) rfl (fun ls hl => ?_)
        have L107_8 : ∀ (fuel : Nat) (k : Nat) (H : Heap) (locs : List Loc) (ls : Array Slot), sg - k < fuel → (k ≤ sg) → Hx D g sT aA sT.heap ([(a 0, oM a 0 (n : Int) (rg : Int) mbd mnw (((u_3.2.1 : Int) + 1) * (n : Int)) 0 true (sg : Int) w mkp u_3.1 (u_3.2.1 : Int) (u_3.2.2.1 : Int) u_7.1 mct mgr (u_7.2.2.2.2.1 : Int) (decide (atX (fun k => TX (0 + k)) sg u_3.2.2.1 = 35))), (a 6, cI g 200 TX), (a 14, cI g 22 u_7.2.1), (a 5, cZ g 5 MK), (a 2, cI g 100 RO), (a 3, cI g 100 RW), (a 4, cI g 100 RK), (a 1, cI g 1505 FI), (a 15, cZ g 22 u_7.2.2.1), (a 16, cZ g 22 u_7.2.2.2.1), (a 21, cZ g 301 u_7.2.2.2.2.2.1), (a 19, cI g 300 u_7.2.2.2.2.2.2.1), (a 20, cI g 300 u_7.2.2.2.2.2.2.2), (a 7, cI g 200 (cpF AQ TX k)), (a 17, cI g 300 FR), (a 18, cI g 300 SE)]) H locs → lv_has ls 4 [(0, .ref (a 0)), (1, .int (iI w)), (2, .int (iI (sg : Int))), (3, .int (iI (k : Int)))] → W pg l evn rmX8_ask sT mI ar bl mtd cd H locs 0 0 qQ (F0 mI 107 ls []) := by
          intro fuel
          induction fuel with
          | zero => intro k H locs ls hm; exact absurd hm (Nat.not_lt_zero _)
          | succ fuel ih107 =>
            intro k H locs ls hm hk h hl
            refine lv_iload_n zx zb dX8_ask_107 rfl (lv_at hl 3 rfl) ?_
            refine lv_iload_n zx zb dX8_ask_108 rfl (lv_at hl 2 rfl) ?_
            refine i_cge (a := (k : Int)) (b := (sg : Int)) (tgt := 130) zC dX8_ask_109 (by decide) (by omega) (fun c_9 => ?_) (fun c_9 => ?_)
            · skip
              have e_k : k = sg := by omega
              rw [e_k] at h
              refine lv_aload_n zx zb dX8_ask_130 rfl (lv_at hl 0 rfl) ?_
              refine lv_aload_n zx zb dX8_ask_131 rfl (lv_at hl 0 rfl) ?_
              refine gf8_158 (v := .int (iI (u_7.2.2.2.2.1 : Int))) zC h 0 rfl rfl dX8_ask_132 ?_
              refine pf8_205 (x := iI (u_7.2.2.2.2.1 : Int)) zC h 0 (ws' := [(a 0, oM a 0 (n : Int) (rg : Int) mbd mnw (((u_3.2.1 : Int) + 1) * (n : Int)) 0 true (sg : Int) w mkp u_3.1 (u_3.2.1 : Int) (u_3.2.2.1 : Int) u_7.1 (u_7.2.2.2.2.1 : Int) mgr (u_7.2.2.2.2.1 : Int) (decide (atX (fun k => TX (0 + k)) sg u_3.2.2.1 = 35))), (a 6, cI g 200 TX), (a 14, cI g 22 u_7.2.1), (a 5, cZ g 5 MK), (a 2, cI g 100 RO), (a 3, cI g 100 RW), (a 4, cI g 100 RK), (a 1, cI g 1505 FI), (a 15, cZ g 22 u_7.2.2.1), (a 16, cZ g 22 u_7.2.2.2.1), (a 21, cZ g 301 u_7.2.2.2.2.2.1), (a 19, cI g 300 u_7.2.2.2.2.2.2.1), (a 20, cI g 300 u_7.2.2.2.2.2.2.2), (a 7, cI g 200 (cpF AQ TX sg)), (a 17, cI g 300 FR), (a 18, cI g 300 SE)]) rfl rfl (Nat.le_of_ble_eq_true rfl) dX8_ask_135 (fun H locs h => ?_)
              refine lv_aload_n zx zb dX8_ask_138 rfl (lv_at hl 0 rfl) ?_
              refine lv_aload_n zx zb dX8_ask_139 rfl (lv_at hl 0 rfl) ?_
              refine gf8_161 (v := .int (bI (decide (atX (fun k => TX (0 + k)) sg u_3.2.2.1 = 35)))) zC h 0 rfl rfl dX8_ask_140 ?_
              refine pf8_208 (b := (decide (atX (fun k => TX (0 + k)) sg u_3.2.2.1 = 35))) zC h 0 (ws' := [(a 0, oM a 0 (n : Int) (rg : Int) mbd mnw (((u_3.2.1 : Int) + 1) * (n : Int)) 0 true (sg : Int) w mkp u_3.1 (u_3.2.1 : Int) (u_3.2.2.1 : Int) u_7.1 (u_7.2.2.2.2.1 : Int) (decide (atX (fun k => TX (0 + k)) sg u_3.2.2.1 = 35)) (u_7.2.2.2.2.1 : Int) (decide (atX (fun k => TX (0 + k)) sg u_3.2.2.1 = 35))), (a 6, cI g 200 TX), (a 14, cI g 22 u_7.2.1), (a 5, cZ g 5 MK), (a 2, cI g 100 RO), (a 3, cI g 100 RW), (a 4, cI g 100 RK), (a 1, cI g 1505 FI), (a 15, cZ g 22 u_7.2.2.1), (a 16, cZ g 22 u_7.2.2.2.1), (a 21, cZ g 301 u_7.2.2.2.2.2.1), (a 19, cI g 300 u_7.2.2.2.2.2.2.1), (a 20, cI g 300 u_7.2.2.2.2.2.2.2), (a 7, cI g 200 (cpF AQ TX sg)), (a 17, cI g 300 FR), (a 18, cI g 300 SE)]) rfl rfl (Nat.le_of_ble_eq_true rfl) dX8_ask_143 (fun H locs h => ?_)
              refine lv_iconst (v := iI (0)) zx zb dX8_ask_146 rfl ?_
              refine lv_istore_n (lv' := [(3, .int (iI 0)), (0, .ref (a 0)), (1, .int (iI w)), (2, .int (iI (sg : Int)))]) zx zb dX8_ask_147 rfl hl (by decide) rfl (fun ls hl => ?_)
              have L148_10 : ∀ (fuel : Nat) (k2 : Nat) (H : Heap) (locs : List Loc) (ls : Array Slot), u_7.2.2.2.2.1 - k2 < fuel → (k2 ≤ u_7.2.2.2.2.1) → Hx D g sT aA sT.heap ([(a 0, oM a 0 (n : Int) (rg : Int) mbd mnw (((u_3.2.1 : Int) + 1) * (n : Int)) 0 true (sg : Int) w mkp u_3.1 (u_3.2.1 : Int) (u_3.2.2.1 : Int) u_7.1 (u_7.2.2.2.2.1 : Int) (decide (atX (fun k => TX (0 + k)) sg u_3.2.2.1 = 35)) (u_7.2.2.2.2.1 : Int) (decide (atX (fun k => TX (0 + k)) sg u_3.2.2.1 = 35))), (a 6, cI g 200 TX), (a 14, cI g 22 u_7.2.1), (a 5, cZ g 5 MK), (a 2, cI g 100 RO), (a 3, cI g 100 RW), (a 4, cI g 100 RK), (a 1, cI g 1505 FI), (a 15, cZ g 22 u_7.2.2.1), (a 16, cZ g 22 u_7.2.2.2.1), (a 21, cZ g 301 u_7.2.2.2.2.2.1), (a 19, cI g 300 u_7.2.2.2.2.2.2.1), (a 20, cI g 300 u_7.2.2.2.2.2.2.2), (a 7, cI g 200 (cpF AQ TX sg)), (a 17, cI g 300 (cpF FR (u_7.2.2.2.2.2.2.1) k2)), (a 18, cI g 300 (cpF SE (u_7.2.2.2.2.2.2.2) k2))]) H locs → lv_has ls 4 [(0, .ref (a 0)), (1, .int (iI w)), (2, .int (iI (sg : Int))), (3, .int (iI (k2 : Int)))] → W pg l evn rmX8_ask sT mI ar bl mtd cd H locs 0 0 qQ (F0 mI 148 ls []) := by
                intro fuel
                induction fuel with
                | zero => intro k2 H locs ls hm; exact absurd hm (Nat.not_lt_zero _)
                | succ fuel ih148 =>
                  intro k2 H locs ls hm hk2 h hl
                  refine lv_iload_n zx zb dX8_ask_148 rfl (lv_at hl 3 rfl) ?_
                  refine lv_aload_n zx zb dX8_ask_149 rfl (lv_at hl 0 rfl) ?_
                  refine gf8_158 (v := .int (iI (u_7.2.2.2.2.1 : Int))) zC h 0 rfl rfl dX8_ask_150 ?_
                  refine i_cge (a := (k2 : Int)) (b := (u_7.2.2.2.2.1 : Int)) (tgt := 186) zC dX8_ask_153 (by decide) (by omega) (fun c_11 => ?_) (fun c_11 => ?_)
                  · skip
                    have e_k2 : k2 = u_7.2.2.2.2.1 := by omega
                    rw [e_k2] at h
                    refine lv_aload_n zx zb dX8_ask_186 rfl (lv_at hl 0 rfl) ?_
                    refine gf8_205 (v := .int (iI (u_7.2.2.2.2.1 : Int))) zC h 0 rfl rfl dX8_ask_187 ?_
                    exact r_iret zC zQ zr zk h dX8_ask_190 (u := ((u_7.2.2.2.2.1 : Int), (0, ((u_3.2.1 : Int) + 1) * (n : Int), true, w, (sg : Int), (u_7.2.2.2.2.1 : Int), decide (atX (fun k => TX (0 + k)) sg u_3.2.2.1 = 35), cpF AQ TX sg, cpF FR (u_7.2.2.2.2.2.2.1) u_7.2.2.2.2.1, cpF SE (u_7.2.2.2.2.2.2.2) u_7.2.2.2.2.1), (u_3.1, (u_3.2.1 : Int), (u_3.2.2.1 : Int), u_7.1, (u_7.2.2.2.2.1 : Int), decide (atX (fun k => TX (0 + k)) sg u_3.2.2.1 = 35), u_7.2.1, u_7.2.2.1, u_7.2.2.2.1, u_7.2.2.2.2.2.1, u_7.2.2.2.2.2.2.1, u_7.2.2.2.2.2.2.2))) rfl (List.Perm.refl _) ⟨fun q => absurd (by omega) q, fun _ => ⟨u_3.1, u_3.2.1, u_3.2.2.1, (by rw [← z0 TX]; exact hlk), rfl, fun q => absurd h_v q, fun _ q => absurd q (by omega), fun _ _ => ⟨rfl, rfl, rfl, rfl, fun k hk => cpF_lt hk, u_7.2.2.2.2.1, u_7.2.2.2.2.2, ⟨IS, GF, GS, by rw [← z0 TX]; exact hfd⟩, rfl, rfl, show decide (atX (fun k => TX (0 + k)) sg u_3.2.2.1 = 35) = decide (atX TX sg u_3.2.2.1 = 35) by rw [z0], fun k hk => ⟨cpF_lt (by omega), cpF_lt (by omega)⟩⟩⟩⟩ (Nat.le_of_ble_eq_true rfl) (Nat.le_of_ble_eq_true rfl)
                  · skip
                    refine lv_aload_n zx zb dX8_ask_156 rfl (lv_at hl 0 rfl) ?_
                    refine gf8_66 (v := .ref (a 17)) zC h 0 rfl rfl dX8_ask_157 ?_
                    refine lv_iload_n zx zb dX8_ask_160 rfl (lv_at hl 3 rfl) ?_
                    refine lv_aload_n zx zb dX8_ask_161 rfl (lv_at hl 0 rfl) ?_
                    refine gf8_72 (v := .ref (a 19)) zC h 0 rfl rfl dX8_ask_162 ?_
                    refine lv_iload_n zx zb dX8_ask_165 rfl (lv_at hl 3 rfl) ?_
                    refine a_ild zC h 11 rfl (z := (k2 : Int)) k2 (by omega) (by omega) (by decide) dX8_ask_166 ?_
                    refine a_ist (x := u_7.2.2.2.2.2.2.1 k2) zC h 14 (ws' := [(a 0, oM a 0 (n : Int) (rg : Int) mbd mnw (((u_3.2.1 : Int) + 1) * (n : Int)) 0 true (sg : Int) w mkp u_3.1 (u_3.2.1 : Int) (u_3.2.2.1 : Int) u_7.1 (u_7.2.2.2.2.1 : Int) (decide (atX (fun k => TX (0 + k)) sg u_3.2.2.1 = 35)) (u_7.2.2.2.2.1 : Int) (decide (atX (fun k => TX (0 + k)) sg u_3.2.2.1 = 35))), (a 6, cI g 200 TX), (a 14, cI g 22 u_7.2.1), (a 5, cZ g 5 MK), (a 2, cI g 100 RO), (a 3, cI g 100 RW), (a 4, cI g 100 RK), (a 1, cI g 1505 FI), (a 15, cZ g 22 u_7.2.2.1), (a 16, cZ g 22 u_7.2.2.2.1), (a 21, cZ g 301 u_7.2.2.2.2.2.1), (a 19, cI g 300 u_7.2.2.2.2.2.2.1), (a 20, cI g 300 u_7.2.2.2.2.2.2.2), (a 7, cI g 200 (cpF AQ TX sg)), (a 17, cI g 300 (cpF FR (u_7.2.2.2.2.2.2.1) (k2 + 1))), (a 18, cI g 300 (cpF SE (u_7.2.2.2.2.2.2.2) k2))]) rfl (z := (k2 : Int)) k2 (by rw [show up (cpF FR (u_7.2.2.2.2.2.2.1) k2) k2 (u_7.2.2.2.2.2.2.1 k2) = cpF FR (u_7.2.2.2.2.2.2.1) (k2 + 1) from cpF_s]; rfl) (by omega) (by omega) (by decide) dX8_ask_167 (fun H locs h => ?_)
                    refine lv_aload_n zx zb dX8_ask_168 rfl (lv_at hl 0 rfl) ?_
                    refine gf8_69 (v := .ref (a 18)) zC h 0 rfl rfl dX8_ask_169 ?_
                    refine lv_iload_n zx zb dX8_ask_172 rfl (lv_at hl 3 rfl) ?_
                    refine lv_aload_n zx zb dX8_ask_173 rfl (lv_at hl 0 rfl) ?_
                    refine gf8_75 (v := .ref (a 20)) zC h 0 rfl rfl dX8_ask_174 ?_
                    refine lv_iload_n zx zb dX8_ask_177 rfl (lv_at hl 3 rfl) ?_
                    refine a_ild zC h 12 rfl (z := (k2 : Int)) k2 (by omega) (by omega) (by decide) dX8_ask_178 ?_
                    refine a_ist (x := u_7.2.2.2.2.2.2.2 k2) zC h 15 (ws' := [(a 0, oM a 0 (n : Int) (rg : Int) mbd mnw (((u_3.2.1 : Int) + 1) * (n : Int)) 0 true (sg : Int) w mkp u_3.1 (u_3.2.1 : Int) (u_3.2.2.1 : Int) u_7.1 (u_7.2.2.2.2.1 : Int) (decide (atX (fun k => TX (0 + k)) sg u_3.2.2.1 = 35)) (u_7.2.2.2.2.1 : Int) (decide (atX (fun k => TX (0 + k)) sg u_3.2.2.1 = 35))), (a 6, cI g 200 TX), (a 14, cI g 22 u_7.2.1), (a 5, cZ g 5 MK), (a 2, cI g 100 RO), (a 3, cI g 100 RW), (a 4, cI g 100 RK), (a 1, cI g 1505 FI), (a 15, cZ g 22 u_7.2.2.1), (a 16, cZ g 22 u_7.2.2.2.1), (a 21, cZ g 301 u_7.2.2.2.2.2.1), (a 19, cI g 300 u_7.2.2.2.2.2.2.1), (a 20, cI g 300 u_7.2.2.2.2.2.2.2), (a 7, cI g 200 (cpF AQ TX sg)), (a 17, cI g 300 (cpF FR (u_7.2.2.2.2.2.2.1) (k2 + 1))), (a 18, cI g 300 (cpF SE (u_7.2.2.2.2.2.2.2) (k2 + 1)))]) rfl (z := (k2 : Int)) k2 (by rw [show up (cpF SE (u_7.2.2.2.2.2.2.2) k2) k2 (u_7.2.2.2.2.2.2.2 k2) = cpF SE (u_7.2.2.2.2.2.2.2) (k2 + 1) from cpF_s]; rfl) (by omega) (by omega) (by decide) dX8_ask_179 (fun H locs h => ?_)
                    refine i_inc (q := 3) (a := (k2 : Int)) (lv' := [(3, .int (iI ((k2 : Int) + 1))), (0, .ref (a 0)), (1, .int (iI w)), (2, .int (iI (sg : Int)))]) zC hl dX8_ask_180 rfl (by decide) rfl (fun ls hl => ?_)
                    refine lv_goto (tgt := 148) zx zb dX8_ask_183 (by decide) ?_
                    exact ih148 (k2 + 1) _ _ _ (by omega) (by omega) h (lv_sub hl [1, 2, 3, 0] rfl)
              exact L148_10 _ 0 _ _ _ (Nat.lt_succ_self _) (by omega) (by rw [cpF_0, cpF_0]; exact h) (lv_sub hl [1, 2, 3, 0] rfl)
            · skip
              have hTk := hTX k (by omega)
              refine lv_aload_n zx zb dX8_ask_112 rfl (lv_at hl 0 rfl) ?_
              refine gf8_35 (v := .ref (a 7)) zC h 0 rfl rfl dX8_ask_113 ?_
              refine lv_iload_n zx zb dX8_ask_116 rfl (lv_at hl 3 rfl) ?_
              refine lv_aload_n zx zb dX8_ask_117 rfl (lv_at hl 0 rfl) ?_
              refine gf8_32 (v := .ref (a 6)) zC h 0 rfl rfl dX8_ask_118 ?_
              refine lv_iload_n zx zb dX8_ask_121 rfl (lv_at hl 3 rfl) ?_
              refine a_ild zC h 1 rfl (z := (k : Int)) k (by omega) (by omega) (by decide) dX8_ask_122 ?_
              refine a_ist (x := TX k) zC h 13 (ws' := [(a 0, oM a 0 (n : Int) (rg : Int) mbd mnw (((u_3.2.1 : Int) + 1) * (n : Int)) 0 true (sg : Int) w mkp u_3.1 (u_3.2.1 : Int) (u_3.2.2.1 : Int) u_7.1 mct mgr (u_7.2.2.2.2.1 : Int) (decide (atX (fun k => TX (0 + k)) sg u_3.2.2.1 = 35))), (a 6, cI g 200 TX), (a 14, cI g 22 u_7.2.1), (a 5, cZ g 5 MK), (a 2, cI g 100 RO), (a 3, cI g 100 RW), (a 4, cI g 100 RK), (a 1, cI g 1505 FI), (a 15, cZ g 22 u_7.2.2.1), (a 16, cZ g 22 u_7.2.2.2.1), (a 21, cZ g 301 u_7.2.2.2.2.2.1), (a 19, cI g 300 u_7.2.2.2.2.2.2.1), (a 20, cI g 300 u_7.2.2.2.2.2.2.2), (a 7, cI g 200 (cpF AQ TX (k + 1))), (a 17, cI g 300 FR), (a 18, cI g 300 SE)]) rfl (z := (k : Int)) k (by rw [show up (cpF AQ TX k) k (TX k) = cpF AQ TX (k + 1) from cpF_s]; rfl) (by omega) (by omega) (by decide) dX8_ask_123 (fun H locs h => ?_)
              refine i_inc (q := 3) (a := (k : Int)) (lv' := [(3, .int (iI ((k : Int) + 1))), (0, .ref (a 0)), (1, .int (iI w)), (2, .int (iI (sg : Int)))]) zC hl dX8_ask_124 rfl (by decide) rfl (fun ls hl => ?_)
              refine lv_goto (tgt := 107) zx zb dX8_ask_127 (by decide) ?_
              exact ih107 (k + 1) _ _ _ (by omega) (by omega) h (lv_sub hl [1, 2, 3, 0] rfl)
        exact L107_8 _ 0 _ _ _ (Nat.lt_succ_self _) (by omega) (by rw [cpF_0]; exact h) (lv_sub hl [2, 3, 1, 0] rfl)
      · have c_6 := lC_gt.mp c_6
        refine kc8_191 zC dX8_ask_72 ?_
        exact r_iret zC zQ zr zk h dX8_ask_74 (u := (-1000003, (0, ((u_3.2.1 : Int) + 1) * (n : Int), man, mak, mas, mct, mgr, AQ, FR, SE), (u_3.1, (u_3.2.1 : Int), (u_3.2.2.1 : Int), (u_3.2.2.2.1 : Int), mgo, mgg, u_3.2.2.2.2, OR, AN, IS, GF, GS))) rfl (List.Perm.refl _) ⟨fun q => absurd (by omega) q, fun _ => ⟨u_3.1, u_3.2.1, u_3.2.2.1, (by rw [← z0 TX]; exact hlk), rfl, fun q => absurd h_v q, fun _ _ => ⟨rfl, rfl, ⟨rfl, rfl, rfl, rfl, rfl, rfl, rfl, rfl⟩⟩, fun _ q => absurd q (by omega)⟩⟩ (Nat.le_of_ble_eq_true rfl) (Nat.le_of_ble_eq_true rfl)
    · skip
      have h_v : ¬ u_3.1 = -1 := by omega
      refine lv_iconst (v := iI (-1)) zx zb dX8_ask_45 rfl ?_
      refine lv_aload_n zx zb dX8_ask_46 rfl (lv_at hl 1 rfl) ?_
      refine gf8_114 (v := .int (iI u_3.1)) zC h 0 rfl rfl dX8_ask_47 ?_
      refine i_sub zC (a := -1) (b := u_3.1) dX8_ask_50 ?_
      exact r_iret zC zQ zr zk h dX8_ask_51 (u := (-1 - u_3.1, (0, mlc, man, mak, mas, mct, mgr, AQ, FR, SE), (u_3.1, (u_3.2.1 : Int), (u_3.2.2.1 : Int), (u_3.2.2.2.1 : Int), mgo, mgg, u_3.2.2.2.2, OR, AN, IS, GF, GS))) rfl (List.Perm.refl _) ⟨fun q => absurd (by omega) q, fun _ => ⟨u_3.1, u_3.2.1, u_3.2.2.1, (by rw [← z0 TX]; exact hlk), rfl, fun _ => ⟨rfl, rfl, ⟨rfl, rfl, rfl, rfl, rfl, rfl, rfl, rfl⟩⟩, fun q => absurd q (by omega), fun q => absurd q (by omega)⟩⟩ (Nat.le_of_ble_eq_true rfl) (Nat.le_of_ble_eq_true rfl)
  · skip
    simp only [decide_eq_true_eq, decide_eq_false_iff_not] at c_2
    refine kc8_180 zC dX8_ask_12 ?_
    exact r_iret zC zQ zr zk h dX8_ask_14 (u := (-1000001, ((sg : Int), mlc, man, mak, mas, mct, mgr, AQ, FR, SE), (mfa, mte, mta, mlv, mgo, mgg, NO, OR, AN, IS, GF, GS))) rfl (List.Perm.refl _) ⟨fun _ => ⟨rfl, rfl⟩, fun q => absurd q (by omega)⟩ (Nat.le_of_ble_eq_true rfl) (Nat.le_of_ble_eq_true rfl)
