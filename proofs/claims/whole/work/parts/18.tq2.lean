/-! TRACEQUESTIONS: its calls, but for those that keep questions -/
theorem chN : ∀ n, n < 128 → ((nI n).toUInt32 % 65536).toInt32 = nI n ∧ vp_nar .char (nI n) = nI n := by decide +kernel
theorem chI (c : Int) (h : 0 ≤ c ∧ c < 128) : ((iI c).toUInt32 % 65536).toInt32 = iI c ∧ vp_nar .char (iI c) = iI c := by
  obtain ⟨n, rfl⟩ := Int.eq_ofNat_of_zero_le h.1
  have hn : n < 128 := by omega
  have e : iI (n : Int) = nI n := iI_nI (by omega)
  rw [e]
  exact chN n hn
def signU (tx : Nat → Int) (sg : Nat) (c : Int) : (Nat → Int) × Nat := if 32 ≤ c ∧ c ≤ 126 ∧ sg < 200 then (up tx sg c, sg + 1) else (tx, sg)
/-- numbers of a row that are as said -/
def rowOK (x0 x1 x2 x3 x4 : Int) : Prop := (0 ≤ x0 ∧ x0 < 1000) ∧ (0 ≤ x1 ∧ x1 < 20) ∧ (0 ≤ x2 ∧ x2 < 50) ∧ (0 ≤ x3 ∧ x3 < 20001) ∧ (0 ≤ x4 ∧ x4 < 100)
abbrev RW : Type := Nat × (Nat → Nat → Int) × (Nat → Nat → Int) × (Nat → Nat → Int)
def addV5 (Vv : Nat → Nat → Int) (n : Nat) (x0 x1 x2 x3 x4 : Int) : Nat → Nat → Int := pV (pV (pV (pV (pV Vv 0 n x0) 1 n x1) 2 n x2) 3 n x3) 4 n x4
/-- a row more: the orders with its number put in -/
def rowNew (n : Nat) (Vv U Dn : Nat → Nat → Int) (x0 x1 x2 x3 x4 : Int) (w : RW) : Prop := w.1 = n + 1 ∧ w.2.1 = addV5 Vv n x0 x1 x2 x3 x4 ∧
  ∀ e, e < 5 → (∃ p, plU (addV5 Vv n x0 x1 x2 x3 x4 e) (U e) (n + 1) (addV5 Vv n x0 x1 x2 x3 x4 e n) p ∧ w.2.2.1 e = insF (U e) (n + 1) p) ∧ ∃ p, plD (addV5 Vv n x0 x1 x2 x3 x4 e) (Dn e) (n + 1) (addV5 Vv n x0 x1 x2 x3 x4 e n) p ∧ w.2.2.2 e = insF (Dn e) (n + 1) p
def rowP (n : Nat) (Vv U Dn : Nat → Nat → Int) (x0 x1 x2 x3 x4 : Int) (u : Int × RW) : Prop :=
  (¬ rowOK x0 x1 x2 x3 x4 → u = (-1000002, n, Vv, U, Dn)) ∧ (rowOK x0 x1 x2 x3 x4 → 300 ≤ n → u = (-1000004, n, Vv, U, Dn)) ∧ (rowOK x0 x1 x2 x3 x4 → n < 300 → u.1 = (n : Int) + 1 ∧ rowNew n Vv U Dn x0 x1 x2 x3 x4 u.2)
def foundX (F Hm : Nat → Int) (c tl n : Nat) (mk : Nat → Bool) (Vv : Nat → Nat → Int) (i w : Int) : Int :=
  if 0 ≤ i ∧ i < (c : Int) then (if w = 0 then F i.toNat else if tl = 1 then (if w = 1 then Hm i.toNat else -1) else if (1 ≤ w ∧ w ≤ 5) ∧ mk (w - 1).toNat = false then Vv (w - 1).toNat (F i.toNat - 1).toNat else -1) else -1
def rightX (B : Nat → Nat → Nat → Bool) (Cn : Nat → Int) (gn : Nat) (w o k : Int) (u : Int × Nat × (Nat → Nat → Nat → Bool) × (Nat → Int)) : Prop :=
  if 0 ≤ w ∧ w < 50 then (if (-1 ≤ o ∧ o < 100) ∧ -1 ≤ k ∧ k < 20 then (if B w.toNat (o + 1).toNat (k + 1).toNat = true then u = (Cn w.toNat, gn, B, Cn) else if 100 ≤ gn then u = (-1000004, gn, B, Cn)
    else u = (Cn w.toNat + 1, gn + 1, bAdd B w.toNat (o + 1).toNat (k + 1).toNat, up Cn w.toNat (Cn w.toNat + 1))) else u = (-1000002, gn, B, Cn)) else u = (-1000001, gn, B, Cn)
def maskX (mk : Nat → Bool) (f : Int) (b : Bool) : Int × (Nat → Bool) := if 0 ≤ f ∧ f < 5 then (if mk f.toNat = b then (0, mk) else (1, up mk f.toNat b)) else (-1000002, mk)
def boundX (cb z : Int) : Int × Int := if 0 ≤ z ∧ z ≤ 1000000 then (cb, z) else (-1000002, cb)
def scanN (B : Nat → Nat → Nat → Bool) (Vv : Nat → Nat → Int) (w : Nat) : Nat → Nat
  | 0 => 0
  | k + 1 => if seeX B w (Vv 4 k).toNat (Vv 1 k).toNat = true then scanN B Vv w k + 1 else scanN B Vv w k

set_option maxHeartbeats 4000000 in
set_option maxRecDepth 100000 in
theorem c_X7_cost (l : Launch) (D : va_G) (g : Nat → ClassId) (x j ta ka : Nat) (ra ga da qa fa pa : Nat → Nat) (sg kc : Nat) (mk : Nat → Bool) (cb lc tm : Int) (an : Bool) : Ct (S := Unit) l D g yX7_cost cX7_cost 1 (some .long) rmX7_cost [.ref x] (wX x j ta ka ra ga da qa fa pa sg kc mk cb lc tm an) (fun u => some (.long (lI lc))) (fun _ => True) (fun u => wX x j ta ka ra ga da qa fa pa sg kc mk cb lc tm an) := by
  refine Ct.of RX7 rfl (by decide +kernel) [(0, .ref x)] rfl (Nat.le_of_ble_eq_true rfl) ?_
  intro pg evn sT mI bl mtd cd aA ls ar qQ zC zr zk zi zQ h hl
  have zx := zC.1
  have zb := zC.2.1
  have h : Hx D g sT aA sT.heap ([(x, .inr (7, [.ref (ra 0), .ref (ga 0), .ref (da 0), .ref j, .ref ta, .int (iI (sg : Int)), .int (iI (bZ mk)), .int (iI cb), .long (lI lc), .ref (qa 0), .int (bI an), .ref (fa 0), .ref (pa 0), .ref ka, .int (iI (kc : Int)), .long (lI tm)]))]) sT.heap [] := h
  skip
  refine lv_aload_n zx zb dX7_cost_0 rfl (lv_at hl 0 rfl) ?_
  refine gf7_52 (v := .long (lI lc)) zC h 0 rfl rfl dX7_cost_1 ?_
  exact r_lret zC zQ zr zk h dX7_cost_4 (u := ()) rfl (List.Perm.refl _) trivial (Nat.le_of_ble_eq_true rfl) (Nat.le_of_ble_eq_true rfl)

set_option maxHeartbeats 4000000 in
set_option maxRecDepth 100000 in
theorem c_X7_sign (l : Launch) (D : va_G) (g : Nat → ClassId) (x j ta ka : Nat) (ra ga da qa fa pa : Nat → Nat) (sg kc : Nat) (mk : Nat → Bool) (cb lc tm : Int) (an : Bool) (tx : Nat → Int) (c : Int) (hc : R32 c) (hs : sg ≤ 200) : Ct (S := (Nat → Int) × Nat) l D g yX7_sign cX7_sign 2 none rmX7_sign [.ref x, .int (iI c)] (wX x j ta ka ra ga da qa fa pa sg kc mk cb lc tm an ++ [(ta, cC g 200 tx)]) (fun u => none) (fun u => u = signU tx sg c) (fun u => wX x j ta ka ra ga da qa fa pa u.2 kc mk cb lc tm an ++ [(ta, cC g 200 u.1)]) := by
  refine Ct.of RX7 rfl (by decide +kernel) [(0, .ref x), (1, .int (iI c))] rfl (Nat.le_of_ble_eq_true rfl) ?_
  intro pg evn sT mI bl mtd cd aA ls ar qQ zC zr zk zi zQ h hl
  have zx := zC.1
  have zb := zC.2.1
  have h : Hx D g sT aA sT.heap ([(x, .inr (7, [.ref (ra 0), .ref (ga 0), .ref (da 0), .ref j, .ref ta, .int (iI (sg : Int)), .int (iI (bZ mk)), .int (iI cb), .long (lI lc), .ref (qa 0), .int (bI an), .ref (fa 0), .ref (pa 0), .ref ka, .int (iI (kc : Int)), .long (lI tm)])), (ta, cC g 200 tx)]) sT.heap [] := h
  skip
  refine lv_iload_n zx zb dX7_sign_0 rfl (lv_at hl 1 rfl) ?_
  refine lv_bipush (v := iI (32)) zx zb dX7_sign_1 rfl ?_
  refine i_clt (a := c) (b := 32) (tgt := 52) zC dX7_sign_3 (by decide) (by omega) (fun c_1 => ?_) (fun c_1 => ?_)
  · skip
    exact r_vret zC zQ zr zk h dX7_sign_52 (u := (tx, sg)) rfl (List.Perm.refl _) (by unfold signU; rw [if_neg (by omega)]) (Nat.le_of_ble_eq_true rfl) (Nat.le_of_ble_eq_true rfl)
  · skip
    refine lv_iload_n zx zb dX7_sign_6 rfl (lv_at hl 1 rfl) ?_
    refine lv_bipush (v := iI (126)) zx zb dX7_sign_7 rfl ?_
    refine i_cgt (a := c) (b := 126) (tgt := 52) zC dX7_sign_9 (by decide) (by omega) (fun c_2 => ?_) (fun c_2 => ?_)
    · skip
      exact r_vret zC zQ zr zk h dX7_sign_52 (u := (tx, sg)) rfl (List.Perm.refl _) (by unfold signU; rw [if_neg (by omega)]) (Nat.le_of_ble_eq_true rfl) (Nat.le_of_ble_eq_true rfl)
    · skip
      refine lv_aload_n zx zb dX7_sign_12 rfl (lv_at hl 0 rfl) ?_
      refine gf7_41 (v := .int (iI (sg : Int))) zC h 0 rfl rfl dX7_sign_13 ?_
      refine i_zlt (a := (sg : Int)) (tgt := 52) zC dX7_sign_16 (by decide) (by omega) (fun c_3 => absurd c_3 (by omega)) (fun c_3 => ?_)
      refine lv_aload_n zx zb dX7_sign_19 rfl (lv_at hl 0 rfl) ?_
      refine gf7_41 (v := .int (iI (sg : Int))) zC h 0 rfl rfl dX7_sign_20 ?_
      refine lv_aload_n zx zb dX7_sign_23 rfl (lv_at hl 0 rfl) ?_
      refine gf7_37 (v := .ref ta) zC h 0 rfl rfl dX7_sign_24 ?_
      refine a_len zC h 1 1 rfl rfl (200) rfl dX7_sign_27 ?_
      refine i_cge (a := (sg : Int)) (b := 200) (tgt := 52) zC dX7_sign_28 (by decide) (by omega) (fun c_4 => ?_) (fun c_4 => ?_)
      · skip
        exact r_vret zC zQ zr zk h dX7_sign_52 (u := (tx, sg)) rfl (List.Perm.refl _) (by unfold signU; rw [if_neg (by omega)]) (Nat.le_of_ble_eq_true rfl) (Nat.le_of_ble_eq_true rfl)
      · skip
        refine lv_aload_n zx zb dX7_sign_31 rfl (lv_at hl 0 rfl) ?_
        refine gf7_37 (v := .ref ta) zC h 0 rfl rfl dX7_sign_32 ?_
        refine lv_aload_n zx zb dX7_sign_35 rfl (lv_at hl 0 rfl) ?_
        refine gf7_41 (v := .int (iI (sg : Int))) zC h 0 rfl rfl dX7_sign_36 ?_
        refine lv_iload_n zx zb dX7_sign_39 rfl (lv_at hl 1 rfl) ?_
        refine lv_i2c (v := iI c) zx zb dX7_sign_40 (chI c (by omega)).1 ?_
        refine a_cst (x := c) zC h 1 (ws' := [(x, .inr (7, [.ref (ra 0), .ref (ga 0), .ref (da 0), .ref j, .ref ta, .int (iI (sg : Int)), .int (iI (bZ mk)), .int (iI cb), .long (lI lc), .ref (qa 0), .int (bI an), .ref (fa 0), .ref (pa 0), .ref ka, .int (iI (kc : Int)), .long (lI tm)])), (ta, cC g 200 (up tx sg c))]) rfl (z := (sg : Int)) sg rfl (chI c (by omega)).2 (by omega) (by omega) (by decide) dX7_sign_41 (fun H locs h => ?_)
        refine lv_aload_n zx zb dX7_sign_42 rfl (lv_at hl 0 rfl) ?_
        refine lv_dup zx zb dX7_sign_43 rfl ?_
        refine gf7_41 (v := .int (iI (sg : Int))) zC h 0 rfl rfl dX7_sign_44 ?_
        refine lv_iconst (v := iI (1)) zx zb dX7_sign_47 rfl ?_
        refine i_add zC (a := (sg : Int)) (b := 1) dX7_sign_48 ?_
        refine pf7_41 (x := iI ((sg : Int) + 1)) zC h 0 (ws' := [(x, .inr (7, [.ref (ra 0), .ref (ga 0), .ref (da 0), .ref j, .ref ta, .int (iI ((sg : Int) + 1)), .int (iI (bZ mk)), .int (iI cb), .long (lI lc), .ref (qa 0), .int (bI an), .ref (fa 0), .ref (pa 0), .ref ka, .int (iI (kc : Int)), .long (lI tm)])), (ta, cC g 200 (up tx sg c))]) rfl rfl (Nat.le_of_ble_eq_true rfl) dX7_sign_49 (fun H locs h => ?_)
        exact r_vret zC zQ zr zk h dX7_sign_52 (u := (up tx sg c, sg + 1)) rfl (List.Perm.refl _) (by unfold signU; rw [if_pos (by omega)]) (Nat.le_of_ble_eq_true rfl) (Nat.le_of_ble_eq_true rfl)

set_option maxHeartbeats 4000000 in
set_option maxRecDepth 100000 in
theorem c_X7_row (l : Launch) (D : va_G) (g : Nat → ClassId) (x j ta ka : Nat) (ra ga da qa fa pa : Nat → Nat) (sg kc : Nat) (mk : Nat → Bool) (cb lc tm : Int) (an : Bool) (r1 r2 r3 : Nat → Nat) (n : Nat) (Vv U Dn : Nat → Nat → Int) (x0 x1 x2 x3 x4 : Int) (h0 : R32 x0 ∧ R32 x1 ∧ R32 x2 ∧ R64 x3 ∧ R32 x4) (hn : n ≤ 300) (hv : vOK n Vv) (ho : oOK n U Dn) : Ct (S := Int × RW) l D g yX7_row cX7_row 7 (some .int) rmX7_row [.ref x, .int (iI x0), .int (iI x1), .int (iI x2), .long (lI x3), .int (iI x4)] (wX x j ta ka ra ga da qa fa pa sg kc mk cb lc tm an ++ wRows g ra r1 r2 r3 n Vv U Dn) (fun u => some (.int (iI u.1))) (rowP n Vv U Dn x0 x1 x2 x3 x4) (fun u => wX x j ta ka ra ga da qa fa pa sg kc mk cb lc tm an ++ wRows g ra r1 r2 r3 u.2.1 u.2.2.1 u.2.2.2.1 u.2.2.2.2) := by
  refine Ct.of RX7 rfl (by decide +kernel) [(0, .ref x), (1, .int (iI x0)), (2, .int (iI x1)), (3, .int (iI x2)), (4, .long (lI x3)), (6, .int (iI x4))] rfl (Nat.le_of_ble_eq_true rfl) ?_
  intro pg evn sT mI bl mtd cd aA ls ar qQ zC zr zk zi zQ h hl
  have zx := zC.1
  have zb := zC.2.1
  have h : Hx D g sT aA sT.heap ((x, .inr (7, [.ref (ra 0), .ref (ga 0), .ref (da 0), .ref j, .ref ta, .int (iI (sg : Int)), .int (iI (bZ mk)), .int (iI cb), .long (lI lc), .ref (qa 0), .int (bI an), .ref (fa 0), .ref (pa 0), .ref ka, .int (iI (kc : Int)), .long (lI tm)])) :: (wRows g ra r1 r2 r3 n Vv U Dn)) sT.heap [] := h
  skip
  refine lv_iload_n zx zb dX7_row_0 rfl (lv_at hl 1 rfl) ?_
  refine i_i2l zC (a := x0) dX7_row_1 (by omega) ?_
  refine lv_sipush (v := iI (1000)) zx zb dX7_row_2 rfl ?_
  refine r_invS (As := [.long (lI x0), .int (iI 1000)]) (rest := []) (wr := (x, .inr (7, [.ref (ra 0), .ref (ga 0), .ref (da 0), .ref j, .ref ta, .int (iI (sg : Int)), .int (iI (bZ mk)), .int (iI cb), .long (lI lc), .ref (qa 0), .int (bI an), .ref (fa 0), .ref (pa 0), .ref ka, .int (iI (kc : Int)), .long (lI tm)])) :: (wRows g ra r1 r2 r3 n Vv U Dn)) (ws2 := fun u_1 => (x, .inr (7, [.ref (ra 0), .ref (ga 0), .ref (da 0), .ref j, .ref ta, .int (iI (sg : Int)), .int (iI (bZ mk)), .int (iI cb), .long (lI lc), .ref (qa 0), .int (bI an), .ref (fa 0), .ref (pa 0), .ref ka, .int (iI (kc : Int)), .long (lI tm)])) :: (wRows g ra r1 r2 r3 n Vv U Dn)) 0 0 zC h hl.1 (c_X7_isBelow l D g x0 1000 (by omega) (by decide)) (cs7_89 zC ⟨(Nat.le_of_ble_eq_true rfl), (Nat.le_of_ble_eq_true rfl)⟩) rfl rfl (Nat.le_of_ble_eq_true rfl) (List.Perm.refl _) (fun u => List.Perm.refl _) ⟨(Nat.le_of_ble_eq_true rfl), (Nat.le_of_ble_eq_true rfl)⟩ (Nat.le_of_ble_eq_true rfl) (Nat.le_of_ble_eq_true rfl) dX7_row_5 (fun u_1 H locs hu_1 hz_1 h => ?_)
  refine b_zeq (b := decide (0 ≤ x0 ∧ x0 < 1000)) (tgt := 53) zC dX7_row_8 (by decide) (fun c_2 => ?_) (fun c_2 => ?_)
  · skip
    simp only [decide_eq_true_eq, decide_eq_false_iff_not] at c_2
    refine kc7_93 zC dX7_row_53 ?_
    exact r_iret zC zQ zr zk h dX7_row_55 (u := (-1000002, n, Vv, U, Dn)) rfl (List.Perm.refl _) (⟨fun _ => rfl, fun q => absurd q (by unfold rowOK; omega), fun q => absurd q (by unfold rowOK; omega)⟩) (Nat.le_of_ble_eq_true rfl) (Nat.le_of_ble_eq_true rfl)
  · skip
    simp only [decide_eq_true_eq, decide_eq_false_iff_not] at c_2
    refine lv_iload_n zx zb dX7_row_11 rfl (lv_at hl 2 rfl) ?_
    refine i_i2l zC (a := x1) dX7_row_12 (by omega) ?_
    refine lv_bipush (v := iI (20)) zx zb dX7_row_13 rfl ?_
    refine r_invS (As := [.long (lI x1), .int (iI 20)]) (rest := []) (wr := (x, .inr (7, [.ref (ra 0), .ref (ga 0), .ref (da 0), .ref j, .ref ta, .int (iI (sg : Int)), .int (iI (bZ mk)), .int (iI cb), .long (lI lc), .ref (qa 0), .int (bI an), .ref (fa 0), .ref (pa 0), .ref ka, .int (iI (kc : Int)), .long (lI tm)])) :: (wRows g ra r1 r2 r3 n Vv U Dn)) (ws2 := fun u_3 => (x, .inr (7, [.ref (ra 0), .ref (ga 0), .ref (da 0), .ref j, .ref ta, .int (iI (sg : Int)), .int (iI (bZ mk)), .int (iI cb), .long (lI lc), .ref (qa 0), .int (bI an), .ref (fa 0), .ref (pa 0), .ref ka, .int (iI (kc : Int)), .long (lI tm)])) :: (wRows g ra r1 r2 r3 n Vv U Dn)) 0 0 zC h hl.1 (c_X7_isBelow l D g x1 20 (by omega) (by decide)) (cs7_89 zC ⟨(Nat.le_of_ble_eq_true rfl), (Nat.le_of_ble_eq_true rfl)⟩) rfl rfl (Nat.le_of_ble_eq_true rfl) (List.Perm.refl _) (fun u => List.Perm.refl _) ⟨(Nat.le_of_ble_eq_true rfl), (Nat.le_of_ble_eq_true rfl)⟩ (Nat.le_of_ble_eq_true rfl) (Nat.le_of_ble_eq_true rfl) dX7_row_15 (fun u_3 H locs hu_3 hz_3 h => ?_)
    refine b_zeq (b := decide (0 ≤ x1 ∧ x1 < 20)) (tgt := 53) zC dX7_row_18 (by decide) (fun c_4 => ?_) (fun c_4 => ?_)
    · skip
      simp only [decide_eq_true_eq, decide_eq_false_iff_not] at c_4
      refine kc7_93 zC dX7_row_53 ?_
      exact r_iret zC zQ zr zk h dX7_row_55 (u := (-1000002, n, Vv, U, Dn)) rfl (List.Perm.refl _) (⟨fun _ => rfl, fun q => absurd q (by unfold rowOK; omega), fun q => absurd q (by unfold rowOK; omega)⟩) (Nat.le_of_ble_eq_true rfl) (Nat.le_of_ble_eq_true rfl)
    · skip
      simp only [decide_eq_true_eq, decide_eq_false_iff_not] at c_4
      refine lv_iload_n zx zb dX7_row_21 rfl (lv_at hl 3 rfl) ?_
      refine i_i2l zC (a := x2) dX7_row_22 (by omega) ?_
      refine lv_bipush (v := iI (50)) zx zb dX7_row_23 rfl ?_
      refine r_invS (As := [.long (lI x2), .int (iI 50)]) (rest := []) (wr := (x, .inr (7, [.ref (ra 0), .ref (ga 0), .ref (da 0), .ref j, .ref ta, .int (iI (sg : Int)), .int (iI (bZ mk)), .int (iI cb), .long (lI lc), .ref (qa 0), .int (bI an), .ref (fa 0), .ref (pa 0), .ref ka, .int (iI (kc : Int)), .long (lI tm)])) :: (wRows g ra r1 r2 r3 n Vv U Dn)) (ws2 := fun u_5 => (x, .inr (7, [.ref (ra 0), .ref (ga 0), .ref (da 0), .ref j, .ref ta, .int (iI (sg : Int)), .int (iI (bZ mk)), .int (iI cb), .long (lI lc), .ref (qa 0), .int (bI an), .ref (fa 0), .ref (pa 0), .ref ka, .int (iI (kc : Int)), .long (lI tm)])) :: (wRows g ra r1 r2 r3 n Vv U Dn)) 0 0 zC h hl.1 (c_X7_isBelow l D g x2 50 (by omega) (by decide)) (cs7_89 zC ⟨(Nat.le_of_ble_eq_true rfl), (Nat.le_of_ble_eq_true rfl)⟩) rfl rfl (Nat.le_of_ble_eq_true rfl) (List.Perm.refl _) (fun u => List.Perm.refl _) ⟨(Nat.le_of_ble_eq_true rfl), (Nat.le_of_ble_eq_true rfl)⟩ (Nat.le_of_ble_eq_true rfl) (Nat.le_of_ble_eq_true rfl) dX7_row_25 (fun u_5 H locs hu_5 hz_5 h => ?_)
      refine b_zeq (b := decide (0 ≤ x2 ∧ x2 < 50)) (tgt := 53) zC dX7_row_28 (by decide) (fun c_6 => ?_) (fun c_6 => ?_)
      · skip
        simp only [decide_eq_true_eq, decide_eq_false_iff_not] at c_6
        refine kc7_93 zC dX7_row_53 ?_
        exact r_iret zC zQ zr zk h dX7_row_55 (u := (-1000002, n, Vv, U, Dn)) rfl (List.Perm.refl _) (⟨fun _ => rfl, fun q => absurd q (by unfold rowOK; omega), fun q => absurd q (by unfold rowOK; omega)⟩) (Nat.le_of_ble_eq_true rfl) (Nat.le_of_ble_eq_true rfl)
      · skip
        simp only [decide_eq_true_eq, decide_eq_false_iff_not] at c_6
        refine lv_lload zx zb dX7_row_31 (lv_at hl 4 rfl) ?_
        refine lv_sipush (v := iI (20001)) zx zb dX7_row_33 rfl ?_
        refine r_invS (As := [.long (lI x3), .int (iI 20001)]) (rest := []) (wr := (x, .inr (7, [.ref (ra 0), .ref (ga 0), .ref (da 0), .ref j, .ref ta, .int (iI (sg : Int)), .int (iI (bZ mk)), .int (iI cb), .long (lI lc), .ref (qa 0), .int (bI an), .ref (fa 0), .ref (pa 0), .ref ka, .int (iI (kc : Int)), .long (lI tm)])) :: (wRows g ra r1 r2 r3 n Vv U Dn)) (ws2 := fun u_7 => (x, .inr (7, [.ref (ra 0), .ref (ga 0), .ref (da 0), .ref j, .ref ta, .int (iI (sg : Int)), .int (iI (bZ mk)), .int (iI cb), .long (lI lc), .ref (qa 0), .int (bI an), .ref (fa 0), .ref (pa 0), .ref ka, .int (iI (kc : Int)), .long (lI tm)])) :: (wRows g ra r1 r2 r3 n Vv U Dn)) 0 0 zC h hl.1 (c_X7_isBelow l D g x3 20001 (by omega) (by decide)) (cs7_89 zC ⟨(Nat.le_of_ble_eq_true rfl), (Nat.le_of_ble_eq_true rfl)⟩) rfl rfl (Nat.le_of_ble_eq_true rfl) (List.Perm.refl _) (fun u => List.Perm.refl _) ⟨(Nat.le_of_ble_eq_true rfl), (Nat.le_of_ble_eq_true rfl)⟩ (Nat.le_of_ble_eq_true rfl) (Nat.le_of_ble_eq_true rfl) dX7_row_36 (fun u_7 H locs hu_7 hz_7 h => ?_)
        refine b_zeq (b := decide (0 ≤ x3 ∧ x3 < 20001)) (tgt := 53) zC dX7_row_39 (by decide) (fun c_8 => ?_) (fun c_8 => ?_)
        · skip
          simp only [decide_eq_true_eq, decide_eq_false_iff_not] at c_8
          refine kc7_93 zC dX7_row_53 ?_
          exact r_iret zC zQ zr zk h dX7_row_55 (u := (-1000002, n, Vv, U, Dn)) rfl (List.Perm.refl _) (⟨fun _ => rfl, fun q => absurd q (by unfold rowOK; omega), fun q => absurd q (by unfold rowOK; omega)⟩) (Nat.le_of_ble_eq_true rfl) (Nat.le_of_ble_eq_true rfl)
        · skip
          simp only [decide_eq_true_eq, decide_eq_false_iff_not] at c_8
          refine lv_iload zx zb dX7_row_42 (lv_at hl 5 rfl) ?_
          refine i_i2l zC (a := x4) dX7_row_44 (by omega) ?_
          refine lv_bipush (v := iI (100)) zx zb dX7_row_45 rfl ?_
          refine r_invS (As := [.long (lI x4), .int (iI 100)]) (rest := []) (wr := (x, .inr (7, [.ref (ra 0), .ref (ga 0), .ref (da 0), .ref j, .ref ta, .int (iI (sg : Int)), .int (iI (bZ mk)), .int (iI cb), .long (lI lc), .ref (qa 0), .int (bI an), .ref (fa 0), .ref (pa 0), .ref ka, .int (iI (kc : Int)), .long (lI tm)])) :: (wRows g ra r1 r2 r3 n Vv U Dn)) (ws2 := fun u_9 => (x, .inr (7, [.ref (ra 0), .ref (ga 0), .ref (da 0), .ref j, .ref ta, .int (iI (sg : Int)), .int (iI (bZ mk)), .int (iI cb), .long (lI lc), .ref (qa 0), .int (bI an), .ref (fa 0), .ref (pa 0), .ref ka, .int (iI (kc : Int)), .long (lI tm)])) :: (wRows g ra r1 r2 r3 n Vv U Dn)) 0 0 zC h hl.1 (c_X7_isBelow l D g x4 100 (by omega) (by decide)) (cs7_89 zC ⟨(Nat.le_of_ble_eq_true rfl), (Nat.le_of_ble_eq_true rfl)⟩) rfl rfl (Nat.le_of_ble_eq_true rfl) (List.Perm.refl _) (fun u => List.Perm.refl _) ⟨(Nat.le_of_ble_eq_true rfl), (Nat.le_of_ble_eq_true rfl)⟩ (Nat.le_of_ble_eq_true rfl) (Nat.le_of_ble_eq_true rfl) dX7_row_47 (fun u_9 H locs hu_9 hz_9 h => ?_)
          refine b_zne (b := decide (0 ≤ x4 ∧ x4 < 100)) (tgt := 56) zC dX7_row_50 (by decide) (fun c_10 => ?_) (fun c_10 => ?_)
          · skip
            simp only [decide_eq_true_eq, decide_eq_false_iff_not] at c_10
            refine lv_aload_n zx zb dX7_row_56 rfl (lv_at hl 0 rfl) ?_
            refine gf7_10 (v := .ref (ra 0)) zC h 0 rfl rfl dX7_row_57 ?_
            refine r_invV (As := []) (rest := []) (wr := [(x, .inr (7, [.ref (ra 0), .ref (ga 0), .ref (da 0), .ref j, .ref ta, .int (iI (sg : Int)), .int (iI (bZ mk)), .int (iI cb), .long (lI lc), .ref (qa 0), .int (bI an), .ref (fa 0), .ref (pa 0), .ref ka, .int (iI (kc : Int)), .long (lI tm)]))]) (ws2 := fun u_11 => (x, .inr (7, [.ref (ra 0), .ref (ga 0), .ref (da 0), .ref j, .ref ta, .int (iI (sg : Int)), .int (iI (bZ mk)), .int (iI cb), .long (lI lc), .ref (qa 0), .int (bI an), .ref (fa 0), .ref (pa 0), .ref ka, .int (iI (kc : Int)), .long (lI tm)])) :: (wRows g ra r1 r2 r3 n Vv U Dn)) 0 0 zC h hl.1 (c_X6_count l D g ra r1 r2 r3 n Vv U Dn) (cs7_94 zC ⟨(Nat.le_of_ble_eq_true rfl), (Nat.le_of_ble_eq_true rfl)⟩) (.tail _ wRows_mem) rfl rfl rfl (Nat.le_of_ble_eq_true rfl) (pm fun cp_q => by simp only [cp_o, List.countP_append, List.countP_nil] <;> omega) (fun u => (pm fun cp_q => by simp only [cp_o, List.countP_append, List.countP_nil] <;> omega)) ⟨(Nat.le_of_ble_eq_true rfl), (Nat.le_of_ble_eq_true rfl)⟩ (Nat.le_of_ble_eq_true rfl) (Nat.le_of_ble_eq_true rfl) dX7_row_60 (fun u_11 H locs hu_11 hz_11 h => ?_)
            refine lv_sipush (v := iI (300)) zx zb dX7_row_63 rfl ?_
            refine i_clt (a := (n : Int)) (b := 300) (tgt := 72) zC dX7_row_66 (by decide) (by omega) (fun c_12 => ?_) (fun c_12 => ?_)
            · skip
              refine lv_aload_n zx zb dX7_row_72 rfl (lv_at hl 0 rfl) ?_
              refine gf7_10 (v := .ref (ra 0)) zC h 0 rfl rfl dX7_row_73 ?_
              refine lv_iload_n zx zb dX7_row_76 rfl (lv_at hl 1 rfl) ?_
              refine lv_iload_n zx zb dX7_row_77 rfl (lv_at hl 2 rfl) ?_
              refine lv_iload_n zx zb dX7_row_78 rfl (lv_at hl 3 rfl) ?_
              refine lv_lload zx zb dX7_row_79 (lv_at hl 4 rfl) ?_
              refine l_l2i zC (a := x3) dX7_row_81 ?_
              refine lv_iload zx zb dX7_row_82 (lv_at hl 5 rfl) ?_
              refine r_invV (As := [.int (iI x0), .int (iI x1), .int (iI x2), .int (iI x3), .int (iI x4)]) (rest := []) (wr := [(x, .inr (7, [.ref (ra 0), .ref (ga 0), .ref (da 0), .ref j, .ref ta, .int (iI (sg : Int)), .int (iI (bZ mk)), .int (iI cb), .long (lI lc), .ref (qa 0), .int (bI an), .ref (fa 0), .ref (pa 0), .ref ka, .int (iI (kc : Int)), .long (lI tm)]))]) (ws2 := fun u_13 => (x, .inr (7, [.ref (ra 0), .ref (ga 0), .ref (da 0), .ref j, .ref ta, .int (iI (sg : Int)), .int (iI (bZ mk)), .int (iI cb), .long (lI lc), .ref (qa 0), .int (bI an), .ref (fa 0), .ref (pa 0), .ref ka, .int (iI (kc : Int)), .long (lI tm)])) :: (wRows g ra r1 r2 r3 (n + 1) (addV5 Vv n x0 x1 x2 x3 x4) u_13.1 u_13.2)) 0 0 zC h hl.1 (c_X6_add l D g ra r1 r2 r3 n Vv U Dn x0 x1 x2 x3 x4 (by omega) (by omega) (fun f k h1 h2 => (hv k h2).1 f h1) (fun f p h1 h2 => ⟨(ho f p h1 h2).1, (ho f p h1 h2).2.1⟩) (fun f p h1 h2 => (ho f p h1 h2).2.2)) (cs7_99 zC ⟨(Nat.le_of_ble_eq_true rfl), (Nat.le_of_ble_eq_true rfl)⟩) (.tail _ wRows_mem) rfl rfl rfl (Nat.le_of_ble_eq_true rfl) (pm fun cp_q => by simp only [cp_o, List.countP_append, List.countP_nil] <;> omega) (fun u => pm fun cp_q => by simp only [cp_o, List.countP_append, List.countP_nil, addV5] <;> omega) ⟨(Nat.le_of_ble_eq_true rfl), (Nat.le_of_ble_eq_true rfl)⟩ (Nat.le_of_ble_eq_true rfl) (Nat.le_of_ble_eq_true rfl) dX7_row_84 (fun u_13 H locs hu_13 hz_13 h => ?_)
              exact r_iret zC zQ zr zk h dX7_row_87 (u := ((n : Int) + 1, n + 1, addV5 Vv n x0 x1 x2 x3 x4, u_13.1, u_13.2)) rfl (List.Perm.refl _) (⟨fun q => absurd (by unfold rowOK; omega) q, fun _ q => absurd q (by omega), fun _ _ => ⟨rfl, rfl, rfl, hu_13⟩⟩) (Nat.le_of_ble_eq_true rfl) (Nat.le_of_ble_eq_true rfl)
            · skip
              refine kc7_98 zC dX7_row_69 ?_
              exact r_iret zC zQ zr zk h dX7_row_71 (u := (-1000004, n, Vv, U, Dn)) rfl (List.Perm.refl _) (⟨fun q => absurd (by unfold rowOK; omega) q, fun _ _ => rfl, fun _ q => absurd q (by omega)⟩) (Nat.le_of_ble_eq_true rfl) (Nat.le_of_ble_eq_true rfl)
          · skip
            simp only [decide_eq_true_eq, decide_eq_false_iff_not] at c_10
            refine kc7_93 zC dX7_row_53 ?_
            exact r_iret zC zQ zr zk h dX7_row_55 (u := (-1000002, n, Vv, U, Dn)) rfl (List.Perm.refl _) (⟨fun _ => rfl, fun q => absurd q (by unfold rowOK; omega), fun q => absurd q (by unfold rowOK; omega)⟩) (Nat.le_of_ble_eq_true rfl) (Nat.le_of_ble_eq_true rfl)

set_option maxHeartbeats 4000000 in
set_option maxRecDepth 100000 in
theorem c_X7_found (l : Launch) (D : va_G) (g : Nat → ClassId) (x j ta ka : Nat) (ra ga da qa fa pa : Nat → Nat) (sg kc : Nat) (mk : Nat → Bool) (cb lc tm : Int) (an : Bool) (F Hm : Nat → Int) (c : Nat) (ST TF TR TN : Nat → Int) (sc tc : Nat) (fl : Nat → Bool) (tl tf aw : Nat) (r1 r2 r3 : Nat → Nat) (n : Nat) (Vv U Dn : Nat → Nat → Int) (i w : Int) (hi : R32 i) (hw : R32 w) (hc : c ≤ 300) (hn : n ≤ 300) (hF : ∀ k, k < c → R32 (F k) ∧ R32 (Hm k)) (hG : ∀ k, k < c → ¬ tl = 1 → 1 ≤ F k ∧ F k ≤ (n : Int)) (hv : vOK n Vv) (ht : tl ≤ 3) : Ct (S := Unit) l D g yX7_found cX7_found 4 (some .long) rmX7_found [.ref x, .int (iI i), .int (iI w)] (wX x j ta ka ra ga da qa fa pa sg kc mk cb lc tm an ++ (wFound g fa F Hm c ++ (wQ g qa ST TF TR TN sc tc fl tl tf aw ++ wRows g ra r1 r2 r3 n Vv U Dn))) (fun u => some (.long (lI (foundX F Hm c tl n mk Vv i w)))) (fun _ => True) (fun u => wX x j ta ka ra ga da qa fa pa sg kc mk cb lc tm an ++ (wFound g fa F Hm c ++ (wQ g qa ST TF TR TN sc tc fl tl tf aw ++ wRows g ra r1 r2 r3 n Vv U Dn))) := by
  refine Ct.of RX7 rfl (by decide +kernel) [(0, .ref x), (1, .int (iI i)), (2, .int (iI w))] rfl (Nat.le_of_ble_eq_true rfl) ?_
  intro pg evn sT mI bl mtd cd aA ls ar qQ zC zr zk zi zQ h hl
  have zx := zC.1
  have zb := zC.2.1
  have h : Hx D g sT aA sT.heap ((x, .inr (7, [.ref (ra 0), .ref (ga 0), .ref (da 0), .ref j, .ref ta, .int (iI (sg : Int)), .int (iI (bZ mk)), .int (iI cb), .long (lI lc), .ref (qa 0), .int (bI an), .ref (fa 0), .ref (pa 0), .ref ka, .int (iI (kc : Int)), .long (lI tm)])) :: ((wFound g fa F Hm c) ++ ((wQ g qa ST TF TR TN sc tc fl tl tf aw) ++ (wRows g ra r1 r2 r3 n Vv U Dn)))) sT.heap [] := h
  skip
  refine lv_iload_n zx zb dX7_found_0 rfl (lv_at hl 1 rfl) ?_
  refine i_i2l zC (a := i) dX7_found_1 (by omega) ?_
  refine lv_aload_n zx zb dX7_found_2 rfl (lv_at hl 0 rfl) ?_
  refine gf7_70 (v := .ref (fa 0)) zC h 0 rfl rfl dX7_found_3 ?_
  refine r_invV (As := []) (rest := [.long (lI i)]) (wr := (x, .inr (7, [.ref (ra 0), .ref (ga 0), .ref (da 0), .ref j, .ref ta, .int (iI (sg : Int)), .int (iI (bZ mk)), .int (iI cb), .long (lI lc), .ref (qa 0), .int (bI an), .ref (fa 0), .ref (pa 0), .ref ka, .int (iI (kc : Int)), .long (lI tm)])) :: ((wQ g qa ST TF TR TN sc tc fl tl tf aw) ++ (wRows g ra r1 r2 r3 n Vv U Dn))) (ws2 := fun u_1 => (x, .inr (7, [.ref (ra 0), .ref (ga 0), .ref (da 0), .ref j, .ref ta, .int (iI (sg : Int)), .int (iI (bZ mk)), .int (iI cb), .long (lI lc), .ref (qa 0), .int (bI an), .ref (fa 0), .ref (pa 0), .ref ka, .int (iI (kc : Int)), .long (lI tm)])) :: ((wFound g fa F Hm c) ++ ((wQ g qa ST TF TR TN sc tc fl tl tf aw) ++ (wRows g ra r1 r2 r3 n Vv U Dn)))) 0 0 zC h hl.1 (c_X0_count l D g fa F Hm c) (cs7_125 zC ⟨(Nat.le_of_ble_eq_true rfl), (Nat.le_of_ble_eq_true rfl)⟩) (.tail _ (List.mem_append_left _ wFound_mem)) rfl rfl rfl (Nat.le_of_ble_eq_true rfl) (pm fun cp_q => by simp only [cp_o, List.countP_append, List.countP_nil] <;> omega) (fun u => (pm fun cp_q => by simp only [cp_o, List.countP_append, List.countP_nil] <;> omega)) ⟨(Nat.le_of_ble_eq_true rfl), (Nat.le_of_ble_eq_true rfl)⟩ (Nat.le_of_ble_eq_true rfl) (Nat.le_of_ble_eq_true rfl) dX7_found_6 (fun u_1 H locs hu_1 hz_1 h => ?_)
  refine r_invS (As := [.long (lI i), .int (iI (c : Int))]) (rest := []) (wr := (x, .inr (7, [.ref (ra 0), .ref (ga 0), .ref (da 0), .ref j, .ref ta, .int (iI (sg : Int)), .int (iI (bZ mk)), .int (iI cb), .long (lI lc), .ref (qa 0), .int (bI an), .ref (fa 0), .ref (pa 0), .ref ka, .int (iI (kc : Int)), .long (lI tm)])) :: ((wFound g fa F Hm c) ++ ((wQ g qa ST TF TR TN sc tc fl tl tf aw) ++ (wRows g ra r1 r2 r3 n Vv U Dn)))) (ws2 := fun u_2 => (x, .inr (7, [.ref (ra 0), .ref (ga 0), .ref (da 0), .ref j, .ref ta, .int (iI (sg : Int)), .int (iI (bZ mk)), .int (iI cb), .long (lI lc), .ref (qa 0), .int (bI an), .ref (fa 0), .ref (pa 0), .ref ka, .int (iI (kc : Int)), .long (lI tm)])) :: ((wFound g fa F Hm c) ++ ((wQ g qa ST TF TR TN sc tc fl tl tf aw) ++ (wRows g ra r1 r2 r3 n Vv U Dn)))) 0 0 zC h hl.1 (c_X7_isBelow l D g i (c : Int) (by omega) (by omega)) (cs7_89 zC ⟨(Nat.le_of_ble_eq_true rfl), (Nat.le_of_ble_eq_true rfl)⟩) rfl rfl (Nat.le_of_ble_eq_true rfl) (List.Perm.refl _) (fun u => List.Perm.refl _) ⟨(Nat.le_of_ble_eq_true rfl), (Nat.le_of_ble_eq_true rfl)⟩ (Nat.le_of_ble_eq_true rfl) (Nat.le_of_ble_eq_true rfl) dX7_found_9 (fun u_2 H locs hu_2 hz_2 h => ?_)
  refine b_zne (b := decide (0 ≤ i ∧ i < (c : Int))) (tgt := 19) zC dX7_found_12 (by decide) (fun c_3 => ?_) (fun c_3 => ?_)
  · skip
    simp only [decide_eq_true_eq, decide_eq_false_iff_not] at c_3
    refine lv_iload_n zx zb dX7_found_19 rfl (lv_at hl 2 rfl) ?_
    refine i_zne (a := w) (tgt := 33) zC dX7_found_20 (by decide) (by omega) (fun c_4 => ?_) (fun c_4 => ?_)
    · skip
      refine lv_aload_n zx zb dX7_found_33 rfl (lv_at hl 0 rfl) ?_
      refine gf7_59 (v := .ref (qa 0)) zC h 0 rfl rfl dX7_found_34 ?_
      refine r_invV (As := []) (rest := []) (wr := (x, .inr (7, [.ref (ra 0), .ref (ga 0), .ref (da 0), .ref j, .ref ta, .int (iI (sg : Int)), .int (iI (bZ mk)), .int (iI cb), .long (lI lc), .ref (qa 0), .int (bI an), .ref (fa 0), .ref (pa 0), .ref ka, .int (iI (kc : Int)), .long (lI tm)])) :: ((wFound g fa F Hm c) ++ (wRows g ra r1 r2 r3 n Vv U Dn))) (ws2 := fun u_5 => (x, .inr (7, [.ref (ra 0), .ref (ga 0), .ref (da 0), .ref j, .ref ta, .int (iI (sg : Int)), .int (iI (bZ mk)), .int (iI cb), .long (lI lc), .ref (qa 0), .int (bI an), .ref (fa 0), .ref (pa 0), .ref ka, .int (iI (kc : Int)), .long (lI tm)])) :: ((wFound g fa F Hm c) ++ ((wQ g qa ST TF TR TN sc tc fl tl tf aw) ++ (wRows g ra r1 r2 r3 n Vv U Dn)))) 0 0 zC h hl.1 (c_X3_tail l D g qa ST TF TR TN sc tc fl tl tf aw) (cs7_131 zC ⟨(Nat.le_of_ble_eq_true rfl), (Nat.le_of_ble_eq_true rfl)⟩) (.tail _ (List.mem_append_right _ (List.mem_append_left _ (.head _)))) rfl rfl rfl (Nat.le_of_ble_eq_true rfl) (pm fun cp_q => by simp only [cp_o, List.countP_append, List.countP_nil] <;> omega) (fun u => (pm fun cp_q => by simp only [cp_o, List.countP_append, List.countP_nil] <;> omega)) ⟨(Nat.le_of_ble_eq_true rfl), (Nat.le_of_ble_eq_true rfl)⟩ (Nat.le_of_ble_eq_true rfl) (Nat.le_of_ble_eq_true rfl) dX7_found_37 (fun u_5 H locs hu_5 hz_5 h => ?_)
      refine lv_iconst (v := iI (1)) zx zb dX7_found_40 rfl ?_
      refine i_cne (a := (tl : Int)) (b := 1) (tgt := 65) zC dX7_found_41 (by decide) (by omega) (fun c_6 => ?_) (fun c_6 => ?_)
      · skip
        refine lv_iload_n zx zb dX7_found_65 rfl (lv_at hl 2 rfl) ?_
        refine lv_iconst (v := iI (1)) zx zb dX7_found_66 rfl ?_
        refine i_sub zC (a := w) (b := 1) dX7_found_67 ?_
        by_cases hmin : w = -2147483648
        · rw [show iI (w - 1) = iI 2147483647 from by rw [hmin]; decide]
          refine lv_istore_n (lv' := [(3, .int (iI 2147483647)), (0, .ref x), (1, .int (iI i)), (2, .int (iI w))]) zx zb dX7_found_68 rfl hl (by decide) rfl (fun ls hl => ?_)
          refine lv_iload_n zx zb dX7_found_69 rfl (lv_at hl 0 rfl) ?_
          refine i_i2l zC (a := 2147483647) dX7_found_70 (by omega) ?_
          refine lv_iconst (v := iI (5)) zx zb dX7_found_71 rfl ?_
          refine r_invS (As := [.long (lI 2147483647), .int (iI 5)]) (rest := []) (wr := (x, .inr (7, [.ref (ra 0), .ref (ga 0), .ref (da 0), .ref j, .ref ta, .int (iI (sg : Int)), .int (iI (bZ mk)), .int (iI cb), .long (lI lc), .ref (qa 0), .int (bI an), .ref (fa 0), .ref (pa 0), .ref ka, .int (iI (kc : Int)), .long (lI tm)])) :: ((wFound g fa F Hm c) ++ ((wQ g qa ST TF TR TN sc tc fl tl tf aw) ++ (wRows g ra r1 r2 r3 n Vv U Dn)))) (ws2 := fun u_7 => (x, .inr (7, [.ref (ra 0), .ref (ga 0), .ref (da 0), .ref j, .ref ta, .int (iI (sg : Int)), .int (iI (bZ mk)), .int (iI cb), .long (lI lc), .ref (qa 0), .int (bI an), .ref (fa 0), .ref (pa 0), .ref ka, .int (iI (kc : Int)), .long (lI tm)])) :: ((wFound g fa F Hm c) ++ ((wQ g qa ST TF TR TN sc tc fl tl tf aw) ++ (wRows g ra r1 r2 r3 n Vv U Dn)))) 0 0 zC h hl.1 (c_X7_isBelow l D g 2147483647 5 (by omega) (by decide)) (cs7_89 zC ⟨(Nat.le_of_ble_eq_true rfl), (Nat.le_of_ble_eq_true rfl)⟩) rfl rfl (Nat.le_of_ble_eq_true rfl) (List.Perm.refl _) (fun u => List.Perm.refl _) ⟨(Nat.le_of_ble_eq_true rfl), (Nat.le_of_ble_eq_true rfl)⟩ (Nat.le_of_ble_eq_true rfl) (Nat.le_of_ble_eq_true rfl) dX7_found_72 (fun u_7 H locs hu_7 hz_7 h => ?_)
          refine b_zeq (b := decide (0 ≤ 2147483647 ∧ 2147483647 < 5)) (tgt := 86) zC dX7_found_75 (by decide) (fun c_8 => ?_) (fun c_8 => absurd c_8 (by simp))
          simp only [decide_eq_true_eq, decide_eq_false_iff_not] at c_8
          refine kl7_126 zC dX7_found_86 ?_
          exact r_lret zC zQ zr zk h dX7_found_89 (u := ()) (by rw [show foundX F Hm c tl n mk Vv i w = -1 from by unfold foundX; rw [if_pos (by omega)]; rw [if_neg (by omega), if_neg (by omega), if_neg (by omega)]]) (List.Perm.refl _) trivial (Nat.le_of_ble_eq_true rfl) (Nat.le_of_ble_eq_true rfl)
        · skip
          refine lv_istore_n (lv' := [(3, .int (iI (w - 1))), (0, .ref x), (1, .int (iI i)), (2, .int (iI w))]) zx zb dX7_found_68 rfl hl (by decide) rfl (fun ls hl => ?_)
          refine lv_iload_n zx zb dX7_found_69 rfl (lv_at hl 0 rfl) ?_
          refine i_i2l zC (a := w - 1) dX7_found_70 (by omega) ?_
          refine lv_iconst (v := iI (5)) zx zb dX7_found_71 rfl ?_
          refine r_invS (As := [.long (lI (w - 1)), .int (iI 5)]) (rest := []) (wr := (x, .inr (7, [.ref (ra 0), .ref (ga 0), .ref (da 0), .ref j, .ref ta, .int (iI (sg : Int)), .int (iI (bZ mk)), .int (iI cb), .long (lI lc), .ref (qa 0), .int (bI an), .ref (fa 0), .ref (pa 0), .ref ka, .int (iI (kc : Int)), .long (lI tm)])) :: ((wFound g fa F Hm c) ++ ((wQ g qa ST TF TR TN sc tc fl tl tf aw) ++ (wRows g ra r1 r2 r3 n Vv U Dn)))) (ws2 := fun u_9 => (x, .inr (7, [.ref (ra 0), .ref (ga 0), .ref (da 0), .ref j, .ref ta, .int (iI (sg : Int)), .int (iI (bZ mk)), .int (iI cb), .long (lI lc), .ref (qa 0), .int (bI an), .ref (fa 0), .ref (pa 0), .ref ka, .int (iI (kc : Int)), .long (lI tm)])) :: ((wFound g fa F Hm c) ++ ((wQ g qa ST TF TR TN sc tc fl tl tf aw) ++ (wRows g ra r1 r2 r3 n Vv U Dn)))) 0 0 zC h hl.1 (c_X7_isBelow l D g (w - 1) 5 (by omega) (by decide)) (cs7_89 zC ⟨(Nat.le_of_ble_eq_true rfl), (Nat.le_of_ble_eq_true rfl)⟩) rfl rfl (Nat.le_of_ble_eq_true rfl) (List.Perm.refl _) (fun u => List.Perm.refl _) ⟨(Nat.le_of_ble_eq_true rfl), (Nat.le_of_ble_eq_true rfl)⟩ (Nat.le_of_ble_eq_true rfl) (Nat.le_of_ble_eq_true rfl) dX7_found_72 (fun u_9 H locs hu_9 hz_9 h => ?_)
          refine b_zeq (b := decide (0 ≤ w - 1 ∧ w - 1 < 5)) (tgt := 86) zC dX7_found_75 (by decide) (fun c_10 => ?_) (fun c_10 => ?_)
          · skip
            simp only [decide_eq_true_eq, decide_eq_false_iff_not] at c_10
            refine kl7_126 zC dX7_found_86 ?_
            exact r_lret zC zQ zr zk h dX7_found_89 (u := ()) (by rw [show foundX F Hm c tl n mk Vv i w = -1 from by unfold foundX; rw [if_pos (by omega)]; rw [if_neg (by omega), if_neg (by omega), if_neg (by omega)]]) (List.Perm.refl _) trivial (Nat.le_of_ble_eq_true rfl) (Nat.le_of_ble_eq_true rfl)
          · skip
            simp only [decide_eq_true_eq, decide_eq_false_iff_not] at c_10
            refine lv_aload_n zx zb dX7_found_78 rfl (lv_at hl 1 rfl) ?_
            refine lv_iload_n zx zb dX7_found_79 rfl (lv_at hl 0 rfl) ?_
            rw [show (w - 1 : Int) = ((w - 1).toNat : Int) from by omega]
            refine r_invV (As := [.int (iI ((w - 1).toNat : Int))]) (rest := []) (wr := ((wFound g fa F Hm c) ++ ((wQ g qa ST TF TR TN sc tc fl tl tf aw) ++ (wRows g ra r1 r2 r3 n Vv U Dn)))) (ws2 := fun u_11 => (x, .inr (7, [.ref (ra 0), .ref (ga 0), .ref (da 0), .ref j, .ref ta, .int (iI (sg : Int)), .int (iI (bZ mk)), .int (iI cb), .long (lI lc), .ref (qa 0), .int (bI an), .ref (fa 0), .ref (pa 0), .ref ka, .int (iI (kc : Int)), .long (lI tm)])) :: ((wFound g fa F Hm c) ++ ((wQ g qa ST TF TR TN sc tc fl tl tf aw) ++ (wRows g ra r1 r2 r3 n Vv U Dn)))) 0 0 zC h hl.1 (c_X7_isMasked l D g x j ta ka ra ga da qa fa pa sg kc mk cb lc tm an (w - 1).toNat (by omega)) (cs7_137 zC ⟨(Nat.le_of_ble_eq_true rfl), (Nat.le_of_ble_eq_true rfl)⟩) (.head _) rfl rfl rfl (Nat.le_of_ble_eq_true rfl) (pm fun cp_q => by simp only [cp_o, List.countP_append, List.countP_nil, wX] <;> omega) (fun u => (pm fun cp_q => by simp only [cp_o, List.countP_append, List.countP_nil, wX] <;> omega)) ⟨(Nat.le_of_ble_eq_true rfl), (Nat.le_of_ble_eq_true rfl)⟩ (Nat.le_of_ble_eq_true rfl) (Nat.le_of_ble_eq_true rfl) dX7_found_80 (fun u_11 H locs hu_11 hz_11 h => ?_)
            refine b_zeq (b := mk (w - 1).toNat) (tgt := 90) zC dX7_found_83 (by decide) (fun c_12 => ?_) (fun c_12 => ?_)
            · skip
              refine lv_aload_n zx zb dX7_found_90 rfl (lv_at hl 1 rfl) ?_
              refine gf7_10 (v := .ref (ra 0)) zC h 0 rfl rfl dX7_found_91 ?_
              refine lv_aload_n zx zb dX7_found_94 rfl (lv_at hl 1 rfl) ?_
              refine gf7_70 (v := .ref (fa 0)) zC h 0 rfl rfl dX7_found_95 ?_
              refine lv_iload_n zx zb dX7_found_98 rfl (lv_at hl 2 rfl) ?_
              have hFi := hF i.toNat (by omega)
              have hGi := hG i.toNat (by omega) (by omega)
              rw [show (i : Int) = (i.toNat : Int) from by omega]
              refine r_invV (As := [.int (iI (i.toNat : Int))]) (rest := [.ref (ra 0)]) (wr := (x, .inr (7, [.ref (ra 0), .ref (ga 0), .ref (da 0), .ref j, .ref ta, .int (iI (sg : Int)), .int (iI (bZ mk)), .int (iI cb), .long (lI lc), .ref (qa 0), .int (bI an), .ref (fa 0), .ref (pa 0), .ref ka, .int (iI (kc : Int)), .long (lI tm)])) :: ((wQ g qa ST TF TR TN sc tc fl tl tf aw) ++ (wRows g ra r1 r2 r3 n Vv U Dn))) (ws2 := fun u_13 => (x, .inr (7, [.ref (ra 0), .ref (ga 0), .ref (da 0), .ref j, .ref ta, .int (iI (sg : Int)), .int (iI (bZ mk)), .int (iI cb), .long (lI lc), .ref (qa 0), .int (bI an), .ref (fa 0), .ref (pa 0), .ref ka, .int (iI (kc : Int)), .long (lI tm)])) :: ((wFound g fa F Hm c) ++ ((wQ g qa ST TF TR TN sc tc fl tl tf aw) ++ (wRows g ra r1 r2 r3 n Vv U Dn)))) 0 0 zC h hl.1 (c_X0_first l D g fa F Hm c i.toNat (by omega)) (cs7_128 zC ⟨(Nat.le_of_ble_eq_true rfl), (Nat.le_of_ble_eq_true rfl)⟩) (.tail _ (List.mem_append_left _ wFound_mem)) rfl rfl rfl (Nat.le_of_ble_eq_true rfl) (pm fun cp_q => by simp only [cp_o, List.countP_append, List.countP_nil] <;> omega) (fun u => (pm fun cp_q => by simp only [cp_o, List.countP_append, List.countP_nil] <;> omega)) ⟨(Nat.le_of_ble_eq_true rfl), (Nat.le_of_ble_eq_true rfl)⟩ (Nat.le_of_ble_eq_true rfl) (Nat.le_of_ble_eq_true rfl) dX7_found_99 (fun u_13 H locs hu_13 hz_13 h => ?_)
              refine lv_iload_n zx zb dX7_found_102 rfl (lv_at hl 0 rfl) ?_
              rw [show (w - 1 : Int) = ((w - 1).toNat : Int) from by omega]
              refine r_invV (As := [.int (iI (F i.toNat)), .int (iI ((w - 1).toNat : Int))]) (rest := []) (wr := (x, .inr (7, [.ref (ra 0), .ref (ga 0), .ref (da 0), .ref j, .ref ta, .int (iI (sg : Int)), .int (iI (bZ mk)), .int (iI cb), .long (lI lc), .ref (qa 0), .int (bI an), .ref (fa 0), .ref (pa 0), .ref ka, .int (iI (kc : Int)), .long (lI tm)])) :: ((wFound g fa F Hm c) ++ (wQ g qa ST TF TR TN sc tc fl tl tf aw))) (ws2 := fun u_14 => (x, .inr (7, [.ref (ra 0), .ref (ga 0), .ref (da 0), .ref j, .ref ta, .int (iI (sg : Int)), .int (iI (bZ mk)), .int (iI cb), .long (lI lc), .ref (qa 0), .int (bI an), .ref (fa 0), .ref (pa 0), .ref ka, .int (iI (kc : Int)), .long (lI tm)])) :: ((wFound g fa F Hm c) ++ ((wQ g qa ST TF TR TN sc tc fl tl tf aw) ++ (wRows g ra r1 r2 r3 n Vv U Dn)))) 0 0 zC h hl.1 (c_X6_value l D g ra r1 r2 r3 n Vv U Dn (F i.toNat - 1).toNat (w - 1).toNat (F i.toNat) (by omega) (by omega) hn (by omega)) (cs7_141 zC ⟨(Nat.le_of_ble_eq_true rfl), (Nat.le_of_ble_eq_true rfl)⟩) (.tail _ (List.mem_append_right _ (List.mem_append_right _ wRows_mem))) rfl rfl rfl (Nat.le_of_ble_eq_true rfl) (pm fun cp_q => by simp only [cp_o, List.countP_append, List.countP_nil] <;> omega) (fun u => (pm fun cp_q => by simp only [cp_o, List.countP_append, List.countP_nil] <;> omega)) ⟨(Nat.le_of_ble_eq_true rfl), (Nat.le_of_ble_eq_true rfl)⟩ (Nat.le_of_ble_eq_true rfl) (Nat.le_of_ble_eq_true rfl) dX7_found_103 (fun u_14 H locs hu_14 hz_14 h => ?_)
              have hVi := (hv (F i.toNat - 1).toNat (by omega)).1 (w - 1).toNat (by omega)
              refine i_i2l zC (a := Vv (w - 1).toNat (F i.toNat - 1).toNat) dX7_found_106 (by omega) ?_
              exact r_lret zC zQ zr zk h dX7_found_107 (u := ()) (by rw [show foundX F Hm c tl n mk Vv i w = Vv (w - 1).toNat (F i.toNat - 1).toNat from by unfold foundX; rw [if_pos (by omega)]; rw [if_neg (by omega), if_neg (by omega), if_pos ⟨by omega, c_12⟩]]) (List.Perm.refl _) trivial (Nat.le_of_ble_eq_true rfl) (Nat.le_of_ble_eq_true rfl)
            · skip
              refine kl7_126 zC dX7_found_86 ?_
              exact r_lret zC zQ zr zk h dX7_found_89 (u := ()) (by rw [show foundX F Hm c tl n mk Vv i w = -1 from by unfold foundX; rw [if_pos (by omega)]; rw [if_neg (by omega), if_neg (by omega), if_neg (fun q => by rw [c_12] at q; exact absurd q.2 (by decide))]]) (List.Perm.refl _) trivial (Nat.le_of_ble_eq_true rfl) (Nat.le_of_ble_eq_true rfl)
      · skip
        refine lv_iload_n zx zb dX7_found_44 rfl (lv_at hl 2 rfl) ?_
        refine lv_iconst (v := iI (1)) zx zb dX7_found_45 rfl ?_
        refine i_cne (a := w) (b := 1) (tgt := 61) zC dX7_found_46 (by decide) (by omega) (fun c_15 => ?_) (fun c_15 => ?_)
        · skip
          refine kl7_126 zC dX7_found_61 ?_
          exact r_lret zC zQ zr zk h dX7_found_64 (u := ()) (by rw [show foundX F Hm c tl n mk Vv i w = -1 from by unfold foundX; rw [if_pos (by omega)]; rw [if_neg (by omega), if_pos (by omega), if_neg (by omega)]]) (List.Perm.refl _) trivial (Nat.le_of_ble_eq_true rfl) (Nat.le_of_ble_eq_true rfl)
        · skip
          refine lv_aload_n zx zb dX7_found_49 rfl (lv_at hl 0 rfl) ?_
          refine gf7_70 (v := .ref (fa 0)) zC h 0 rfl rfl dX7_found_50 ?_
          refine lv_iload_n zx zb dX7_found_53 rfl (lv_at hl 1 rfl) ?_
          have hFi := hF i.toNat (by omega)
          rw [show (i : Int) = (i.toNat : Int) from by omega]
          refine r_invV (As := [.int (iI (i.toNat : Int))]) (rest := []) (wr := (x, .inr (7, [.ref (ra 0), .ref (ga 0), .ref (da 0), .ref j, .ref ta, .int (iI (sg : Int)), .int (iI (bZ mk)), .int (iI cb), .long (lI lc), .ref (qa 0), .int (bI an), .ref (fa 0), .ref (pa 0), .ref ka, .int (iI (kc : Int)), .long (lI tm)])) :: ((wQ g qa ST TF TR TN sc tc fl tl tf aw) ++ (wRows g ra r1 r2 r3 n Vv U Dn))) (ws2 := fun u_16 => (x, .inr (7, [.ref (ra 0), .ref (ga 0), .ref (da 0), .ref j, .ref ta, .int (iI (sg : Int)), .int (iI (bZ mk)), .int (iI cb), .long (lI lc), .ref (qa 0), .int (bI an), .ref (fa 0), .ref (pa 0), .ref ka, .int (iI (kc : Int)), .long (lI tm)])) :: ((wFound g fa F Hm c) ++ ((wQ g qa ST TF TR TN sc tc fl tl tf aw) ++ (wRows g ra r1 r2 r3 n Vv U Dn)))) 0 0 zC h hl.1 (c_X0_howMany l D g fa F Hm c i.toNat (by omega)) (cs7_134 zC ⟨(Nat.le_of_ble_eq_true rfl), (Nat.le_of_ble_eq_true rfl)⟩) (.tail _ (List.mem_append_left _ wFound_mem)) rfl rfl rfl (Nat.le_of_ble_eq_true rfl) (pm fun cp_q => by simp only [cp_o, List.countP_append, List.countP_nil] <;> omega) (fun u => (pm fun cp_q => by simp only [cp_o, List.countP_append, List.countP_nil] <;> omega)) ⟨(Nat.le_of_ble_eq_true rfl), (Nat.le_of_ble_eq_true rfl)⟩ (Nat.le_of_ble_eq_true rfl) (Nat.le_of_ble_eq_true rfl) dX7_found_54 (fun u_16 H locs hu_16 hz_16 h => ?_)
          refine i_i2l zC (a := Hm i.toNat) dX7_found_57 (by omega) ?_
          refine lv_goto (tgt := 64) zx zb dX7_found_58 (by decide) ?_
          exact r_lret zC zQ zr zk h dX7_found_64 (u := ()) (by rw [show foundX F Hm c tl n mk Vv i w = Hm i.toNat from by unfold foundX; rw [if_pos (by omega)]; rw [if_neg (by omega), if_pos (by omega), if_pos (by omega)]]) (List.Perm.refl _) trivial (Nat.le_of_ble_eq_true rfl) (Nat.le_of_ble_eq_true rfl)
    · skip
      refine lv_aload_n zx zb dX7_found_23 rfl (lv_at hl 0 rfl) ?_
      refine gf7_70 (v := .ref (fa 0)) zC h 0 rfl rfl dX7_found_24 ?_
      refine lv_iload_n zx zb dX7_found_27 rfl (lv_at hl 1 rfl) ?_
      have hFi := hF i.toNat (by omega)
      rw [show (i : Int) = (i.toNat : Int) from by omega]
      refine r_invV (As := [.int (iI (i.toNat : Int))]) (rest := []) (wr := (x, .inr (7, [.ref (ra 0), .ref (ga 0), .ref (da 0), .ref j, .ref ta, .int (iI (sg : Int)), .int (iI (bZ mk)), .int (iI cb), .long (lI lc), .ref (qa 0), .int (bI an), .ref (fa 0), .ref (pa 0), .ref ka, .int (iI (kc : Int)), .long (lI tm)])) :: ((wQ g qa ST TF TR TN sc tc fl tl tf aw) ++ (wRows g ra r1 r2 r3 n Vv U Dn))) (ws2 := fun u_17 => (x, .inr (7, [.ref (ra 0), .ref (ga 0), .ref (da 0), .ref j, .ref ta, .int (iI (sg : Int)), .int (iI (bZ mk)), .int (iI cb), .long (lI lc), .ref (qa 0), .int (bI an), .ref (fa 0), .ref (pa 0), .ref ka, .int (iI (kc : Int)), .long (lI tm)])) :: ((wFound g fa F Hm c) ++ ((wQ g qa ST TF TR TN sc tc fl tl tf aw) ++ (wRows g ra r1 r2 r3 n Vv U Dn)))) 0 0 zC h hl.1 (c_X0_first l D g fa F Hm c i.toNat (by omega)) (cs7_128 zC ⟨(Nat.le_of_ble_eq_true rfl), (Nat.le_of_ble_eq_true rfl)⟩) (.tail _ (List.mem_append_left _ wFound_mem)) rfl rfl rfl (Nat.le_of_ble_eq_true rfl) (pm fun cp_q => by simp only [cp_o, List.countP_append, List.countP_nil] <;> omega) (fun u => (pm fun cp_q => by simp only [cp_o, List.countP_append, List.countP_nil] <;> omega)) ⟨(Nat.le_of_ble_eq_true rfl), (Nat.le_of_ble_eq_true rfl)⟩ (Nat.le_of_ble_eq_true rfl) (Nat.le_of_ble_eq_true rfl) dX7_found_28 (fun u_17 H locs hu_17 hz_17 h => ?_)
      refine i_i2l zC (a := F i.toNat) dX7_found_31 (by omega) ?_
      exact r_lret zC zQ zr zk h dX7_found_32 (u := ()) (by rw [show foundX F Hm c tl n mk Vv i w = F i.toNat from by unfold foundX; rw [if_pos (by omega)]; rw [if_pos (by omega)]]) (List.Perm.refl _) trivial (Nat.le_of_ble_eq_true rfl) (Nat.le_of_ble_eq_true rfl)
  · skip
    simp only [decide_eq_true_eq, decide_eq_false_iff_not] at c_3
    refine kl7_126 zC dX7_found_15 ?_
    exact r_lret zC zQ zr zk h dX7_found_18 (u := ()) (by rw [show foundX F Hm c tl n mk Vv i w = -1 from by unfold foundX; rw [if_neg (by omega)]]) (List.Perm.refl _) trivial (Nat.le_of_ble_eq_true rfl) (Nat.le_of_ble_eq_true rfl)

set_option maxHeartbeats 4000000 in
set_option maxRecDepth 100000 in
theorem c_X7_right (l : Launch) (D : va_G) (g : Nat → ClassId) (x j ta ka : Nat) (ra ga da qa fa pa : Nat → Nat) (sg kc : Nat) (mk : Nat → Bool) (cb lc tm : Int) (an : Bool) (gr : Nat → Nat) (gn : Nat) (B : Nat → Nat → Nat → Bool) (Cn : Nat → Int) (w o k : Int) (h0 : R32 w ∧ R32 o ∧ R32 k) (hg : gn ≤ 100) : Ct (S := Int × Nat × (Nat → Nat → Nat → Bool) × (Nat → Int)) l D g yX7_right cX7_right 4 (some .int) rmX7_right [.ref x, .int (iI w), .int (iI o), .int (iI k)] (wX x j ta ka ra ga da qa fa pa sg kc mk cb lc tm an ++ wRights g ga gr gn B Cn) (fun u => some (.int (iI u.1))) (rightX B Cn gn w o k) (fun u => wX x j ta ka ra ga da qa fa pa sg kc mk cb lc tm an ++ wRights g ga gr u.2.1 u.2.2.1 u.2.2.2) := by
  refine Ct.of RX7 rfl (by decide +kernel) [(0, .ref x), (1, .int (iI w)), (2, .int (iI o)), (3, .int (iI k))] rfl (Nat.le_of_ble_eq_true rfl) ?_
  intro pg evn sT mI bl mtd cd aA ls ar qQ zC zr zk zi zQ h hl
  have zx := zC.1
  have zb := zC.2.1
  have h : Hx D g sT aA sT.heap ((x, .inr (7, [.ref (ra 0), .ref (ga 0), .ref (da 0), .ref j, .ref ta, .int (iI (sg : Int)), .int (iI (bZ mk)), .int (iI cb), .long (lI lc), .ref (qa 0), .int (bI an), .ref (fa 0), .ref (pa 0), .ref ka, .int (iI (kc : Int)), .long (lI tm)])) :: (wRights g ga gr gn B Cn)) sT.heap [] := h
  skip
  refine lv_iload_n zx zb dX7_right_0 rfl (lv_at hl 1 rfl) ?_
  refine i_i2l zC (a := w) dX7_right_1 (by omega) ?_
  refine lv_bipush (v := iI (50)) zx zb dX7_right_2 rfl ?_
  refine r_invS (As := [.long (lI w), .int (iI 50)]) (rest := []) (wr := (x, .inr (7, [.ref (ra 0), .ref (ga 0), .ref (da 0), .ref j, .ref ta, .int (iI (sg : Int)), .int (iI (bZ mk)), .int (iI cb), .long (lI lc), .ref (qa 0), .int (bI an), .ref (fa 0), .ref (pa 0), .ref ka, .int (iI (kc : Int)), .long (lI tm)])) :: (wRights g ga gr gn B Cn)) (ws2 := fun u_1 => (x, .inr (7, [.ref (ra 0), .ref (ga 0), .ref (da 0), .ref j, .ref ta, .int (iI (sg : Int)), .int (iI (bZ mk)), .int (iI cb), .long (lI lc), .ref (qa 0), .int (bI an), .ref (fa 0), .ref (pa 0), .ref ka, .int (iI (kc : Int)), .long (lI tm)])) :: (wRights g ga gr gn B Cn)) 0 0 zC h hl.1 (c_X7_isBelow l D g w 50 (by omega) (by decide)) (cs7_89 zC ⟨(Nat.le_of_ble_eq_true rfl), (Nat.le_of_ble_eq_true rfl)⟩) rfl rfl (Nat.le_of_ble_eq_true rfl) (List.Perm.refl _) (fun u => List.Perm.refl _) ⟨(Nat.le_of_ble_eq_true rfl), (Nat.le_of_ble_eq_true rfl)⟩ (Nat.le_of_ble_eq_true rfl) (Nat.le_of_ble_eq_true rfl) dX7_right_4 (fun u_1 H locs hu_1 hz_1 h => ?_)
  refine b_zne (b := decide (0 ≤ w ∧ w < 50)) (tgt := 13) zC dX7_right_7 (by decide) (fun c_2 => ?_) (fun c_2 => ?_)
  · skip
    simp only [decide_eq_true_eq, decide_eq_false_iff_not] at c_2
    refine lv_iload_n zx zb dX7_right_13 rfl (lv_at hl 2 rfl) ?_
    refine lv_iconst (v := iI (-1)) zx zb dX7_right_14 rfl ?_
    refine i_ceq (a := o) (b := -1) (tgt := 28) zC dX7_right_15 (by decide) (by omega) (fun c_3 => ?_) (fun c_3 => ?_)
    · skip
      refine lv_iload_n zx zb dX7_right_28 rfl (lv_at hl 3 rfl) ?_
      refine lv_iconst (v := iI (-1)) zx zb dX7_right_29 rfl ?_
      refine i_ceq (a := k) (b := -1) (tgt := 46) zC dX7_right_30 (by decide) (by omega) (fun c_4 => ?_) (fun c_4 => ?_)
      · skip
        refine lv_aload_n zx zb dX7_right_46 rfl (lv_at hl 0 rfl) ?_
        refine gf7_19 (v := .ref (ga 0)) zC h 0 rfl rfl dX7_right_47 ?_
        refine lv_iload_n zx zb dX7_right_50 rfl (lv_at hl 1 rfl) ?_
        refine lv_iload_n zx zb dX7_right_51 rfl (lv_at hl 2 rfl) ?_
        refine lv_iload_n zx zb dX7_right_52 rfl (lv_at hl 3 rfl) ?_
        rw [show (w : Int) = (w.toNat : Int) from by omega]
        refine r_invV (As := [.int (iI (w.toNat : Int)), .int (iI o), .int (iI k)]) (rest := []) (wr := [(x, .inr (7, [.ref (ra 0), .ref (ga 0), .ref (da 0), .ref j, .ref ta, .int (iI (sg : Int)), .int (iI (bZ mk)), .int (iI cb), .long (lI lc), .ref (qa 0), .int (bI an), .ref (fa 0), .ref (pa 0), .ref ka, .int (iI (kc : Int)), .long (lI tm)]))]) (ws2 := fun u_5 => (x, .inr (7, [.ref (ra 0), .ref (ga 0), .ref (da 0), .ref j, .ref ta, .int (iI (sg : Int)), .int (iI (bZ mk)), .int (iI cb), .long (lI lc), .ref (qa 0), .int (bI an), .ref (fa 0), .ref (pa 0), .ref ka, .int (iI (kc : Int)), .long (lI tm)])) :: (wRights g ga gr gn B Cn)) 0 0 zC h hl.1 (c_X5_holds l D g ga gr gn B Cn w.toNat o k (by omega) (by omega) (by omega)) (cs7_147 zC ⟨(Nat.le_of_ble_eq_true rfl), (Nat.le_of_ble_eq_true rfl)⟩) (.tail _ wRights_mem) rfl rfl rfl (Nat.le_of_ble_eq_true rfl) (pm fun cp_q => by simp only [cp_o, List.countP_append, List.countP_nil] <;> omega) (fun u => (pm fun cp_q => by simp only [cp_o, List.countP_append, List.countP_nil] <;> omega)) ⟨(Nat.le_of_ble_eq_true rfl), (Nat.le_of_ble_eq_true rfl)⟩ (Nat.le_of_ble_eq_true rfl) (Nat.le_of_ble_eq_true rfl) dX7_right_53 (fun u_5 H locs hu_5 hz_5 h => ?_)
        refine b_zne (b := B w.toNat (o + 1).toNat (k + 1).toNat) (tgt := 84) zC dX7_right_56 (by decide) (fun c_6 => ?_) (fun c_6 => ?_)
        · skip
          refine lv_aload_n zx zb dX7_right_84 rfl (lv_at hl 0 rfl) ?_
          refine gf7_19 (v := .ref (ga 0)) zC h 0 rfl rfl dX7_right_85 ?_
          refine lv_iload_n zx zb dX7_right_88 rfl (lv_at hl 1 rfl) ?_
          rw [show (w : Int) = (w.toNat : Int) from by omega]
          refine r_invV (As := [.int (iI (w.toNat : Int))]) (rest := []) (wr := [(x, .inr (7, [.ref (ra 0), .ref (ga 0), .ref (da 0), .ref j, .ref ta, .int (iI (sg : Int)), .int (iI (bZ mk)), .int (iI cb), .long (lI lc), .ref (qa 0), .int (bI an), .ref (fa 0), .ref (pa 0), .ref ka, .int (iI (kc : Int)), .long (lI tm)]))]) (ws2 := fun u_7 => (x, .inr (7, [.ref (ra 0), .ref (ga 0), .ref (da 0), .ref j, .ref ta, .int (iI (sg : Int)), .int (iI (bZ mk)), .int (iI cb), .long (lI lc), .ref (qa 0), .int (bI an), .ref (fa 0), .ref (pa 0), .ref ka, .int (iI (kc : Int)), .long (lI tm)])) :: (wRights g ga gr gn B Cn)) 0 0 zC h hl.1 (c_X5_countOf l D g ga gr gn B (Cn) w.toNat (by omega)) (cs7_155 zC ⟨(Nat.le_of_ble_eq_true rfl), (Nat.le_of_ble_eq_true rfl)⟩) (.tail _ wRights_mem) rfl rfl rfl (Nat.le_of_ble_eq_true rfl) (pm fun cp_q => by simp only [cp_o, List.countP_append, List.countP_nil] <;> omega) (fun u => (pm fun cp_q => by simp only [cp_o, List.countP_append, List.countP_nil] <;> omega)) ⟨(Nat.le_of_ble_eq_true rfl), (Nat.le_of_ble_eq_true rfl)⟩ (Nat.le_of_ble_eq_true rfl) (Nat.le_of_ble_eq_true rfl) dX7_right_89 (fun u_7 H locs hu_7 hz_7 h => ?_)
          exact r_iret zC zQ zr zk h dX7_right_92 (u := (Cn w.toNat, gn, B, Cn)) rfl (List.Perm.refl _) (by unfold rightX; rw [if_pos (by omega), if_pos (by omega), if_pos c_6]) (Nat.le_of_ble_eq_true rfl) (Nat.le_of_ble_eq_true rfl)
        · skip
          refine lv_aload_n zx zb dX7_right_59 rfl (lv_at hl 0 rfl) ?_
          refine gf7_19 (v := .ref (ga 0)) zC h 0 rfl rfl dX7_right_60 ?_
          refine r_invV (As := []) (rest := []) (wr := [(x, .inr (7, [.ref (ra 0), .ref (ga 0), .ref (da 0), .ref j, .ref ta, .int (iI (sg : Int)), .int (iI (bZ mk)), .int (iI cb), .long (lI lc), .ref (qa 0), .int (bI an), .ref (fa 0), .ref (pa 0), .ref ka, .int (iI (kc : Int)), .long (lI tm)]))]) (ws2 := fun u_8 => (x, .inr (7, [.ref (ra 0), .ref (ga 0), .ref (da 0), .ref j, .ref ta, .int (iI (sg : Int)), .int (iI (bZ mk)), .int (iI cb), .long (lI lc), .ref (qa 0), .int (bI an), .ref (fa 0), .ref (pa 0), .ref ka, .int (iI (kc : Int)), .long (lI tm)])) :: (wRights g ga gr gn B Cn)) 0 0 zC h hl.1 (c_X5_count l D g ga gr gn B Cn) (cs7_151 zC ⟨(Nat.le_of_ble_eq_true rfl), (Nat.le_of_ble_eq_true rfl)⟩) (.tail _ wRights_mem) rfl rfl rfl (Nat.le_of_ble_eq_true rfl) (pm fun cp_q => by simp only [cp_o, List.countP_append, List.countP_nil] <;> omega) (fun u => (pm fun cp_q => by simp only [cp_o, List.countP_append, List.countP_nil] <;> omega)) ⟨(Nat.le_of_ble_eq_true rfl), (Nat.le_of_ble_eq_true rfl)⟩ (Nat.le_of_ble_eq_true rfl) (Nat.le_of_ble_eq_true rfl) dX7_right_63 (fun u_8 H locs hu_8 hz_8 h => ?_)
          refine lv_bipush (v := iI (100)) zx zb dX7_right_66 rfl ?_
          refine i_clt (a := (gn : Int)) (b := 100) (tgt := 74) zC dX7_right_68 (by decide) (by omega) (fun c_9 => ?_) (fun c_9 => ?_)
          · skip
            refine lv_aload_n zx zb dX7_right_74 rfl (lv_at hl 0 rfl) ?_
            refine gf7_19 (v := .ref (ga 0)) zC h 0 rfl rfl dX7_right_75 ?_
            refine lv_iload_n zx zb dX7_right_78 rfl (lv_at hl 1 rfl) ?_
            refine lv_iload_n zx zb dX7_right_79 rfl (lv_at hl 2 rfl) ?_
            refine lv_iload_n zx zb dX7_right_80 rfl (lv_at hl 3 rfl) ?_
            rw [show (w : Int) = (w.toNat : Int) from by omega]
            refine r_invV (As := [.int (iI (w.toNat : Int)), .int (iI o), .int (iI k)]) (rest := []) (wr := [(x, .inr (7, [.ref (ra 0), .ref (ga 0), .ref (da 0), .ref j, .ref ta, .int (iI (sg : Int)), .int (iI (bZ mk)), .int (iI cb), .long (lI lc), .ref (qa 0), .int (bI an), .ref (fa 0), .ref (pa 0), .ref ka, .int (iI (kc : Int)), .long (lI tm)]))]) (ws2 := fun u_10 => (x, .inr (7, [.ref (ra 0), .ref (ga 0), .ref (da 0), .ref j, .ref ta, .int (iI (sg : Int)), .int (iI (bZ mk)), .int (iI cb), .long (lI lc), .ref (qa 0), .int (bI an), .ref (fa 0), .ref (pa 0), .ref ka, .int (iI (kc : Int)), .long (lI tm)])) :: (wRights g ga gr (gn + 1) (bAdd B w.toNat (o + 1).toNat (k + 1).toNat) (up Cn w.toNat (Cn w.toNat + 1)))) 0 0 zC h hl.1 (c_X5_add l D g ga gr gn B Cn w.toNat o k (by omega) (by omega) (by omega)) (cs7_152 zC ⟨(Nat.le_of_ble_eq_true rfl), (Nat.le_of_ble_eq_true rfl)⟩) (.tail _ wRights_mem) rfl rfl rfl (Nat.le_of_ble_eq_true rfl) (pm fun cp_q => by simp only [cp_o, List.countP_append, List.countP_nil] <;> omega) (fun u => (pm fun cp_q => by simp only [cp_o, List.countP_append, List.countP_nil] <;> omega)) ⟨(Nat.le_of_ble_eq_true rfl), (Nat.le_of_ble_eq_true rfl)⟩ (Nat.le_of_ble_eq_true rfl) (Nat.le_of_ble_eq_true rfl) dX7_right_81 (fun u_10 H locs hu_10 hz_10 h => ?_)
            refine lv_aload_n zx zb dX7_right_84 rfl (lv_at hl 0 rfl) ?_
            refine gf7_19 (v := .ref (ga 0)) zC h 0 rfl rfl dX7_right_85 ?_
            refine lv_iload_n zx zb dX7_right_88 rfl (lv_at hl 1 rfl) ?_
            rw [show (w : Int) = (w.toNat : Int) from by omega]
            refine r_invV (As := [.int (iI (w.toNat : Int))]) (rest := []) (wr := [(x, .inr (7, [.ref (ra 0), .ref (ga 0), .ref (da 0), .ref j, .ref ta, .int (iI (sg : Int)), .int (iI (bZ mk)), .int (iI cb), .long (lI lc), .ref (qa 0), .int (bI an), .ref (fa 0), .ref (pa 0), .ref ka, .int (iI (kc : Int)), .long (lI tm)]))]) (ws2 := fun u_11 => (x, .inr (7, [.ref (ra 0), .ref (ga 0), .ref (da 0), .ref j, .ref ta, .int (iI (sg : Int)), .int (iI (bZ mk)), .int (iI cb), .long (lI lc), .ref (qa 0), .int (bI an), .ref (fa 0), .ref (pa 0), .ref ka, .int (iI (kc : Int)), .long (lI tm)])) :: (wRights g ga gr (gn + 1) (bAdd B w.toNat (o + 1).toNat (k + 1).toNat) (up Cn w.toNat (Cn w.toNat + 1)))) 0 0 zC h hl.1 (c_X5_countOf l D g ga gr (gn + 1) (bAdd B w.toNat (o + 1).toNat (k + 1).toNat) (up Cn w.toNat (Cn w.toNat + 1)) w.toNat (by omega)) (cs7_155 zC ⟨(Nat.le_of_ble_eq_true rfl), (Nat.le_of_ble_eq_true rfl)⟩) (.tail _ wRights_mem) rfl rfl rfl (Nat.le_of_ble_eq_true rfl) (pm fun cp_q => by simp only [cp_o, List.countP_append, List.countP_nil] <;> omega) (fun u => (pm fun cp_q => by simp only [cp_o, List.countP_append, List.countP_nil] <;> omega)) ⟨(Nat.le_of_ble_eq_true rfl), (Nat.le_of_ble_eq_true rfl)⟩ (Nat.le_of_ble_eq_true rfl) (Nat.le_of_ble_eq_true rfl) dX7_right_89 (fun u_11 H locs hu_11 hz_11 h => ?_)
            exact r_iret zC zQ zr zk h dX7_right_92 (u := (Cn w.toNat + 1, gn + 1, bAdd B w.toNat (o + 1).toNat (k + 1).toNat, up Cn w.toNat (Cn w.toNat + 1))) (by rw [show up Cn w.toNat (Cn w.toNat + 1) w.toNat = Cn w.toNat + 1 from up_s]) (List.Perm.refl _) (by unfold rightX; rw [if_pos (by omega), if_pos (by omega), if_neg (by simp [c_6]), if_neg (by omega)]) (Nat.le_of_ble_eq_true rfl) (Nat.le_of_ble_eq_true rfl)
          · skip
            refine kc7_98 zC dX7_right_71 ?_
            exact r_iret zC zQ zr zk h dX7_right_73 (u := (-1000004, gn, B, Cn)) rfl (List.Perm.refl _) (by unfold rightX; rw [if_pos (by omega), if_pos (by omega), if_neg (by simp [c_6]), if_pos (by omega)]) (Nat.le_of_ble_eq_true rfl) (Nat.le_of_ble_eq_true rfl)
      · skip
        refine lv_iload_n zx zb dX7_right_33 rfl (lv_at hl 3 rfl) ?_
        refine i_i2l zC (a := k) dX7_right_34 (by omega) ?_
        refine lv_bipush (v := iI (20)) zx zb dX7_right_35 rfl ?_
        refine r_invS (As := [.long (lI k), .int (iI 20)]) (rest := []) (wr := (x, .inr (7, [.ref (ra 0), .ref (ga 0), .ref (da 0), .ref j, .ref ta, .int (iI (sg : Int)), .int (iI (bZ mk)), .int (iI cb), .long (lI lc), .ref (qa 0), .int (bI an), .ref (fa 0), .ref (pa 0), .ref ka, .int (iI (kc : Int)), .long (lI tm)])) :: (wRights g ga gr gn B Cn)) (ws2 := fun u_12 => (x, .inr (7, [.ref (ra 0), .ref (ga 0), .ref (da 0), .ref j, .ref ta, .int (iI (sg : Int)), .int (iI (bZ mk)), .int (iI cb), .long (lI lc), .ref (qa 0), .int (bI an), .ref (fa 0), .ref (pa 0), .ref ka, .int (iI (kc : Int)), .long (lI tm)])) :: (wRights g ga gr gn B Cn)) 0 0 zC h hl.1 (c_X7_isBelow l D g k 20 (by omega) (by decide)) (cs7_89 zC ⟨(Nat.le_of_ble_eq_true rfl), (Nat.le_of_ble_eq_true rfl)⟩) rfl rfl (Nat.le_of_ble_eq_true rfl) (List.Perm.refl _) (fun u => List.Perm.refl _) ⟨(Nat.le_of_ble_eq_true rfl), (Nat.le_of_ble_eq_true rfl)⟩ (Nat.le_of_ble_eq_true rfl) (Nat.le_of_ble_eq_true rfl) dX7_right_37 (fun u_12 H locs hu_12 hz_12 h => ?_)
        refine b_zne (b := decide (0 ≤ k ∧ k < 20)) (tgt := 46) zC dX7_right_40 (by decide) (fun c_13 => ?_) (fun c_13 => ?_)
        · skip
          simp only [decide_eq_true_eq, decide_eq_false_iff_not] at c_13
          refine lv_aload_n zx zb dX7_right_46 rfl (lv_at hl 0 rfl) ?_
          refine gf7_19 (v := .ref (ga 0)) zC h 0 rfl rfl dX7_right_47 ?_
          refine lv_iload_n zx zb dX7_right_50 rfl (lv_at hl 1 rfl) ?_
          refine lv_iload_n zx zb dX7_right_51 rfl (lv_at hl 2 rfl) ?_
          refine lv_iload_n zx zb dX7_right_52 rfl (lv_at hl 3 rfl) ?_
          rw [show (w : Int) = (w.toNat : Int) from by omega]
          refine r_invV (As := [.int (iI (w.toNat : Int)), .int (iI o), .int (iI k)]) (rest := []) (wr := [(x, .inr (7, [.ref (ra 0), .ref (ga 0), .ref (da 0), .ref j, .ref ta, .int (iI (sg : Int)), .int (iI (bZ mk)), .int (iI cb), .long (lI lc), .ref (qa 0), .int (bI an), .ref (fa 0), .ref (pa 0), .ref ka, .int (iI (kc : Int)), .long (lI tm)]))]) (ws2 := fun u_14 => (x, .inr (7, [.ref (ra 0), .ref (ga 0), .ref (da 0), .ref j, .ref ta, .int (iI (sg : Int)), .int (iI (bZ mk)), .int (iI cb), .long (lI lc), .ref (qa 0), .int (bI an), .ref (fa 0), .ref (pa 0), .ref ka, .int (iI (kc : Int)), .long (lI tm)])) :: (wRights g ga gr gn B Cn)) 0 0 zC h hl.1 (c_X5_holds l D g ga gr gn B Cn w.toNat o k (by omega) (by omega) (by omega)) (cs7_147 zC ⟨(Nat.le_of_ble_eq_true rfl), (Nat.le_of_ble_eq_true rfl)⟩) (.tail _ wRights_mem) rfl rfl rfl (Nat.le_of_ble_eq_true rfl) (pm fun cp_q => by simp only [cp_o, List.countP_append, List.countP_nil] <;> omega) (fun u => (pm fun cp_q => by simp only [cp_o, List.countP_append, List.countP_nil] <;> omega)) ⟨(Nat.le_of_ble_eq_true rfl), (Nat.le_of_ble_eq_true rfl)⟩ (Nat.le_of_ble_eq_true rfl) (Nat.le_of_ble_eq_true rfl) dX7_right_53 (fun u_14 H locs hu_14 hz_14 h => ?_)
          refine b_zne (b := B w.toNat (o + 1).toNat (k + 1).toNat) (tgt := 84) zC dX7_right_56 (by decide) (fun c_15 => ?_) (fun c_15 => ?_)
          · skip
            refine lv_aload_n zx zb dX7_right_84 rfl (lv_at hl 0 rfl) ?_
            refine gf7_19 (v := .ref (ga 0)) zC h 0 rfl rfl dX7_right_85 ?_
            refine lv_iload_n zx zb dX7_right_88 rfl (lv_at hl 1 rfl) ?_
            rw [show (w : Int) = (w.toNat : Int) from by omega]
            refine r_invV (As := [.int (iI (w.toNat : Int))]) (rest := []) (wr := [(x, .inr (7, [.ref (ra 0), .ref (ga 0), .ref (da 0), .ref j, .ref ta, .int (iI (sg : Int)), .int (iI (bZ mk)), .int (iI cb), .long (lI lc), .ref (qa 0), .int (bI an), .ref (fa 0), .ref (pa 0), .ref ka, .int (iI (kc : Int)), .long (lI tm)]))]) (ws2 := fun u_16 => (x, .inr (7, [.ref (ra 0), .ref (ga 0), .ref (da 0), .ref j, .ref ta, .int (iI (sg : Int)), .int (iI (bZ mk)), .int (iI cb), .long (lI lc), .ref (qa 0), .int (bI an), .ref (fa 0), .ref (pa 0), .ref ka, .int (iI (kc : Int)), .long (lI tm)])) :: (wRights g ga gr gn B Cn)) 0 0 zC h hl.1 (c_X5_countOf l D g ga gr gn B (Cn) w.toNat (by omega)) (cs7_155 zC ⟨(Nat.le_of_ble_eq_true rfl), (Nat.le_of_ble_eq_true rfl)⟩) (.tail _ wRights_mem) rfl rfl rfl (Nat.le_of_ble_eq_true rfl) (pm fun cp_q => by simp only [cp_o, List.countP_append, List.countP_nil] <;> omega) (fun u => (pm fun cp_q => by simp only [cp_o, List.countP_append, List.countP_nil] <;> omega)) ⟨(Nat.le_of_ble_eq_true rfl), (Nat.le_of_ble_eq_true rfl)⟩ (Nat.le_of_ble_eq_true rfl) (Nat.le_of_ble_eq_true rfl) dX7_right_89 (fun u_16 H locs hu_16 hz_16 h => ?_)
            exact r_iret zC zQ zr zk h dX7_right_92 (u := (Cn w.toNat, gn, B, Cn)) rfl (List.Perm.refl _) (by unfold rightX; rw [if_pos (by omega), if_pos (by omega), if_pos c_15]) (Nat.le_of_ble_eq_true rfl) (Nat.le_of_ble_eq_true rfl)
          · skip
            refine lv_aload_n zx zb dX7_right_59 rfl (lv_at hl 0 rfl) ?_
            refine gf7_19 (v := .ref (ga 0)) zC h 0 rfl rfl dX7_right_60 ?_
            refine r_invV (As := []) (rest := []) (wr := [(x, .inr (7, [.ref (ra 0), .ref (ga 0), .ref (da 0), .ref j, .ref ta, .int (iI (sg : Int)), .int (iI (bZ mk)), .int (iI cb), .long (lI lc), .ref (qa 0), .int (bI an), .ref (fa 0), .ref (pa 0), .ref ka, .int (iI (kc : Int)), .long (lI tm)]))]) (ws2 := fun u_17 => (x, .inr (7, [.ref (ra 0), .ref (ga 0), .ref (da 0), .ref j, .ref ta, .int (iI (sg : Int)), .int (iI (bZ mk)), .int (iI cb), .long (lI lc), .ref (qa 0), .int (bI an), .ref (fa 0), .ref (pa 0), .ref ka, .int (iI (kc : Int)), .long (lI tm)])) :: (wRights g ga gr gn B Cn)) 0 0 zC h hl.1 (c_X5_count l D g ga gr gn B Cn) (cs7_151 zC ⟨(Nat.le_of_ble_eq_true rfl), (Nat.le_of_ble_eq_true rfl)⟩) (.tail _ wRights_mem) rfl rfl rfl (Nat.le_of_ble_eq_true rfl) (pm fun cp_q => by simp only [cp_o, List.countP_append, List.countP_nil] <;> omega) (fun u => (pm fun cp_q => by simp only [cp_o, List.countP_append, List.countP_nil] <;> omega)) ⟨(Nat.le_of_ble_eq_true rfl), (Nat.le_of_ble_eq_true rfl)⟩ (Nat.le_of_ble_eq_true rfl) (Nat.le_of_ble_eq_true rfl) dX7_right_63 (fun u_17 H locs hu_17 hz_17 h => ?_)
            refine lv_bipush (v := iI (100)) zx zb dX7_right_66 rfl ?_
            refine i_clt (a := (gn : Int)) (b := 100) (tgt := 74) zC dX7_right_68 (by decide) (by omega) (fun c_18 => ?_) (fun c_18 => ?_)
            · skip
              refine lv_aload_n zx zb dX7_right_74 rfl (lv_at hl 0 rfl) ?_
              refine gf7_19 (v := .ref (ga 0)) zC h 0 rfl rfl dX7_right_75 ?_
              refine lv_iload_n zx zb dX7_right_78 rfl (lv_at hl 1 rfl) ?_
              refine lv_iload_n zx zb dX7_right_79 rfl (lv_at hl 2 rfl) ?_
              refine lv_iload_n zx zb dX7_right_80 rfl (lv_at hl 3 rfl) ?_
              rw [show (w : Int) = (w.toNat : Int) from by omega]
              refine r_invV (As := [.int (iI (w.toNat : Int)), .int (iI o), .int (iI k)]) (rest := []) (wr := [(x, .inr (7, [.ref (ra 0), .ref (ga 0), .ref (da 0), .ref j, .ref ta, .int (iI (sg : Int)), .int (iI (bZ mk)), .int (iI cb), .long (lI lc), .ref (qa 0), .int (bI an), .ref (fa 0), .ref (pa 0), .ref ka, .int (iI (kc : Int)), .long (lI tm)]))]) (ws2 := fun u_19 => (x, .inr (7, [.ref (ra 0), .ref (ga 0), .ref (da 0), .ref j, .ref ta, .int (iI (sg : Int)), .int (iI (bZ mk)), .int (iI cb), .long (lI lc), .ref (qa 0), .int (bI an), .ref (fa 0), .ref (pa 0), .ref ka, .int (iI (kc : Int)), .long (lI tm)])) :: (wRights g ga gr (gn + 1) (bAdd B w.toNat (o + 1).toNat (k + 1).toNat) (up Cn w.toNat (Cn w.toNat + 1)))) 0 0 zC h hl.1 (c_X5_add l D g ga gr gn B Cn w.toNat o k (by omega) (by omega) (by omega)) (cs7_152 zC ⟨(Nat.le_of_ble_eq_true rfl), (Nat.le_of_ble_eq_true rfl)⟩) (.tail _ wRights_mem) rfl rfl rfl (Nat.le_of_ble_eq_true rfl) (pm fun cp_q => by simp only [cp_o, List.countP_append, List.countP_nil] <;> omega) (fun u => (pm fun cp_q => by simp only [cp_o, List.countP_append, List.countP_nil] <;> omega)) ⟨(Nat.le_of_ble_eq_true rfl), (Nat.le_of_ble_eq_true rfl)⟩ (Nat.le_of_ble_eq_true rfl) (Nat.le_of_ble_eq_true rfl) dX7_right_81 (fun u_19 H locs hu_19 hz_19 h => ?_)
              refine lv_aload_n zx zb dX7_right_84 rfl (lv_at hl 0 rfl) ?_
              refine gf7_19 (v := .ref (ga 0)) zC h 0 rfl rfl dX7_right_85 ?_
              refine lv_iload_n zx zb dX7_right_88 rfl (lv_at hl 1 rfl) ?_
              rw [show (w : Int) = (w.toNat : Int) from by omega]
              refine r_invV (As := [.int (iI (w.toNat : Int))]) (rest := []) (wr := [(x, .inr (7, [.ref (ra 0), .ref (ga 0), .ref (da 0), .ref j, .ref ta, .int (iI (sg : Int)), .int (iI (bZ mk)), .int (iI cb), .long (lI lc), .ref (qa 0), .int (bI an), .ref (fa 0), .ref (pa 0), .ref ka, .int (iI (kc : Int)), .long (lI tm)]))]) (ws2 := fun u_20 => (x, .inr (7, [.ref (ra 0), .ref (ga 0), .ref (da 0), .ref j, .ref ta, .int (iI (sg : Int)), .int (iI (bZ mk)), .int (iI cb), .long (lI lc), .ref (qa 0), .int (bI an), .ref (fa 0), .ref (pa 0), .ref ka, .int (iI (kc : Int)), .long (lI tm)])) :: (wRights g ga gr (gn + 1) (bAdd B w.toNat (o + 1).toNat (k + 1).toNat) (up Cn w.toNat (Cn w.toNat + 1)))) 0 0 zC h hl.1 (c_X5_countOf l D g ga gr (gn + 1) (bAdd B w.toNat (o + 1).toNat (k + 1).toNat) (up Cn w.toNat (Cn w.toNat + 1)) w.toNat (by omega)) (cs7_155 zC ⟨(Nat.le_of_ble_eq_true rfl), (Nat.le_of_ble_eq_true rfl)⟩) (.tail _ wRights_mem) rfl rfl rfl (Nat.le_of_ble_eq_true rfl) (pm fun cp_q => by simp only [cp_o, List.countP_append, List.countP_nil] <;> omega) (fun u => (pm fun cp_q => by simp only [cp_o, List.countP_append, List.countP_nil] <;> omega)) ⟨(Nat.le_of_ble_eq_true rfl), (Nat.le_of_ble_eq_true rfl)⟩ (Nat.le_of_ble_eq_true rfl) (Nat.le_of_ble_eq_true rfl) dX7_right_89 (fun u_20 H locs hu_20 hz_20 h => ?_)
              exact r_iret zC zQ zr zk h dX7_right_92 (u := (Cn w.toNat + 1, gn + 1, bAdd B w.toNat (o + 1).toNat (k + 1).toNat, up Cn w.toNat (Cn w.toNat + 1))) (by rw [show up Cn w.toNat (Cn w.toNat + 1) w.toNat = Cn w.toNat + 1 from up_s]) (List.Perm.refl _) (by unfold rightX; rw [if_pos (by omega), if_pos (by omega), if_neg (by simp [c_15]), if_neg (by omega)]) (Nat.le_of_ble_eq_true rfl) (Nat.le_of_ble_eq_true rfl)
            · skip
              refine kc7_98 zC dX7_right_71 ?_
              exact r_iret zC zQ zr zk h dX7_right_73 (u := (-1000004, gn, B, Cn)) rfl (List.Perm.refl _) (by unfold rightX; rw [if_pos (by omega), if_pos (by omega), if_neg (by simp [c_15]), if_pos (by omega)]) (Nat.le_of_ble_eq_true rfl) (Nat.le_of_ble_eq_true rfl)
        · skip
          simp only [decide_eq_true_eq, decide_eq_false_iff_not] at c_13
          refine kc7_93 zC dX7_right_43 ?_
          exact r_iret zC zQ zr zk h dX7_right_45 (u := (-1000002, gn, B, Cn)) rfl (List.Perm.refl _) (by unfold rightX; rw [if_pos (by omega), if_neg (by omega)]) (Nat.le_of_ble_eq_true rfl) (Nat.le_of_ble_eq_true rfl)
    · skip
      refine lv_iload_n zx zb dX7_right_18 rfl (lv_at hl 2 rfl) ?_
      refine i_i2l zC (a := o) dX7_right_19 (by omega) ?_
      refine lv_bipush (v := iI (100)) zx zb dX7_right_20 rfl ?_
      refine r_invS (As := [.long (lI o), .int (iI 100)]) (rest := []) (wr := (x, .inr (7, [.ref (ra 0), .ref (ga 0), .ref (da 0), .ref j, .ref ta, .int (iI (sg : Int)), .int (iI (bZ mk)), .int (iI cb), .long (lI lc), .ref (qa 0), .int (bI an), .ref (fa 0), .ref (pa 0), .ref ka, .int (iI (kc : Int)), .long (lI tm)])) :: (wRights g ga gr gn B Cn)) (ws2 := fun u_21 => (x, .inr (7, [.ref (ra 0), .ref (ga 0), .ref (da 0), .ref j, .ref ta, .int (iI (sg : Int)), .int (iI (bZ mk)), .int (iI cb), .long (lI lc), .ref (qa 0), .int (bI an), .ref (fa 0), .ref (pa 0), .ref ka, .int (iI (kc : Int)), .long (lI tm)])) :: (wRights g ga gr gn B Cn)) 0 0 zC h hl.1 (c_X7_isBelow l D g o 100 (by omega) (by decide)) (cs7_89 zC ⟨(Nat.le_of_ble_eq_true rfl), (Nat.le_of_ble_eq_true rfl)⟩) rfl rfl (Nat.le_of_ble_eq_true rfl) (List.Perm.refl _) (fun u => List.Perm.refl _) ⟨(Nat.le_of_ble_eq_true rfl), (Nat.le_of_ble_eq_true rfl)⟩ (Nat.le_of_ble_eq_true rfl) (Nat.le_of_ble_eq_true rfl) dX7_right_22 (fun u_21 H locs hu_21 hz_21 h => ?_)
      refine b_zeq (b := decide (0 ≤ o ∧ o < 100)) (tgt := 43) zC dX7_right_25 (by decide) (fun c_22 => ?_) (fun c_22 => ?_)
      · skip
        simp only [decide_eq_true_eq, decide_eq_false_iff_not] at c_22
        refine kc7_93 zC dX7_right_43 ?_
        exact r_iret zC zQ zr zk h dX7_right_45 (u := (-1000002, gn, B, Cn)) rfl (List.Perm.refl _) (by unfold rightX; rw [if_pos (by omega), if_neg (by omega)]) (Nat.le_of_ble_eq_true rfl) (Nat.le_of_ble_eq_true rfl)
      · skip
        simp only [decide_eq_true_eq, decide_eq_false_iff_not] at c_22
        refine lv_iload_n zx zb dX7_right_28 rfl (lv_at hl 3 rfl) ?_
        refine lv_iconst (v := iI (-1)) zx zb dX7_right_29 rfl ?_
        refine i_ceq (a := k) (b := -1) (tgt := 46) zC dX7_right_30 (by decide) (by omega) (fun c_23 => ?_) (fun c_23 => ?_)
        · skip
          refine lv_aload_n zx zb dX7_right_46 rfl (lv_at hl 0 rfl) ?_
          refine gf7_19 (v := .ref (ga 0)) zC h 0 rfl rfl dX7_right_47 ?_
          refine lv_iload_n zx zb dX7_right_50 rfl (lv_at hl 1 rfl) ?_
          refine lv_iload_n zx zb dX7_right_51 rfl (lv_at hl 2 rfl) ?_
          refine lv_iload_n zx zb dX7_right_52 rfl (lv_at hl 3 rfl) ?_
          rw [show (w : Int) = (w.toNat : Int) from by omega]
          refine r_invV (As := [.int (iI (w.toNat : Int)), .int (iI o), .int (iI k)]) (rest := []) (wr := [(x, .inr (7, [.ref (ra 0), .ref (ga 0), .ref (da 0), .ref j, .ref ta, .int (iI (sg : Int)), .int (iI (bZ mk)), .int (iI cb), .long (lI lc), .ref (qa 0), .int (bI an), .ref (fa 0), .ref (pa 0), .ref ka, .int (iI (kc : Int)), .long (lI tm)]))]) (ws2 := fun u_24 => (x, .inr (7, [.ref (ra 0), .ref (ga 0), .ref (da 0), .ref j, .ref ta, .int (iI (sg : Int)), .int (iI (bZ mk)), .int (iI cb), .long (lI lc), .ref (qa 0), .int (bI an), .ref (fa 0), .ref (pa 0), .ref ka, .int (iI (kc : Int)), .long (lI tm)])) :: (wRights g ga gr gn B Cn)) 0 0 zC h hl.1 (c_X5_holds l D g ga gr gn B Cn w.toNat o k (by omega) (by omega) (by omega)) (cs7_147 zC ⟨(Nat.le_of_ble_eq_true rfl), (Nat.le_of_ble_eq_true rfl)⟩) (.tail _ wRights_mem) rfl rfl rfl (Nat.le_of_ble_eq_true rfl) (pm fun cp_q => by simp only [cp_o, List.countP_append, List.countP_nil] <;> omega) (fun u => (pm fun cp_q => by simp only [cp_o, List.countP_append, List.countP_nil] <;> omega)) ⟨(Nat.le_of_ble_eq_true rfl), (Nat.le_of_ble_eq_true rfl)⟩ (Nat.le_of_ble_eq_true rfl) (Nat.le_of_ble_eq_true rfl) dX7_right_53 (fun u_24 H locs hu_24 hz_24 h => ?_)
          refine b_zne (b := B w.toNat (o + 1).toNat (k + 1).toNat) (tgt := 84) zC dX7_right_56 (by decide) (fun c_25 => ?_) (fun c_25 => ?_)
          · skip
            refine lv_aload_n zx zb dX7_right_84 rfl (lv_at hl 0 rfl) ?_
            refine gf7_19 (v := .ref (ga 0)) zC h 0 rfl rfl dX7_right_85 ?_
            refine lv_iload_n zx zb dX7_right_88 rfl (lv_at hl 1 rfl) ?_
            rw [show (w : Int) = (w.toNat : Int) from by omega]
            refine r_invV (As := [.int (iI (w.toNat : Int))]) (rest := []) (wr := [(x, .inr (7, [.ref (ra 0), .ref (ga 0), .ref (da 0), .ref j, .ref ta, .int (iI (sg : Int)), .int (iI (bZ mk)), .int (iI cb), .long (lI lc), .ref (qa 0), .int (bI an), .ref (fa 0), .ref (pa 0), .ref ka, .int (iI (kc : Int)), .long (lI tm)]))]) (ws2 := fun u_26 => (x, .inr (7, [.ref (ra 0), .ref (ga 0), .ref (da 0), .ref j, .ref ta, .int (iI (sg : Int)), .int (iI (bZ mk)), .int (iI cb), .long (lI lc), .ref (qa 0), .int (bI an), .ref (fa 0), .ref (pa 0), .ref ka, .int (iI (kc : Int)), .long (lI tm)])) :: (wRights g ga gr gn B Cn)) 0 0 zC h hl.1 (c_X5_countOf l D g ga gr gn B (Cn) w.toNat (by omega)) (cs7_155 zC ⟨(Nat.le_of_ble_eq_true rfl), (Nat.le_of_ble_eq_true rfl)⟩) (.tail _ wRights_mem) rfl rfl rfl (Nat.le_of_ble_eq_true rfl) (pm fun cp_q => by simp only [cp_o, List.countP_append, List.countP_nil] <;> omega) (fun u => (pm fun cp_q => by simp only [cp_o, List.countP_append, List.countP_nil] <;> omega)) ⟨(Nat.le_of_ble_eq_true rfl), (Nat.le_of_ble_eq_true rfl)⟩ (Nat.le_of_ble_eq_true rfl) (Nat.le_of_ble_eq_true rfl) dX7_right_89 (fun u_26 H locs hu_26 hz_26 h => ?_)
            exact r_iret zC zQ zr zk h dX7_right_92 (u := (Cn w.toNat, gn, B, Cn)) rfl (List.Perm.refl _) (by unfold rightX; rw [if_pos (by omega), if_pos (by omega), if_pos c_25]) (Nat.le_of_ble_eq_true rfl) (Nat.le_of_ble_eq_true rfl)
          · skip
            refine lv_aload_n zx zb dX7_right_59 rfl (lv_at hl 0 rfl) ?_
            refine gf7_19 (v := .ref (ga 0)) zC h 0 rfl rfl dX7_right_60 ?_
            refine r_invV (As := []) (rest := []) (wr := [(x, .inr (7, [.ref (ra 0), .ref (ga 0), .ref (da 0), .ref j, .ref ta, .int (iI (sg : Int)), .int (iI (bZ mk)), .int (iI cb), .long (lI lc), .ref (qa 0), .int (bI an), .ref (fa 0), .ref (pa 0), .ref ka, .int (iI (kc : Int)), .long (lI tm)]))]) (ws2 := fun u_27 => (x, .inr (7, [.ref (ra 0), .ref (ga 0), .ref (da 0), .ref j, .ref ta, .int (iI (sg : Int)), .int (iI (bZ mk)), .int (iI cb), .long (lI lc), .ref (qa 0), .int (bI an), .ref (fa 0), .ref (pa 0), .ref ka, .int (iI (kc : Int)), .long (lI tm)])) :: (wRights g ga gr gn B Cn)) 0 0 zC h hl.1 (c_X5_count l D g ga gr gn B Cn) (cs7_151 zC ⟨(Nat.le_of_ble_eq_true rfl), (Nat.le_of_ble_eq_true rfl)⟩) (.tail _ wRights_mem) rfl rfl rfl (Nat.le_of_ble_eq_true rfl) (pm fun cp_q => by simp only [cp_o, List.countP_append, List.countP_nil] <;> omega) (fun u => (pm fun cp_q => by simp only [cp_o, List.countP_append, List.countP_nil] <;> omega)) ⟨(Nat.le_of_ble_eq_true rfl), (Nat.le_of_ble_eq_true rfl)⟩ (Nat.le_of_ble_eq_true rfl) (Nat.le_of_ble_eq_true rfl) dX7_right_63 (fun u_27 H locs hu_27 hz_27 h => ?_)
            refine lv_bipush (v := iI (100)) zx zb dX7_right_66 rfl ?_
            refine i_clt (a := (gn : Int)) (b := 100) (tgt := 74) zC dX7_right_68 (by decide) (by omega) (fun c_28 => ?_) (fun c_28 => ?_)
            · skip
              refine lv_aload_n zx zb dX7_right_74 rfl (lv_at hl 0 rfl) ?_
              refine gf7_19 (v := .ref (ga 0)) zC h 0 rfl rfl dX7_right_75 ?_
              refine lv_iload_n zx zb dX7_right_78 rfl (lv_at hl 1 rfl) ?_
              refine lv_iload_n zx zb dX7_right_79 rfl (lv_at hl 2 rfl) ?_
              refine lv_iload_n zx zb dX7_right_80 rfl (lv_at hl 3 rfl) ?_
              rw [show (w : Int) = (w.toNat : Int) from by omega]
              refine r_invV (As := [.int (iI (w.toNat : Int)), .int (iI o), .int (iI k)]) (rest := []) (wr := [(x, .inr (7, [.ref (ra 0), .ref (ga 0), .ref (da 0), .ref j, .ref ta, .int (iI (sg : Int)), .int (iI (bZ mk)), .int (iI cb), .long (lI lc), .ref (qa 0), .int (bI an), .ref (fa 0), .ref (pa 0), .ref ka, .int (iI (kc : Int)), .long (lI tm)]))]) (ws2 := fun u_29 => (x, .inr (7, [.ref (ra 0), .ref (ga 0), .ref (da 0), .ref j, .ref ta, .int (iI (sg : Int)), .int (iI (bZ mk)), .int (iI cb), .long (lI lc), .ref (qa 0), .int (bI an), .ref (fa 0), .ref (pa 0), .ref ka, .int (iI (kc : Int)), .long (lI tm)])) :: (wRights g ga gr (gn + 1) (bAdd B w.toNat (o + 1).toNat (k + 1).toNat) (up Cn w.toNat (Cn w.toNat + 1)))) 0 0 zC h hl.1 (c_X5_add l D g ga gr gn B Cn w.toNat o k (by omega) (by omega) (by omega)) (cs7_152 zC ⟨(Nat.le_of_ble_eq_true rfl), (Nat.le_of_ble_eq_true rfl)⟩) (.tail _ wRights_mem) rfl rfl rfl (Nat.le_of_ble_eq_true rfl) (pm fun cp_q => by simp only [cp_o, List.countP_append, List.countP_nil] <;> omega) (fun u => (pm fun cp_q => by simp only [cp_o, List.countP_append, List.countP_nil] <;> omega)) ⟨(Nat.le_of_ble_eq_true rfl), (Nat.le_of_ble_eq_true rfl)⟩ (Nat.le_of_ble_eq_true rfl) (Nat.le_of_ble_eq_true rfl) dX7_right_81 (fun u_29 H locs hu_29 hz_29 h => ?_)
              refine lv_aload_n zx zb dX7_right_84 rfl (lv_at hl 0 rfl) ?_
              refine gf7_19 (v := .ref (ga 0)) zC h 0 rfl rfl dX7_right_85 ?_
              refine lv_iload_n zx zb dX7_right_88 rfl (lv_at hl 1 rfl) ?_
              rw [show (w : Int) = (w.toNat : Int) from by omega]
              refine r_invV (As := [.int (iI (w.toNat : Int))]) (rest := []) (wr := [(x, .inr (7, [.ref (ra 0), .ref (ga 0), .ref (da 0), .ref j, .ref ta, .int (iI (sg : Int)), .int (iI (bZ mk)), .int (iI cb), .long (lI lc), .ref (qa 0), .int (bI an), .ref (fa 0), .ref (pa 0), .ref ka, .int (iI (kc : Int)), .long (lI tm)]))]) (ws2 := fun u_30 => (x, .inr (7, [.ref (ra 0), .ref (ga 0), .ref (da 0), .ref j, .ref ta, .int (iI (sg : Int)), .int (iI (bZ mk)), .int (iI cb), .long (lI lc), .ref (qa 0), .int (bI an), .ref (fa 0), .ref (pa 0), .ref ka, .int (iI (kc : Int)), .long (lI tm)])) :: (wRights g ga gr (gn + 1) (bAdd B w.toNat (o + 1).toNat (k + 1).toNat) (up Cn w.toNat (Cn w.toNat + 1)))) 0 0 zC h hl.1 (c_X5_countOf l D g ga gr (gn + 1) (bAdd B w.toNat (o + 1).toNat (k + 1).toNat) (up Cn w.toNat (Cn w.toNat + 1)) w.toNat (by omega)) (cs7_155 zC ⟨(Nat.le_of_ble_eq_true rfl), (Nat.le_of_ble_eq_true rfl)⟩) (.tail _ wRights_mem) rfl rfl rfl (Nat.le_of_ble_eq_true rfl) (pm fun cp_q => by simp only [cp_o, List.countP_append, List.countP_nil] <;> omega) (fun u => (pm fun cp_q => by simp only [cp_o, List.countP_append, List.countP_nil] <;> omega)) ⟨(Nat.le_of_ble_eq_true rfl), (Nat.le_of_ble_eq_true rfl)⟩ (Nat.le_of_ble_eq_true rfl) (Nat.le_of_ble_eq_true rfl) dX7_right_89 (fun u_30 H locs hu_30 hz_30 h => ?_)
              exact r_iret zC zQ zr zk h dX7_right_92 (u := (Cn w.toNat + 1, gn + 1, bAdd B w.toNat (o + 1).toNat (k + 1).toNat, up Cn w.toNat (Cn w.toNat + 1))) (by rw [show up Cn w.toNat (Cn w.toNat + 1) w.toNat = Cn w.toNat + 1 from up_s]) (List.Perm.refl _) (by unfold rightX; rw [if_pos (by omega), if_pos (by omega), if_neg (by simp [c_25]), if_neg (by omega)]) (Nat.le_of_ble_eq_true rfl) (Nat.le_of_ble_eq_true rfl)
            · skip
              refine kc7_98 zC dX7_right_71 ?_
              exact r_iret zC zQ zr zk h dX7_right_73 (u := (-1000004, gn, B, Cn)) rfl (List.Perm.refl _) (by unfold rightX; rw [if_pos (by omega), if_pos (by omega), if_neg (by simp [c_25]), if_pos (by omega)]) (Nat.le_of_ble_eq_true rfl) (Nat.le_of_ble_eq_true rfl)
        · skip
          refine lv_iload_n zx zb dX7_right_33 rfl (lv_at hl 3 rfl) ?_
          refine i_i2l zC (a := k) dX7_right_34 (by omega) ?_
          refine lv_bipush (v := iI (20)) zx zb dX7_right_35 rfl ?_
          refine r_invS (As := [.long (lI k), .int (iI 20)]) (rest := []) (wr := (x, .inr (7, [.ref (ra 0), .ref (ga 0), .ref (da 0), .ref j, .ref ta, .int (iI (sg : Int)), .int (iI (bZ mk)), .int (iI cb), .long (lI lc), .ref (qa 0), .int (bI an), .ref (fa 0), .ref (pa 0), .ref ka, .int (iI (kc : Int)), .long (lI tm)])) :: (wRights g ga gr gn B Cn)) (ws2 := fun u_31 => (x, .inr (7, [.ref (ra 0), .ref (ga 0), .ref (da 0), .ref j, .ref ta, .int (iI (sg : Int)), .int (iI (bZ mk)), .int (iI cb), .long (lI lc), .ref (qa 0), .int (bI an), .ref (fa 0), .ref (pa 0), .ref ka, .int (iI (kc : Int)), .long (lI tm)])) :: (wRights g ga gr gn B Cn)) 0 0 zC h hl.1 (c_X7_isBelow l D g k 20 (by omega) (by decide)) (cs7_89 zC ⟨(Nat.le_of_ble_eq_true rfl), (Nat.le_of_ble_eq_true rfl)⟩) rfl rfl (Nat.le_of_ble_eq_true rfl) (List.Perm.refl _) (fun u => List.Perm.refl _) ⟨(Nat.le_of_ble_eq_true rfl), (Nat.le_of_ble_eq_true rfl)⟩ (Nat.le_of_ble_eq_true rfl) (Nat.le_of_ble_eq_true rfl) dX7_right_37 (fun u_31 H locs hu_31 hz_31 h => ?_)
          refine b_zne (b := decide (0 ≤ k ∧ k < 20)) (tgt := 46) zC dX7_right_40 (by decide) (fun c_32 => ?_) (fun c_32 => ?_)
          · skip
            simp only [decide_eq_true_eq, decide_eq_false_iff_not] at c_32
            refine lv_aload_n zx zb dX7_right_46 rfl (lv_at hl 0 rfl) ?_
            refine gf7_19 (v := .ref (ga 0)) zC h 0 rfl rfl dX7_right_47 ?_
            refine lv_iload_n zx zb dX7_right_50 rfl (lv_at hl 1 rfl) ?_
            refine lv_iload_n zx zb dX7_right_51 rfl (lv_at hl 2 rfl) ?_
            refine lv_iload_n zx zb dX7_right_52 rfl (lv_at hl 3 rfl) ?_
            rw [show (w : Int) = (w.toNat : Int) from by omega]
            refine r_invV (As := [.int (iI (w.toNat : Int)), .int (iI o), .int (iI k)]) (rest := []) (wr := [(x, .inr (7, [.ref (ra 0), .ref (ga 0), .ref (da 0), .ref j, .ref ta, .int (iI (sg : Int)), .int (iI (bZ mk)), .int (iI cb), .long (lI lc), .ref (qa 0), .int (bI an), .ref (fa 0), .ref (pa 0), .ref ka, .int (iI (kc : Int)), .long (lI tm)]))]) (ws2 := fun u_33 => (x, .inr (7, [.ref (ra 0), .ref (ga 0), .ref (da 0), .ref j, .ref ta, .int (iI (sg : Int)), .int (iI (bZ mk)), .int (iI cb), .long (lI lc), .ref (qa 0), .int (bI an), .ref (fa 0), .ref (pa 0), .ref ka, .int (iI (kc : Int)), .long (lI tm)])) :: (wRights g ga gr gn B Cn)) 0 0 zC h hl.1 (c_X5_holds l D g ga gr gn B Cn w.toNat o k (by omega) (by omega) (by omega)) (cs7_147 zC ⟨(Nat.le_of_ble_eq_true rfl), (Nat.le_of_ble_eq_true rfl)⟩) (.tail _ wRights_mem) rfl rfl rfl (Nat.le_of_ble_eq_true rfl) (pm fun cp_q => by simp only [cp_o, List.countP_append, List.countP_nil] <;> omega) (fun u => (pm fun cp_q => by simp only [cp_o, List.countP_append, List.countP_nil] <;> omega)) ⟨(Nat.le_of_ble_eq_true rfl), (Nat.le_of_ble_eq_true rfl)⟩ (Nat.le_of_ble_eq_true rfl) (Nat.le_of_ble_eq_true rfl) dX7_right_53 (fun u_33 H locs hu_33 hz_33 h => ?_)
            refine b_zne (b := B w.toNat (o + 1).toNat (k + 1).toNat) (tgt := 84) zC dX7_right_56 (by decide) (fun c_34 => ?_) (fun c_34 => ?_)
            · skip
              refine lv_aload_n zx zb dX7_right_84 rfl (lv_at hl 0 rfl) ?_
              refine gf7_19 (v := .ref (ga 0)) zC h 0 rfl rfl dX7_right_85 ?_
              refine lv_iload_n zx zb dX7_right_88 rfl (lv_at hl 1 rfl) ?_
              rw [show (w : Int) = (w.toNat : Int) from by omega]
              refine r_invV (As := [.int (iI (w.toNat : Int))]) (rest := []) (wr := [(x, .inr (7, [.ref (ra 0), .ref (ga 0), .ref (da 0), .ref j, .ref ta, .int (iI (sg : Int)), .int (iI (bZ mk)), .int (iI cb), .long (lI lc), .ref (qa 0), .int (bI an), .ref (fa 0), .ref (pa 0), .ref ka, .int (iI (kc : Int)), .long (lI tm)]))]) (ws2 := fun u_35 => (x, .inr (7, [.ref (ra 0), .ref (ga 0), .ref (da 0), .ref j, .ref ta, .int (iI (sg : Int)), .int (iI (bZ mk)), .int (iI cb), .long (lI lc), .ref (qa 0), .int (bI an), .ref (fa 0), .ref (pa 0), .ref ka, .int (iI (kc : Int)), .long (lI tm)])) :: (wRights g ga gr gn B Cn)) 0 0 zC h hl.1 (c_X5_countOf l D g ga gr gn B (Cn) w.toNat (by omega)) (cs7_155 zC ⟨(Nat.le_of_ble_eq_true rfl), (Nat.le_of_ble_eq_true rfl)⟩) (.tail _ wRights_mem) rfl rfl rfl (Nat.le_of_ble_eq_true rfl) (pm fun cp_q => by simp only [cp_o, List.countP_append, List.countP_nil] <;> omega) (fun u => (pm fun cp_q => by simp only [cp_o, List.countP_append, List.countP_nil] <;> omega)) ⟨(Nat.le_of_ble_eq_true rfl), (Nat.le_of_ble_eq_true rfl)⟩ (Nat.le_of_ble_eq_true rfl) (Nat.le_of_ble_eq_true rfl) dX7_right_89 (fun u_35 H locs hu_35 hz_35 h => ?_)
              exact r_iret zC zQ zr zk h dX7_right_92 (u := (Cn w.toNat, gn, B, Cn)) rfl (List.Perm.refl _) (by unfold rightX; rw [if_pos (by omega), if_pos (by omega), if_pos c_34]) (Nat.le_of_ble_eq_true rfl) (Nat.le_of_ble_eq_true rfl)
            · skip
              refine lv_aload_n zx zb dX7_right_59 rfl (lv_at hl 0 rfl) ?_
              refine gf7_19 (v := .ref (ga 0)) zC h 0 rfl rfl dX7_right_60 ?_
              refine r_invV (As := []) (rest := []) (wr := [(x, .inr (7, [.ref (ra 0), .ref (ga 0), .ref (da 0), .ref j, .ref ta, .int (iI (sg : Int)), .int (iI (bZ mk)), .int (iI cb), .long (lI lc), .ref (qa 0), .int (bI an), .ref (fa 0), .ref (pa 0), .ref ka, .int (iI (kc : Int)), .long (lI tm)]))]) (ws2 := fun u_36 => (x, .inr (7, [.ref (ra 0), .ref (ga 0), .ref (da 0), .ref j, .ref ta, .int (iI (sg : Int)), .int (iI (bZ mk)), .int (iI cb), .long (lI lc), .ref (qa 0), .int (bI an), .ref (fa 0), .ref (pa 0), .ref ka, .int (iI (kc : Int)), .long (lI tm)])) :: (wRights g ga gr gn B Cn)) 0 0 zC h hl.1 (c_X5_count l D g ga gr gn B Cn) (cs7_151 zC ⟨(Nat.le_of_ble_eq_true rfl), (Nat.le_of_ble_eq_true rfl)⟩) (.tail _ wRights_mem) rfl rfl rfl (Nat.le_of_ble_eq_true rfl) (pm fun cp_q => by simp only [cp_o, List.countP_append, List.countP_nil] <;> omega) (fun u => (pm fun cp_q => by simp only [cp_o, List.countP_append, List.countP_nil] <;> omega)) ⟨(Nat.le_of_ble_eq_true rfl), (Nat.le_of_ble_eq_true rfl)⟩ (Nat.le_of_ble_eq_true rfl) (Nat.le_of_ble_eq_true rfl) dX7_right_63 (fun u_36 H locs hu_36 hz_36 h => ?_)
              refine lv_bipush (v := iI (100)) zx zb dX7_right_66 rfl ?_
              refine i_clt (a := (gn : Int)) (b := 100) (tgt := 74) zC dX7_right_68 (by decide) (by omega) (fun c_37 => ?_) (fun c_37 => ?_)
              · skip
                refine lv_aload_n zx zb dX7_right_74 rfl (lv_at hl 0 rfl) ?_
                refine gf7_19 (v := .ref (ga 0)) zC h 0 rfl rfl dX7_right_75 ?_
                refine lv_iload_n zx zb dX7_right_78 rfl (lv_at hl 1 rfl) ?_
                refine lv_iload_n zx zb dX7_right_79 rfl (lv_at hl 2 rfl) ?_
                refine lv_iload_n zx zb dX7_right_80 rfl (lv_at hl 3 rfl) ?_
                rw [show (w : Int) = (w.toNat : Int) from by omega]
                refine r_invV (As := [.int (iI (w.toNat : Int)), .int (iI o), .int (iI k)]) (rest := []) (wr := [(x, .inr (7, [.ref (ra 0), .ref (ga 0), .ref (da 0), .ref j, .ref ta, .int (iI (sg : Int)), .int (iI (bZ mk)), .int (iI cb), .long (lI lc), .ref (qa 0), .int (bI an), .ref (fa 0), .ref (pa 0), .ref ka, .int (iI (kc : Int)), .long (lI tm)]))]) (ws2 := fun u_38 => (x, .inr (7, [.ref (ra 0), .ref (ga 0), .ref (da 0), .ref j, .ref ta, .int (iI (sg : Int)), .int (iI (bZ mk)), .int (iI cb), .long (lI lc), .ref (qa 0), .int (bI an), .ref (fa 0), .ref (pa 0), .ref ka, .int (iI (kc : Int)), .long (lI tm)])) :: (wRights g ga gr (gn + 1) (bAdd B w.toNat (o + 1).toNat (k + 1).toNat) (up Cn w.toNat (Cn w.toNat + 1)))) 0 0 zC h hl.1 (c_X5_add l D g ga gr gn B Cn w.toNat o k (by omega) (by omega) (by omega)) (cs7_152 zC ⟨(Nat.le_of_ble_eq_true rfl), (Nat.le_of_ble_eq_true rfl)⟩) (.tail _ wRights_mem) rfl rfl rfl (Nat.le_of_ble_eq_true rfl) (pm fun cp_q => by simp only [cp_o, List.countP_append, List.countP_nil] <;> omega) (fun u => (pm fun cp_q => by simp only [cp_o, List.countP_append, List.countP_nil] <;> omega)) ⟨(Nat.le_of_ble_eq_true rfl), (Nat.le_of_ble_eq_true rfl)⟩ (Nat.le_of_ble_eq_true rfl) (Nat.le_of_ble_eq_true rfl) dX7_right_81 (fun u_38 H locs hu_38 hz_38 h => ?_)
                refine lv_aload_n zx zb dX7_right_84 rfl (lv_at hl 0 rfl) ?_
                refine gf7_19 (v := .ref (ga 0)) zC h 0 rfl rfl dX7_right_85 ?_
                refine lv_iload_n zx zb dX7_right_88 rfl (lv_at hl 1 rfl) ?_
                rw [show (w : Int) = (w.toNat : Int) from by omega]
                refine r_invV (As := [.int (iI (w.toNat : Int))]) (rest := []) (wr := [(x, .inr (7, [.ref (ra 0), .ref (ga 0), .ref (da 0), .ref j, .ref ta, .int (iI (sg : Int)), .int (iI (bZ mk)), .int (iI cb), .long (lI lc), .ref (qa 0), .int (bI an), .ref (fa 0), .ref (pa 0), .ref ka, .int (iI (kc : Int)), .long (lI tm)]))]) (ws2 := fun u_39 => (x, .inr (7, [.ref (ra 0), .ref (ga 0), .ref (da 0), .ref j, .ref ta, .int (iI (sg : Int)), .int (iI (bZ mk)), .int (iI cb), .long (lI lc), .ref (qa 0), .int (bI an), .ref (fa 0), .ref (pa 0), .ref ka, .int (iI (kc : Int)), .long (lI tm)])) :: (wRights g ga gr (gn + 1) (bAdd B w.toNat (o + 1).toNat (k + 1).toNat) (up Cn w.toNat (Cn w.toNat + 1)))) 0 0 zC h hl.1 (c_X5_countOf l D g ga gr (gn + 1) (bAdd B w.toNat (o + 1).toNat (k + 1).toNat) (up Cn w.toNat (Cn w.toNat + 1)) w.toNat (by omega)) (cs7_155 zC ⟨(Nat.le_of_ble_eq_true rfl), (Nat.le_of_ble_eq_true rfl)⟩) (.tail _ wRights_mem) rfl rfl rfl (Nat.le_of_ble_eq_true rfl) (pm fun cp_q => by simp only [cp_o, List.countP_append, List.countP_nil] <;> omega) (fun u => (pm fun cp_q => by simp only [cp_o, List.countP_append, List.countP_nil] <;> omega)) ⟨(Nat.le_of_ble_eq_true rfl), (Nat.le_of_ble_eq_true rfl)⟩ (Nat.le_of_ble_eq_true rfl) (Nat.le_of_ble_eq_true rfl) dX7_right_89 (fun u_39 H locs hu_39 hz_39 h => ?_)
                exact r_iret zC zQ zr zk h dX7_right_92 (u := (Cn w.toNat + 1, gn + 1, bAdd B w.toNat (o + 1).toNat (k + 1).toNat, up Cn w.toNat (Cn w.toNat + 1))) (by rw [show up Cn w.toNat (Cn w.toNat + 1) w.toNat = Cn w.toNat + 1 from up_s]) (List.Perm.refl _) (by unfold rightX; rw [if_pos (by omega), if_pos (by omega), if_neg (by simp [c_34]), if_neg (by omega)]) (Nat.le_of_ble_eq_true rfl) (Nat.le_of_ble_eq_true rfl)
              · skip
                refine kc7_98 zC dX7_right_71 ?_
                exact r_iret zC zQ zr zk h dX7_right_73 (u := (-1000004, gn, B, Cn)) rfl (List.Perm.refl _) (by unfold rightX; rw [if_pos (by omega), if_pos (by omega), if_neg (by simp [c_34]), if_pos (by omega)]) (Nat.le_of_ble_eq_true rfl) (Nat.le_of_ble_eq_true rfl)
          · skip
            simp only [decide_eq_true_eq, decide_eq_false_iff_not] at c_32
            refine kc7_93 zC dX7_right_43 ?_
            exact r_iret zC zQ zr zk h dX7_right_45 (u := (-1000002, gn, B, Cn)) rfl (List.Perm.refl _) (by unfold rightX; rw [if_pos (by omega), if_neg (by omega)]) (Nat.le_of_ble_eq_true rfl) (Nat.le_of_ble_eq_true rfl)
  · skip
    simp only [decide_eq_true_eq, decide_eq_false_iff_not] at c_2
    refine kc7_103 zC dX7_right_10 ?_
    exact r_iret zC zQ zr zk h dX7_right_12 (u := (-1000001, gn, B, Cn)) rfl (List.Perm.refl _) (by unfold rightX; rw [if_neg (by omega)]) (Nat.le_of_ble_eq_true rfl) (Nat.le_of_ble_eq_true rfl)

set_option maxHeartbeats 4000000 in
set_option maxRecDepth 100000 in
theorem c_X7_masked (l : Launch) (D : va_G) (g : Nat → ClassId) (x j ta ka : Nat) (ra ga da qa fa pa : Nat → Nat) (sg kc : Nat) (mk : Nat → Bool) (cb lc tm : Int) (an : Bool) (f : Int) (b : Bool) (hf : R32 f) : Ct (S := Int × (Nat → Bool)) l D g yX7_masked cX7_masked 3 (some .int) rmX7_masked [.ref x, .int (iI f), .int (bI b)] (wX x j ta ka ra ga da qa fa pa sg kc mk cb lc tm an) (fun u => some (.int (iI u.1))) (fun u => u = maskX mk f b) (fun u => wX x j ta ka ra ga da qa fa pa sg kc u.2 cb lc tm an) := by
  refine Ct.of RX7 rfl (by decide +kernel) [(0, .ref x), (1, .int (iI f)), (2, .int (bI b))] rfl (Nat.le_of_ble_eq_true rfl) ?_
  intro pg evn sT mI bl mtd cd aA ls ar qQ zC zr zk zi zQ h hl
  have zx := zC.1
  have zb := zC.2.1
  have h : Hx D g sT aA sT.heap ([(x, .inr (7, [.ref (ra 0), .ref (ga 0), .ref (da 0), .ref j, .ref ta, .int (iI (sg : Int)), .int (iI (bZ mk)), .int (iI cb), .long (lI lc), .ref (qa 0), .int (bI an), .ref (fa 0), .ref (pa 0), .ref ka, .int (iI (kc : Int)), .long (lI tm)]))]) sT.heap [] := h
  skip
  refine lv_iload_n zx zb dX7_masked_0 rfl (lv_at hl 1 rfl) ?_
  refine i_i2l zC (a := f) dX7_masked_1 (by omega) ?_
  refine lv_iconst (v := iI (5)) zx zb dX7_masked_2 rfl ?_
  refine r_invS (As := [.long (lI f), .int (iI 5)]) (rest := []) (wr := [(x, .inr (7, [.ref (ra 0), .ref (ga 0), .ref (da 0), .ref j, .ref ta, .int (iI (sg : Int)), .int (iI (bZ mk)), .int (iI cb), .long (lI lc), .ref (qa 0), .int (bI an), .ref (fa 0), .ref (pa 0), .ref ka, .int (iI (kc : Int)), .long (lI tm)]))]) (ws2 := fun u_1 => [(x, .inr (7, [.ref (ra 0), .ref (ga 0), .ref (da 0), .ref j, .ref ta, .int (iI (sg : Int)), .int (iI (bZ mk)), .int (iI cb), .long (lI lc), .ref (qa 0), .int (bI an), .ref (fa 0), .ref (pa 0), .ref ka, .int (iI (kc : Int)), .long (lI tm)]))]) 0 0 zC h hl.1 (c_X7_isBelow l D g f 5 (by omega) (by decide)) (cs7_89 zC ⟨(Nat.le_of_ble_eq_true rfl), (Nat.le_of_ble_eq_true rfl)⟩) rfl rfl (Nat.le_of_ble_eq_true rfl) (List.Perm.refl _) (fun u => List.Perm.refl _) ⟨(Nat.le_of_ble_eq_true rfl), (Nat.le_of_ble_eq_true rfl)⟩ (Nat.le_of_ble_eq_true rfl) (Nat.le_of_ble_eq_true rfl) dX7_masked_3 (fun u_1 H locs hu_1 hz_1 h => ?_)
  refine b_zne (b := decide (0 ≤ f ∧ f < 5)) (tgt := 12) zC dX7_masked_6 (by decide) (fun c_2 => ?_) (fun c_2 => ?_)
  · skip
    simp only [decide_eq_true_eq, decide_eq_false_iff_not] at c_2
    refine lv_aload_n zx zb dX7_masked_12 rfl (lv_at hl 0 rfl) ?_
    refine lv_iload_n zx zb dX7_masked_13 rfl (lv_at hl 1 rfl) ?_
    rw [show (f : Int) = (f.toNat : Int) from by omega]
    refine r_invV (As := [.int (iI (f.toNat : Int))]) (rest := []) (wr := []) (ws2 := fun u_3 => [(x, .inr (7, [.ref (ra 0), .ref (ga 0), .ref (da 0), .ref j, .ref ta, .int (iI (sg : Int)), .int (iI (bZ mk)), .int (iI cb), .long (lI lc), .ref (qa 0), .int (bI an), .ref (fa 0), .ref (pa 0), .ref ka, .int (iI (kc : Int)), .long (lI tm)]))]) 0 0 zC h hl.1 (c_X7_isMasked l D g x j ta ka ra ga da qa fa pa sg kc mk cb lc tm an f.toNat (by omega)) (cs7_137 zC ⟨(Nat.le_of_ble_eq_true rfl), (Nat.le_of_ble_eq_true rfl)⟩) (.head _) rfl rfl rfl (Nat.le_of_ble_eq_true rfl) (pm fun cp_q => by simp only [cp_o, List.countP_append, List.countP_nil, wX] <;> omega) (fun u => (pm fun cp_q => by simp only [cp_o, List.countP_append, List.countP_nil, wX] <;> omega)) ⟨(Nat.le_of_ble_eq_true rfl), (Nat.le_of_ble_eq_true rfl)⟩ (Nat.le_of_ble_eq_true rfl) (Nat.le_of_ble_eq_true rfl) dX7_masked_14 (fun u_3 H locs hu_3 hz_3 h => ?_)
    refine lv_iload_n zx zb dX7_masked_17 rfl (lv_at hl 2 rfl) ?_
    refine b_cne (a := mk f.toNat) (b := b) (tgt := 23) zC dX7_masked_18 (by decide) (fun c_4 => ?_) (fun c_4 => ?_)
    · skip
      refine lv_aload_n zx zb dX7_masked_23 rfl (lv_at hl 0 rfl) ?_
      refine lv_dup zx zb dX7_masked_24 rfl ?_
      refine gf7_45 (v := .int (iI (bZ mk))) zC h 0 rfl rfl dX7_masked_25 ?_
      refine lv_iconst (v := iI (1)) zx zb dX7_masked_28 rfl ?_
      refine lv_iload_n zx zb dX7_masked_29 rfl (lv_at hl 1 rfl) ?_
      rw [show (f : Int) = (f.toNat : Int) from by omega]
      refine lv_ishl zx zb dX7_masked_30 ?_
      rw [bZ_sh (show f.toNat < 32 by omega)]
      refine lv_ixor zx zb dX7_masked_31 ?_
      rw [bZ_xor mk (fun i => i == f.toNat), jb_flip]
      refine pf7_45 (x := iI (bZ (up mk f.toNat (!mk f.toNat)))) zC h 0 (ws' := [(x, .inr (7, [.ref (ra 0), .ref (ga 0), .ref (da 0), .ref j, .ref ta, .int (iI (sg : Int)), .int (iI (bZ (up mk f.toNat (!mk f.toNat)))), .int (iI cb), .long (lI lc), .ref (qa 0), .int (bI an), .ref (fa 0), .ref (pa 0), .ref ka, .int (iI (kc : Int)), .long (lI tm)]))]) rfl rfl (Nat.le_of_ble_eq_true rfl) dX7_masked_32 (fun H locs h => ?_)
      refine lv_iconst (v := iI (1)) zx zb dX7_masked_35 rfl ?_
      exact r_iret zC zQ zr zk h dX7_masked_36 (u := (1, up mk f.toNat b)) rfl (List.Perm.of_eq (by rw [show (!mk f.toNat) = b from by have := c_4; revert this; cases mk f.toNat <;> cases b <;> simp]; rfl)) (by unfold maskX; rw [if_pos (by omega), if_neg c_4]) (Nat.le_of_ble_eq_true rfl) (Nat.le_of_ble_eq_true rfl)
    · skip
      refine lv_iconst (v := iI (0)) zx zb dX7_masked_21 rfl ?_
      exact r_iret zC zQ zr zk h dX7_masked_22 (u := (0, mk)) rfl (List.Perm.refl _) (by unfold maskX; rw [if_pos (by omega), if_pos c_4]) (Nat.le_of_ble_eq_true rfl) (Nat.le_of_ble_eq_true rfl)
  · skip
    simp only [decide_eq_true_eq, decide_eq_false_iff_not] at c_2
    refine kc7_93 zC dX7_masked_9 ?_
    exact r_iret zC zQ zr zk h dX7_masked_11 (u := (-1000002, mk)) rfl (List.Perm.refl _) (by unfold maskX; rw [if_neg (by omega)]) (Nat.le_of_ble_eq_true rfl) (Nat.le_of_ble_eq_true rfl)

set_option maxHeartbeats 4000000 in
set_option maxRecDepth 100000 in
theorem c_X7_bound (l : Launch) (D : va_G) (g : Nat → ClassId) (x j ta ka : Nat) (ra ga da qa fa pa : Nat → Nat) (sg kc : Nat) (mk : Nat → Bool) (cb lc tm : Int) (an : Bool) (z : Int) (hz : R64 z) : Ct (S := Int × Int) l D g yX7_bound cX7_bound 4 (some .int) rmX7_bound [.ref x, .long (lI z)] (wX x j ta ka ra ga da qa fa pa sg kc mk cb lc tm an) (fun u => some (.int (iI u.1))) (fun u => u = boundX cb z) (fun u => wX x j ta ka ra ga da qa fa pa sg kc mk u.2 lc tm an) := by
  refine Ct.of RX7 rfl (by decide +kernel) [(0, .ref x), (1, .long (lI z))] rfl (Nat.le_of_ble_eq_true rfl) ?_
  intro pg evn sT mI bl mtd cd aA ls ar qQ zC zr zk zi zQ h hl
  have zx := zC.1
  have zb := zC.2.1
  have h : Hx D g sT aA sT.heap ([(x, .inr (7, [.ref (ra 0), .ref (ga 0), .ref (da 0), .ref j, .ref ta, .int (iI (sg : Int)), .int (iI (bZ mk)), .int (iI cb), .long (lI lc), .ref (qa 0), .int (bI an), .ref (fa 0), .ref (pa 0), .ref ka, .int (iI (kc : Int)), .long (lI tm)]))]) sT.heap [] := h
  skip
  refine lv_lload_n zx zb dX7_bound_0 rfl (lv_at hl 1 rfl) ?_
  refine lv_lconst (v := lI 0) zx zb dX7_bound_1 rfl ?_
  refine l_cmp zC (a := z) (b := 0) dX7_bound_2 (by omega) (by omega) ?_
  refine i_zlt (a := lC z 0) (tgt := 14) zC dX7_bound_3 (by decide) (lC_R _ _) (fun c_1 => ?_) (fun c_1 => ?_)
  · have c_1 := lC_lt.mp c_1
    refine kc7_93 zC dX7_bound_14 ?_
    exact r_iret zC zQ zr zk h dX7_bound_16 (u := (-1000002, cb)) rfl (List.Perm.refl _) (by unfold boundX; rw [if_neg (by omega)]) (Nat.le_of_ble_eq_true rfl) (Nat.le_of_ble_eq_true rfl)
  · have c_1 := lC_ge.mp c_1
    refine lv_lload_n zx zb dX7_bound_6 rfl (lv_at hl 1 rfl) ?_
    refine kl7_158 zC dX7_bound_7 ?_
    refine l_cmp zC (a := z) (b := 1000000) dX7_bound_10 (by omega) (by omega) ?_
    refine i_zle (a := lC z 1000000) (tgt := 17) zC dX7_bound_11 (by decide) (lC_R _ _) (fun c_2 => ?_) (fun c_2 => ?_)
    · have c_2 := lC_le.mp c_2
      refine lv_aload_n zx zb dX7_bound_17 rfl (lv_at hl 0 rfl) ?_
      refine gf7_49 (v := .int (iI cb)) zC h 0 rfl rfl dX7_bound_18 ?_
      refine lv_istore_n (lv' := [(3, .int (iI cb)), (0, .ref x), (1, .long (lI z))]) zx zb dX7_bound_21 rfl hl (by decide) rfl (fun ls hl => ?_)
      refine lv_aload_n zx zb dX7_bound_22 rfl (lv_at hl 1 rfl) ?_
      refine lv_lload_n zx zb dX7_bound_23 rfl (lv_at hl 2 rfl) ?_
      refine l_l2i zC (a := z) dX7_bound_24 ?_
      refine pf7_49 (x := iI z) zC h 0 (ws' := [(x, .inr (7, [.ref (ra 0), .ref (ga 0), .ref (da 0), .ref j, .ref ta, .int (iI (sg : Int)), .int (iI (bZ mk)), .int (iI z), .long (lI lc), .ref (qa 0), .int (bI an), .ref (fa 0), .ref (pa 0), .ref ka, .int (iI (kc : Int)), .long (lI tm)]))]) rfl rfl (Nat.le_of_ble_eq_true rfl) dX7_bound_25 (fun H locs h => ?_)
      refine lv_iload_n zx zb dX7_bound_28 rfl (lv_at hl 0 rfl) ?_
      exact r_iret zC zQ zr zk h dX7_bound_29 (u := (cb, z)) rfl (List.Perm.refl _) (by unfold boundX; rw [if_pos (by omega)]) (Nat.le_of_ble_eq_true rfl) (Nat.le_of_ble_eq_true rfl)
    · have c_2 := lC_gt.mp c_2
      refine kc7_93 zC dX7_bound_14 ?_
      exact r_iret zC zQ zr zk h dX7_bound_16 (u := (-1000002, cb)) rfl (List.Perm.refl _) (by unfold boundX; rw [if_neg (by omega)]) (Nat.le_of_ble_eq_true rfl) (Nat.le_of_ble_eq_true rfl)

set_option maxHeartbeats 4000000 in
set_option maxRecDepth 100000 in
theorem c_X7_scan (l : Launch) (D : va_G) (g : Nat → ClassId) (x j ta ka : Nat) (ra ga da qa fa pa : Nat → Nat) (sg kc : Nat) (mk : Nat → Bool) (cb lc tm : Int) (an : Bool) (gr : Nat → Nat) (gn : Nat) (B : Nat → Nat → Nat → Bool) (Cn : Nat → Int) (r1 r2 r3 : Nat → Nat) (n : Nat) (Vv U Dn : Nat → Nat → Int) (w : Int) (hw : R32 w) (hn : n ≤ 300) (hv : vOK n Vv) : Ct (S := Unit) l D g yX7_scan cX7_scan 4 (some .int) rmX7_scan [.ref x, .int (iI w)] (wX x j ta ka ra ga da qa fa pa sg kc mk cb lc tm an ++ (wRights g ga gr gn B Cn ++ wRows g ra r1 r2 r3 n Vv U Dn)) (fun u => some (.int (iI (if 0 ≤ w ∧ w < 50 then (scanN B Vv w.toNat n : Int) else -1000001)))) (fun _ => True) (fun u => wX x j ta ka ra ga da qa fa pa sg kc mk cb lc tm an ++ (wRights g ga gr gn B Cn ++ wRows g ra r1 r2 r3 n Vv U Dn)) := by
  refine Ct.of RX7 rfl (by decide +kernel) [(0, .ref x), (1, .int (iI w))] rfl (Nat.le_of_ble_eq_true rfl) ?_
  intro pg evn sT mI bl mtd cd aA ls ar qQ zC zr zk zi zQ h hl
  have zx := zC.1
  have zb := zC.2.1
  have h : Hx D g sT aA sT.heap ((x, .inr (7, [.ref (ra 0), .ref (ga 0), .ref (da 0), .ref j, .ref ta, .int (iI (sg : Int)), .int (iI (bZ mk)), .int (iI cb), .long (lI lc), .ref (qa 0), .int (bI an), .ref (fa 0), .ref (pa 0), .ref ka, .int (iI (kc : Int)), .long (lI tm)])) :: ((wRights g ga gr gn B Cn) ++ (wRows g ra r1 r2 r3 n Vv U Dn))) sT.heap [] := h
  skip
  refine lv_iload_n zx zb dX7_scan_0 rfl (lv_at hl 1 rfl) ?_
  refine i_i2l zC (a := w) dX7_scan_1 (by omega) ?_
  refine lv_bipush (v := iI (50)) zx zb dX7_scan_2 rfl ?_
  refine r_invS (As := [.long (lI w), .int (iI 50)]) (rest := []) (wr := (x, .inr (7, [.ref (ra 0), .ref (ga 0), .ref (da 0), .ref j, .ref ta, .int (iI (sg : Int)), .int (iI (bZ mk)), .int (iI cb), .long (lI lc), .ref (qa 0), .int (bI an), .ref (fa 0), .ref (pa 0), .ref ka, .int (iI (kc : Int)), .long (lI tm)])) :: ((wRights g ga gr gn B Cn) ++ (wRows g ra r1 r2 r3 n Vv U Dn))) (ws2 := fun u_1 => (x, .inr (7, [.ref (ra 0), .ref (ga 0), .ref (da 0), .ref j, .ref ta, .int (iI (sg : Int)), .int (iI (bZ mk)), .int (iI cb), .long (lI lc), .ref (qa 0), .int (bI an), .ref (fa 0), .ref (pa 0), .ref ka, .int (iI (kc : Int)), .long (lI tm)])) :: ((wRights g ga gr gn B Cn) ++ (wRows g ra r1 r2 r3 n Vv U Dn))) 0 0 zC h hl.1 (c_X7_isBelow l D g w 50 (by omega) (by decide)) (cs7_89 zC ⟨(Nat.le_of_ble_eq_true rfl), (Nat.le_of_ble_eq_true rfl)⟩) rfl rfl (Nat.le_of_ble_eq_true rfl) (List.Perm.refl _) (fun u => List.Perm.refl _) ⟨(Nat.le_of_ble_eq_true rfl), (Nat.le_of_ble_eq_true rfl)⟩ (Nat.le_of_ble_eq_true rfl) (Nat.le_of_ble_eq_true rfl) dX7_scan_4 (fun u_1 H locs hu_1 hz_1 h => ?_)
  refine b_zne (b := decide (0 ≤ w ∧ w < 50)) (tgt := 13) zC dX7_scan_7 (by decide) (fun c_2 => ?_) (fun c_2 => ?_)
  · skip
    simp only [decide_eq_true_eq, decide_eq_false_iff_not] at c_2
    refine lv_iconst (v := iI (0)) zx zb dX7_scan_13 rfl ?_
    refine lv_istore_n (lv' := [(2, .int (iI 0)), (0, .ref x), (1, .int (iI w))]) zx zb dX7_scan_14 rfl hl (by decide) rfl (fun ls hl => ?_)
    refine lv_iconst (v := iI (1)) zx zb dX7_scan_15 rfl ?_
    refine lv_istore_n (lv' := [(3, .int (iI 1)), (2, .int (iI 0)), (0, .ref x), (1, .int (iI w))]) zx zb dX7_scan_16 rfl hl (by decide) rfl (fun ls hl => ?_)
    have L17_3 : ∀ (fuel : Nat) (k : Nat) (H : Heap) (locs : List Loc) (ls : Array Slot), n - k < fuel → (k ≤ n) → Hx D g sT aA sT.heap ((x, .inr (7, [.ref (ra 0), .ref (ga 0), .ref (da 0), .ref j, .ref ta, .int (iI (sg : Int)), .int (iI (bZ mk)), .int (iI cb), .long (lI lc), .ref (qa 0), .int (bI an), .ref (fa 0), .ref (pa 0), .ref ka, .int (iI (kc : Int)), .long (lI tm)])) :: ((wRights g ga gr gn B Cn) ++ (wRows g ra r1 r2 r3 n Vv U Dn))) H locs → lv_has ls 4 [(0, .ref x), (1, .int (iI w)), (2, .int (iI ((scanN B Vv w.toNat k : Nat) : Int))), (3, .int (iI ((k : Int) + 1)))] → W pg l evn rmX7_scan sT mI ar bl mtd cd H locs 0 0 qQ (F0 mI 17 ls []) := by
      intro fuel
      induction fuel with
      | zero => intro k H locs ls hm; exact absurd hm (Nat.not_lt_zero _)
      | succ fuel ih =>
        intro k H locs ls hm hk h hl
        refine lv_iload_n zx zb dX7_scan_17 rfl (lv_at hl 3 rfl) ?_
        refine lv_aload_n zx zb dX7_scan_18 rfl (lv_at hl 0 rfl) ?_
        refine gf7_10 (v := .ref (ra 0)) zC h 0 rfl rfl dX7_scan_19 ?_
        refine r_invV (As := []) (rest := [.int (iI ((k : Int) + 1))]) (wr := (x, .inr (7, [.ref (ra 0), .ref (ga 0), .ref (da 0), .ref j, .ref ta, .int (iI (sg : Int)), .int (iI (bZ mk)), .int (iI cb), .long (lI lc), .ref (qa 0), .int (bI an), .ref (fa 0), .ref (pa 0), .ref ka, .int (iI (kc : Int)), .long (lI tm)])) :: (wRights g ga gr gn B Cn)) (ws2 := fun u_4 => (x, .inr (7, [.ref (ra 0), .ref (ga 0), .ref (da 0), .ref j, .ref ta, .int (iI (sg : Int)), .int (iI (bZ mk)), .int (iI cb), .long (lI lc), .ref (qa 0), .int (bI an), .ref (fa 0), .ref (pa 0), .ref ka, .int (iI (kc : Int)), .long (lI tm)])) :: ((wRights g ga gr gn B Cn) ++ (wRows g ra r1 r2 r3 n Vv U Dn))) 0 0 zC h hl.1 (c_X6_count l D g ra r1 r2 r3 n Vv U Dn) (cs7_94 zC ⟨(Nat.le_of_ble_eq_true rfl), (Nat.le_of_ble_eq_true rfl)⟩) (.tail _ (List.mem_append_right _ wRows_mem)) rfl rfl rfl (Nat.le_of_ble_eq_true rfl) (pm fun cp_q => by simp only [cp_o, List.countP_append, List.countP_nil] <;> omega) (fun u => (pm fun cp_q => by simp only [cp_o, List.countP_append, List.countP_nil] <;> omega)) ⟨(Nat.le_of_ble_eq_true rfl), (Nat.le_of_ble_eq_true rfl)⟩ (Nat.le_of_ble_eq_true rfl) (Nat.le_of_ble_eq_true rfl) dX7_scan_22 (fun u_4 H locs hu_4 hz_4 h => ?_)
        refine i_cgt (a := (k : Int) + 1) (b := (n : Int)) (tgt := 46) zC dX7_scan_25 (by decide) (by omega) (fun c_5 => ?_) (fun c_5 => ?_)
        · skip
          refine lv_iload_n zx zb dX7_scan_46 rfl (lv_at hl 2 rfl) ?_
          exact r_iret zC zQ zr zk h dX7_scan_47 (u := ()) (by rw [if_pos (by omega), show k = n by omega]) (List.Perm.refl _) trivial (Nat.le_of_ble_eq_true rfl) (Nat.le_of_ble_eq_true rfl)
        · skip
          refine lv_aload_n zx zb dX7_scan_28 rfl (lv_at hl 0 rfl) ?_
          refine lv_iload_n zx zb dX7_scan_29 rfl (lv_at hl 1 rfl) ?_
          refine lv_iload_n zx zb dX7_scan_30 rfl (lv_at hl 3 rfl) ?_
          rw [show (w : Int) = (w.toNat : Int) from by omega]
          refine r_invV (As := [.int (iI (w.toNat : Int)), .int (iI ((k : Int) + 1))]) (rest := []) (wr := []) (ws2 := fun u_6 => (x, .inr (7, [.ref (ra 0), .ref (ga 0), .ref (da 0), .ref j, .ref ta, .int (iI (sg : Int)), .int (iI (bZ mk)), .int (iI cb), .long (lI lc), .ref (qa 0), .int (bI an), .ref (fa 0), .ref (pa 0), .ref ka, .int (iI (kc : Int)), .long (lI tm)])) :: ((wRights g ga gr gn B Cn) ++ (wRows g ra r1 r2 r3 n Vv U Dn))) 0 0 zC h hl.1 (c_X7_sees l D g x j ta ka ra ga da qa fa pa sg kc mk cb lc tm an gr gn B Cn r1 r2 r3 n Vv U Dn w.toNat k ((k : Int) + 1) (by omega) rfl (by omega) hn hv) (cs7_172 zC ⟨(Nat.le_of_ble_eq_true rfl), (Nat.le_of_ble_eq_true rfl)⟩) (.head _) rfl rfl rfl (Nat.le_of_ble_eq_true rfl) (pm fun cp_q => by simp only [cp_o, List.countP_append, List.countP_nil, wX] <;> omega) (fun u => (pm fun cp_q => by simp only [cp_o, List.countP_append, List.countP_nil, wX] <;> omega)) ⟨(Nat.le_of_ble_eq_true rfl), (Nat.le_of_ble_eq_true rfl)⟩ (Nat.le_of_ble_eq_true rfl) (Nat.le_of_ble_eq_true rfl) dX7_scan_31 (fun u_6 H locs hu_6 hz_6 h => ?_)
          refine b_zeq (b := seeX B w.toNat (Vv 4 k).toNat (Vv 1 k).toNat) (tgt := 40) zC dX7_scan_34 (by decide) (fun c_7 => ?_) (fun c_7 => ?_)
          · skip
            rw [show (((scanN B Vv w.toNat k : Nat) : Int) : Int) = ((scanN B Vv w.toNat (k + 1) : Nat) : Int) from by simp only [scanN]; rw [if_neg (by simp [c_7])]] at hl
            refine i_inc (q := 3) (a := (k : Int) + 1) (lv' := [(3, .int (iI ((k : Int) + 1 + 1))), (0, .ref x), (1, .int (iI w)), (2, .int (iI ((scanN B Vv w.toNat (k + 1) : Nat) : Int)))]) zC hl dX7_scan_40 rfl (by decide) rfl (fun ls hl => ?_)
            refine lv_goto (tgt := 17) zx zb dX7_scan_43 (by decide) ?_
            exact ih (k + 1) _ _ _ (by omega) (by omega) h (lv_sub hl [1, 2, 3, 0] rfl)
          · skip
            refine i_inc (q := 2) (a := ((scanN B Vv w.toNat k : Nat) : Int)) (lv' := [(2, .int (iI (((scanN B Vv w.toNat k : Nat) : Int) + 1))), (0, .ref x), (1, .int (iI w)), (3, .int (iI ((k : Int) + 1)))]) zC hl dX7_scan_37 rfl (by decide) rfl (fun ls hl => ?_)
            rw [show (((scanN B Vv w.toNat k : Nat) : Int) + 1 : Int) = ((scanN B Vv w.toNat (k + 1) : Nat) : Int) from by simp only [scanN]; rw [if_pos c_7]; rfl] at hl
            refine i_inc (q := 3) (a := (k : Int) + 1) (lv' := [(3, .int (iI ((k : Int) + 1 + 1))), (2, .int (iI ((scanN B Vv w.toNat (k + 1) : Nat) : Int))), (0, .ref x), (1, .int (iI w))]) zC hl dX7_scan_40 rfl (by decide) rfl (fun ls hl => ?_)
            refine lv_goto (tgt := 17) zx zb dX7_scan_43 (by decide) ?_
            exact ih (k + 1) _ _ _ (by omega) (by omega) h (lv_sub hl [2, 3, 1, 0] rfl)
    exact L17_3 _ 0 _ _ _ (Nat.lt_succ_self _) (by omega) h (lv_sub hl [2, 3, 1, 0] rfl)
  · skip
    simp only [decide_eq_true_eq, decide_eq_false_iff_not] at c_2
    refine kc7_103 zC dX7_scan_10 ?_
    exact r_iret zC zQ zr zk h dX7_scan_12 (u := ()) (by rw [if_neg (by omega)]) (List.Perm.refl _) trivial (Nat.le_of_ble_eq_true rfl) (Nat.le_of_ble_eq_true rfl)
