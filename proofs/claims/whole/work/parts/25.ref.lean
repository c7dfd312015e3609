/-! THE REFERENCE: its small methods -/
/-- the reference's own cell -/
abbrev oM (a : Nat → Nat) (mth : Int) (mrw : Int) (mrg : Int) (mbd : Int) (mnw : Int) (mlc : Int) (msz : Int) (man : Bool) (mas : Int) (mak : Int) (mkp : Int) (mfa : Int) (mte : Int) (mta : Int) (mlv : Int) (mct : Int) (mgr : Bool) (mgo : Int) (mgg : Bool) : va_E := .inr (8, [.int (iI mth), .int (iI mrw), .ref (a 1), .int (iI mrg), .ref (a 2), .ref (a 3), .ref (a 4), .ref (a 5), .long (lI mbd), .long (lI mnw), .long (lI mlc), .int (iI msz), .ref (a 6), .int (bI man), .int (iI mas), .ref (a 7), .int (iI mak), .int (iI mkp), .ref (a 8), .ref (a 9), .ref (a 10), .ref (a 11), .ref (a 12), .ref (a 13), .int (iI mfa), .int (iI mte), .int (iI mta), .int (iI mlv), .ref (a 14), .ref (a 15), .ref (a 16), .int (iI mct), .int (bI mgr), .ref (a 17), .ref (a 18), .int (iI mgo), .int (bI mgg), .ref (a 19), .ref (a 20), .ref (a 21)])

theorem iI_div2 {z : Int} (h : 0 ≤ z ∧ z < 1000000000) : iI z / iI 2 = iI (z / 2) := by
  apply Int32.toInt_inj.mp
  rw [Int32.toInt_div, iI_toInt (by constructor <;> omega), iI_toInt (by decide), iI_toInt (by constructor <;> omega), Int.tdiv_eq_ediv_of_nonneg h.1, Int.bmod_eq_of_le (by omega) (by omega)]
theorem iI_rem2 {z : Int} (h : 0 ≤ z ∧ z < 1000000000) : iI z - iI z / iI 2 * iI 2 = iI (z % 2) := by
  rw [iI_div2 h, iI_mul, iI_sub]
  congr 1
  omega
theorem decR {p q : Prop} [Decidable p] [Decidable q] (h : p ↔ q) : decide p = decide q := by simp only [h]

set_option maxHeartbeats 4000000 in
set_option maxRecDepth 100000 in
theorem c_X8_within (l : Launch) (D : va_G) (g : Nat → ClassId) (v lo hi : Int) (hv : R64 v) (h1 : R64 lo) (h2 : R64 hi) : Ct (S := Unit) l D g yX8_within cX8_within 6 (some .boolean) rmX8_within [.long (lI v), .long (lI lo), .long (lI hi)] ([]) (fun u => some (.int (bI (decide (lo ≤ v ∧ v ≤ hi))))) (fun _ => True) (fun u => []) := by
  refine Ct.of RX8 rfl (by decide +kernel) [(0, .long (lI v)), (2, .long (lI lo)), (4, .long (lI hi))] rfl (Nat.le_of_ble_eq_true rfl) ?_
  intro pg evn sT mI bl mtd cd aA ls ar qQ zC zr zk zi zQ h hl
  have zx := zC.1
  have zb := zC.2.1
  skip
  refine lv_lload_n zx zb dX8_within_0 rfl (lv_at hl 0 rfl) ?_
  refine lv_lload_n zx zb dX8_within_1 rfl (lv_at hl 1 rfl) ?_
  refine l_cmp zC (a := v) (b := lo) dX8_within_2 (by omega) (by omega) ?_
  refine i_zlt (a := lC v lo) (tgt := 17) zC dX8_within_3 (by decide) (lC_R _ _) (fun c_1 => ?_) (fun c_1 => ?_)
  · have c_1 := lC_lt.mp c_1
    refine lv_iconst (v := iI (0)) zx zb dX8_within_17 rfl ?_
    exact r_zret (b := false) zC zQ zr zk h dX8_within_18 rfl (u := ()) (by rw [decide_eq_false (show ¬ (lo ≤ v ∧ v ≤ hi) by omega)]; rfl) (List.Perm.refl _) trivial (Nat.le_of_ble_eq_true rfl) (Nat.le_of_ble_eq_true rfl)
  · have c_1 := lC_ge.mp c_1
    refine lv_lload_n zx zb dX8_within_6 rfl (lv_at hl 0 rfl) ?_
    refine lv_lload zx zb dX8_within_7 (lv_at hl 2 rfl) ?_
    refine l_cmp zC (a := v) (b := hi) dX8_within_9 (by omega) (by omega) ?_
    refine i_zgt (a := lC v hi) (tgt := 17) zC dX8_within_10 (by decide) (lC_R _ _) (fun c_2 => ?_) (fun c_2 => ?_)
    · have c_2 := lC_gt.mp c_2
      refine lv_iconst (v := iI (0)) zx zb dX8_within_17 rfl ?_
      exact r_zret (b := false) zC zQ zr zk h dX8_within_18 rfl (u := ()) (by rw [decide_eq_false (show ¬ (lo ≤ v ∧ v ≤ hi) by omega)]; rfl) (List.Perm.refl _) trivial (Nat.le_of_ble_eq_true rfl) (Nat.le_of_ble_eq_true rfl)
    · have c_2 := lC_le.mp c_2
      refine lv_iconst (v := iI (1)) zx zb dX8_within_13 rfl ?_
      refine lv_goto (tgt := 18) zx zb dX8_within_14 (by decide) ?_
      exact r_zret (b := true) zC zQ zr zk h dX8_within_18 rfl (u := ()) (by rw [decide_eq_true (show lo ≤ v ∧ v ≤ hi by omega)]; rfl) (List.Perm.refl _) trivial (Nat.le_of_ble_eq_true rfl) (Nat.le_of_ble_eq_true rfl)

set_option maxHeartbeats 4000000 in
set_option maxRecDepth 100000 in
theorem c_X8_isAsker (l : Launch) (D : va_G) (g : Nat → ClassId) (v : Int) (hv : R32 v) : Ct (S := Unit) l D g yX8_isAsker cX8_isAsker 1 (some .boolean) rmX8_isAsker [.int (iI v)] ([]) (fun u => some (.int (bI (decide (0 ≤ v ∧ v < 50))))) (fun _ => True) (fun u => []) := by
  refine Ct.of RX8 rfl (by decide +kernel) [(0, .int (iI v))] rfl (Nat.le_of_ble_eq_true rfl) ?_
  intro pg evn sT mI bl mtd cd aA ls ar qQ zC zr zk zi zQ h hl
  have zx := zC.1
  have zb := zC.2.1
  skip
  refine lv_iload_n zx zb dX8_isAsker_0 rfl (lv_at hl 0 rfl) ?_
  refine i_i2l zC (a := v) dX8_isAsker_1 (by omega) ?_
  refine lv_lconst (v := lI 0) zx zb dX8_isAsker_2 rfl ?_
  refine kl8_88 zC dX8_isAsker_3 ?_
  refine r_invS (As := [.long (lI v), .long (lI 0), .long (lI 49)]) (rest := []) (wr := []) (ws2 := fun u_1 => []) 0 0 zC h hl.1 (c_X8_within l D g v 0 49 (by omega) (by omega) (by omega)) (cs8_90 zC ⟨(Nat.le_of_ble_eq_true rfl), (Nat.le_of_ble_eq_true rfl)⟩) rfl rfl (Nat.le_of_ble_eq_true rfl) (List.Perm.refl _) (fun u => List.Perm.refl _) ⟨(Nat.le_of_ble_eq_true rfl), (Nat.le_of_ble_eq_true rfl)⟩ (Nat.le_of_ble_eq_true rfl) (Nat.le_of_ble_eq_true rfl) dX8_isAsker_6 (fun u_1 H locs hu_1 hz_1 h => ?_)
  exact r_zret (b := decide (0 ≤ v ∧ v ≤ 49)) zC zQ zr zk h dX8_isAsker_9 rfl (u := ()) (by rw [decR (show (0 ≤ v ∧ v ≤ 49) ↔ (0 ≤ v ∧ v < 50) by omega)]) (List.Perm.refl _) trivial (Nat.le_of_ble_eq_true rfl) (Nat.le_of_ble_eq_true rfl)

set_option maxHeartbeats 4000000 in
set_option maxRecDepth 100000 in
theorem c_X8_fieldOf (l : Launch) (D : va_G) (g : Nat → ClassId) (c : Int) (hc : R32 c) : Ct (S := Unit) l D g yX8_fieldOf cX8_fieldOf 1 (some .int) rmX8_fieldOf [.int (iI c)] ([]) (fun u => some (.int (iI (fOf c)))) (fun _ => True) (fun u => []) := by
  refine Ct.of RX8 rfl (by decide +kernel) [(0, .int (iI c))] rfl (Nat.le_of_ble_eq_true rfl) ?_
  intro pg evn sT mI bl mtd cd aA ls ar qQ zC zr zk zi zQ h hl
  have zx := zC.1
  have zb := zC.2.1
  skip
  refine lv_iload_n zx zb dX8_fieldOf_0 rfl (lv_at hl 0 rfl) ?_
  refine lv_bipush (v := iI (105)) zx zb dX8_fieldOf_1 rfl ?_
  refine i_cne (a := c) (b := 105) (tgt := 10) zC dX8_fieldOf_3 (by decide) (by omega) (fun c_1 => ?_) (fun c_1 => ?_)
  · skip
    refine lv_iload_n zx zb dX8_fieldOf_10 rfl (lv_at hl 0 rfl) ?_
    refine lv_bipush (v := iI (107)) zx zb dX8_fieldOf_11 rfl ?_
    refine i_cne (a := c) (b := 107) (tgt := 20) zC dX8_fieldOf_13 (by decide) (by omega) (fun c_2 => ?_) (fun c_2 => ?_)
    · skip
      refine lv_iload_n zx zb dX8_fieldOf_20 rfl (lv_at hl 0 rfl) ?_
      refine lv_bipush (v := iI (112)) zx zb dX8_fieldOf_21 rfl ?_
      refine i_cne (a := c) (b := 112) (tgt := 30) zC dX8_fieldOf_23 (by decide) (by omega) (fun c_3 => ?_) (fun c_3 => ?_)
      · skip
        refine lv_iload_n zx zb dX8_fieldOf_30 rfl (lv_at hl 0 rfl) ?_
        refine lv_bipush (v := iI (100)) zx zb dX8_fieldOf_31 rfl ?_
        refine i_cne (a := c) (b := 100) (tgt := 40) zC dX8_fieldOf_33 (by decide) (by omega) (fun c_4 => ?_) (fun c_4 => ?_)
        · skip
          refine lv_iload_n zx zb dX8_fieldOf_40 rfl (lv_at hl 0 rfl) ?_
          refine lv_bipush (v := iI (111)) zx zb dX8_fieldOf_41 rfl ?_
          refine i_cne (a := c) (b := 111) (tgt := 50) zC dX8_fieldOf_43 (by decide) (by omega) (fun c_5 => ?_) (fun c_5 => ?_)
          · skip
            refine lv_iconst (v := iI (-1)) zx zb dX8_fieldOf_50 rfl ?_
            exact r_iret zC zQ zr zk h dX8_fieldOf_51 (u := ()) (by rw [show fOf c = -1 from by unfold fOf; omega]) (List.Perm.refl _) trivial (Nat.le_of_ble_eq_true rfl) (Nat.le_of_ble_eq_true rfl)
          · skip
            refine lv_iconst (v := iI (4)) zx zb dX8_fieldOf_46 rfl ?_
            refine lv_goto (tgt := 51) zx zb dX8_fieldOf_47 (by decide) ?_
            exact r_iret zC zQ zr zk h dX8_fieldOf_51 (u := ()) (by rw [show fOf c = 4 from by unfold fOf; omega]) (List.Perm.refl _) trivial (Nat.le_of_ble_eq_true rfl) (Nat.le_of_ble_eq_true rfl)
        · skip
          refine lv_iconst (v := iI (3)) zx zb dX8_fieldOf_36 rfl ?_
          refine lv_goto (tgt := 51) zx zb dX8_fieldOf_37 (by decide) ?_
          exact r_iret zC zQ zr zk h dX8_fieldOf_51 (u := ()) (by rw [show fOf c = 3 from by unfold fOf; omega]) (List.Perm.refl _) trivial (Nat.le_of_ble_eq_true rfl) (Nat.le_of_ble_eq_true rfl)
      · skip
        refine lv_iconst (v := iI (2)) zx zb dX8_fieldOf_26 rfl ?_
        refine lv_goto (tgt := 51) zx zb dX8_fieldOf_27 (by decide) ?_
        exact r_iret zC zQ zr zk h dX8_fieldOf_51 (u := ()) (by rw [show fOf c = 2 from by unfold fOf; omega]) (List.Perm.refl _) trivial (Nat.le_of_ble_eq_true rfl) (Nat.le_of_ble_eq_true rfl)
    · skip
      refine lv_iconst (v := iI (1)) zx zb dX8_fieldOf_16 rfl ?_
      refine lv_goto (tgt := 51) zx zb dX8_fieldOf_17 (by decide) ?_
      exact r_iret zC zQ zr zk h dX8_fieldOf_51 (u := ()) (by rw [show fOf c = 1 from by unfold fOf; omega]) (List.Perm.refl _) trivial (Nat.le_of_ble_eq_true rfl) (Nat.le_of_ble_eq_true rfl)
  · skip
    refine lv_iconst (v := iI (0)) zx zb dX8_fieldOf_6 rfl ?_
    refine lv_goto (tgt := 51) zx zb dX8_fieldOf_7 (by decide) ?_
    exact r_iret zC zQ zr zk h dX8_fieldOf_51 (u := ()) (by rw [show fOf c = 0 from by unfold fOf; omega]) (List.Perm.refl _) trivial (Nat.le_of_ble_eq_true rfl) (Nat.le_of_ble_eq_true rfl)

set_option maxHeartbeats 4000000 in
set_option maxRecDepth 100000 in
theorem c_X8_isTail (l : Launch) (D : va_G) (g : Nat → ClassId) (c : Int) (hc : R32 c) : Ct (S := Unit) l D g yX8_isTail cX8_isTail 1 (some .boolean) rmX8_isTail [.int (iI c)] ([]) (fun u => some (.int (bI (decide (tOf c ≠ 0))))) (fun _ => True) (fun u => []) := by
  refine Ct.of RX8 rfl (by decide +kernel) [(0, .int (iI c))] rfl (Nat.le_of_ble_eq_true rfl) ?_
  intro pg evn sT mI bl mtd cd aA ls ar qQ zC zr zk zi zQ h hl
  have zx := zC.1
  have zb := zC.2.1
  skip
  refine lv_iload_n zx zb dX8_isTail_0 rfl (lv_at hl 0 rfl) ?_
  refine lv_bipush (v := iI (35)) zx zb dX8_isTail_1 rfl ?_
  refine i_ceq (a := c) (b := 35) (tgt := 18) zC dX8_isTail_3 (by decide) (by omega) (fun c_1 => ?_) (fun c_1 => ?_)
  · skip
    refine lv_iconst (v := iI (1)) zx zb dX8_isTail_18 rfl ?_
    refine lv_goto (tgt := 23) zx zb dX8_isTail_19 (by decide) ?_
    exact r_zret (b := true) zC zQ zr zk h dX8_isTail_23 rfl (u := ()) (by rw [decide_eq_true (show tOf c ≠ 0 by unfold tOf; omega)]; rfl) (List.Perm.refl _) trivial (Nat.le_of_ble_eq_true rfl) (Nat.le_of_ble_eq_true rfl)
  · skip
    refine lv_iload_n zx zb dX8_isTail_6 rfl (lv_at hl 0 rfl) ?_
    refine lv_bipush (v := iI (43)) zx zb dX8_isTail_7 rfl ?_
    refine i_ceq (a := c) (b := 43) (tgt := 18) zC dX8_isTail_9 (by decide) (by omega) (fun c_2 => ?_) (fun c_2 => ?_)
    · skip
      refine lv_iconst (v := iI (1)) zx zb dX8_isTail_18 rfl ?_
      refine lv_goto (tgt := 23) zx zb dX8_isTail_19 (by decide) ?_
      exact r_zret (b := true) zC zQ zr zk h dX8_isTail_23 rfl (u := ()) (by rw [decide_eq_true (show tOf c ≠ 0 by unfold tOf; omega)]; rfl) (List.Perm.refl _) trivial (Nat.le_of_ble_eq_true rfl) (Nat.le_of_ble_eq_true rfl)
    · skip
      refine lv_iload_n zx zb dX8_isTail_12 rfl (lv_at hl 0 rfl) ?_
      refine lv_bipush (v := iI (45)) zx zb dX8_isTail_13 rfl ?_
      refine i_cne (a := c) (b := 45) (tgt := 22) zC dX8_isTail_15 (by decide) (by omega) (fun c_3 => ?_) (fun c_3 => ?_)
      · skip
        refine lv_iconst (v := iI (0)) zx zb dX8_isTail_22 rfl ?_
        exact r_zret (b := false) zC zQ zr zk h dX8_isTail_23 rfl (u := ()) (by rw [decide_eq_false (show ¬ tOf c ≠ 0 by unfold tOf; omega)]; rfl) (List.Perm.refl _) trivial (Nat.le_of_ble_eq_true rfl) (Nat.le_of_ble_eq_true rfl)
      · skip
        refine lv_iconst (v := iI (1)) zx zb dX8_isTail_18 rfl ?_
        refine lv_goto (tgt := 23) zx zb dX8_isTail_19 (by decide) ?_
        exact r_zret (b := true) zC zQ zr zk h dX8_isTail_23 rfl (u := ()) (by rw [decide_eq_true (show tOf c ≠ 0 by unfold tOf; omega)]; rfl) (List.Perm.refl _) trivial (Nat.le_of_ble_eq_true rfl) (Nat.le_of_ble_eq_true rfl)

def atT (F : Nat → Int) (from_ n k : Nat) : Int := if k < n then F (from_ + k) else 0

set_option maxHeartbeats 4000000 in
set_option maxRecDepth 100000 in
theorem c_X8_at (l : Launch) (D : va_G) (g : Nat → ClassId) (s len : Nat) (F : Nat → Int) (from_ n k : Nat) (hn : from_ + n ≤ len) (hl : len < 100000) (hk : k < 200000) : Ct (S := Unit) l D g yX8_at cX8_at 4 (some .int) rmX8_at [.ref s, .int (iI (from_ : Int)), .int (iI (n : Int)), .int (iI (k : Int))] ([(s, cI g len F)]) (fun u => some (.int (iI (atT F from_ n k)))) (fun _ => True) (fun u => [(s, cI g len F)]) := by
  refine Ct.of RX8 rfl (by decide +kernel) [(0, .ref s), (1, .int (iI (from_ : Int))), (2, .int (iI (n : Int))), (3, .int (iI (k : Int)))] rfl (Nat.le_of_ble_eq_true rfl) ?_
  intro pg evn sT mI bl mtd cd aA ls ar qQ zC zr zk zi zQ h hl
  have zx := zC.1
  have zb := zC.2.1
  have hlen := hl
  skip
  refine lv_iload_n zx zb dX8_at_0 rfl (lv_at hl 3 rfl) ?_
  refine lv_iload_n zx zb dX8_at_1 rfl (lv_at hl 2 rfl) ?_
  refine i_cge (a := (k : Int)) (b := (n : Int)) (tgt := 13) zC dX8_at_2 (by decide) (by omega) (fun c_1 => ?_) (fun c_1 => ?_)
  · skip
    refine lv_iconst (v := iI (0)) zx zb dX8_at_13 rfl ?_
    exact r_iret zC zQ zr zk h dX8_at_14 (u := ()) (by unfold atT; rw [if_neg (by omega)]) (List.Perm.refl _) trivial (Nat.le_of_ble_eq_true rfl) (Nat.le_of_ble_eq_true rfl)
  · skip
    refine lv_aload_n zx zb dX8_at_5 rfl (lv_at hl 0 rfl) ?_
    refine lv_iload_n zx zb dX8_at_6 rfl (lv_at hl 1 rfl) ?_
    refine lv_iload_n zx zb dX8_at_7 rfl (lv_at hl 3 rfl) ?_
    refine i_add zC (a := (from_ : Int)) (b := (k : Int)) dX8_at_8 ?_
    refine a_ild zC h 0 rfl (z := (from_ : Int) + (k : Int)) (from_ + k) (by omega) (by omega) (by omega) dX8_at_9 ?_
    refine lv_goto (tgt := 14) zx zb dX8_at_10 (by decide) ?_
    exact r_iret zC zQ zr zk h dX8_at_14 (u := ()) (by unfold atT; rw [if_pos (by omega)]) (List.Perm.refl _) trivial (Nat.le_of_ble_eq_true rfl) (Nat.le_of_ble_eq_true rfl)

set_option maxHeartbeats 4000000 in
set_option maxRecDepth 100000 in
theorem c_X8_overs (l : Launch) (D : va_G) (g : Nat → ClassId) (a : Nat → Nat) (mth mrw mrg mbd mnw mlc msz mas mak mkp mfa mte mta mct mgo : Int) (man mgr mgg : Bool) (lv : Nat) (NO : Nat → Int)  (hlv : lv < 22) : Ct (S := Unit) l D g yX8_overs cX8_overs 2 (some .int) rmX8_overs [.ref (a 0)] ([(a 0, oM a mth mrw mrg mbd mnw mlc msz man mas mak mkp mfa mte mta (lv : Int) mct mgr mgo mgg), (a 14, cI g 22 NO)]) (fun u => some (.int (iI (NO lv)))) (fun _ => True) (fun u => [(a 0, oM a mth mrw mrg mbd mnw mlc msz man mas mak mkp mfa mte mta (lv : Int) mct mgr mgo mgg), (a 14, cI g 22 (up NO lv 0))]) := by
  refine Ct.of RX8 rfl (by decide +kernel) [(0, .ref (a 0))] rfl (Nat.le_of_ble_eq_true rfl) ?_
  intro pg evn sT mI bl mtd cd aA ls ar qQ zC zr zk zi zQ h hl
  have zx := zC.1
  have zb := zC.2.1
  skip
  refine lv_aload_n zx zb dX8_overs_0 rfl (lv_at hl 0 rfl) ?_
  refine gf8_57 (v := .ref (a 14)) zC h 0 rfl rfl dX8_overs_1 ?_
  refine lv_aload_n zx zb dX8_overs_4 rfl (lv_at hl 0 rfl) ?_
  refine gf8_111 (v := .int (iI (lv : Int))) zC h 0 rfl rfl dX8_overs_5 ?_
  refine a_ild zC h 1 rfl (z := (lv : Int)) lv (by omega) (by omega) (by decide) dX8_overs_8 ?_
  refine lv_istore_n (lv' := [(1, .int (iI (NO lv))), (0, .ref (a 0))]) zx zb dX8_overs_9 rfl hl (by decide) rfl (fun ls hl => ?_)
  refine lv_aload_n zx zb dX8_overs_10 rfl (lv_at hl 1 rfl) ?_
  refine gf8_57 (v := .ref (a 14)) zC h 0 rfl rfl dX8_overs_11 ?_
  refine lv_aload_n zx zb dX8_overs_14 rfl (lv_at hl 1 rfl) ?_
  refine gf8_111 (v := .int (iI (lv : Int))) zC h 0 rfl rfl dX8_overs_15 ?_
  refine lv_iconst (v := iI (0)) zx zb dX8_overs_18 rfl ?_
  refine a_ist (x := 0) zC h 1 (ws' := [(a 0, oM a mth mrw mrg mbd mnw mlc msz man mas mak mkp mfa mte mta (lv : Int) mct mgr mgo mgg), (a 14, cI g 22 (up NO lv 0))]) rfl (z := (lv : Int)) lv rfl (by omega) (by omega) (by decide) dX8_overs_19 (fun H locs h => ?_)
  refine lv_iload_n zx zb dX8_overs_20 rfl (lv_at hl 0 rfl) ?_
  exact r_iret zC zQ zr zk h dX8_overs_21 (u := ()) rfl (List.Perm.refl _) trivial (Nat.le_of_ble_eq_true rfl) (Nat.le_of_ble_eq_true rfl)

set_option maxHeartbeats 4000000 in
set_option maxRecDepth 100000 in
theorem c_X8_field (l : Launch) (D : va_G) (g : Nat → ClassId) (a : Nat → Nat) (mth mrw mrg mbd mnw mlc msz mas mak mkp mfa mte mta mlv mct mgo : Int) (man mgr mgg : Bool) (FI : Nat → Int) (row f : Nat) (hr : row ≤ 300) (hf : f < 5) : Ct (S := Unit) l D g yX8_field cX8_field 3 (some .int) rmX8_field [.ref (a 0), .int (iI (row : Int)), .int (iI (f : Int))] ([(a 0, oM a mth mrw mrg mbd mnw mlc msz man mas mak mkp mfa mte mta mlv mct mgr mgo mgg), (a 1, cI g 1505 FI)]) (fun u => some (.int (iI (FI (5 * row + f))))) (fun _ => True) (fun u => [(a 0, oM a mth mrw mrg mbd mnw mlc msz man mas mak mkp mfa mte mta mlv mct mgr mgo mgg), (a 1, cI g 1505 FI)]) := by
  refine Ct.of RX8 rfl (by decide +kernel) [(0, .ref (a 0)), (1, .int (iI (row : Int))), (2, .int (iI (f : Int)))] rfl (Nat.le_of_ble_eq_true rfl) ?_
  intro pg evn sT mI bl mtd cd aA ls ar qQ zC zr zk zi zQ h hl
  have zx := zC.1
  have zb := zC.2.1
  skip
  refine lv_aload_n zx zb dX8_field_0 rfl (lv_at hl 0 rfl) ?_
  refine gf8_7 (v := .ref (a 1)) zC h 0 rfl rfl dX8_field_1 ?_
  refine lv_iconst (v := iI (5)) zx zb dX8_field_4 rfl ?_
  refine lv_iload_n zx zb dX8_field_5 rfl (lv_at hl 1 rfl) ?_
  refine i_mul zC (a := 5) (b := (row : Int)) dX8_field_6 ?_
  refine lv_iload_n zx zb dX8_field_7 rfl (lv_at hl 2 rfl) ?_
  refine i_add zC (a := 5 * (row : Int)) (b := (f : Int)) dX8_field_8 ?_
  refine a_ild zC h 1 rfl (z := 5 * (row : Int) + (f : Int)) (5 * row + f) (by omega) (by omega) (by decide) dX8_field_9 ?_
  exact r_iret zC zQ zr zk h dX8_field_10 (u := ()) rfl (List.Perm.refl _) trivial (Nat.le_of_ble_eq_true rfl) (Nat.le_of_ble_eq_true rfl)

set_option maxHeartbeats 4000000 in
set_option maxRecDepth 100000 in
theorem c_X8_test (l : Launch) (D : va_G) (g : Nat → ClassId) (a : Nat → Nat) (mth mrw mrg mbd mnw mlc msz mas mak mkp mfa mte mta mct mgo : Int) (man mgr mgg : Bool) (lv : Nat) (NO : Nat → Int) (AN : Nat → Bool) (b : Bool) (hlv : lv < 22) (hN : 0 ≤ NO lv ∧ NO lv < 1000000000) : Ct (S := Unit) l D g yX8_test cX8_test 3 none rmX8_test [.ref (a 0), .int (bI b)] ([(a 0, oM a mth mrw mrg mbd mnw mlc msz man mas mak mkp mfa mte mta (lv : Int) mct mgr mgo mgg), (a 14, cI g 22 NO), (a 16, cZ g 22 AN)]) (fun u => none) (fun _ => True) (fun u => [(a 0, oM a mth mrw mrg mbd mnw mlc msz man mas mak mkp mfa mte mta (lv : Int) mct mgr mgo mgg), (a 14, cI g 22 (up NO lv 0)), (a 16, cZ g 22 (up AN lv (AN lv && (b != decide (NO lv % 2 = 1)))))]) := by
  refine Ct.of RX8 rfl (by decide +kernel) [(0, .ref (a 0)), (1, .int (bI b))] rfl (Nat.le_of_ble_eq_true rfl) ?_
  intro pg evn sT mI bl mtd cd aA ls ar qQ zC zr zk zi zQ h hl
  have zx := zC.1
  have zb := zC.2.1
  skip
  refine lv_aload_n zx zb dX8_test_0 rfl (lv_at hl 0 rfl) ?_
  refine gf8_57 (v := .ref (a 14)) zC h 0 rfl rfl dX8_test_1 ?_
  refine lv_aload_n zx zb dX8_test_4 rfl (lv_at hl 0 rfl) ?_
  refine gf8_111 (v := .int (iI (lv : Int))) zC h 0 rfl rfl dX8_test_5 ?_
  refine a_ild zC h 1 rfl (z := (lv : Int)) lv (by omega) (by omega) (by decide) dX8_test_8 ?_
  refine lv_iconst (v := iI (2)) zx zb dX8_test_9 rfl ?_
  refine lv_irem zx zb dX8_test_10 (by decide) ?_
  rw [iI_rem2 hN]
  refine lv_iconst (v := iI (1)) zx zb dX8_test_11 rfl ?_
  refine i_cne (a := NO lv % 2) (b := 1) (tgt := 19) zC dX8_test_12 (by decide) (by omega) (fun c_1 => ?_) (fun c_1 => ?_)
  · skip
    refine lv_iconst (v := iI (0)) zx zb dX8_test_19 rfl ?_
    refine lv_istore_n (lv' := [(2, .int (iI 0)), (0, .ref (a 0)), (1, .int (bI b))]) zx zb dX8_test_20 rfl hl (by decide) rfl (fun ls hl => ?_)
    refine lv_aload_n zx zb dX8_test_21 rfl (lv_at hl 1 rfl) ?_
    refine gf8_57 (v := .ref (a 14)) zC h 0 rfl rfl dX8_test_22 ?_
    refine lv_aload_n zx zb dX8_test_25 rfl (lv_at hl 1 rfl) ?_
    refine gf8_111 (v := .int (iI (lv : Int))) zC h 0 rfl rfl dX8_test_26 ?_
    refine lv_iconst (v := iI (0)) zx zb dX8_test_29 rfl ?_
    refine a_ist (x := 0) zC h 1 (ws' := [(a 0, oM a mth mrw mrg mbd mnw mlc msz man mas mak mkp mfa mte mta (lv : Int) mct mgr mgo mgg), (a 14, cI g 22 (up NO lv 0)), (a 16, cZ g 22 AN)]) rfl (z := (lv : Int)) lv rfl (by omega) (by omega) (by decide) dX8_test_30 (fun H locs h => ?_)
    refine lv_aload_n zx zb dX8_test_31 rfl (lv_at hl 1 rfl) ?_
    refine gf8_63 (v := .ref (a 16)) zC h 0 rfl rfl dX8_test_32 ?_
    refine lv_aload_n zx zb dX8_test_35 rfl (lv_at hl 1 rfl) ?_
    refine gf8_111 (v := .int (iI (lv : Int))) zC h 0 rfl rfl dX8_test_36 ?_
    refine lv_aload_n zx zb dX8_test_39 rfl (lv_at hl 1 rfl) ?_
    refine gf8_63 (v := .ref (a 16)) zC h 0 rfl rfl dX8_test_40 ?_
    refine lv_aload_n zx zb dX8_test_43 rfl (lv_at hl 1 rfl) ?_
    refine gf8_111 (v := .int (iI (lv : Int))) zC h 0 rfl rfl dX8_test_44 ?_
    refine a_zld zC h 2 rfl (z := (lv : Int)) lv (by omega) (by omega) (by decide) dX8_test_47 ?_
    refine b_zeq (b := AN lv) (tgt := 60) zC dX8_test_48 (by decide) (fun c_2 => ?_) (fun c_2 => ?_)
    · skip
      refine lv_iconst (v := iI (0)) zx zb dX8_test_60 rfl ?_
      refine a_zst (x := false) zC h 2 (ws' := [(a 0, oM a mth mrw mrg mbd mnw mlc msz man mas mak mkp mfa mte mta (lv : Int) mct mgr mgo mgg), (a 14, cI g 22 (up NO lv 0)), (a 16, cZ g 22 (up AN lv (AN lv && (b != decide (NO lv % 2 = 1)))))]) rfl (z := (lv : Int)) lv (by rw [show up AN lv false = up AN lv (AN lv && (b != decide (NO lv % 2 = 1))) from (congrArg (up AN lv) (by simp [c_1, c_2]))]; rfl) (by omega) (by omega) (by decide) dX8_test_61 (fun H locs h => ?_)
      exact r_vret zC zQ zr zk h dX8_test_62 (u := ()) rfl (List.Perm.refl _) trivial (Nat.le_of_ble_eq_true rfl) (Nat.le_of_ble_eq_true rfl)
    · skip
      refine lv_iload_n zx zb dX8_test_51 rfl (lv_at hl 2 rfl) ?_
      refine lv_iload_n zx zb dX8_test_52 rfl (lv_at hl 0 rfl) ?_
      refine b_ceq (a := b) (b := false) (tgt := 60) zC dX8_test_53 (by decide) (fun c_3 => ?_) (fun c_3 => ?_)
      · skip
        refine lv_iconst (v := iI (0)) zx zb dX8_test_60 rfl ?_
        refine a_zst (x := false) zC h 2 (ws' := [(a 0, oM a mth mrw mrg mbd mnw mlc msz man mas mak mkp mfa mte mta (lv : Int) mct mgr mgo mgg), (a 14, cI g 22 (up NO lv 0)), (a 16, cZ g 22 (up AN lv (AN lv && (b != decide (NO lv % 2 = 1)))))]) rfl (z := (lv : Int)) lv (by rw [show up AN lv false = up AN lv (AN lv && (b != decide (NO lv % 2 = 1))) from (congrArg (up AN lv) (by simp [c_1, c_2, c_3]))]; rfl) (by omega) (by omega) (by decide) dX8_test_61 (fun H locs h => ?_)
        exact r_vret zC zQ zr zk h dX8_test_62 (u := ()) rfl (List.Perm.refl _) trivial (Nat.le_of_ble_eq_true rfl) (Nat.le_of_ble_eq_true rfl)
      · skip
        refine lv_iconst (v := iI (1)) zx zb dX8_test_56 rfl ?_
        refine lv_goto (tgt := 61) zx zb dX8_test_57 (by decide) ?_
        refine a_zst (x := true) zC h 2 (ws' := [(a 0, oM a mth mrw mrg mbd mnw mlc msz man mas mak mkp mfa mte mta (lv : Int) mct mgr mgo mgg), (a 14, cI g 22 (up NO lv 0)), (a 16, cZ g 22 (up AN lv (AN lv && (b != decide (NO lv % 2 = 1)))))]) rfl (z := (lv : Int)) lv (by rw [show up AN lv true = up AN lv (AN lv && (b != decide (NO lv % 2 = 1))) from (congrArg (up AN lv) (by simp [c_1, c_2, c_3]))]; rfl) (by omega) (by omega) (by decide) dX8_test_61 (fun H locs h => ?_)
        exact r_vret zC zQ zr zk h dX8_test_62 (u := ()) rfl (List.Perm.refl _) trivial (Nat.le_of_ble_eq_true rfl) (Nat.le_of_ble_eq_true rfl)
  · skip
    refine lv_iconst (v := iI (1)) zx zb dX8_test_15 rfl ?_
    refine lv_goto (tgt := 20) zx zb dX8_test_16 (by decide) ?_
    refine lv_istore_n (lv' := [(2, .int (iI 1)), (0, .ref (a 0)), (1, .int (bI b))]) zx zb dX8_test_20 rfl hl (by decide) rfl (fun ls hl => ?_)
    refine lv_aload_n zx zb dX8_test_21 rfl (lv_at hl 1 rfl) ?_
    refine gf8_57 (v := .ref (a 14)) zC h 0 rfl rfl dX8_test_22 ?_
    refine lv_aload_n zx zb dX8_test_25 rfl (lv_at hl 1 rfl) ?_
    refine gf8_111 (v := .int (iI (lv : Int))) zC h 0 rfl rfl dX8_test_26 ?_
    refine lv_iconst (v := iI (0)) zx zb dX8_test_29 rfl ?_
    refine a_ist (x := 0) zC h 1 (ws' := [(a 0, oM a mth mrw mrg mbd mnw mlc msz man mas mak mkp mfa mte mta (lv : Int) mct mgr mgo mgg), (a 14, cI g 22 (up NO lv 0)), (a 16, cZ g 22 AN)]) rfl (z := (lv : Int)) lv rfl (by omega) (by omega) (by decide) dX8_test_30 (fun H locs h => ?_)
    refine lv_aload_n zx zb dX8_test_31 rfl (lv_at hl 1 rfl) ?_
    refine gf8_63 (v := .ref (a 16)) zC h 0 rfl rfl dX8_test_32 ?_
    refine lv_aload_n zx zb dX8_test_35 rfl (lv_at hl 1 rfl) ?_
    refine gf8_111 (v := .int (iI (lv : Int))) zC h 0 rfl rfl dX8_test_36 ?_
    refine lv_aload_n zx zb dX8_test_39 rfl (lv_at hl 1 rfl) ?_
    refine gf8_63 (v := .ref (a 16)) zC h 0 rfl rfl dX8_test_40 ?_
    refine lv_aload_n zx zb dX8_test_43 rfl (lv_at hl 1 rfl) ?_
    refine gf8_111 (v := .int (iI (lv : Int))) zC h 0 rfl rfl dX8_test_44 ?_
    refine a_zld zC h 2 rfl (z := (lv : Int)) lv (by omega) (by omega) (by decide) dX8_test_47 ?_
    refine b_zeq (b := AN lv) (tgt := 60) zC dX8_test_48 (by decide) (fun c_4 => ?_) (fun c_4 => ?_)
    · skip
      refine lv_iconst (v := iI (0)) zx zb dX8_test_60 rfl ?_
      refine a_zst (x := false) zC h 2 (ws' := [(a 0, oM a mth mrw mrg mbd mnw mlc msz man mas mak mkp mfa mte mta (lv : Int) mct mgr mgo mgg), (a 14, cI g 22 (up NO lv 0)), (a 16, cZ g 22 (up AN lv (AN lv && (b != decide (NO lv % 2 = 1)))))]) rfl (z := (lv : Int)) lv (by rw [show up AN lv false = up AN lv (AN lv && (b != decide (NO lv % 2 = 1))) from (congrArg (up AN lv) (by simp [c_1, c_4]))]; rfl) (by omega) (by omega) (by decide) dX8_test_61 (fun H locs h => ?_)
      exact r_vret zC zQ zr zk h dX8_test_62 (u := ()) rfl (List.Perm.refl _) trivial (Nat.le_of_ble_eq_true rfl) (Nat.le_of_ble_eq_true rfl)
    · skip
      refine lv_iload_n zx zb dX8_test_51 rfl (lv_at hl 2 rfl) ?_
      refine lv_iload_n zx zb dX8_test_52 rfl (lv_at hl 0 rfl) ?_
      refine b_ceq (a := b) (b := true) (tgt := 60) zC dX8_test_53 (by decide) (fun c_5 => ?_) (fun c_5 => ?_)
      · skip
        refine lv_iconst (v := iI (0)) zx zb dX8_test_60 rfl ?_
        refine a_zst (x := false) zC h 2 (ws' := [(a 0, oM a mth mrw mrg mbd mnw mlc msz man mas mak mkp mfa mte mta (lv : Int) mct mgr mgo mgg), (a 14, cI g 22 (up NO lv 0)), (a 16, cZ g 22 (up AN lv (AN lv && (b != decide (NO lv % 2 = 1)))))]) rfl (z := (lv : Int)) lv (by rw [show up AN lv false = up AN lv (AN lv && (b != decide (NO lv % 2 = 1))) from (congrArg (up AN lv) (by simp [c_1, c_4, c_5]))]; rfl) (by omega) (by omega) (by decide) dX8_test_61 (fun H locs h => ?_)
        exact r_vret zC zQ zr zk h dX8_test_62 (u := ()) rfl (List.Perm.refl _) trivial (Nat.le_of_ble_eq_true rfl) (Nat.le_of_ble_eq_true rfl)
      · skip
        refine lv_iconst (v := iI (1)) zx zb dX8_test_56 rfl ?_
        refine lv_goto (tgt := 61) zx zb dX8_test_57 (by decide) ?_
        refine a_zst (x := true) zC h 2 (ws' := [(a 0, oM a mth mrw mrg mbd mnw mlc msz man mas mak mkp mfa mte mta (lv : Int) mct mgr mgo mgg), (a 14, cI g 22 (up NO lv 0)), (a 16, cZ g 22 (up AN lv (AN lv && (b != decide (NO lv % 2 = 1)))))]) rfl (z := (lv : Int)) lv (by rw [show up AN lv true = up AN lv (AN lv && (b != decide (NO lv % 2 = 1))) from (congrArg (up AN lv) (by simp [c_1, c_4, c_5]))]; rfl) (by omega) (by omega) (by decide) dX8_test_61 (fun H locs h => ?_)
        exact r_vret zC zQ zr zk h dX8_test_62 (u := ()) rfl (List.Perm.refl _) trivial (Nat.le_of_ble_eq_true rfl) (Nat.le_of_ble_eq_true rfl)
