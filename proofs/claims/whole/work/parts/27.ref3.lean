/-! THE REFERENCE: a right more; a new object -/
set_option maxHeartbeats 4000000 in
set_option maxRecDepth 100000 in
theorem c_X8_right (l : Launch) (D : va_G) (g : Nat → ClassId) (a : Nat → Nat) (mth mrw mbd mnw mlc msz mas mak mkp mfa mte mta mlv mct mgo : Int) (man mgr mgg : Bool) (rg : Nat) (RO : Nat → Int) (RW : Nat → Int) (RK : Nat → Int) (w o kd : Int) (h0 : R32 w ∧ R32 o ∧ R32 kd) (hg : rg ≤ 100) (hR : ∀ k, k < rg → R32 (RO k) ∧ R32 (RW k) ∧ R32 (RK k)) : Ct (S := Int × Nat × (Nat → Int) × (Nat → Int) × (Nat → Int)) l D g yX8_right cX8_right 7 (some .int) rmX8_right [.ref (a 0), .int (iI w), .int (iI o), .int (iI kd)] ([(a 0, oM a mth mrw (rg : Int) mbd mnw mlc msz man mas mak mkp mfa mte mta mlv mct mgr mgo mgg), (a 2, cI g 100 RO), (a 3, cI g 100 RW), (a 4, cI g 100 RK)]) (fun u => some (.int (iI u.1))) (rgtM RO RW RK rg w o kd) (fun u => [(a 0, oM a 0 mrw (u.2.1 : Int) mbd mnw mlc msz man mas mak mkp mfa mte mta mlv mct mgr mgo mgg), (a 2, cI g 100 u.2.2.1), (a 3, cI g 100 u.2.2.2.1), (a 4, cI g 100 u.2.2.2.2)]) := by
  refine Ct.of RX8 rfl (by decide +kernel) [(0, .ref (a 0)), (1, .int (iI w)), (2, .int (iI o)), (3, .int (iI kd))] rfl (Nat.le_of_ble_eq_true rfl) ?_
  intro pg evn sT mI bl mtd cd aA ls ar qQ zC zr zk zi zQ h hl
  have zx := zC.1
  have zb := zC.2.1
  skip
  refine lv_aload_n zx zb dX8_right_0 rfl (lv_at hl 0 rfl) ?_
  refine lv_iconst (v := iI (0)) zx zb dX8_right_1 rfl ?_
  refine pf8_85 (x := iI 0) zC h 0 (ws' := [(a 0, oM a 0 mrw (rg : Int) mbd mnw mlc msz man mas mak mkp mfa mte mta mlv mct mgr mgo mgg), (a 2, cI g 100 RO), (a 3, cI g 100 RW), (a 4, cI g 100 RK)]) rfl rfl (Nat.le_of_ble_eq_true rfl) dX8_right_2 (fun H locs h => ?_)
  refine lv_iload_n zx zb dX8_right_5 rfl (lv_at hl 1 rfl) ?_
  refine r_invS (As := [.int (iI w)]) (rest := []) (wr := [(a 0, oM a 0 mrw (rg : Int) mbd mnw mlc msz man mas mak mkp mfa mte mta mlv mct mgr mgo mgg), (a 2, cI g 100 RO), (a 3, cI g 100 RW), (a 4, cI g 100 RK)]) (ws2 := fun u_1 => [(a 0, oM a 0 mrw (rg : Int) mbd mnw mlc msz man mas mak mkp mfa mte mta mlv mct mgr mgo mgg), (a 2, cI g 100 RO), (a 3, cI g 100 RW), (a 4, cI g 100 RK)]) 0 0 zC h hl.1 (c_X8_isAsker l D g w (by omega)) (cs8_177 zC ⟨(Nat.le_of_ble_eq_true rfl), (Nat.le_of_ble_eq_true rfl)⟩) rfl rfl (Nat.le_of_ble_eq_true rfl) (List.Perm.refl _) (fun u => List.Perm.refl _) ⟨(Nat.le_of_ble_eq_true rfl), (Nat.le_of_ble_eq_true rfl)⟩ (Nat.le_of_ble_eq_true rfl) (Nat.le_of_ble_eq_true rfl) dX8_right_6 (fun u_1 H locs hu_1 hz_1 h => ?_)
  refine b_zne (b := decide (0 ≤ w ∧ w < 50)) (tgt := 15) zC dX8_right_9 (by decide) (fun c_2 => ?_) (fun c_2 => ?_)
  · skip
    simp only [decide_eq_true_eq, decide_eq_false_iff_not] at c_2
    refine lv_iload_n zx zb dX8_right_15 rfl (lv_at hl 2 rfl) ?_
    refine i_i2l zC (a := o) dX8_right_16 (by omega) ?_
    refine kl8_213 zC dX8_right_17 ?_
    refine kl8_100 zC dX8_right_20 ?_
    refine r_invS (As := [.long (lI o), .long (lI (-1)), .long (lI 99)]) (rest := []) (wr := [(a 0, oM a 0 mrw (rg : Int) mbd mnw mlc msz man mas mak mkp mfa mte mta mlv mct mgr mgo mgg), (a 2, cI g 100 RO), (a 3, cI g 100 RW), (a 4, cI g 100 RK)]) (ws2 := fun u_3 => [(a 0, oM a 0 mrw (rg : Int) mbd mnw mlc msz man mas mak mkp mfa mte mta mlv mct mgr mgo mgg), (a 2, cI g 100 RO), (a 3, cI g 100 RW), (a 4, cI g 100 RK)]) 0 0 zC h hl.1 (c_X8_within l D g o (-1) 99 (by omega) (by omega) (by omega)) (cs8_90 zC ⟨(Nat.le_of_ble_eq_true rfl), (Nat.le_of_ble_eq_true rfl)⟩) rfl rfl (Nat.le_of_ble_eq_true rfl) (List.Perm.refl _) (fun u => List.Perm.refl _) ⟨(Nat.le_of_ble_eq_true rfl), (Nat.le_of_ble_eq_true rfl)⟩ (Nat.le_of_ble_eq_true rfl) (Nat.le_of_ble_eq_true rfl) dX8_right_23 (fun u_3 H locs hu_3 hz_3 h => ?_)
    refine b_zeq (b := decide (-1 ≤ o ∧ o ≤ 99)) (tgt := 43) zC dX8_right_26 (by decide) (fun c_4 => ?_) (fun c_4 => ?_)
    · skip
      simp only [decide_eq_true_eq, decide_eq_false_iff_not] at c_4
      refine kc8_102 zC dX8_right_43 ?_
      exact r_iret zC zQ zr zk h dX8_right_45 (u := (-1000002, rg, RO, RW, RK)) rfl (List.Perm.refl _) (by unfold rgtM; rw [if_pos (by omega), if_neg (by omega)]) (Nat.le_of_ble_eq_true rfl) (Nat.le_of_ble_eq_true rfl)
    · skip
      simp only [decide_eq_true_eq, decide_eq_false_iff_not] at c_4
      refine lv_iload_n zx zb dX8_right_29 rfl (lv_at hl 3 rfl) ?_
      refine i_i2l zC (a := kd) dX8_right_30 (by omega) ?_
      refine kl8_213 zC dX8_right_31 ?_
      refine kl8_96 zC dX8_right_34 ?_
      refine r_invS (As := [.long (lI kd), .long (lI (-1)), .long (lI 19)]) (rest := []) (wr := [(a 0, oM a 0 mrw (rg : Int) mbd mnw mlc msz man mas mak mkp mfa mte mta mlv mct mgr mgo mgg), (a 2, cI g 100 RO), (a 3, cI g 100 RW), (a 4, cI g 100 RK)]) (ws2 := fun u_5 => [(a 0, oM a 0 mrw (rg : Int) mbd mnw mlc msz man mas mak mkp mfa mte mta mlv mct mgr mgo mgg), (a 2, cI g 100 RO), (a 3, cI g 100 RW), (a 4, cI g 100 RK)]) 0 0 zC h hl.1 (c_X8_within l D g kd (-1) 19 (by omega) (by omega) (by omega)) (cs8_90 zC ⟨(Nat.le_of_ble_eq_true rfl), (Nat.le_of_ble_eq_true rfl)⟩) rfl rfl (Nat.le_of_ble_eq_true rfl) (List.Perm.refl _) (fun u => List.Perm.refl _) ⟨(Nat.le_of_ble_eq_true rfl), (Nat.le_of_ble_eq_true rfl)⟩ (Nat.le_of_ble_eq_true rfl) (Nat.le_of_ble_eq_true rfl) dX8_right_37 (fun u_5 H locs hu_5 hz_5 h => ?_)
      refine b_zne (b := decide (-1 ≤ kd ∧ kd ≤ 19)) (tgt := 46) zC dX8_right_40 (by decide) (fun c_6 => ?_) (fun c_6 => ?_)
      · skip
        simp only [decide_eq_true_eq, decide_eq_false_iff_not] at c_6
        refine lv_iconst (v := iI (0)) zx zb dX8_right_46 rfl ?_
        refine lv_istore (lv' := [(4, .int (iI 0)), (0, .ref (a 0)), (1, .int (iI w)), (2, .int (iI o)), (3, .int (iI kd))]) zx zb dX8_right_47 hl (by decide) rfl (fun ls hl => ?_)
        refine lv_iconst (v := iI (0)) zx zb dX8_right_49 rfl ?_
        refine lv_istore (lv' := [(5, .int (iI 0)), (4, .int (iI 0)), (0, .ref (a 0)), (1, .int (iI w)), (2, .int (iI o)), (3, .int (iI kd))]) zx zb dX8_right_50 hl (by decide) rfl (fun ls hl => ?_)
        refine lv_iconst (v := iI (0)) zx zb dX8_right_52 rfl ?_
        refine lv_istore (lv' := [(6, .int (iI 0)), (5, .int (iI 0)), (4, .int (iI 0)), (0, .ref (a 0)), (1, .int (iI w)), (2, .int (iI o)), (3, .int (iI kd))]) zx zb dX8_right_53 hl (by decide) rfl (fun ls hl => ?_)
        have L55_7 : ∀ (fuel : Nat) (k : Nat) (H : Heap) (locs : List Loc) (ls : Array Slot), rg - k < fuel → (k ≤ rg) → Hx D g sT aA sT.heap ([(a 0, oM a 0 mrw (rg : Int) mbd mnw mlc msz man mas mak mkp mfa mte mta mlv mct mgr mgo mgg), (a 2, cI g 100 RO), (a 3, cI g 100 RW), (a 4, cI g 100 RK)]) H locs → lv_has ls 7 [(0, .ref (a 0)), (1, .int (iI w)), (2, .int (iI o)), (3, .int (iI kd)), (4, .int (iI ((cntR RO w k : Nat) : Int))), (5, .int (bI (thrR RO RW RK w o kd k))), (6, .int (iI (k : Int)))] → W pg l evn rmX8_right sT mI ar bl mtd cd H locs 0 0 qQ (F0 mI 55 ls []) := by
          intro fuel
          induction fuel with
          | zero => intro k H locs ls hm; exact absurd hm (Nat.not_lt_zero _)
          | succ fuel ih =>
            intro k H locs ls hm hk h hl
            refine lv_iload zx zb dX8_right_55 (lv_at hl 6 rfl) ?_
            refine lv_aload_n zx zb dX8_right_57 rfl (lv_at hl 0 rfl) ?_
            refine gf8_155 (v := .int (iI (rg : Int))) zC h 0 rfl rfl dX8_right_58 ?_
            refine i_cge (a := (k : Int)) (b := (rg : Int)) (tgt := 118) zC dX8_right_61 (by decide) (by omega) (fun c_8 => ?_) (fun c_8 => ?_)
            · skip
              refine lv_iload zx zb dX8_right_118 (lv_at hl 5 rfl) ?_
              refine b_zeq (b := thrR RO RW RK w o kd k) (tgt := 126) zC dX8_right_120 (by decide) (fun c_9 => ?_) (fun c_9 => ?_)
              · skip
                have e_rg : rg = k := by omega
                refine lv_aload_n zx zb dX8_right_126 rfl (lv_at hl 0 rfl) ?_
                refine gf8_155 (v := .int (iI (rg : Int))) zC h 0 rfl rfl dX8_right_127 ?_
                refine lv_bipush (v := iI (100)) zx zb dX8_right_130 rfl ?_
                refine i_cne (a := (rg : Int)) (b := 100) (tgt := 138) zC dX8_right_132 (by decide) (by omega) (fun c_10 => ?_) (fun c_10 => ?_)
                · skip
                  refine lv_aload_n zx zb dX8_right_138 rfl (lv_at hl 0 rfl) ?_
                  refine gf8_13 (v := .ref (a 2)) zC h 0 rfl rfl dX8_right_139 ?_
                  refine lv_aload_n zx zb dX8_right_142 rfl (lv_at hl 0 rfl) ?_
                  refine gf8_155 (v := .int (iI (rg : Int))) zC h 0 rfl rfl dX8_right_143 ?_
                  refine lv_iload_n zx zb dX8_right_146 rfl (lv_at hl 1 rfl) ?_
                  refine a_ist (x := w) zC h 1 (ws' := [(a 0, oM a 0 mrw (rg : Int) mbd mnw mlc msz man mas mak mkp mfa mte mta mlv mct mgr mgo mgg), (a 2, cI g 100 (up RO rg w)), (a 3, cI g 100 RW), (a 4, cI g 100 RK)]) rfl (z := (rg : Int)) rg rfl (by omega) (by omega) (by decide) dX8_right_147 (fun H locs h => ?_)
                  refine lv_aload_n zx zb dX8_right_148 rfl (lv_at hl 0 rfl) ?_
                  refine gf8_16 (v := .ref (a 3)) zC h 0 rfl rfl dX8_right_149 ?_
                  refine lv_aload_n zx zb dX8_right_152 rfl (lv_at hl 0 rfl) ?_
                  refine gf8_155 (v := .int (iI (rg : Int))) zC h 0 rfl rfl dX8_right_153 ?_
                  refine lv_iload_n zx zb dX8_right_156 rfl (lv_at hl 2 rfl) ?_
                  refine a_ist (x := o) zC h 2 (ws' := [(a 0, oM a 0 mrw (rg : Int) mbd mnw mlc msz man mas mak mkp mfa mte mta mlv mct mgr mgo mgg), (a 2, cI g 100 (up RO rg w)), (a 3, cI g 100 (up RW rg o)), (a 4, cI g 100 RK)]) rfl (z := (rg : Int)) rg rfl (by omega) (by omega) (by decide) dX8_right_157 (fun H locs h => ?_)
                  refine lv_aload_n zx zb dX8_right_158 rfl (lv_at hl 0 rfl) ?_
                  refine gf8_19 (v := .ref (a 4)) zC h 0 rfl rfl dX8_right_159 ?_
                  refine lv_aload_n zx zb dX8_right_162 rfl (lv_at hl 0 rfl) ?_
                  refine gf8_155 (v := .int (iI (rg : Int))) zC h 0 rfl rfl dX8_right_163 ?_
                  refine lv_iload_n zx zb dX8_right_166 rfl (lv_at hl 3 rfl) ?_
                  refine a_ist (x := kd) zC h 3 (ws' := [(a 0, oM a 0 mrw (rg : Int) mbd mnw mlc msz man mas mak mkp mfa mte mta mlv mct mgr mgo mgg), (a 2, cI g 100 (up RO rg w)), (a 3, cI g 100 (up RW rg o)), (a 4, cI g 100 (up RK rg kd))]) rfl (z := (rg : Int)) rg rfl (by omega) (by omega) (by decide) dX8_right_167 (fun H locs h => ?_)
                  refine lv_aload_n zx zb dX8_right_168 rfl (lv_at hl 0 rfl) ?_
                  refine lv_dup zx zb dX8_right_169 rfl ?_
                  refine gf8_155 (v := .int (iI (rg : Int))) zC h 0 rfl rfl dX8_right_170 ?_
                  refine lv_iconst (v := iI (1)) zx zb dX8_right_173 rfl ?_
                  refine i_add zC (a := (rg : Int)) (b := 1) dX8_right_174 ?_
                  rw [show ((rg : Int) + 1 : Int) = ((rg + 1 : Nat) : Int) from by omega]
                  refine pf8_155 (x := iI ((rg + 1 : Nat) : Int)) zC h 0 (ws' := [(a 0, oM a 0 mrw ((rg + 1 : Nat) : Int) mbd mnw mlc msz man mas mak mkp mfa mte mta mlv mct mgr mgo mgg), (a 2, cI g 100 (up RO rg w)), (a 3, cI g 100 (up RW rg o)), (a 4, cI g 100 (up RK rg kd))]) rfl rfl (Nat.le_of_ble_eq_true rfl) dX8_right_175 (fun H locs h => ?_)
                  refine lv_iload zx zb dX8_right_178 (lv_at hl 4 rfl) ?_
                  refine lv_iconst (v := iI (1)) zx zb dX8_right_180 rfl ?_
                  refine i_add zC (a := ((cntR RO w k : Nat) : Int)) (b := 1) dX8_right_181 ?_
                  exact r_iret zC zQ zr zk h dX8_right_182 (u := ((cntR RO w rg : Int) + 1, rg + 1, up RO rg w, up RW rg o, up RK rg kd)) (by rw [e_rg]) (List.Perm.refl _) (by unfold rgtM; rw [if_pos (by omega), if_pos (by omega), if_neg (by rw [e_rg, c_9]; decide), if_neg (by omega)]) (Nat.le_of_ble_eq_true rfl) (Nat.le_of_ble_eq_true rfl)
                · skip
                  refine kc8_103 zC dX8_right_135 ?_
                  exact r_iret zC zQ zr zk h dX8_right_137 (u := (-1000004, rg, RO, RW, RK)) rfl (List.Perm.refl _) (by unfold rgtM; rw [if_pos (by omega), if_pos (by omega), if_neg (by rw [e_rg, c_9]; decide), if_pos (by omega)]) (Nat.le_of_ble_eq_true rfl) (Nat.le_of_ble_eq_true rfl)
              · skip
                have e_rg : rg = k := by omega
                refine lv_iload zx zb dX8_right_123 (lv_at hl 4 rfl) ?_
                exact r_iret zC zQ zr zk h dX8_right_125 (u := ((cntR RO w rg : Int), rg, RO, RW, RK)) (by rw [e_rg]) (List.Perm.refl _) (by unfold rgtM; rw [if_pos (by omega), if_pos (by omega), if_pos (by rw [e_rg, c_9])]) (Nat.le_of_ble_eq_true rfl) (Nat.le_of_ble_eq_true rfl)
            · skip
              have hRk := hR k (by omega)
              refine lv_aload_n zx zb dX8_right_64 rfl (lv_at hl 0 rfl) ?_
              refine gf8_13 (v := .ref (a 2)) zC h 0 rfl rfl dX8_right_65 ?_
              refine lv_iload zx zb dX8_right_68 (lv_at hl 6 rfl) ?_
              refine a_ild zC h 1 rfl (z := (k : Int)) k (by omega) (by omega) (by decide) dX8_right_70 ?_
              refine lv_iload_n zx zb dX8_right_71 rfl (lv_at hl 1 rfl) ?_
              refine i_cne (a := RO k) (b := w) (tgt := 112) zC dX8_right_72 (by decide) (by omega) (fun c_11 => ?_) (fun c_11 => ?_)
              · skip
                have e_n : cntR RO w (k + 1) = cntR RO w k := if_neg c_11
                have e_t : thrR RO RW RK w o kd (k + 1) = thrR RO RW RK w o kd k := by show (thrR RO RW RK w o kd k || _) = _; rw [decide_eq_false c_11]; simp
                rw [← e_n, ← e_t] at hl
                skip
                refine i_inc (q := 6) (a := (k : Int)) (lv' := [(6, .int (iI ((k : Int) + 1))), (0, .ref (a 0)), (1, .int (iI w)), (2, .int (iI o)), (3, .int (iI kd)), (4, .int (iI ((cntR RO w (k + 1) : Nat) : Int))), (5, .int (bI (thrR RO RW RK w o kd (k + 1))))]) zC hl dX8_right_112 rfl (by decide) rfl (fun ls hl => ?_)
                refine lv_goto (tgt := 55) zx zb dX8_right_115 (by decide) ?_
                exact ih (k + 1) _ _ _ (by omega) (by omega) h (lv_sub hl [1, 2, 3, 4, 5, 6, 0] rfl)
              · skip
                have e_n : cntR RO w (k + 1) = cntR RO w k + 1 := if_pos c_11
                refine i_inc (q := 4) (a := ((cntR RO w k : Nat) : Int)) (lv' := [(4, .int (iI (((cntR RO w k : Nat) : Int) + 1))), (0, .ref (a 0)), (1, .int (iI w)), (2, .int (iI o)), (3, .int (iI kd)), (5, .int (bI (thrR RO RW RK w o kd k))), (6, .int (iI (k : Int)))]) zC hl dX8_right_75 rfl (by decide) rfl (fun ls hl => ?_)
                rw [show (((cntR RO w k : Nat) : Int) + 1 : Int) = ((cntR RO w (k + 1) : Nat) : Int) from (by rw [e_n]; omega)] at hl
                refine lv_iload zx zb dX8_right_78 (lv_at hl 5 rfl) ?_
                refine b_zne (b := thrR RO RW RK w o kd k) (tgt := 105) zC dX8_right_80 (by decide) (fun c_12 => ?_) (fun c_12 => ?_)
                · skip
                  refine lv_iconst (v := iI (1)) zx zb dX8_right_105 rfl ?_
                  refine lv_goto (tgt := 110) zx zb dX8_right_106 (by decide) ?_
                  have e_t : thrR RO RW RK w o kd (k + 1) = true := by show (thrR RO RW RK w o kd k || (decide (RO k = w) && (decide (RW k = o) && decide (RK k = kd)))) = _; simp [c_11, c_12]
                  rw [show iI 1 = bI (thrR RO RW RK w o kd (k + 1)) from by rw [e_t]; rfl]
                  refine lv_istore (lv' := [(5, .int (bI (thrR RO RW RK w o kd (k + 1)))), (4, .int (iI ((cntR RO w (k + 1) : Nat) : Int))), (0, .ref (a 0)), (1, .int (iI w)), (2, .int (iI o)), (3, .int (iI kd)), (6, .int (iI (k : Int)))]) zx zb dX8_right_110 hl (by decide) rfl (fun ls hl => ?_)
                  refine i_inc (q := 6) (a := (k : Int)) (lv' := [(6, .int (iI ((k : Int) + 1))), (5, .int (bI (thrR RO RW RK w o kd (k + 1)))), (4, .int (iI ((cntR RO w (k + 1) : Nat) : Int))), (0, .ref (a 0)), (1, .int (iI w)), (2, .int (iI o)), (3, .int (iI kd))]) zC hl dX8_right_112 rfl (by decide) rfl (fun ls hl => ?_)
                  refine lv_goto (tgt := 55) zx zb dX8_right_115 (by decide) ?_
                  exact ih (k + 1) _ _ _ (by omega) (by omega) h (lv_sub hl [3, 4, 5, 6, 2, 1, 0] rfl)
                · skip
                  refine lv_aload_n zx zb dX8_right_83 rfl (lv_at hl 1 rfl) ?_
                  refine gf8_16 (v := .ref (a 3)) zC h 0 rfl rfl dX8_right_84 ?_
                  refine lv_iload zx zb dX8_right_87 (lv_at hl 6 rfl) ?_
                  refine a_ild zC h 2 rfl (z := (k : Int)) k (by omega) (by omega) (by decide) dX8_right_89 ?_
                  refine lv_iload_n zx zb dX8_right_90 rfl (lv_at hl 3 rfl) ?_
                  refine i_cne (a := RW k) (b := o) (tgt := 109) zC dX8_right_91 (by decide) (by omega) (fun c_13 => ?_) (fun c_13 => ?_)
                  · skip
                    refine lv_iconst (v := iI (0)) zx zb dX8_right_109 rfl ?_
                    have e_t : thrR RO RW RK w o kd (k + 1) = false := by show (thrR RO RW RK w o kd k || (decide (RO k = w) && (decide (RW k = o) && decide (RK k = kd)))) = _; simp [c_11, c_12, c_13]
                    rw [show iI 0 = bI (thrR RO RW RK w o kd (k + 1)) from by rw [e_t]; rfl]
                    refine lv_istore (lv' := [(5, .int (bI (thrR RO RW RK w o kd (k + 1)))), (4, .int (iI ((cntR RO w (k + 1) : Nat) : Int))), (0, .ref (a 0)), (1, .int (iI w)), (2, .int (iI o)), (3, .int (iI kd)), (6, .int (iI (k : Int)))]) zx zb dX8_right_110 hl (by decide) rfl (fun ls hl => ?_)
                    refine i_inc (q := 6) (a := (k : Int)) (lv' := [(6, .int (iI ((k : Int) + 1))), (5, .int (bI (thrR RO RW RK w o kd (k + 1)))), (4, .int (iI ((cntR RO w (k + 1) : Nat) : Int))), (0, .ref (a 0)), (1, .int (iI w)), (2, .int (iI o)), (3, .int (iI kd))]) zC hl dX8_right_112 rfl (by decide) rfl (fun ls hl => ?_)
                    refine lv_goto (tgt := 55) zx zb dX8_right_115 (by decide) ?_
                    exact ih (k + 1) _ _ _ (by omega) (by omega) h (lv_sub hl [3, 4, 5, 6, 2, 1, 0] rfl)
                  · skip
                    refine lv_aload_n zx zb dX8_right_94 rfl (lv_at hl 1 rfl) ?_
                    refine gf8_19 (v := .ref (a 4)) zC h 0 rfl rfl dX8_right_95 ?_
                    refine lv_iload zx zb dX8_right_98 (lv_at hl 6 rfl) ?_
                    refine a_ild zC h 3 rfl (z := (k : Int)) k (by omega) (by omega) (by decide) dX8_right_100 ?_
                    refine lv_iload_n zx zb dX8_right_101 rfl (lv_at hl 4 rfl) ?_
                    refine i_cne (a := RK k) (b := kd) (tgt := 109) zC dX8_right_102 (by decide) (by omega) (fun c_14 => ?_) (fun c_14 => ?_)
                    · skip
                      refine lv_iconst (v := iI (0)) zx zb dX8_right_109 rfl ?_
                      have e_t : thrR RO RW RK w o kd (k + 1) = false := by show (thrR RO RW RK w o kd k || (decide (RO k = w) && (decide (RW k = o) && decide (RK k = kd)))) = _; simp [c_11, c_12, c_13, c_14]
                      rw [show iI 0 = bI (thrR RO RW RK w o kd (k + 1)) from by rw [e_t]; rfl]
                      refine lv_istore (lv' := [(5, .int (bI (thrR RO RW RK w o kd (k + 1)))), (4, .int (iI ((cntR RO w (k + 1) : Nat) : Int))), (0, .ref (a 0)), (1, .int (iI w)), (2, .int (iI o)), (3, .int (iI kd)), (6, .int (iI (k : Int)))]) zx zb dX8_right_110 hl (by decide) rfl (fun ls hl => ?_)
                      refine i_inc (q := 6) (a := (k : Int)) (lv' := [(6, .int (iI ((k : Int) + 1))), (5, .int (bI (thrR RO RW RK w o kd (k + 1)))), (4, .int (iI ((cntR RO w (k + 1) : Nat) : Int))), (0, .ref (a 0)), (1, .int (iI w)), (2, .int (iI o)), (3, .int (iI kd))]) zC hl dX8_right_112 rfl (by decide) rfl (fun ls hl => ?_)
                      refine lv_goto (tgt := 55) zx zb dX8_right_115 (by decide) ?_
                      exact ih (k + 1) _ _ _ (by omega) (by omega) h (lv_sub hl [3, 4, 5, 6, 2, 1, 0] rfl)
                    · skip
                      refine lv_iconst (v := iI (1)) zx zb dX8_right_105 rfl ?_
                      refine lv_goto (tgt := 110) zx zb dX8_right_106 (by decide) ?_
                      have e_t : thrR RO RW RK w o kd (k + 1) = true := by show (thrR RO RW RK w o kd k || (decide (RO k = w) && (decide (RW k = o) && decide (RK k = kd)))) = _; simp [c_11, c_12, c_13, c_14]
                      rw [show iI 1 = bI (thrR RO RW RK w o kd (k + 1)) from by rw [e_t]; rfl]
                      refine lv_istore (lv' := [(5, .int (bI (thrR RO RW RK w o kd (k + 1)))), (4, .int (iI ((cntR RO w (k + 1) : Nat) : Int))), (0, .ref (a 0)), (1, .int (iI w)), (2, .int (iI o)), (3, .int (iI kd)), (6, .int (iI (k : Int)))]) zx zb dX8_right_110 hl (by decide) rfl (fun ls hl => ?_)
                      refine i_inc (q := 6) (a := (k : Int)) (lv' := [(6, .int (iI ((k : Int) + 1))), (5, .int (bI (thrR RO RW RK w o kd (k + 1)))), (4, .int (iI ((cntR RO w (k + 1) : Nat) : Int))), (0, .ref (a 0)), (1, .int (iI w)), (2, .int (iI o)), (3, .int (iI kd))]) zC hl dX8_right_112 rfl (by decide) rfl (fun ls hl => ?_)
                      refine lv_goto (tgt := 55) zx zb dX8_right_115 (by decide) ?_
                      exact ih (k + 1) _ _ _ (by omega) (by omega) h (lv_sub hl [3, 4, 5, 6, 2, 1, 0] rfl)
        exact L55_7 _ 0 _ _ _ (Nat.lt_succ_self _) (by omega) h (lv_sub hl [3, 4, 5, 6, 2, 1, 0] rfl)
      · skip
        simp only [decide_eq_true_eq, decide_eq_false_iff_not] at c_6
        refine kc8_102 zC dX8_right_43 ?_
        exact r_iret zC zQ zr zk h dX8_right_45 (u := (-1000002, rg, RO, RW, RK)) rfl (List.Perm.refl _) (by unfold rgtM; rw [if_pos (by omega), if_neg (by omega)]) (Nat.le_of_ble_eq_true rfl) (Nat.le_of_ble_eq_true rfl)
  · skip
    simp only [decide_eq_true_eq, decide_eq_false_iff_not] at c_2
    refine kc8_180 zC dX8_right_12 ?_
    exact r_iret zC zQ zr zk h dX8_right_14 (u := (-1000001, rg, RO, RW, RK)) rfl (List.Perm.refl _) (by unfold rgtM; rw [if_neg (by omega)]) (Nat.le_of_ble_eq_true rfl) (Nat.le_of_ble_eq_true rfl)

def adL : List Nat → Nat → Nat
  | [], _ => 0
  | x :: _, 0 => x
  | _ :: r, i + 1 => adL r i

/-- a new object of the reference -/
def wM0 (g : Nat → ClassId) (a : Nat → Nat) : va_W := [(a 0, oM a 0 0 0 100000 0 0 0 false 0 0 0 0 0 0 0 0 false 0 false), (a 1, cI g 1505 (fun _ => 0)), (a 2, cI g 100 (fun _ => 0)), (a 3, cI g 100 (fun _ => 0)), (a 4, cI g 100 (fun _ => 0)), (a 5, cZ g 5 (fun _ => false)), (a 6, cI g 200 (fun _ => 0)), (a 7, cI g 200 (fun _ => 0)), (a 8, cI g 20 (fun _ => 0)), (a 9, cI g 4000 (fun _ => 0)), (a 10, cI g 20 (fun _ => 0)), (a 11, cJ g 20 (fun _ => 0)), (a 12, cJ g 20 (fun _ => 0)), (a 13, cI g 20 (fun _ => 0)), (a 14, cI g 22 (fun _ => 0)), (a 15, cZ g 22 (fun _ => false)), (a 16, cZ g 22 (fun _ => false)), (a 17, cI g 300 (fun _ => 0)), (a 18, cI g 300 (fun _ => 0)), (a 19, cI g 300 (fun _ => 0)), (a 20, cI g 300 (fun _ => 0)), (a 21, cZ g 301 (fun _ => false))]

set_option maxHeartbeats 4000000 in
set_option maxRecDepth 100000 in
theorem c_X8_init (l : Launch) (D : va_G) (g : Nat → ClassId) (o0 : Nat) : Ct (S := Nat → Nat) l D g yX8_init cX8_init 1 none rmX8_init [.ref o0] ([(o0, .inr (8, [.int (iI 0), .int (iI 0), .null, .int (iI 0), .null, .null, .null, .null, .long (lI 0), .long (lI 0), .long (lI 0), .int (iI 0), .null, .int (bI false), .int (iI 0), .null, .int (iI 0), .int (iI 0), .null, .null, .null, .null, .null, .null, .int (iI 0), .int (iI 0), .int (iI 0), .int (iI 0), .null, .null, .null, .int (iI 0), .int (bI false), .null, .null, .int (iI 0), .int (bI false), .null, .null, .null]))]) (fun u => none) (fun u => u 0 = o0) (fun u => wM0 g u) := by
  refine Ct.of RX8 rfl (by decide +kernel) [(0, .ref o0)] rfl (Nat.le_of_ble_eq_true rfl) ?_
  intro pg evn sT mI bl mtd cd aA ls ar qQ zC zr zk zi zQ h hl
  have zx := zC.1
  have zb := zC.2.1
  skip
  refine lv_aload_n zx zb dX8_init_0 rfl (lv_at hl 0 rfl) ?_
  refine oi8 zC hl.1 dX8_init_1 (Nat.le_of_ble_eq_true rfl) (Nat.le_of_ble_eq_true rfl) ?_
  refine lv_aload_n zx zb dX8_init_4 rfl (lv_at hl 0 rfl) ?_
  refine lv_sipush (v := iI (1505)) zx zb dX8_init_5 rfl ?_
  refine r_newI (N := 1505) 1 1505 zC h (by decide) (by decide) (Nat.le_of_ble_eq_true rfl) (Nat.le_of_ble_eq_true rfl) (Nat.le_of_ble_eq_true rfl) (Nat.le_of_ble_eq_true rfl) (List.mem_of_getElem? (i := 54) (by decide +kernel)) dX8_init_8 (fun q_1 H h => ?_)
  refine pf8_7 (x := q_1) zC h 1 (ws' := [(q_1, cI g 1505 (fun _ => 0)), (o0, .inr (8, [.int (iI 0), .int (iI 0), .ref q_1, .int (iI 0), .null, .null, .null, .null, .long (lI 0), .long (lI 0), .long (lI 0), .int (iI 0), .null, .int (bI false), .int (iI 0), .null, .int (iI 0), .int (iI 0), .null, .null, .null, .null, .null, .null, .int (iI 0), .int (iI 0), .int (iI 0), .int (iI 0), .null, .null, .null, .int (iI 0), .int (bI false), .null, .null, .int (iI 0), .int (bI false), .null, .null, .null]))]) rfl rfl (Nat.le_of_ble_eq_true rfl) zi dX8_init_10 (fun H locs h => ?_)
  refine lv_aload_n zx zb dX8_init_13 rfl (lv_at hl 0 rfl) ?_
  refine lv_bipush (v := iI (100)) zx zb dX8_init_14 rfl ?_
  refine r_newI (N := 100) 2 1605 zC h (by decide) (by decide) (Nat.le_of_ble_eq_true rfl) (Nat.le_of_ble_eq_true rfl) (Nat.le_of_ble_eq_true rfl) (Nat.le_of_ble_eq_true rfl) (List.mem_of_getElem? (i := 54) (by decide +kernel)) dX8_init_16 (fun q_2 H h => ?_)
  refine pf8_13 (x := q_2) zC h 2 (ws' := [(q_2, cI g 100 (fun _ => 0)), (q_1, cI g 1505 (fun _ => 0)), (o0, .inr (8, [.int (iI 0), .int (iI 0), .ref q_1, .int (iI 0), .ref q_2, .null, .null, .null, .long (lI 0), .long (lI 0), .long (lI 0), .int (iI 0), .null, .int (bI false), .int (iI 0), .null, .int (iI 0), .int (iI 0), .null, .null, .null, .null, .null, .null, .int (iI 0), .int (iI 0), .int (iI 0), .int (iI 0), .null, .null, .null, .int (iI 0), .int (bI false), .null, .null, .int (iI 0), .int (bI false), .null, .null, .null]))]) rfl rfl (Nat.le_of_ble_eq_true rfl) zi dX8_init_18 (fun H locs h => ?_)
  refine lv_aload_n zx zb dX8_init_21 rfl (lv_at hl 0 rfl) ?_
  refine lv_bipush (v := iI (100)) zx zb dX8_init_22 rfl ?_
  refine r_newI (N := 100) 3 1705 zC h (by decide) (by decide) (Nat.le_of_ble_eq_true rfl) (Nat.le_of_ble_eq_true rfl) (Nat.le_of_ble_eq_true rfl) (Nat.le_of_ble_eq_true rfl) (List.mem_of_getElem? (i := 54) (by decide +kernel)) dX8_init_24 (fun q_3 H h => ?_)
  refine pf8_16 (x := q_3) zC h 3 (ws' := [(q_3, cI g 100 (fun _ => 0)), (q_2, cI g 100 (fun _ => 0)), (q_1, cI g 1505 (fun _ => 0)), (o0, .inr (8, [.int (iI 0), .int (iI 0), .ref q_1, .int (iI 0), .ref q_2, .ref q_3, .null, .null, .long (lI 0), .long (lI 0), .long (lI 0), .int (iI 0), .null, .int (bI false), .int (iI 0), .null, .int (iI 0), .int (iI 0), .null, .null, .null, .null, .null, .null, .int (iI 0), .int (iI 0), .int (iI 0), .int (iI 0), .null, .null, .null, .int (iI 0), .int (bI false), .null, .null, .int (iI 0), .int (bI false), .null, .null, .null]))]) rfl rfl (Nat.le_of_ble_eq_true rfl) zi dX8_init_26 (fun H locs h => ?_)
  refine lv_aload_n zx zb dX8_init_29 rfl (lv_at hl 0 rfl) ?_
  refine lv_bipush (v := iI (100)) zx zb dX8_init_30 rfl ?_
  refine r_newI (N := 100) 4 1805 zC h (by decide) (by decide) (Nat.le_of_ble_eq_true rfl) (Nat.le_of_ble_eq_true rfl) (Nat.le_of_ble_eq_true rfl) (Nat.le_of_ble_eq_true rfl) (List.mem_of_getElem? (i := 54) (by decide +kernel)) dX8_init_32 (fun q_4 H h => ?_)
  refine pf8_19 (x := q_4) zC h 4 (ws' := [(q_4, cI g 100 (fun _ => 0)), (q_3, cI g 100 (fun _ => 0)), (q_2, cI g 100 (fun _ => 0)), (q_1, cI g 1505 (fun _ => 0)), (o0, .inr (8, [.int (iI 0), .int (iI 0), .ref q_1, .int (iI 0), .ref q_2, .ref q_3, .ref q_4, .null, .long (lI 0), .long (lI 0), .long (lI 0), .int (iI 0), .null, .int (bI false), .int (iI 0), .null, .int (iI 0), .int (iI 0), .null, .null, .null, .null, .null, .null, .int (iI 0), .int (iI 0), .int (iI 0), .int (iI 0), .null, .null, .null, .int (iI 0), .int (bI false), .null, .null, .int (iI 0), .int (bI false), .null, .null, .null]))]) rfl rfl (Nat.le_of_ble_eq_true rfl) zi dX8_init_34 (fun H locs h => ?_)
  refine lv_aload_n zx zb dX8_init_37 rfl (lv_at hl 0 rfl) ?_
  refine lv_iconst (v := iI (5)) zx zb dX8_init_38 rfl ?_
  refine r_newZ (N := 5) 5 1810 zC h (by decide) (by decide) (Nat.le_of_ble_eq_true rfl) (Nat.le_of_ble_eq_true rfl) (Nat.le_of_ble_eq_true rfl) (Nat.le_of_ble_eq_true rfl) (List.mem_of_getElem? (i := 115) (by decide +kernel)) dX8_init_39 (fun q_5 H h => ?_)
  refine pf8_22 (x := q_5) zC h 5 (ws' := [(q_5, cZ g 5 (fun _ => false)), (q_4, cI g 100 (fun _ => 0)), (q_3, cI g 100 (fun _ => 0)), (q_2, cI g 100 (fun _ => 0)), (q_1, cI g 1505 (fun _ => 0)), (o0, .inr (8, [.int (iI 0), .int (iI 0), .ref q_1, .int (iI 0), .ref q_2, .ref q_3, .ref q_4, .ref q_5, .long (lI 0), .long (lI 0), .long (lI 0), .int (iI 0), .null, .int (bI false), .int (iI 0), .null, .int (iI 0), .int (iI 0), .null, .null, .null, .null, .null, .null, .int (iI 0), .int (iI 0), .int (iI 0), .int (iI 0), .null, .null, .null, .int (iI 0), .int (bI false), .null, .null, .int (iI 0), .int (bI false), .null, .null, .null]))]) rfl rfl (Nat.le_of_ble_eq_true rfl) zi dX8_init_41 (fun H locs h => ?_)
  refine lv_aload_n zx zb dX8_init_44 rfl (lv_at hl 0 rfl) ?_
  refine kl8_26 zC dX8_init_45 ?_
  refine pf8_28 (x := lI 100000) zC h 5 (ws' := [(q_5, cZ g 5 (fun _ => false)), (q_4, cI g 100 (fun _ => 0)), (q_3, cI g 100 (fun _ => 0)), (q_2, cI g 100 (fun _ => 0)), (q_1, cI g 1505 (fun _ => 0)), (o0, .inr (8, [.int (iI 0), .int (iI 0), .ref q_1, .int (iI 0), .ref q_2, .ref q_3, .ref q_4, .ref q_5, .long (lI 100000), .long (lI 0), .long (lI 0), .int (iI 0), .null, .int (bI false), .int (iI 0), .null, .int (iI 0), .int (iI 0), .null, .null, .null, .null, .null, .null, .int (iI 0), .int (iI 0), .int (iI 0), .int (iI 0), .null, .null, .null, .int (iI 0), .int (bI false), .null, .null, .int (iI 0), .int (bI false), .null, .null, .null]))]) rfl rfl (Nat.le_of_ble_eq_true rfl) dX8_init_48 (fun H locs h => ?_)
  refine lv_aload_n zx zb dX8_init_51 rfl (lv_at hl 0 rfl) ?_
  refine lv_sipush (v := iI (200)) zx zb dX8_init_52 rfl ?_
  refine r_newI (N := 200) 6 2010 zC h (by decide) (by decide) (Nat.le_of_ble_eq_true rfl) (Nat.le_of_ble_eq_true rfl) (Nat.le_of_ble_eq_true rfl) (Nat.le_of_ble_eq_true rfl) (List.mem_of_getElem? (i := 54) (by decide +kernel)) dX8_init_55 (fun q_6 H h => ?_)
  refine pf8_32 (x := q_6) zC h 6 (ws' := [(q_6, cI g 200 (fun _ => 0)), (q_5, cZ g 5 (fun _ => false)), (q_4, cI g 100 (fun _ => 0)), (q_3, cI g 100 (fun _ => 0)), (q_2, cI g 100 (fun _ => 0)), (q_1, cI g 1505 (fun _ => 0)), (o0, .inr (8, [.int (iI 0), .int (iI 0), .ref q_1, .int (iI 0), .ref q_2, .ref q_3, .ref q_4, .ref q_5, .long (lI 100000), .long (lI 0), .long (lI 0), .int (iI 0), .ref q_6, .int (bI false), .int (iI 0), .null, .int (iI 0), .int (iI 0), .null, .null, .null, .null, .null, .null, .int (iI 0), .int (iI 0), .int (iI 0), .int (iI 0), .null, .null, .null, .int (iI 0), .int (bI false), .null, .null, .int (iI 0), .int (bI false), .null, .null, .null]))]) rfl rfl (Nat.le_of_ble_eq_true rfl) zi dX8_init_57 (fun H locs h => ?_)
  refine lv_aload_n zx zb dX8_init_60 rfl (lv_at hl 0 rfl) ?_
  refine lv_sipush (v := iI (200)) zx zb dX8_init_61 rfl ?_
  refine r_newI (N := 200) 7 2210 zC h (by decide) (by decide) (Nat.le_of_ble_eq_true rfl) (Nat.le_of_ble_eq_true rfl) (Nat.le_of_ble_eq_true rfl) (Nat.le_of_ble_eq_true rfl) (List.mem_of_getElem? (i := 54) (by decide +kernel)) dX8_init_64 (fun q_7 H h => ?_)
  refine pf8_35 (x := q_7) zC h 7 (ws' := [(q_7, cI g 200 (fun _ => 0)), (q_6, cI g 200 (fun _ => 0)), (q_5, cZ g 5 (fun _ => false)), (q_4, cI g 100 (fun _ => 0)), (q_3, cI g 100 (fun _ => 0)), (q_2, cI g 100 (fun _ => 0)), (q_1, cI g 1505 (fun _ => 0)), (o0, .inr (8, [.int (iI 0), .int (iI 0), .ref q_1, .int (iI 0), .ref q_2, .ref q_3, .ref q_4, .ref q_5, .long (lI 100000), .long (lI 0), .long (lI 0), .int (iI 0), .ref q_6, .int (bI false), .int (iI 0), .ref q_7, .int (iI 0), .int (iI 0), .null, .null, .null, .null, .null, .null, .int (iI 0), .int (iI 0), .int (iI 0), .int (iI 0), .null, .null, .null, .int (iI 0), .int (bI false), .null, .null, .int (iI 0), .int (bI false), .null, .null, .null]))]) rfl rfl (Nat.le_of_ble_eq_true rfl) zi dX8_init_66 (fun H locs h => ?_)
  refine lv_aload_n zx zb dX8_init_69 rfl (lv_at hl 0 rfl) ?_
  refine lv_bipush (v := iI (20)) zx zb dX8_init_70 rfl ?_
  refine r_newI (N := 20) 8 2230 zC h (by decide) (by decide) (Nat.le_of_ble_eq_true rfl) (Nat.le_of_ble_eq_true rfl) (Nat.le_of_ble_eq_true rfl) (Nat.le_of_ble_eq_true rfl) (List.mem_of_getElem? (i := 54) (by decide +kernel)) dX8_init_72 (fun q_8 H h => ?_)
  refine pf8_38 (x := q_8) zC h 8 (ws' := [(q_8, cI g 20 (fun _ => 0)), (q_7, cI g 200 (fun _ => 0)), (q_6, cI g 200 (fun _ => 0)), (q_5, cZ g 5 (fun _ => false)), (q_4, cI g 100 (fun _ => 0)), (q_3, cI g 100 (fun _ => 0)), (q_2, cI g 100 (fun _ => 0)), (q_1, cI g 1505 (fun _ => 0)), (o0, .inr (8, [.int (iI 0), .int (iI 0), .ref q_1, .int (iI 0), .ref q_2, .ref q_3, .ref q_4, .ref q_5, .long (lI 100000), .long (lI 0), .long (lI 0), .int (iI 0), .ref q_6, .int (bI false), .int (iI 0), .ref q_7, .int (iI 0), .int (iI 0), .ref q_8, .null, .null, .null, .null, .null, .int (iI 0), .int (iI 0), .int (iI 0), .int (iI 0), .null, .null, .null, .int (iI 0), .int (bI false), .null, .null, .int (iI 0), .int (bI false), .null, .null, .null]))]) rfl rfl (Nat.le_of_ble_eq_true rfl) zi dX8_init_74 (fun H locs h => ?_)
  refine lv_aload_n zx zb dX8_init_77 rfl (lv_at hl 0 rfl) ?_
  refine lv_sipush (v := iI (4000)) zx zb dX8_init_78 rfl ?_
  refine r_newI (N := 4000) 9 6230 zC h (by decide) (by decide) (Nat.le_of_ble_eq_true rfl) (Nat.le_of_ble_eq_true rfl) (Nat.le_of_ble_eq_true rfl) (Nat.le_of_ble_eq_true rfl) (List.mem_of_getElem? (i := 54) (by decide +kernel)) dX8_init_81 (fun q_9 H h => ?_)
  refine pf8_41 (x := q_9) zC h 9 (ws' := [(q_9, cI g 4000 (fun _ => 0)), (q_8, cI g 20 (fun _ => 0)), (q_7, cI g 200 (fun _ => 0)), (q_6, cI g 200 (fun _ => 0)), (q_5, cZ g 5 (fun _ => false)), (q_4, cI g 100 (fun _ => 0)), (q_3, cI g 100 (fun _ => 0)), (q_2, cI g 100 (fun _ => 0)), (q_1, cI g 1505 (fun _ => 0)), (o0, .inr (8, [.int (iI 0), .int (iI 0), .ref q_1, .int (iI 0), .ref q_2, .ref q_3, .ref q_4, .ref q_5, .long (lI 100000), .long (lI 0), .long (lI 0), .int (iI 0), .ref q_6, .int (bI false), .int (iI 0), .ref q_7, .int (iI 0), .int (iI 0), .ref q_8, .ref q_9, .null, .null, .null, .null, .int (iI 0), .int (iI 0), .int (iI 0), .int (iI 0), .null, .null, .null, .int (iI 0), .int (bI false), .null, .null, .int (iI 0), .int (bI false), .null, .null, .null]))]) rfl rfl (Nat.le_of_ble_eq_true rfl) zi dX8_init_83 (fun H locs h => ?_)
  refine lv_aload_n zx zb dX8_init_86 rfl (lv_at hl 0 rfl) ?_
  refine lv_bipush (v := iI (20)) zx zb dX8_init_87 rfl ?_
  refine r_newI (N := 20) 10 6250 zC h (by decide) (by decide) (Nat.le_of_ble_eq_true rfl) (Nat.le_of_ble_eq_true rfl) (Nat.le_of_ble_eq_true rfl) (Nat.le_of_ble_eq_true rfl) (List.mem_of_getElem? (i := 54) (by decide +kernel)) dX8_init_89 (fun q_10 H h => ?_)
  refine pf8_44 (x := q_10) zC h 10 (ws' := [(q_10, cI g 20 (fun _ => 0)), (q_9, cI g 4000 (fun _ => 0)), (q_8, cI g 20 (fun _ => 0)), (q_7, cI g 200 (fun _ => 0)), (q_6, cI g 200 (fun _ => 0)), (q_5, cZ g 5 (fun _ => false)), (q_4, cI g 100 (fun _ => 0)), (q_3, cI g 100 (fun _ => 0)), (q_2, cI g 100 (fun _ => 0)), (q_1, cI g 1505 (fun _ => 0)), (o0, .inr (8, [.int (iI 0), .int (iI 0), .ref q_1, .int (iI 0), .ref q_2, .ref q_3, .ref q_4, .ref q_5, .long (lI 100000), .long (lI 0), .long (lI 0), .int (iI 0), .ref q_6, .int (bI false), .int (iI 0), .ref q_7, .int (iI 0), .int (iI 0), .ref q_8, .ref q_9, .ref q_10, .null, .null, .null, .int (iI 0), .int (iI 0), .int (iI 0), .int (iI 0), .null, .null, .null, .int (iI 0), .int (bI false), .null, .null, .int (iI 0), .int (bI false), .null, .null, .null]))]) rfl rfl (Nat.le_of_ble_eq_true rfl) zi dX8_init_91 (fun H locs h => ?_)
  refine lv_aload_n zx zb dX8_init_94 rfl (lv_at hl 0 rfl) ?_
  refine lv_bipush (v := iI (20)) zx zb dX8_init_95 rfl ?_
  refine r_newJ (N := 20) 11 6270 zC h (by decide) (by decide) (Nat.le_of_ble_eq_true rfl) (Nat.le_of_ble_eq_true rfl) (Nat.le_of_ble_eq_true rfl) (Nat.le_of_ble_eq_true rfl) (List.mem_of_getElem? (i := 124) (by decide +kernel)) dX8_init_97 (fun q_11 H h => ?_)
  refine pf8_47 (x := q_11) zC h 11 (ws' := [(q_11, cJ g 20 (fun _ => 0)), (q_10, cI g 20 (fun _ => 0)), (q_9, cI g 4000 (fun _ => 0)), (q_8, cI g 20 (fun _ => 0)), (q_7, cI g 200 (fun _ => 0)), (q_6, cI g 200 (fun _ => 0)), (q_5, cZ g 5 (fun _ => false)), (q_4, cI g 100 (fun _ => 0)), (q_3, cI g 100 (fun _ => 0)), (q_2, cI g 100 (fun _ => 0)), (q_1, cI g 1505 (fun _ => 0)), (o0, .inr (8, [.int (iI 0), .int (iI 0), .ref q_1, .int (iI 0), .ref q_2, .ref q_3, .ref q_4, .ref q_5, .long (lI 100000), .long (lI 0), .long (lI 0), .int (iI 0), .ref q_6, .int (bI false), .int (iI 0), .ref q_7, .int (iI 0), .int (iI 0), .ref q_8, .ref q_9, .ref q_10, .ref q_11, .null, .null, .int (iI 0), .int (iI 0), .int (iI 0), .int (iI 0), .null, .null, .null, .int (iI 0), .int (bI false), .null, .null, .int (iI 0), .int (bI false), .null, .null, .null]))]) rfl rfl (Nat.le_of_ble_eq_true rfl) zi dX8_init_99 (fun H locs h => ?_)
  refine lv_aload_n zx zb dX8_init_102 rfl (lv_at hl 0 rfl) ?_
  refine lv_bipush (v := iI (20)) zx zb dX8_init_103 rfl ?_
  refine r_newJ (N := 20) 12 6290 zC h (by decide) (by decide) (Nat.le_of_ble_eq_true rfl) (Nat.le_of_ble_eq_true rfl) (Nat.le_of_ble_eq_true rfl) (Nat.le_of_ble_eq_true rfl) (List.mem_of_getElem? (i := 124) (by decide +kernel)) dX8_init_105 (fun q_12 H h => ?_)
  refine pf8_51 (x := q_12) zC h 12 (ws' := [(q_12, cJ g 20 (fun _ => 0)), (q_11, cJ g 20 (fun _ => 0)), (q_10, cI g 20 (fun _ => 0)), (q_9, cI g 4000 (fun _ => 0)), (q_8, cI g 20 (fun _ => 0)), (q_7, cI g 200 (fun _ => 0)), (q_6, cI g 200 (fun _ => 0)), (q_5, cZ g 5 (fun _ => false)), (q_4, cI g 100 (fun _ => 0)), (q_3, cI g 100 (fun _ => 0)), (q_2, cI g 100 (fun _ => 0)), (q_1, cI g 1505 (fun _ => 0)), (o0, .inr (8, [.int (iI 0), .int (iI 0), .ref q_1, .int (iI 0), .ref q_2, .ref q_3, .ref q_4, .ref q_5, .long (lI 100000), .long (lI 0), .long (lI 0), .int (iI 0), .ref q_6, .int (bI false), .int (iI 0), .ref q_7, .int (iI 0), .int (iI 0), .ref q_8, .ref q_9, .ref q_10, .ref q_11, .ref q_12, .null, .int (iI 0), .int (iI 0), .int (iI 0), .int (iI 0), .null, .null, .null, .int (iI 0), .int (bI false), .null, .null, .int (iI 0), .int (bI false), .null, .null, .null]))]) rfl rfl (Nat.le_of_ble_eq_true rfl) zi dX8_init_107 (fun H locs h => ?_)
  refine lv_aload_n zx zb dX8_init_110 rfl (lv_at hl 0 rfl) ?_
  refine lv_bipush (v := iI (20)) zx zb dX8_init_111 rfl ?_
  refine r_newI (N := 20) 13 6310 zC h (by decide) (by decide) (Nat.le_of_ble_eq_true rfl) (Nat.le_of_ble_eq_true rfl) (Nat.le_of_ble_eq_true rfl) (Nat.le_of_ble_eq_true rfl) (List.mem_of_getElem? (i := 54) (by decide +kernel)) dX8_init_113 (fun q_13 H h => ?_)
  refine pf8_54 (x := q_13) zC h 13 (ws' := [(q_13, cI g 20 (fun _ => 0)), (q_12, cJ g 20 (fun _ => 0)), (q_11, cJ g 20 (fun _ => 0)), (q_10, cI g 20 (fun _ => 0)), (q_9, cI g 4000 (fun _ => 0)), (q_8, cI g 20 (fun _ => 0)), (q_7, cI g 200 (fun _ => 0)), (q_6, cI g 200 (fun _ => 0)), (q_5, cZ g 5 (fun _ => false)), (q_4, cI g 100 (fun _ => 0)), (q_3, cI g 100 (fun _ => 0)), (q_2, cI g 100 (fun _ => 0)), (q_1, cI g 1505 (fun _ => 0)), (o0, .inr (8, [.int (iI 0), .int (iI 0), .ref q_1, .int (iI 0), .ref q_2, .ref q_3, .ref q_4, .ref q_5, .long (lI 100000), .long (lI 0), .long (lI 0), .int (iI 0), .ref q_6, .int (bI false), .int (iI 0), .ref q_7, .int (iI 0), .int (iI 0), .ref q_8, .ref q_9, .ref q_10, .ref q_11, .ref q_12, .ref q_13, .int (iI 0), .int (iI 0), .int (iI 0), .int (iI 0), .null, .null, .null, .int (iI 0), .int (bI false), .null, .null, .int (iI 0), .int (bI false), .null, .null, .null]))]) rfl rfl (Nat.le_of_ble_eq_true rfl) zi dX8_init_115 (fun H locs h => ?_)
  refine lv_aload_n zx zb dX8_init_118 rfl (lv_at hl 0 rfl) ?_
  refine lv_bipush (v := iI (22)) zx zb dX8_init_119 rfl ?_
  refine r_newI (N := 22) 14 6332 zC h (by decide) (by decide) (Nat.le_of_ble_eq_true rfl) (Nat.le_of_ble_eq_true rfl) (Nat.le_of_ble_eq_true rfl) (Nat.le_of_ble_eq_true rfl) (List.mem_of_getElem? (i := 54) (by decide +kernel)) dX8_init_121 (fun q_14 H h => ?_)
  refine pf8_57 (x := q_14) zC h 14 (ws' := [(q_14, cI g 22 (fun _ => 0)), (q_13, cI g 20 (fun _ => 0)), (q_12, cJ g 20 (fun _ => 0)), (q_11, cJ g 20 (fun _ => 0)), (q_10, cI g 20 (fun _ => 0)), (q_9, cI g 4000 (fun _ => 0)), (q_8, cI g 20 (fun _ => 0)), (q_7, cI g 200 (fun _ => 0)), (q_6, cI g 200 (fun _ => 0)), (q_5, cZ g 5 (fun _ => false)), (q_4, cI g 100 (fun _ => 0)), (q_3, cI g 100 (fun _ => 0)), (q_2, cI g 100 (fun _ => 0)), (q_1, cI g 1505 (fun _ => 0)), (o0, .inr (8, [.int (iI 0), .int (iI 0), .ref q_1, .int (iI 0), .ref q_2, .ref q_3, .ref q_4, .ref q_5, .long (lI 100000), .long (lI 0), .long (lI 0), .int (iI 0), .ref q_6, .int (bI false), .int (iI 0), .ref q_7, .int (iI 0), .int (iI 0), .ref q_8, .ref q_9, .ref q_10, .ref q_11, .ref q_12, .ref q_13, .int (iI 0), .int (iI 0), .int (iI 0), .int (iI 0), .ref q_14, .null, .null, .int (iI 0), .int (bI false), .null, .null, .int (iI 0), .int (bI false), .null, .null, .null]))]) rfl rfl (Nat.le_of_ble_eq_true rfl) zi dX8_init_123 (fun H locs h => ?_)
  refine lv_aload_n zx zb dX8_init_126 rfl (lv_at hl 0 rfl) ?_
  refine lv_bipush (v := iI (22)) zx zb dX8_init_127 rfl ?_
  refine r_newZ (N := 22) 15 6354 zC h (by decide) (by decide) (Nat.le_of_ble_eq_true rfl) (Nat.le_of_ble_eq_true rfl) (Nat.le_of_ble_eq_true rfl) (Nat.le_of_ble_eq_true rfl) (List.mem_of_getElem? (i := 115) (by decide +kernel)) dX8_init_129 (fun q_15 H h => ?_)
  refine pf8_60 (x := q_15) zC h 15 (ws' := [(q_15, cZ g 22 (fun _ => false)), (q_14, cI g 22 (fun _ => 0)), (q_13, cI g 20 (fun _ => 0)), (q_12, cJ g 20 (fun _ => 0)), (q_11, cJ g 20 (fun _ => 0)), (q_10, cI g 20 (fun _ => 0)), (q_9, cI g 4000 (fun _ => 0)), (q_8, cI g 20 (fun _ => 0)), (q_7, cI g 200 (fun _ => 0)), (q_6, cI g 200 (fun _ => 0)), (q_5, cZ g 5 (fun _ => false)), (q_4, cI g 100 (fun _ => 0)), (q_3, cI g 100 (fun _ => 0)), (q_2, cI g 100 (fun _ => 0)), (q_1, cI g 1505 (fun _ => 0)), (o0, .inr (8, [.int (iI 0), .int (iI 0), .ref q_1, .int (iI 0), .ref q_2, .ref q_3, .ref q_4, .ref q_5, .long (lI 100000), .long (lI 0), .long (lI 0), .int (iI 0), .ref q_6, .int (bI false), .int (iI 0), .ref q_7, .int (iI 0), .int (iI 0), .ref q_8, .ref q_9, .ref q_10, .ref q_11, .ref q_12, .ref q_13, .int (iI 0), .int (iI 0), .int (iI 0), .int (iI 0), .ref q_14, .ref q_15, .null, .int (iI 0), .int (bI false), .null, .null, .int (iI 0), .int (bI false), .null, .null, .null]))]) rfl rfl (Nat.le_of_ble_eq_true rfl) zi dX8_init_131 (fun H locs h => ?_)
  refine lv_aload_n zx zb dX8_init_134 rfl (lv_at hl 0 rfl) ?_
  refine lv_bipush (v := iI (22)) zx zb dX8_init_135 rfl ?_
  refine r_newZ (N := 22) 16 6376 zC h (by decide) (by decide) (Nat.le_of_ble_eq_true rfl) (Nat.le_of_ble_eq_true rfl) (Nat.le_of_ble_eq_true rfl) (Nat.le_of_ble_eq_true rfl) (List.mem_of_getElem? (i := 115) (by decide +kernel)) dX8_init_137 (fun q_16 H h => ?_)
  refine pf8_63 (x := q_16) zC h 16 (ws' := [(q_16, cZ g 22 (fun _ => false)), (q_15, cZ g 22 (fun _ => false)), (q_14, cI g 22 (fun _ => 0)), (q_13, cI g 20 (fun _ => 0)), (q_12, cJ g 20 (fun _ => 0)), (q_11, cJ g 20 (fun _ => 0)), (q_10, cI g 20 (fun _ => 0)), (q_9, cI g 4000 (fun _ => 0)), (q_8, cI g 20 (fun _ => 0)), (q_7, cI g 200 (fun _ => 0)), (q_6, cI g 200 (fun _ => 0)), (q_5, cZ g 5 (fun _ => false)), (q_4, cI g 100 (fun _ => 0)), (q_3, cI g 100 (fun _ => 0)), (q_2, cI g 100 (fun _ => 0)), (q_1, cI g 1505 (fun _ => 0)), (o0, .inr (8, [.int (iI 0), .int (iI 0), .ref q_1, .int (iI 0), .ref q_2, .ref q_3, .ref q_4, .ref q_5, .long (lI 100000), .long (lI 0), .long (lI 0), .int (iI 0), .ref q_6, .int (bI false), .int (iI 0), .ref q_7, .int (iI 0), .int (iI 0), .ref q_8, .ref q_9, .ref q_10, .ref q_11, .ref q_12, .ref q_13, .int (iI 0), .int (iI 0), .int (iI 0), .int (iI 0), .ref q_14, .ref q_15, .ref q_16, .int (iI 0), .int (bI false), .null, .null, .int (iI 0), .int (bI false), .null, .null, .null]))]) rfl rfl (Nat.le_of_ble_eq_true rfl) zi dX8_init_139 (fun H locs h => ?_)
  refine lv_aload_n zx zb dX8_init_142 rfl (lv_at hl 0 rfl) ?_
  refine lv_sipush (v := iI (300)) zx zb dX8_init_143 rfl ?_
  refine r_newI (N := 300) 17 6676 zC h (by decide) (by decide) (Nat.le_of_ble_eq_true rfl) (Nat.le_of_ble_eq_true rfl) (Nat.le_of_ble_eq_true rfl) (Nat.le_of_ble_eq_true rfl) (List.mem_of_getElem? (i := 54) (by decide +kernel)) dX8_init_146 (fun q_17 H h => ?_)
  refine pf8_66 (x := q_17) zC h 17 (ws' := [(q_17, cI g 300 (fun _ => 0)), (q_16, cZ g 22 (fun _ => false)), (q_15, cZ g 22 (fun _ => false)), (q_14, cI g 22 (fun _ => 0)), (q_13, cI g 20 (fun _ => 0)), (q_12, cJ g 20 (fun _ => 0)), (q_11, cJ g 20 (fun _ => 0)), (q_10, cI g 20 (fun _ => 0)), (q_9, cI g 4000 (fun _ => 0)), (q_8, cI g 20 (fun _ => 0)), (q_7, cI g 200 (fun _ => 0)), (q_6, cI g 200 (fun _ => 0)), (q_5, cZ g 5 (fun _ => false)), (q_4, cI g 100 (fun _ => 0)), (q_3, cI g 100 (fun _ => 0)), (q_2, cI g 100 (fun _ => 0)), (q_1, cI g 1505 (fun _ => 0)), (o0, .inr (8, [.int (iI 0), .int (iI 0), .ref q_1, .int (iI 0), .ref q_2, .ref q_3, .ref q_4, .ref q_5, .long (lI 100000), .long (lI 0), .long (lI 0), .int (iI 0), .ref q_6, .int (bI false), .int (iI 0), .ref q_7, .int (iI 0), .int (iI 0), .ref q_8, .ref q_9, .ref q_10, .ref q_11, .ref q_12, .ref q_13, .int (iI 0), .int (iI 0), .int (iI 0), .int (iI 0), .ref q_14, .ref q_15, .ref q_16, .int (iI 0), .int (bI false), .ref q_17, .null, .int (iI 0), .int (bI false), .null, .null, .null]))]) rfl rfl (Nat.le_of_ble_eq_true rfl) zi dX8_init_148 (fun H locs h => ?_)
  refine lv_aload_n zx zb dX8_init_151 rfl (lv_at hl 0 rfl) ?_
  refine lv_sipush (v := iI (300)) zx zb dX8_init_152 rfl ?_
  refine r_newI (N := 300) 18 6976 zC h (by decide) (by decide) (Nat.le_of_ble_eq_true rfl) (Nat.le_of_ble_eq_true rfl) (Nat.le_of_ble_eq_true rfl) (Nat.le_of_ble_eq_true rfl) (List.mem_of_getElem? (i := 54) (by decide +kernel)) dX8_init_155 (fun q_18 H h => ?_)
  refine pf8_69 (x := q_18) zC h 18 (ws' := [(q_18, cI g 300 (fun _ => 0)), (q_17, cI g 300 (fun _ => 0)), (q_16, cZ g 22 (fun _ => false)), (q_15, cZ g 22 (fun _ => false)), (q_14, cI g 22 (fun _ => 0)), (q_13, cI g 20 (fun _ => 0)), (q_12, cJ g 20 (fun _ => 0)), (q_11, cJ g 20 (fun _ => 0)), (q_10, cI g 20 (fun _ => 0)), (q_9, cI g 4000 (fun _ => 0)), (q_8, cI g 20 (fun _ => 0)), (q_7, cI g 200 (fun _ => 0)), (q_6, cI g 200 (fun _ => 0)), (q_5, cZ g 5 (fun _ => false)), (q_4, cI g 100 (fun _ => 0)), (q_3, cI g 100 (fun _ => 0)), (q_2, cI g 100 (fun _ => 0)), (q_1, cI g 1505 (fun _ => 0)), (o0, .inr (8, [.int (iI 0), .int (iI 0), .ref q_1, .int (iI 0), .ref q_2, .ref q_3, .ref q_4, .ref q_5, .long (lI 100000), .long (lI 0), .long (lI 0), .int (iI 0), .ref q_6, .int (bI false), .int (iI 0), .ref q_7, .int (iI 0), .int (iI 0), .ref q_8, .ref q_9, .ref q_10, .ref q_11, .ref q_12, .ref q_13, .int (iI 0), .int (iI 0), .int (iI 0), .int (iI 0), .ref q_14, .ref q_15, .ref q_16, .int (iI 0), .int (bI false), .ref q_17, .ref q_18, .int (iI 0), .int (bI false), .null, .null, .null]))]) rfl rfl (Nat.le_of_ble_eq_true rfl) zi dX8_init_157 (fun H locs h => ?_)
  refine lv_aload_n zx zb dX8_init_160 rfl (lv_at hl 0 rfl) ?_
  refine lv_sipush (v := iI (300)) zx zb dX8_init_161 rfl ?_
  refine r_newI (N := 300) 19 7276 zC h (by decide) (by decide) (Nat.le_of_ble_eq_true rfl) (Nat.le_of_ble_eq_true rfl) (Nat.le_of_ble_eq_true rfl) (Nat.le_of_ble_eq_true rfl) (List.mem_of_getElem? (i := 54) (by decide +kernel)) dX8_init_164 (fun q_19 H h => ?_)
  refine pf8_72 (x := q_19) zC h 19 (ws' := [(q_19, cI g 300 (fun _ => 0)), (q_18, cI g 300 (fun _ => 0)), (q_17, cI g 300 (fun _ => 0)), (q_16, cZ g 22 (fun _ => false)), (q_15, cZ g 22 (fun _ => false)), (q_14, cI g 22 (fun _ => 0)), (q_13, cI g 20 (fun _ => 0)), (q_12, cJ g 20 (fun _ => 0)), (q_11, cJ g 20 (fun _ => 0)), (q_10, cI g 20 (fun _ => 0)), (q_9, cI g 4000 (fun _ => 0)), (q_8, cI g 20 (fun _ => 0)), (q_7, cI g 200 (fun _ => 0)), (q_6, cI g 200 (fun _ => 0)), (q_5, cZ g 5 (fun _ => false)), (q_4, cI g 100 (fun _ => 0)), (q_3, cI g 100 (fun _ => 0)), (q_2, cI g 100 (fun _ => 0)), (q_1, cI g 1505 (fun _ => 0)), (o0, .inr (8, [.int (iI 0), .int (iI 0), .ref q_1, .int (iI 0), .ref q_2, .ref q_3, .ref q_4, .ref q_5, .long (lI 100000), .long (lI 0), .long (lI 0), .int (iI 0), .ref q_6, .int (bI false), .int (iI 0), .ref q_7, .int (iI 0), .int (iI 0), .ref q_8, .ref q_9, .ref q_10, .ref q_11, .ref q_12, .ref q_13, .int (iI 0), .int (iI 0), .int (iI 0), .int (iI 0), .ref q_14, .ref q_15, .ref q_16, .int (iI 0), .int (bI false), .ref q_17, .ref q_18, .int (iI 0), .int (bI false), .ref q_19, .null, .null]))]) rfl rfl (Nat.le_of_ble_eq_true rfl) zi dX8_init_166 (fun H locs h => ?_)
  refine lv_aload_n zx zb dX8_init_169 rfl (lv_at hl 0 rfl) ?_
  refine lv_sipush (v := iI (300)) zx zb dX8_init_170 rfl ?_
  refine r_newI (N := 300) 20 7576 zC h (by decide) (by decide) (Nat.le_of_ble_eq_true rfl) (Nat.le_of_ble_eq_true rfl) (Nat.le_of_ble_eq_true rfl) (Nat.le_of_ble_eq_true rfl) (List.mem_of_getElem? (i := 54) (by decide +kernel)) dX8_init_173 (fun q_20 H h => ?_)
  refine pf8_75 (x := q_20) zC h 20 (ws' := [(q_20, cI g 300 (fun _ => 0)), (q_19, cI g 300 (fun _ => 0)), (q_18, cI g 300 (fun _ => 0)), (q_17, cI g 300 (fun _ => 0)), (q_16, cZ g 22 (fun _ => false)), (q_15, cZ g 22 (fun _ => false)), (q_14, cI g 22 (fun _ => 0)), (q_13, cI g 20 (fun _ => 0)), (q_12, cJ g 20 (fun _ => 0)), (q_11, cJ g 20 (fun _ => 0)), (q_10, cI g 20 (fun _ => 0)), (q_9, cI g 4000 (fun _ => 0)), (q_8, cI g 20 (fun _ => 0)), (q_7, cI g 200 (fun _ => 0)), (q_6, cI g 200 (fun _ => 0)), (q_5, cZ g 5 (fun _ => false)), (q_4, cI g 100 (fun _ => 0)), (q_3, cI g 100 (fun _ => 0)), (q_2, cI g 100 (fun _ => 0)), (q_1, cI g 1505 (fun _ => 0)), (o0, .inr (8, [.int (iI 0), .int (iI 0), .ref q_1, .int (iI 0), .ref q_2, .ref q_3, .ref q_4, .ref q_5, .long (lI 100000), .long (lI 0), .long (lI 0), .int (iI 0), .ref q_6, .int (bI false), .int (iI 0), .ref q_7, .int (iI 0), .int (iI 0), .ref q_8, .ref q_9, .ref q_10, .ref q_11, .ref q_12, .ref q_13, .int (iI 0), .int (iI 0), .int (iI 0), .int (iI 0), .ref q_14, .ref q_15, .ref q_16, .int (iI 0), .int (bI false), .ref q_17, .ref q_18, .int (iI 0), .int (bI false), .ref q_19, .ref q_20, .null]))]) rfl rfl (Nat.le_of_ble_eq_true rfl) zi dX8_init_175 (fun H locs h => ?_)
  refine lv_aload_n zx zb dX8_init_178 rfl (lv_at hl 0 rfl) ?_
  refine lv_sipush (v := iI (301)) zx zb dX8_init_179 rfl ?_
  refine r_newZ (N := 301) 21 7877 zC h (by decide) (by decide) (Nat.le_of_ble_eq_true rfl) (Nat.le_of_ble_eq_true rfl) (Nat.le_of_ble_eq_true rfl) (Nat.le_of_ble_eq_true rfl) (List.mem_of_getElem? (i := 115) (by decide +kernel)) dX8_init_182 (fun q_21 H h => ?_)
  refine pf8_78 (x := q_21) zC h 21 (ws' := [(q_21, cZ g 301 (fun _ => false)), (q_20, cI g 300 (fun _ => 0)), (q_19, cI g 300 (fun _ => 0)), (q_18, cI g 300 (fun _ => 0)), (q_17, cI g 300 (fun _ => 0)), (q_16, cZ g 22 (fun _ => false)), (q_15, cZ g 22 (fun _ => false)), (q_14, cI g 22 (fun _ => 0)), (q_13, cI g 20 (fun _ => 0)), (q_12, cJ g 20 (fun _ => 0)), (q_11, cJ g 20 (fun _ => 0)), (q_10, cI g 20 (fun _ => 0)), (q_9, cI g 4000 (fun _ => 0)), (q_8, cI g 20 (fun _ => 0)), (q_7, cI g 200 (fun _ => 0)), (q_6, cI g 200 (fun _ => 0)), (q_5, cZ g 5 (fun _ => false)), (q_4, cI g 100 (fun _ => 0)), (q_3, cI g 100 (fun _ => 0)), (q_2, cI g 100 (fun _ => 0)), (q_1, cI g 1505 (fun _ => 0)), (o0, .inr (8, [.int (iI 0), .int (iI 0), .ref q_1, .int (iI 0), .ref q_2, .ref q_3, .ref q_4, .ref q_5, .long (lI 100000), .long (lI 0), .long (lI 0), .int (iI 0), .ref q_6, .int (bI false), .int (iI 0), .ref q_7, .int (iI 0), .int (iI 0), .ref q_8, .ref q_9, .ref q_10, .ref q_11, .ref q_12, .ref q_13, .int (iI 0), .int (iI 0), .int (iI 0), .int (iI 0), .ref q_14, .ref q_15, .ref q_16, .int (iI 0), .int (bI false), .ref q_17, .ref q_18, .int (iI 0), .int (bI false), .ref q_19, .ref q_20, .ref q_21]))]) rfl rfl (Nat.le_of_ble_eq_true rfl) zi dX8_init_184 (fun H locs h => ?_)
  refine lv_aload_n zx zb dX8_init_187 rfl (lv_at hl 0 rfl) ?_
  refine lv_iconst (v := iI (0)) zx zb dX8_init_188 rfl ?_
  refine pf8_81 (x := iI 0) zC h 21 (ws' := [(q_21, cZ g 301 (fun _ => false)), (q_20, cI g 300 (fun _ => 0)), (q_19, cI g 300 (fun _ => 0)), (q_18, cI g 300 (fun _ => 0)), (q_17, cI g 300 (fun _ => 0)), (q_16, cZ g 22 (fun _ => false)), (q_15, cZ g 22 (fun _ => false)), (q_14, cI g 22 (fun _ => 0)), (q_13, cI g 20 (fun _ => 0)), (q_12, cJ g 20 (fun _ => 0)), (q_11, cJ g 20 (fun _ => 0)), (q_10, cI g 20 (fun _ => 0)), (q_9, cI g 4000 (fun _ => 0)), (q_8, cI g 20 (fun _ => 0)), (q_7, cI g 200 (fun _ => 0)), (q_6, cI g 200 (fun _ => 0)), (q_5, cZ g 5 (fun _ => false)), (q_4, cI g 100 (fun _ => 0)), (q_3, cI g 100 (fun _ => 0)), (q_2, cI g 100 (fun _ => 0)), (q_1, cI g 1505 (fun _ => 0)), (o0, .inr (8, [.int (iI 0), .int (iI 0), .ref q_1, .int (iI 0), .ref q_2, .ref q_3, .ref q_4, .ref q_5, .long (lI 100000), .long (lI 0), .long (lI 0), .int (iI 0), .ref q_6, .int (bI false), .int (iI 0), .ref q_7, .int (iI 0), .int (iI 0), .ref q_8, .ref q_9, .ref q_10, .ref q_11, .ref q_12, .ref q_13, .int (iI 0), .int (iI 0), .int (iI 0), .int (iI 0), .ref q_14, .ref q_15, .ref q_16, .int (iI 0), .int (bI false), .ref q_17, .ref q_18, .int (iI 0), .int (bI false), .ref q_19, .ref q_20, .ref q_21]))]) rfl rfl (Nat.le_of_ble_eq_true rfl) dX8_init_189 (fun H locs h => ?_)
  exact r_vret zC zQ zr zk h dX8_init_192 (u := (adL [o0, q_1, q_2, q_3, q_4, q_5, q_6, q_7, q_8, q_9, q_10, q_11, q_12, q_13, q_14, q_15, q_16, q_17, q_18, q_19, q_20, q_21])) rfl (show List.Perm ([(q_21, cZ g 301 (fun _ => false)), (q_20, cI g 300 (fun _ => 0)), (q_19, cI g 300 (fun _ => 0)), (q_18, cI g 300 (fun _ => 0)), (q_17, cI g 300 (fun _ => 0)), (q_16, cZ g 22 (fun _ => false)), (q_15, cZ g 22 (fun _ => false)), (q_14, cI g 22 (fun _ => 0)), (q_13, cI g 20 (fun _ => 0)), (q_12, cJ g 20 (fun _ => 0)), (q_11, cJ g 20 (fun _ => 0)), (q_10, cI g 20 (fun _ => 0)), (q_9, cI g 4000 (fun _ => 0)), (q_8, cI g 20 (fun _ => 0)), (q_7, cI g 200 (fun _ => 0)), (q_6, cI g 200 (fun _ => 0)), (q_5, cZ g 5 (fun _ => false)), (q_4, cI g 100 (fun _ => 0)), (q_3, cI g 100 (fun _ => 0)), (q_2, cI g 100 (fun _ => 0)), (q_1, cI g 1505 (fun _ => 0)), (o0, .inr (8, [.int (iI 0), .int (iI 0), .ref q_1, .int (iI 0), .ref q_2, .ref q_3, .ref q_4, .ref q_5, .long (lI 100000), .long (lI 0), .long (lI 0), .int (iI 0), .ref q_6, .int (bI false), .int (iI 0), .ref q_7, .int (iI 0), .int (iI 0), .ref q_8, .ref q_9, .ref q_10, .ref q_11, .ref q_12, .ref q_13, .int (iI 0), .int (iI 0), .int (iI 0), .int (iI 0), .ref q_14, .ref q_15, .ref q_16, .int (iI 0), .int (bI false), .ref q_17, .ref q_18, .int (iI 0), .int (bI false), .ref q_19, .ref q_20, .ref q_21]))]) (wM0 g (adL [o0, q_1, q_2, q_3, q_4, q_5, q_6, q_7, q_8, q_9, q_10, q_11, q_12, q_13, q_14, q_15, q_16, q_17, q_18, q_19, q_20, q_21])) from (List.reverse_perm _).symm) rfl (Nat.le_of_ble_eq_true rfl) (Nat.le_of_ble_eq_true rfl)
