/-! THE REFERENCE: a question kept; the time passes -/
/-- k places from o on are those of the other -/
def cpO (A B : Nat → Int) (o k : Nat) : Nat → Int := fun i => if o ≤ i ∧ i < o + k then B (i - o) else A i
theorem cpO_0 {A B : Nat → Int} {o : Nat} : cpO A B o 0 = A := by funext i; exact if_neg (by omega)
theorem cpO_s {A B : Nat → Int} {o k : Nat} : up (cpO A B o k) (o + k) (B k) = cpO A B o (k + 1) := by
  funext i
  by_cases e : i = o + k
  · subst e; rw [up_s]
    unfold cpO
    rw [if_pos (by omega), show o + k - o = k from by omega]
  · rw [up_n e]
    unfold cpO
    by_cases q : o ≤ i ∧ i < o + k
    · rw [if_pos q, if_pos (by omega)]
    · rw [if_neg q, if_neg (by omega)]
abbrev SVM : Type := Int × Nat × (Nat → Int) × (Nat → Int) × (Nat → Int) × (Nat → Int) × (Nat → Int) × (Nat → Int)
def saveM (mk : Nat → Bool) (tx : Nat → Int) (sg : Nat) (nw : Int) (w z : Int) (r : RS) (s : SVM) (ans : Int) (u : SVM) : Prop :=
  (¬ (0 ≤ w ∧ w < 50) → ans = -1000001 ∧ u = s) ∧ ((0 ≤ w ∧ w < 50) → ¬ (1 ≤ z ∧ z ≤ 1000) → ans = -1000002 ∧ u = s) ∧ ((0 ≤ w ∧ w < 50) → (1 ≤ z ∧ z ≤ 1000) → ∃ (fa : Int) (te ta : Nat), LQ mk tx sg (rBegin r) fa te ta ∧ u.1 = 0 ∧
    (fa ≠ -1 → ans = -1 - fa ∧ u.2 = s.2) ∧ (fa = -1 → s.2.1 = 20 → ans = -1000004 ∧ u.2 = s.2) ∧
    (fa = -1 → s.2.1 ≠ 20 → ans = (s.2.1 : Int) + 1 ∧ u.2 = (s.2.1 + 1, cpO s.2.2.1 tx (200 * s.2.1) sg, up s.2.2.2.1 s.2.1 (sg : Int), up s.2.2.2.2.1 s.2.1 w, up s.2.2.2.2.2.1 s.2.1 z, up s.2.2.2.2.2.2.1 s.2.1 (nw + z), up s.2.2.2.2.2.2.2 s.2.1 (-1))))

set_option maxHeartbeats 4000000 in
set_option maxRecDepth 100000 in
theorem c_X8_save (l : Launch) (D : va_G) (g : Nat → ClassId) (a : Nat → Nat) (mth mrw mrg mbd mnw mlc mas mak mfa mte mta mlv mct mgo : Int) (man mgr mgg : Bool) (kp : Nat) (sg : Nat) (TX : Nat → Int) (NO : Nat → Int) (MK : Nat → Bool) (KT : Nat → Int) (KS : Nat → Int) (KO : Nat → Int) (EV : Nat → Int) (DU : Nat → Int) (SA : Nat → Int) (w z : Int) (r : RS) (hw : R32 w) (hz : R64 z) (hkp : kp ≤ 20) (hsg : sg ≤ 200) (hTX : ∀ k, k < sg → R32 (TX k)) : Ct (S := Int × SVM × Int × Int × Int × Int × (Nat → Int)) l D g yX8_save cX8_save 6 (some .int) rmX8_save [.ref (a 0), .int (iI w), .long (lI z)] ([(a 0, oM a mth mrw mrg mbd mnw mlc (sg : Int) man mas mak (kp : Int) mfa mte mta mlv mct mgr mgo mgg), (a 6, cI g 200 TX), (a 14, cI g 22 NO), (a 5, cZ g 5 MK), (a 9, cI g 4000 KT), (a 8, cI g 20 KS), (a 10, cI g 20 KO), (a 11, cJ g 20 EV), (a 12, cJ g 20 DU), (a 13, cI g 20 SA)]) (fun u => some (.int (iI u.1))) (fun u => saveM MK TX sg mnw w z r ((sg : Int), kp, KT, KS, KO, EV, DU, SA) u.1 u.2.1) (fun u => [(a 0, oM a 0 mrw mrg mbd mnw mlc u.2.1.1 man mas mak (u.2.1.2.1 : Int) u.2.2.1 u.2.2.2.1 u.2.2.2.2.1 u.2.2.2.2.2.1 mct mgr mgo mgg), (a 6, cI g 200 TX), (a 14, cI g 22 u.2.2.2.2.2.2), (a 5, cZ g 5 MK), (a 9, cI g 4000 u.2.1.2.2.1), (a 8, cI g 20 u.2.1.2.2.2.1), (a 10, cI g 20 u.2.1.2.2.2.2.1), (a 11, cJ g 20 u.2.1.2.2.2.2.2.1), (a 12, cJ g 20 u.2.1.2.2.2.2.2.2.1), (a 13, cI g 20 u.2.1.2.2.2.2.2.2.2)]) := by
  refine Ct.of RX8 rfl (by decide +kernel) [(0, .ref (a 0)), (1, .int (iI w)), (2, .long (lI z))] rfl (Nat.le_of_ble_eq_true rfl) ?_
  intro pg evn sT mI bl mtd cd aA ls ar qQ zC zr zk zi zQ h hl
  have zx := zC.1
  have zb := zC.2.1
  skip
  refine lv_aload_n zx zb dX8_save_0 rfl (lv_at hl 0 rfl) ?_
  refine lv_iconst (v := iI (0)) zx zb dX8_save_1 rfl ?_
  refine pf8_85 (x := iI 0) zC h 0 (ws' := [(a 0, oM a 0 mrw mrg mbd mnw mlc (sg : Int) man mas mak (kp : Int) mfa mte mta mlv mct mgr mgo mgg), (a 6, cI g 200 TX), (a 14, cI g 22 NO), (a 5, cZ g 5 MK), (a 9, cI g 4000 KT), (a 8, cI g 20 KS), (a 10, cI g 20 KO), (a 11, cJ g 20 EV), (a 12, cJ g 20 DU), (a 13, cI g 20 SA)]) rfl rfl (Nat.le_of_ble_eq_true rfl) dX8_save_2 (fun H locs h => ?_)
  refine lv_iload_n zx zb dX8_save_5 rfl (lv_at hl 1 rfl) ?_
  refine r_invS (As := [.int (iI w)]) (rest := []) (wr := [(a 0, oM a 0 mrw mrg mbd mnw mlc (sg : Int) man mas mak (kp : Int) mfa mte mta mlv mct mgr mgo mgg), (a 6, cI g 200 TX), (a 14, cI g 22 NO), (a 5, cZ g 5 MK), (a 9, cI g 4000 KT), (a 8, cI g 20 KS), (a 10, cI g 20 KO), (a 11, cJ g 20 EV), (a 12, cJ g 20 DU), (a 13, cI g 20 SA)]) (ws2 := fun u_1 => [(a 0, oM a 0 mrw mrg mbd mnw mlc (sg : Int) man mas mak (kp : Int) mfa mte mta mlv mct mgr mgo mgg), (a 6, cI g 200 TX), (a 14, cI g 22 NO), (a 5, cZ g 5 MK), (a 9, cI g 4000 KT), (a 8, cI g 20 KS), (a 10, cI g 20 KO), (a 11, cJ g 20 EV), (a 12, cJ g 20 DU), (a 13, cI g 20 SA)]) 0 0 zC h hl.1 (c_X8_isAsker l D g w (by omega)) (cs8_177 zC ⟨(Nat.le_of_ble_eq_true rfl), (Nat.le_of_ble_eq_true rfl)⟩) rfl rfl (Nat.le_of_ble_eq_true rfl) (List.Perm.refl _) (fun u => List.Perm.refl _) ⟨(Nat.le_of_ble_eq_true rfl), (Nat.le_of_ble_eq_true rfl)⟩ (Nat.le_of_ble_eq_true rfl) (Nat.le_of_ble_eq_true rfl) dX8_save_6 (fun u_1 H locs hu_1 hz_1 h => ?_)
  refine b_zne (b := decide (0 ≤ w ∧ w < 50)) (tgt := 15) zC dX8_save_9 (by decide) (fun c_2 => ?_) (fun c_2 => ?_)
  · skip
    simp only [decide_eq_true_eq, decide_eq_false_iff_not] at c_2
    refine lv_lload_n zx zb dX8_save_15 rfl (lv_at hl 2 rfl) ?_
    refine lv_lconst (v := lI 1) zx zb dX8_save_16 rfl ?_
    refine kl8_223 zC dX8_save_17 ?_
    refine r_invS (As := [.long (lI z), .long (lI 1), .long (lI 1000)]) (rest := []) (wr := [(a 0, oM a 0 mrw mrg mbd mnw mlc (sg : Int) man mas mak (kp : Int) mfa mte mta mlv mct mgr mgo mgg), (a 6, cI g 200 TX), (a 14, cI g 22 NO), (a 5, cZ g 5 MK), (a 9, cI g 4000 KT), (a 8, cI g 20 KS), (a 10, cI g 20 KO), (a 11, cJ g 20 EV), (a 12, cJ g 20 DU), (a 13, cI g 20 SA)]) (ws2 := fun u_3 => [(a 0, oM a 0 mrw mrg mbd mnw mlc (sg : Int) man mas mak (kp : Int) mfa mte mta mlv mct mgr mgo mgg), (a 6, cI g 200 TX), (a 14, cI g 22 NO), (a 5, cZ g 5 MK), (a 9, cI g 4000 KT), (a 8, cI g 20 KS), (a 10, cI g 20 KO), (a 11, cJ g 20 EV), (a 12, cJ g 20 DU), (a 13, cI g 20 SA)]) 0 0 zC h hl.1 (c_X8_within l D g z 1 1000 (by omega) (by omega) (by omega)) (cs8_90 zC ⟨(Nat.le_of_ble_eq_true rfl), (Nat.le_of_ble_eq_true rfl)⟩) rfl rfl (Nat.le_of_ble_eq_true rfl) (List.Perm.refl _) (fun u => List.Perm.refl _) ⟨(Nat.le_of_ble_eq_true rfl), (Nat.le_of_ble_eq_true rfl)⟩ (Nat.le_of_ble_eq_true rfl) (Nat.le_of_ble_eq_true rfl) dX8_save_20 (fun u_3 H locs hu_3 hz_3 h => ?_)
    refine b_zne (b := decide (1 ≤ z ∧ z ≤ 1000)) (tgt := 29) zC dX8_save_23 (by decide) (fun c_4 => ?_) (fun c_4 => ?_)
    · skip
      simp only [decide_eq_true_eq, decide_eq_false_iff_not] at c_4
      refine lv_aload_n zx zb dX8_save_29 rfl (lv_at hl 0 rfl) ?_
      refine lv_aload_n zx zb dX8_save_30 rfl (lv_at hl 0 rfl) ?_
      refine gf8_32 (v := .ref (a 6)) zC h 0 rfl rfl dX8_save_31 ?_
      refine lv_iconst (v := iI (0)) zx zb dX8_save_34 rfl ?_
      refine lv_aload_n zx zb dX8_save_35 rfl (lv_at hl 0 rfl) ?_
      refine gf8_104 (v := .int (iI (sg : Int))) zC h 0 rfl rfl dX8_save_36 ?_
      refine r_invV (As := [.ref (a 6), .int (iI 0), .int (iI (sg : Int))]) (rest := []) (wr := [(a 9, cI g 4000 KT), (a 8, cI g 20 KS), (a 10, cI g 20 KO), (a 11, cJ g 20 EV), (a 12, cJ g 20 DU), (a 13, cI g 20 SA)]) (ws2 := fun u_5 => [(a 0, oM a 0 mrw mrg mbd mnw mlc (sg : Int) man mas mak (kp : Int) u_5.1 (u_5.2.1 : Int) (u_5.2.2.1 : Int) (u_5.2.2.2.1 : Int) mct mgr mgo mgg), (a 6, cI g 200 TX), (a 14, cI g 22 u_5.2.2.2.2), (a 5, cZ g 5 MK), (a 9, cI g 4000 KT), (a 8, cI g 20 KS), (a 10, cI g 20 KO), (a 11, cJ g 20 EV), (a 12, cJ g 20 DU), (a 13, cI g 20 SA)]) 0 0 zC h hl.1 (c_X8_look l D g a 0 mrw mrg mbd mnw mlc (sg : Int) mas mak (kp : Int) mfa mte mta mlv mct mgo man mgr mgg  (a 6) 200 TX NO MK 0 sg r (by omega) (by decide) (z0R hTX)) (cs8_181 zC ⟨(Nat.le_of_ble_eq_true rfl), (Nat.le_of_ble_eq_true rfl)⟩) (.head _) rfl rfl rfl (Nat.le_of_ble_eq_true rfl) (pm fun cp_q => by simp only [cp_o, List.countP_append, List.countP_nil] <;> omega) (fun u => (pm fun cp_q => by simp only [cp_o, List.countP_append, List.countP_nil] <;> omega)) ⟨(Nat.le_of_ble_eq_true rfl), (Nat.le_of_ble_eq_true rfl)⟩ (Nat.le_of_ble_eq_true rfl) (Nat.le_of_ble_eq_true rfl) dX8_save_39 (fun u_5 H locs hu_5 hz_5 h => ?_)
      have hlk := hu_5
      have hle := LQ_R hu_5
      refine lv_aload_n zx zb dX8_save_42 rfl (lv_at hl 0 rfl) ?_
      refine gf8_104 (v := .int (iI (sg : Int))) zC h 0 rfl rfl dX8_save_43 ?_
      refine lv_istore (lv' := [(4, .int (iI (sg : Int))), (0, .ref (a 0)), (1, .int (iI w)), (2, .long (lI z))]) zx zb dX8_save_46 hl (by decide) rfl (fun ls hl => ?_)
      refine lv_aload_n zx zb dX8_save_48 rfl (lv_at hl 1 rfl) ?_
      refine lv_iconst (v := iI (0)) zx zb dX8_save_49 rfl ?_
      refine pf8_104 (x := iI 0) zC h 0 (ws' := [(a 0, oM a 0 mrw mrg mbd mnw mlc 0 man mas mak (kp : Int) u_5.1 (u_5.2.1 : Int) (u_5.2.2.1 : Int) (u_5.2.2.2.1 : Int) mct mgr mgo mgg), (a 6, cI g 200 TX), (a 14, cI g 22 u_5.2.2.2.2), (a 5, cZ g 5 MK), (a 9, cI g 4000 KT), (a 8, cI g 20 KS), (a 10, cI g 20 KO), (a 11, cJ g 20 EV), (a 12, cJ g 20 DU), (a 13, cI g 20 SA)]) rfl rfl (Nat.le_of_ble_eq_true rfl) dX8_save_50 (fun H locs h => ?_)
      refine lv_aload_n zx zb dX8_save_53 rfl (lv_at hl 1 rfl) ?_
      refine gf8_114 (v := .int (iI u_5.1)) zC h 0 rfl rfl dX8_save_54 ?_
      refine i_zlt (a := u_5.1) (tgt := 67) zC dX8_save_57 (by decide) (by omega) (fun c_6 => ?_) (fun c_6 => ?_)
      · skip
        refine lv_aload_n zx zb dX8_save_67 rfl (lv_at hl 1 rfl) ?_
        refine gf8_225 (v := .int (iI (kp : Int))) zC h 0 rfl rfl dX8_save_68 ?_
        refine lv_bipush (v := iI (20)) zx zb dX8_save_71 rfl ?_
        refine i_cne (a := (kp : Int)) (b := 20) (tgt := 79) zC dX8_save_73 (by decide) (by omega) (fun c_7 => ?_) (fun c_7 => ?_)
        · skip
          have h_20 : kp ≠ 20 := by omega
          refine lv_iconst (v := iI (0)) zx zb dX8_save_79 rfl ?_
          refine lv_istore (lv' := [(5, .int (iI 0)), (4, .int (iI (sg : Int))), (0, .ref (a 0)), (1, .int (iI w)), (2, .long (lI z))]) zx zb dX8_save_80 hl (by decide) rfl (fun ls hl => ?_)
          have L82_8 : ∀ (fuel : Nat) (k : Nat) (H : Heap) (locs : List Loc) (ls : Array Slot), sg - k < fuel → (k ≤ sg) → Hx D g sT aA sT.heap ([(a 0, oM a 0 mrw mrg mbd mnw mlc 0 man mas mak (kp : Int) u_5.1 (u_5.2.1 : Int) (u_5.2.2.1 : Int) (u_5.2.2.2.1 : Int) mct mgr mgo mgg), (a 6, cI g 200 TX), (a 14, cI g 22 u_5.2.2.2.2), (a 5, cZ g 5 MK), (a 9, cI g 4000 (cpO KT TX (200 * kp) k)), (a 8, cI g 20 KS), (a 10, cI g 20 KO), (a 11, cJ g 20 EV), (a 12, cJ g 20 DU), (a 13, cI g 20 SA)]) H locs → lv_has ls 6 [(0, .ref (a 0)), (1, .int (iI w)), (2, .long (lI z)), (4, .int (iI (sg : Int))), (5, .int (iI (k : Int)))] → W pg l evn rmX8_save sT mI ar bl mtd cd H locs 0 0 qQ (F0 mI 82 ls []) := by
            intro fuel
            induction fuel with
            | zero => intro k H locs ls hm; exact absurd hm (Nat.not_lt_zero _)
            | succ fuel ih82 =>
              intro k H locs ls hm hk h hl
              refine lv_iload zx zb dX8_save_82 (lv_at hl 4 rfl) ?_
              refine lv_iload zx zb dX8_save_84 (lv_at hl 3 rfl) ?_
              refine i_cge (a := (k : Int)) (b := (sg : Int)) (tgt := 118) zC dX8_save_86 (by decide) (by omega) (fun c_9 => ?_) (fun c_9 => ?_)
              · skip
                have e_k : k = sg := by omega
                rw [e_k] at h
                refine lv_aload_n zx zb dX8_save_118 rfl (lv_at hl 0 rfl) ?_
                refine gf8_38 (v := .ref (a 8)) zC h 0 rfl rfl dX8_save_119 ?_
                refine lv_aload_n zx zb dX8_save_122 rfl (lv_at hl 0 rfl) ?_
                refine gf8_225 (v := .int (iI (kp : Int))) zC h 0 rfl rfl dX8_save_123 ?_
                refine lv_iload zx zb dX8_save_126 (lv_at hl 3 rfl) ?_
                refine a_ist (x := (sg : Int)) zC h 5 (ws' := [(a 0, oM a 0 mrw mrg mbd mnw mlc 0 man mas mak (kp : Int) u_5.1 (u_5.2.1 : Int) (u_5.2.2.1 : Int) (u_5.2.2.2.1 : Int) mct mgr mgo mgg), (a 6, cI g 200 TX), (a 14, cI g 22 u_5.2.2.2.2), (a 5, cZ g 5 MK), (a 9, cI g 4000 (cpO KT TX (200 * kp) sg)), (a 8, cI g 20 (up KS kp (sg : Int))), (a 10, cI g 20 KO), (a 11, cJ g 20 EV), (a 12, cJ g 20 DU), (a 13, cI g 20 SA)]) rfl (z := (kp : Int)) kp rfl rfl (by omega) (by decide) dX8_save_128 (fun H locs h => ?_)
                refine lv_aload_n zx zb dX8_save_129 rfl (lv_at hl 0 rfl) ?_
                refine gf8_44 (v := .ref (a 10)) zC h 0 rfl rfl dX8_save_130 ?_
                refine lv_aload_n zx zb dX8_save_133 rfl (lv_at hl 0 rfl) ?_
                refine gf8_225 (v := .int (iI (kp : Int))) zC h 0 rfl rfl dX8_save_134 ?_
                refine lv_iload_n zx zb dX8_save_137 rfl (lv_at hl 1 rfl) ?_
                refine a_ist (x := w) zC h 6 (ws' := [(a 0, oM a 0 mrw mrg mbd mnw mlc 0 man mas mak (kp : Int) u_5.1 (u_5.2.1 : Int) (u_5.2.2.1 : Int) (u_5.2.2.2.1 : Int) mct mgr mgo mgg), (a 6, cI g 200 TX), (a 14, cI g 22 u_5.2.2.2.2), (a 5, cZ g 5 MK), (a 9, cI g 4000 (cpO KT TX (200 * kp) sg)), (a 8, cI g 20 (up KS kp (sg : Int))), (a 10, cI g 20 (up KO kp w)), (a 11, cJ g 20 EV), (a 12, cJ g 20 DU), (a 13, cI g 20 SA)]) rfl (z := (kp : Int)) kp rfl rfl (by omega) (by decide) dX8_save_138 (fun H locs h => ?_)
                refine lv_aload_n zx zb dX8_save_139 rfl (lv_at hl 0 rfl) ?_
                refine gf8_47 (v := .ref (a 11)) zC h 0 rfl rfl dX8_save_140 ?_
                refine lv_aload_n zx zb dX8_save_143 rfl (lv_at hl 0 rfl) ?_
                refine gf8_225 (v := .int (iI (kp : Int))) zC h 0 rfl rfl dX8_save_144 ?_
                refine lv_lload_n zx zb dX8_save_147 rfl (lv_at hl 2 rfl) ?_
                refine a_lst (x := z) zC h 7 (ws' := [(a 0, oM a 0 mrw mrg mbd mnw mlc 0 man mas mak (kp : Int) u_5.1 (u_5.2.1 : Int) (u_5.2.2.1 : Int) (u_5.2.2.2.1 : Int) mct mgr mgo mgg), (a 6, cI g 200 TX), (a 14, cI g 22 u_5.2.2.2.2), (a 5, cZ g 5 MK), (a 9, cI g 4000 (cpO KT TX (200 * kp) sg)), (a 8, cI g 20 (up KS kp (sg : Int))), (a 10, cI g 20 (up KO kp w)), (a 11, cJ g 20 (up EV kp z)), (a 12, cJ g 20 DU), (a 13, cI g 20 SA)]) rfl (z := (kp : Int)) kp rfl rfl (by omega) (by decide) dX8_save_148 (fun H locs h => ?_)
                refine lv_aload_n zx zb dX8_save_149 rfl (lv_at hl 0 rfl) ?_
                refine gf8_51 (v := .ref (a 12)) zC h 0 rfl rfl dX8_save_150 ?_
                refine lv_aload_n zx zb dX8_save_153 rfl (lv_at hl 0 rfl) ?_
                refine gf8_225 (v := .int (iI (kp : Int))) zC h 0 rfl rfl dX8_save_154 ?_
                refine lv_aload_n zx zb dX8_save_157 rfl (lv_at hl 0 rfl) ?_
                refine gf8_228 (v := .long (lI mnw)) zC h 0 rfl rfl dX8_save_158 ?_
                refine lv_lload_n zx zb dX8_save_161 rfl (lv_at hl 2 rfl) ?_
                refine l_add zC (a := mnw) (b := z) dX8_save_162 ?_
                refine a_lst (x := mnw + z) zC h 8 (ws' := [(a 0, oM a 0 mrw mrg mbd mnw mlc 0 man mas mak (kp : Int) u_5.1 (u_5.2.1 : Int) (u_5.2.2.1 : Int) (u_5.2.2.2.1 : Int) mct mgr mgo mgg), (a 6, cI g 200 TX), (a 14, cI g 22 u_5.2.2.2.2), (a 5, cZ g 5 MK), (a 9, cI g 4000 (cpO KT TX (200 * kp) sg)), (a 8, cI g 20 (up KS kp (sg : Int))), (a 10, cI g 20 (up KO kp w)), (a 11, cJ g 20 (up EV kp z)), (a 12, cJ g 20 (up DU kp (mnw + z))), (a 13, cI g 20 SA)]) rfl (z := (kp : Int)) kp rfl rfl (by omega) (by decide) dX8_save_163 (fun H locs h => ?_)
                refine lv_aload_n zx zb dX8_save_164 rfl (lv_at hl 0 rfl) ?_
                refine gf8_54 (v := .ref (a 13)) zC h 0 rfl rfl dX8_save_165 ?_
                refine lv_aload_n zx zb dX8_save_168 rfl (lv_at hl 0 rfl) ?_
                refine gf8_225 (v := .int (iI (kp : Int))) zC h 0 rfl rfl dX8_save_169 ?_
                refine lv_iconst (v := iI (-1)) zx zb dX8_save_172 rfl ?_
                refine a_ist (x := -1) zC h 9 (ws' := [(a 0, oM a 0 mrw mrg mbd mnw mlc 0 man mas mak (kp : Int) u_5.1 (u_5.2.1 : Int) (u_5.2.2.1 : Int) (u_5.2.2.2.1 : Int) mct mgr mgo mgg), (a 6, cI g 200 TX), (a 14, cI g 22 u_5.2.2.2.2), (a 5, cZ g 5 MK), (a 9, cI g 4000 (cpO KT TX (200 * kp) sg)), (a 8, cI g 20 (up KS kp (sg : Int))), (a 10, cI g 20 (up KO kp w)), (a 11, cJ g 20 (up EV kp z)), (a 12, cJ g 20 (up DU kp (mnw + z))), (a 13, cI g 20 (up SA kp (-1)))]) rfl (z := (kp : Int)) kp rfl rfl (by omega) (by decide) dX8_save_173 (fun H locs h => ?_)
                refine lv_aload_n zx zb dX8_save_174 rfl (lv_at hl 0 rfl) ?_
                refine lv_dup zx zb dX8_save_175 rfl ?_
                refine gf8_225 (v := .int (iI (kp : Int))) zC h 0 rfl rfl dX8_save_176 ?_
                refine lv_iconst (v := iI (1)) zx zb dX8_save_179 rfl ?_
                refine i_add zC (a := (kp : Int)) (b := 1) dX8_save_180 ?_
                rw [show ((kp : Int) + 1 : Int) = ((kp + 1 : Nat) : Int) from by omega]
                refine pf8_225 (x := iI ((kp + 1 : Nat) : Int)) zC h 0 (ws' := [(a 0, oM a 0 mrw mrg mbd mnw mlc 0 man mas mak ((kp + 1 : Nat) : Int) u_5.1 (u_5.2.1 : Int) (u_5.2.2.1 : Int) (u_5.2.2.2.1 : Int) mct mgr mgo mgg), (a 6, cI g 200 TX), (a 14, cI g 22 u_5.2.2.2.2), (a 5, cZ g 5 MK), (a 9, cI g 4000 (cpO KT TX (200 * kp) sg)), (a 8, cI g 20 (up KS kp (sg : Int))), (a 10, cI g 20 (up KO kp w)), (a 11, cJ g 20 (up EV kp z)), (a 12, cJ g 20 (up DU kp (mnw + z))), (a 13, cI g 20 (up SA kp (-1)))]) rfl rfl (Nat.le_of_ble_eq_true rfl) dX8_save_181 (fun H locs h => ?_)
                refine lv_aload_n zx zb dX8_save_184 rfl (lv_at hl 0 rfl) ?_
                refine gf8_225 (v := .int (iI ((kp + 1 : Nat) : Int))) zC h 0 rfl rfl dX8_save_185 ?_
                exact r_iret zC zQ zr zk h dX8_save_188 (u := ((kp : Int) + 1, (0, (kp + 1), cpO KT TX (200 * kp) sg, up KS kp (sg : Int), up KO kp w, up EV kp z, up DU kp (mnw + z), up SA kp (-1)), (u_5.1, (u_5.2.1 : Int), (u_5.2.2.1 : Int), (u_5.2.2.2.1 : Int), u_5.2.2.2.2))) (congrArg (fun z => some (Value.int (iI z))) (show (((kp + 1 : Nat) : Int)) = (kp : Int) + 1 by omega)) (List.Perm.refl _) ⟨fun q => absurd (by omega) q, fun _ q => absurd (by omega) q, fun _ _ => ⟨u_5.1, u_5.2.1, u_5.2.2.1, (by rw [← z0 TX]; exact hlk), rfl, fun q => absurd (by omega) q, fun _ q => absurd q h_20, fun _ _ => ⟨rfl, rfl⟩⟩⟩ (Nat.le_of_ble_eq_true rfl) (Nat.le_of_ble_eq_true rfl)
              · skip
                have hTk := hTX k (by omega)
                refine lv_aload_n zx zb dX8_save_89 rfl (lv_at hl 0 rfl) ?_
                refine gf8_41 (v := .ref (a 9)) zC h 0 rfl rfl dX8_save_90 ?_
                refine lv_sipush (v := iI (200)) zx zb dX8_save_93 rfl ?_
                refine lv_aload_n zx zb dX8_save_96 rfl (lv_at hl 0 rfl) ?_
                refine gf8_225 (v := .int (iI (kp : Int))) zC h 0 rfl rfl dX8_save_97 ?_
                refine i_mul zC (a := 200) (b := (kp : Int)) dX8_save_100 ?_
                refine lv_iload zx zb dX8_save_101 (lv_at hl 4 rfl) ?_
                refine i_add zC (a := 200 * (kp : Int)) (b := (k : Int)) dX8_save_103 ?_
                refine lv_aload_n zx zb dX8_save_104 rfl (lv_at hl 0 rfl) ?_
                refine gf8_32 (v := .ref (a 6)) zC h 0 rfl rfl dX8_save_105 ?_
                refine lv_iload zx zb dX8_save_108 (lv_at hl 4 rfl) ?_
                refine a_ild zC h 1 rfl (z := (k : Int)) k (by omega) (by omega) (by decide) dX8_save_110 ?_
                refine a_ist (x := TX k) zC h 4 (ws' := [(a 0, oM a 0 mrw mrg mbd mnw mlc 0 man mas mak (kp : Int) u_5.1 (u_5.2.1 : Int) (u_5.2.2.1 : Int) (u_5.2.2.2.1 : Int) mct mgr mgo mgg), (a 6, cI g 200 TX), (a 14, cI g 22 u_5.2.2.2.2), (a 5, cZ g 5 MK), (a 9, cI g 4000 (cpO KT TX (200 * kp) (k + 1))), (a 8, cI g 20 KS), (a 10, cI g 20 KO), (a 11, cJ g 20 EV), (a 12, cJ g 20 DU), (a 13, cI g 20 SA)]) rfl (z := 200 * (kp : Int) + (k : Int)) (200 * kp + k) (by rw [show up (cpO KT TX (200 * kp) k) (200 * kp + k) (TX k) = cpO KT TX (200 * kp) (k + 1) from cpO_s]; rfl) (by omega) (by omega) (by decide) dX8_save_111 (fun H locs h => ?_)
                refine i_inc (q := 4) (a := (k : Int)) (lv' := [(5, .int (iI ((k : Int) + 1))), (0, .ref (a 0)), (1, .int (iI w)), (2, .long (lI z)), (4, .int (iI (sg : Int)))]) zC hl dX8_save_112 rfl (by decide) rfl (fun ls hl => ?_)
                refine lv_goto (tgt := 82) zx zb dX8_save_115 (by decide) ?_
                exact ih82 (k + 1) _ _ _ (by omega) (by omega) h (lv_sub hl [1, 2, 3, 4, 0] rfl)
          exact L82_8 _ 0 _ _ _ (Nat.lt_succ_self _) (by omega) (by rw [cpO_0]; exact h) (lv_sub hl [2, 3, 4, 1, 0] rfl)
        · skip
          have h_20 : kp = 20 := by omega
          refine kc8_103 zC dX8_save_76 ?_
          exact r_iret zC zQ zr zk h dX8_save_78 (u := (-1000004, (0, kp, KT, KS, KO, EV, DU, SA), (u_5.1, (u_5.2.1 : Int), (u_5.2.2.1 : Int), (u_5.2.2.2.1 : Int), u_5.2.2.2.2))) rfl (List.Perm.refl _) ⟨fun q => absurd (by omega) q, fun _ q => absurd (by omega) q, fun _ _ => ⟨u_5.1, u_5.2.1, u_5.2.2.1, (by rw [← z0 TX]; exact hlk), rfl, fun q => absurd (by omega) q, fun _ _ => ⟨rfl, rfl⟩, fun _ q => absurd h_20 q⟩⟩ (Nat.le_of_ble_eq_true rfl) (Nat.le_of_ble_eq_true rfl)
      · skip
        refine lv_iconst (v := iI (-1)) zx zb dX8_save_60 rfl ?_
        refine lv_aload_n zx zb dX8_save_61 rfl (lv_at hl 1 rfl) ?_
        refine gf8_114 (v := .int (iI u_5.1)) zC h 0 rfl rfl dX8_save_62 ?_
        refine i_sub zC (a := -1) (b := u_5.1) dX8_save_65 ?_
        exact r_iret zC zQ zr zk h dX8_save_66 (u := (-1 - u_5.1, (0, kp, KT, KS, KO, EV, DU, SA), (u_5.1, (u_5.2.1 : Int), (u_5.2.2.1 : Int), (u_5.2.2.2.1 : Int), u_5.2.2.2.2))) rfl (List.Perm.refl _) ⟨fun q => absurd (by omega) q, fun _ q => absurd (by omega) q, fun _ _ => ⟨u_5.1, u_5.2.1, u_5.2.2.1, (by rw [← z0 TX]; exact hlk), rfl, fun _ => ⟨rfl, rfl⟩, fun q => absurd q (by omega), fun q => absurd q (by omega)⟩⟩ (Nat.le_of_ble_eq_true rfl) (Nat.le_of_ble_eq_true rfl)
    · skip
      simp only [decide_eq_true_eq, decide_eq_false_iff_not] at c_4
      refine kc8_102 zC dX8_save_26 ?_
      exact r_iret zC zQ zr zk h dX8_save_28 (u := (-1000002, ((sg : Int), kp, KT, KS, KO, EV, DU, SA), (mfa, mte, mta, mlv, NO))) rfl (List.Perm.refl _) ⟨fun q => absurd (by omega) q, fun _ _ => ⟨rfl, rfl⟩, fun _ q => absurd q (by omega)⟩ (Nat.le_of_ble_eq_true rfl) (Nat.le_of_ble_eq_true rfl)
  · skip
    simp only [decide_eq_true_eq, decide_eq_false_iff_not] at c_2
    refine kc8_180 zC dX8_save_12 ?_
    exact r_iret zC zQ zr zk h dX8_save_14 (u := (-1000001, ((sg : Int), kp, KT, KS, KO, EV, DU, SA), (mfa, mte, mta, mlv, NO))) rfl (List.Perm.refl _) ⟨fun _ => ⟨rfl, rfl⟩, fun q => absurd q (by omega), fun q => absurd q (by omega)⟩ (Nat.le_of_ble_eq_true rfl) (Nat.le_of_ble_eq_true rfl)

def dM (nx ev : Int) : Nat → Int
  | 0 => nx
  | m + 1 => dM nx ev m + ev
theorem dM_e (nx ev : Int) : ∀ m, dM nx ev m = nx + (m : Int) * ev
  | 0 => by show nx = nx + ((0 : Nat) : Int) * ev; simp
  | m + 1 => by
    show dM nx ev m + ev = nx + ((m + 1 : Nat) : Int) * ev
    rw [dM_e nx ev m, show ((m + 1 : Nat) : Int) = (m : Int) + 1 from by omega, Int.add_mul]
    omega
theorem dM_p {nx ev t : Int} {m : Nat} (he : 1 ≤ ev) (h1 : m = 0 ∨ dM nx ev (m - 1) ≤ t) (h2 : t < dM nx ev m) : passU ev nx t = ((m : Int), dM nx ev m) := by
  unfold passU
  cases m with
  | zero =>
    have h2 : t < nx := h2
    rw [if_pos h2]; rfl
  | succ m =>
    have h1 : dM nx ev m ≤ t := h1.resolve_left (by omega)
    rw [dM_e] at h1 h2
    rw [dM_e]
    have e1 : ((m + 1 : Nat) : Int) = (m : Int) + 1 := by omega
    rw [e1] at h2 ⊢
    rw [Int.add_mul] at h2
    have e0 : 0 ≤ (m : Int) * ev := Int.mul_nonneg (by omega) (by omega)
    have e2 : (t - nx) / ev = (m : Int) := by
      apply Int.le_antisymm
      · have : (t - nx) / ev < (m : Int) + 1 := Int.ediv_lt_of_lt_mul (by omega) (by rw [Int.add_mul]; omega)
        omega
      · exact Int.le_ediv_of_mul_le (by omega) (by omega)
    rw [if_neg (by omega), e2]
def duT (DU EV : Nat → Int) (t : Int) (k : Nat) : Nat → Int := fun j => if j < k then (passU (EV j) (DU j) t).2 else DU j
def tkN (DU EV : Nat → Int) (t : Int) : Nat → Int
  | 0 => 0
  | k + 1 => tkN DU EV t k + (passU (EV k) (DU k) t).1
theorem duT_0 {DU EV : Nat → Int} {t : Int} : duT DU EV t 0 = DU := by funext j; exact if_neg (Nat.not_lt_zero j)
theorem duT_k {DU EV : Nat → Int} {t : Int} {k : Nat} : duT DU EV t k k = DU k := if_neg (Nat.lt_irrefl k)
theorem duT_s {DU EV : Nat → Int} {t : Int} {k : Nat} {x : Int} (h : (passU (EV k) (DU k) t).2 = x) : up (duT DU EV t k) k x = duT DU EV t (k + 1) := by
  funext j
  by_cases e : j = k
  · subst e; rw [up_s, ← h]; exact (if_pos (Nat.lt_succ_self j)).symm
  · rw [up_n e]
    unfold duT
    by_cases q : j < k
    · rw [if_pos q, if_pos (by omega)]
    · rw [if_neg q, if_neg (by omega)]
/-- what of a kept question's count becomes -/
def skM (mk : Nat → Bool) (KT KS KO DU : Nat → Int) (n : Nat) (cb : Int) (FI RO RW RK : Nat → Int) (rg : Nat) (rr : Nat → RS) (t : Int) (SA SA' : Nat → Int) (j : Nat) : Prop :=
  (DU j ≤ t → kpM mk (fun i => KT (200 * j + i)) (KS j).toNat n cb FI RO RW RK rg (KO j) (rr j) (SA' j)) ∧ (t < DU j → SA' j = SA j)
def tickM (mk : Nat → Bool) (KT KS KO EV DU : Nat → Int) (kp n : Nat) (cb nw : Int) (FI RO RW RK : Nat → Int) (rg : Nat) (rr : Nat → RS) (t : Int) (SA : Nat → Int) (z nw' : Int) (DU' SA' : Nat → Int) : Prop :=
  (t < nw ∨ 1000 < t - nw → z = -1000002 ∧ nw' = nw ∧ DU' = DU ∧ SA' = SA) ∧ (¬ (t < nw ∨ 1000 < t - nw) → z = tkN DU EV t kp ∧ nw' = t ∧ DU' = duT DU EV t kp ∧ ∀ j, j < kp → skM mk KT KS KO DU n cb FI RO RW RK rg rr t SA SA' j)

set_option maxHeartbeats 4000000 in
set_option maxRecDepth 100000 in
theorem c_X8_tick (l : Launch) (D : va_G) (g : Nat → ClassId) (a : Nat → Nat) (mth mbd mnw mlc msz mas mak mfa mte mta mlv mct mgo : Int) (man mgr mgg : Bool) (n : Nat) (rg : Nat) (kp : Nat) (EV : Nat → Int) (DU : Nat → Int) (SA : Nat → Int) (KT : Nat → Int) (KS : Nat → Int) (KO : Nat → Int) (NO : Nat → Int) (MK : Nat → Bool) (RO : Nat → Int) (RW : Nat → Int) (RK : Nat → Int) (FI : Nat → Int) (OR : Nat → Bool) (AN : Nat → Bool) (IS : Nat → Bool) (GF : Nat → Int) (GS : Nat → Int) (t : Int) (rr : Nat → RS) (ht : R64 t) (hnw : 0 ≤ mnw ∧ mnw < 900000000) (hkp : kp ≤ 20) (hn : n ≤ 300) (hcb : 0 ≤ mbd ∧ mbd ≤ 1000000) (hK : ∀ k, k < kp → (1 ≤ EV k ∧ EV k ≤ 1000) ∧ (0 ≤ DU k ∧ DU k < 1000000000) ∧ (0 ≤ KS k ∧ KS k ≤ 200) ∧ R32 (KO k) ∧ (∀ i, i < (KS k).toNat → R32 ((fun i => KT (200 * k + i)) i)) ∧ R32 (rr k).fg) (hg : rg ≤ 100) (hRR : ∀ k, k < rg → R32 (RO k) ∧ R32 (RW k) ∧ R32 (RK k)) (hFI : ∀ k, k < 1505 → R32 (FI k)) : Ct (S := Int × (Int × (Nat → Int) × (Nat → Int)) × SM) l D g yX8_tick cX8_tick 6 (some .int) rmX8_tick [.ref (a 0), .long (lI t)] ([(a 0, oM a mth (n : Int) (rg : Int) mbd mnw mlc msz man mas mak (kp : Int) mfa mte mta mlv mct mgr mgo mgg), (a 11, cJ g 20 EV), (a 12, cJ g 20 DU), (a 13, cI g 20 SA), (a 9, cI g 4000 KT), (a 8, cI g 20 KS), (a 10, cI g 20 KO), (a 14, cI g 22 NO), (a 5, cZ g 5 MK), (a 2, cI g 100 RO), (a 3, cI g 100 RW), (a 4, cI g 100 RK), (a 1, cI g 1505 FI), (a 15, cZ g 22 OR), (a 16, cZ g 22 AN), (a 21, cZ g 301 IS), (a 19, cI g 300 GF), (a 20, cI g 300 GS)]) (fun u => some (.int (iI u.1))) (fun u => tickM MK KT KS KO EV DU kp n mbd mnw FI RO RW RK rg rr t SA u.1 u.2.1.1 u.2.1.2.1 u.2.1.2.2) (fun u => [(a 0, oM a 0 (n : Int) (rg : Int) mbd u.2.1.1 mlc msz man mas mak (kp : Int) u.2.2.1 u.2.2.2.1 u.2.2.2.2.1 u.2.2.2.2.2.1 mct mgr u.2.2.2.2.2.2.1 u.2.2.2.2.2.2.2.1), (a 11, cJ g 20 EV), (a 12, cJ g 20 u.2.1.2.1), (a 13, cI g 20 u.2.1.2.2), (a 9, cI g 4000 KT), (a 8, cI g 20 KS), (a 10, cI g 20 KO), (a 14, cI g 22 u.2.2.2.2.2.2.2.2.1), (a 5, cZ g 5 MK), (a 2, cI g 100 RO), (a 3, cI g 100 RW), (a 4, cI g 100 RK), (a 1, cI g 1505 FI), (a 15, cZ g 22 u.2.2.2.2.2.2.2.2.2.1), (a 16, cZ g 22 u.2.2.2.2.2.2.2.2.2.2.1), (a 21, cZ g 301 u.2.2.2.2.2.2.2.2.2.2.2.1), (a 19, cI g 300 u.2.2.2.2.2.2.2.2.2.2.2.2.1), (a 20, cI g 300 u.2.2.2.2.2.2.2.2.2.2.2.2.2)]) := by
  refine Ct.of RX8 rfl (by decide +kernel) [(0, .ref (a 0)), (1, .long (lI t))] rfl (Nat.le_of_ble_eq_true rfl) ?_
  intro pg evn sT mI bl mtd cd aA ls ar qQ zC zr zk zi zQ h hl
  have zx := zC.1
  have zb := zC.2.1
  skip
  refine lv_aload_n zx zb dX8_tick_0 rfl (lv_at hl 0 rfl) ?_
  refine lv_iconst (v := iI (0)) zx zb dX8_tick_1 rfl ?_
  refine pf8_85 (x := iI 0) zC h 0 (ws' := [(a 0, oM a 0 (n : Int) (rg : Int) mbd mnw mlc msz man mas mak (kp : Int) mfa mte mta mlv mct mgr mgo mgg), (a 11, cJ g 20 EV), (a 12, cJ g 20 DU), (a 13, cI g 20 SA), (a 9, cI g 4000 KT), (a 8, cI g 20 KS), (a 10, cI g 20 KO), (a 14, cI g 22 NO), (a 5, cZ g 5 MK), (a 2, cI g 100 RO), (a 3, cI g 100 RW), (a 4, cI g 100 RK), (a 1, cI g 1505 FI), (a 15, cZ g 22 OR), (a 16, cZ g 22 AN), (a 21, cZ g 301 IS), (a 19, cI g 300 GF), (a 20, cI g 300 GS)]) rfl rfl (Nat.le_of_ble_eq_true rfl) dX8_tick_2 (fun H locs h => ?_)
  refine lv_lload_n zx zb dX8_tick_5 rfl (lv_at hl 1 rfl) ?_
  refine lv_aload_n zx zb dX8_tick_6 rfl (lv_at hl 0 rfl) ?_
  refine gf8_228 (v := .long (lI mnw)) zC h 0 rfl rfl dX8_tick_7 ?_
  refine l_cmp zC (a := t) (b := mnw) dX8_tick_10 (by omega) (by omega) ?_
  refine i_zlt (a := lC t mnw) (tgt := 27) zC dX8_tick_11 (by decide) (lC_R _ _) (fun c_1 => ?_) (fun c_1 => ?_)
  · have c_1 := lC_lt.mp c_1
    refine kc8_102 zC dX8_tick_27 ?_
    exact r_iret zC zQ zr zk h dX8_tick_29 (u := (-1000002, (mnw, DU, SA), (mfa, mte, mta, mlv, mgo, mgg, NO, OR, AN, IS, GF, GS))) rfl (List.Perm.refl _) ⟨fun _ => ⟨rfl, rfl, rfl, rfl⟩, fun q => absurd (by omega) q⟩ (Nat.le_of_ble_eq_true rfl) (Nat.le_of_ble_eq_true rfl)
  · have c_1 := lC_ge.mp c_1
    refine lv_lload_n zx zb dX8_tick_14 rfl (lv_at hl 1 rfl) ?_
    refine lv_aload_n zx zb dX8_tick_15 rfl (lv_at hl 0 rfl) ?_
    refine gf8_228 (v := .long (lI mnw)) zC h 0 rfl rfl dX8_tick_16 ?_
    refine l_sub zC (a := t) (b := mnw) dX8_tick_19 ?_
    refine kl8_223 zC dX8_tick_20 ?_
    refine l_cmp zC (a := t - mnw) (b := 1000) dX8_tick_23 (by omega) (by omega) ?_
    refine i_zle (a := lC (t - mnw) 1000) (tgt := 30) zC dX8_tick_24 (by decide) (lC_R _ _) (fun c_2 => ?_) (fun c_2 => ?_)
    · have c_2 := lC_le.mp c_2
      refine lv_aload_n zx zb dX8_tick_30 rfl (lv_at hl 0 rfl) ?_
      refine lv_lload_n zx zb dX8_tick_31 rfl (lv_at hl 1 rfl) ?_
      refine pf8_228 (x := lI t) zC h 0 (ws' := [(a 0, oM a 0 (n : Int) (rg : Int) mbd t mlc msz man mas mak (kp : Int) mfa mte mta mlv mct mgr mgo mgg), (a 11, cJ g 20 EV), (a 12, cJ g 20 DU), (a 13, cI g 20 SA), (a 9, cI g 4000 KT), (a 8, cI g 20 KS), (a 10, cI g 20 KO), (a 14, cI g 22 NO), (a 5, cZ g 5 MK), (a 2, cI g 100 RO), (a 3, cI g 100 RW), (a 4, cI g 100 RK), (a 1, cI g 1505 FI), (a 15, cZ g 22 OR), (a 16, cZ g 22 AN), (a 21, cZ g 301 IS), (a 19, cI g 300 GF), (a 20, cI g 300 GS)]) rfl rfl (Nat.le_of_ble_eq_true rfl) dX8_tick_32 (fun H locs h => ?_)
      refine lv_iconst (v := iI (0)) zx zb dX8_tick_35 rfl ?_
      refine lv_istore_n (lv' := [(3, .int (iI 0)), (0, .ref (a 0)), (1, .long (lI t))]) zx zb dX8_tick_36 rfl hl (by decide) rfl (fun ls hl => ?_)
      refine lv_iconst (v := iI (0)) zx zb dX8_tick_37 rfl ?_
      refine lv_istore (lv' := [(4, .int (iI 0)), (3, .int (iI 0)), (0, .ref (a 0)), (1, .long (lI t))]) zx zb dX8_tick_38 hl (by decide) rfl (fun ls hl => ?_)
      have L40_3 : ∀ (fuel : Nat) (k : Nat) (SA_ : Nat → Int) (xmfa : Int) (xmte : Int) (xmta : Int) (xmlv : Int) (xmgo : Int) (xmgg : Bool) (xNO : Nat → Int) (xOR : Nat → Bool) (xAN : Nat → Bool) (xIS : Nat → Bool) (xGF : Nat → Int) (xGS : Nat → Int) (H : Heap) (locs : List Loc) (ls : Array Slot), kp - k < fuel → (k ≤ kp) → (∀ j, j < k → skM MK KT KS KO DU n mbd FI RO RW RK rg rr t SA SA_ j) → (∀ j, k ≤ j → SA_ j = SA j) → Hx D g sT aA sT.heap ([(a 0, oM a 0 (n : Int) (rg : Int) mbd t mlc msz man mas mak (kp : Int) xmfa xmte xmta xmlv mct mgr xmgo xmgg), (a 11, cJ g 20 EV), (a 12, cJ g 20 (duT DU EV t k)), (a 13, cI g 20 SA_), (a 9, cI g 4000 KT), (a 8, cI g 20 KS), (a 10, cI g 20 KO), (a 14, cI g 22 xNO), (a 5, cZ g 5 MK), (a 2, cI g 100 RO), (a 3, cI g 100 RW), (a 4, cI g 100 RK), (a 1, cI g 1505 FI), (a 15, cZ g 22 xOR), (a 16, cZ g 22 xAN), (a 21, cZ g 301 xIS), (a 19, cI g 300 xGF), (a 20, cI g 300 xGS)]) H locs → lv_has ls 6 [(0, .ref (a 0)), (1, .long (lI t)), (3, .int (iI (tkN DU EV t k))), (4, .int (iI (k : Int)))] → W pg l evn rmX8_tick sT mI ar bl mtd cd H locs 0 0 qQ (F0 mI 40 ls []) := by
        intro fuel
        induction fuel with
        | zero => intro k SA_ xmfa xmte xmta xmlv xmgo xmgg xNO xOR xAN xIS xGF xGS H locs ls hm; exact absurd hm (Nat.not_lt_zero _)
        | succ fuel ih40 =>
          intro k SA_ xmfa xmte xmta xmlv xmgo xmgg xNO xOR xAN xIS xGF xGS H locs ls hm hk hS hS2 h hl
          refine lv_iload zx zb dX8_tick_40 (lv_at hl 3 rfl) ?_
          refine lv_aload_n zx zb dX8_tick_42 rfl (lv_at hl 0 rfl) ?_
          refine gf8_225 (v := .int (iI (kp : Int))) zC h 0 rfl rfl dX8_tick_43 ?_
          refine i_cge (a := (k : Int)) (b := (kp : Int)) (tgt := 125) zC dX8_tick_46 (by decide) (by omega) (fun c_4 => ?_) (fun c_4 => ?_)
          · skip
            have e_k : k = kp := by omega
            refine lv_iload_n zx zb dX8_tick_125 rfl (lv_at hl 2 rfl) ?_
            exact r_iret zC zQ zr zk h dX8_tick_126 (u := (tkN DU EV t kp, (t, duT DU EV t kp, SA_), (xmfa, xmte, xmta, xmlv, xmgo, xmgg, xNO, xOR, xAN, xIS, xGF, xGS))) (by rw [e_k]) (List.Perm.of_eq (by rw [e_k])) ⟨fun q => absurd q (by omega), fun _ => ⟨rfl, rfl, rfl, fun j hj => hS j (by omega)⟩⟩ (Nat.le_of_ble_eq_true rfl) (Nat.le_of_ble_eq_true rfl)
          · skip
            have h_k := hK k (by omega)
            refine lv_aload_n zx zb dX8_tick_49 rfl (lv_at hl 0 rfl) ?_
            refine gf8_51 (v := .ref (a 12)) zC h 0 rfl rfl dX8_tick_50 ?_
            refine lv_iload zx zb dX8_tick_53 (lv_at hl 3 rfl) ?_
            refine a_lld zC h 2 rfl (z := (k : Int)) k rfl (by omega) (by decide) dX8_tick_55 ?_
            rw [duT_k]
            refine lv_lload_n zx zb dX8_tick_56 rfl (lv_at hl 1 rfl) ?_
            refine l_cmp zC (a := DU k) (b := t) dX8_tick_57 (by omega) (by omega) ?_
            refine i_zgt (a := lC (DU k) t) (tgt := 65) zC dX8_tick_58 (by decide) (lC_R _ _) (fun c_5 => ?_) (fun c_5 => ?_)
            · have c_5 := lC_gt.mp c_5
              refine lv_iconst (v := iI (0)) zx zb dX8_tick_65 rfl ?_
              refine lv_istore (lv' := [(5, .int (iI 0)), (0, .ref (a 0)), (1, .long (lI t)), (3, .int (iI (tkN DU EV t k))), (4, .int (iI (k : Int)))]) zx zb dX8_tick_66 hl (by decide) rfl (fun ls hl => ?_)
              rw [show tkN DU EV t k = tkN DU EV t k + ((0 : Nat) : Int) from (Int.add_zero _).symm] at hl
              have L68_6 : ∀ (fuel : Nat) (m : Nat) (H : Heap) (locs : List Loc) (ls : Array Slot), (t + 2000 - dM (DU k) (EV k) m).toNat < fuel → (m = 0 ∨ dM (DU k) (EV k) (m - 1) ≤ t) → Hx D g sT aA sT.heap ([(a 0, oM a 0 (n : Int) (rg : Int) mbd t mlc msz man mas mak (kp : Int) xmfa xmte xmta xmlv mct mgr xmgo xmgg), (a 11, cJ g 20 EV), (a 12, cJ g 20 (up (duT DU EV t k) k (dM (DU k) (EV k) m))), (a 13, cI g 20 SA_), (a 9, cI g 4000 KT), (a 8, cI g 20 KS), (a 10, cI g 20 KO), (a 14, cI g 22 xNO), (a 5, cZ g 5 MK), (a 2, cI g 100 RO), (a 3, cI g 100 RW), (a 4, cI g 100 RK), (a 1, cI g 1505 FI), (a 15, cZ g 22 xOR), (a 16, cZ g 22 xAN), (a 21, cZ g 301 xIS), (a 19, cI g 300 xGF), (a 20, cI g 300 xGS)]) H locs → lv_has ls 6 [(0, .ref (a 0)), (1, .long (lI t)), (3, .int (iI (tkN DU EV t k + (m : Int)))), (4, .int (iI (k : Int))), (5, .int (iI 0))] → W pg l evn rmX8_tick sT mI ar bl mtd cd H locs 0 0 qQ (F0 mI 68 ls []) := by
                intro fuel
                induction fuel with
                | zero => intro m H locs ls hm; exact absurd hm (Nat.not_lt_zero _)
                | succ fuel ih68 =>
                  intro m H locs ls hm hm h hl
                  have hdr : 0 ≤ dM (DU k) (EV k) m ∧ dM (DU k) (EV k) m ≤ t + 2000 ∨ 0 ≤ dM (DU k) (EV k) m ∧ dM (DU k) (EV k) m < 1000000000 := by
                    cases m with
                    | zero => exact Or.inr h_k.2.1
                    | succ m => have hm9 : dM (DU k) (EV k) m ≤ t := hm.resolve_left (by omega); have hm8 : dM (DU k) (EV k) (m + 1) = dM (DU k) (EV k) m + EV k := rfl; have hm7 := h_k.1; have hm6 : 0 ≤ dM (DU k) (EV k) m := (by rw [dM_e]; have := Int.mul_nonneg (show (0 : Int) ≤ (m : Int) by omega) (show 0 ≤ EV k by omega); have := h_k.2.1; omega); exact Or.inl (by omega)
                  refine lv_aload_n zx zb dX8_tick_68 rfl (lv_at hl 0 rfl) ?_
                  refine gf8_51 (v := .ref (a 12)) zC h 0 rfl rfl dX8_tick_69 ?_
                  refine lv_iload zx zb dX8_tick_72 (lv_at hl 3 rfl) ?_
                  refine a_lld zC h 2 rfl (z := (k : Int)) k rfl (by omega) (by decide) dX8_tick_74 ?_
                  rw [up_s]
                  refine lv_lload_n zx zb dX8_tick_75 rfl (lv_at hl 1 rfl) ?_
                  refine l_cmp zC (a := dM (DU k) (EV k) m) (b := t) dX8_tick_76 (by omega) (by omega) ?_
                  refine i_zgt (a := lC (dM (DU k) (EV k) m) t) (tgt := 108) zC dX8_tick_77 (by decide) (lC_R _ _) (fun c_7 => ?_) (fun c_7 => ?_)
                  · have c_7 := lC_gt.mp c_7
                    have hpz := dM_p h_k.1.1 hm c_7
                    rw [duT_s (show (passU (EV k) (DU k) t).2 = _ from congrArg Prod.snd hpz)] at h
                    have e_n : tkN DU EV t k + (m : Int) = tkN DU EV t (k + 1) := by show _ = tkN DU EV t k + (passU (EV k) (DU k) t).1; rw [hpz]
                    rw [e_n] at hl
                    refine lv_iload zx zb dX8_tick_108 (lv_at hl 4 rfl) ?_
                    refine i_zeq (a := 0) (tgt := 119) zC dX8_tick_110 (by decide) (by omega) (fun c_8 => ?_) (fun c_8 => absurd c_8 (by decide))
                    refine i_inc (q := 3) (a := (k : Int)) (lv' := [(4, .int (iI ((k : Int) + 1))), (0, .ref (a 0)), (1, .long (lI t)), (3, .int (iI (tkN DU EV t (k + 1)))), (5, .int (iI 0))]) zC hl dX8_tick_119 rfl (by decide) rfl (fun ls hl => ?_)
                    refine lv_goto (tgt := 40) zx zb dX8_tick_122 (by decide) ?_
                    exact ih40 (k + 1) SA_ xmfa xmte xmta xmlv xmgo xmgg xNO xOR xAN xIS xGF xGS _ _ _ (by omega) (by omega) (fun j hj => by
                                                                  by_cases e : j = k
                                                                  · subst e; exact ⟨fun q => absurd q (by omega), fun _ => hS2 j (Nat.le_refl j)⟩
                                                                  · exact hS j (by omega)) (fun j hj => hS2 j (by omega)) h (lv_sub hl [1, 2, 3, 0] rfl)
                  · have c_7 := lC_le.mp c_7
                    have h_68 := c_7
                    refine lv_aload_n zx zb dX8_tick_80 rfl (lv_at hl 0 rfl) ?_
                    refine gf8_51 (v := .ref (a 12)) zC h 0 rfl rfl dX8_tick_81 ?_
                    refine lv_iload zx zb dX8_tick_84 (lv_at hl 3 rfl) ?_
                    refine lv_aload_n zx zb dX8_tick_86 rfl (lv_at hl 0 rfl) ?_
                    refine gf8_51 (v := .ref (a 12)) zC h 0 rfl rfl dX8_tick_87 ?_
                    refine lv_iload zx zb dX8_tick_90 (lv_at hl 3 rfl) ?_
                    refine a_lld zC h 2 rfl (z := (k : Int)) k rfl (by omega) (by decide) dX8_tick_92 ?_
                    rw [up_s]
                    refine lv_aload_n zx zb dX8_tick_93 rfl (lv_at hl 0 rfl) ?_
                    refine gf8_47 (v := .ref (a 11)) zC h 0 rfl rfl dX8_tick_94 ?_
                    refine lv_iload zx zb dX8_tick_97 (lv_at hl 3 rfl) ?_
                    refine a_lld zC h 1 rfl (z := (k : Int)) k rfl (by omega) (by decide) dX8_tick_99 ?_
                    refine l_add zC (a := dM (DU k) (EV k) m) (b := EV k) dX8_tick_100 ?_
                    refine a_lst (x := dM (DU k) (EV k) m + (EV k)) zC h 2 (ws' := [(a 0, oM a 0 (n : Int) (rg : Int) mbd t mlc msz man mas mak (kp : Int) xmfa xmte xmta xmlv mct mgr xmgo xmgg), (a 11, cJ g 20 EV), (a 12, cJ g 20 (up (duT DU EV t k) k (dM (DU k) (EV k) (m + 1)))), (a 13, cI g 20 SA_), (a 9, cI g 4000 KT), (a 8, cI g 20 KS), (a 10, cI g 20 KO), (a 14, cI g 22 xNO), (a 5, cZ g 5 MK), (a 2, cI g 100 RO), (a 3, cI g 100 RW), (a 4, cI g 100 RK), (a 1, cI g 1505 FI), (a 15, cZ g 22 xOR), (a 16, cZ g 22 xAN), (a 21, cZ g 301 xIS), (a 19, cI g 300 xGF), (a 20, cI g 300 xGS)]) rfl (z := (k : Int)) k (by rw [show up (up (duT DU EV t k) k (dM (DU k) (EV k) m)) k (dM (DU k) (EV k) m + (EV k)) = up (duT DU EV t k) k (dM (DU k) (EV k) (m + 1)) from up_up]; rfl) rfl (by omega) (by decide) dX8_tick_101 (fun H locs h => ?_)
                    refine i_inc (q := 2) (a := tkN DU EV t k + (m : Int)) (lv' := [(3, .int (iI (tkN DU EV t k + (m : Int) + 1))), (0, .ref (a 0)), (1, .long (lI t)), (4, .int (iI (k : Int))), (5, .int (iI 0))]) zC hl dX8_tick_102 rfl (by decide) rfl (fun ls hl => ?_)
                    rw [show (tkN DU EV t k + (m : Int) + 1 : Int) = tkN DU EV t k + ((m + 1 : Nat) : Int) from (by omega)] at hl
                    refine lv_goto (tgt := 68) zx zb dX8_tick_105 (by decide) ?_
                    exact ih68 (m + 1) _ _ _ (by show (t + 2000 - (dM (DU k) (EV k) m + EV k)).toNat < fuel; omega) (Or.inr h_68) h (lv_sub hl [1, 2, 0, 3, 4] rfl)
              exact L68_6 _ 0 _ _ _ (Nat.lt_succ_self _) (Or.inl rfl) (by rw [up_id (show duT DU EV t k k = dM (DU k) (EV k) 0 from duT_k)]; exact h) (lv_sub hl [1, 2, 3, 4, 0] rfl)
            · have c_5 := lC_le.mp c_5
              refine lv_iconst (v := iI (1)) zx zb dX8_tick_61 rfl ?_
              refine lv_goto (tgt := 66) zx zb dX8_tick_62 (by decide) ?_
              refine lv_istore (lv' := [(5, .int (iI 1)), (0, .ref (a 0)), (1, .long (lI t)), (3, .int (iI (tkN DU EV t k))), (4, .int (iI (k : Int)))]) zx zb dX8_tick_66 hl (by decide) rfl (fun ls hl => ?_)
              rw [show tkN DU EV t k = tkN DU EV t k + ((0 : Nat) : Int) from (Int.add_zero _).symm] at hl
              have L68_9 : ∀ (fuel : Nat) (m : Nat) (H : Heap) (locs : List Loc) (ls : Array Slot), (t + 2000 - dM (DU k) (EV k) m).toNat < fuel → (m = 0 ∨ dM (DU k) (EV k) (m - 1) ≤ t) → Hx D g sT aA sT.heap ([(a 0, oM a 0 (n : Int) (rg : Int) mbd t mlc msz man mas mak (kp : Int) xmfa xmte xmta xmlv mct mgr xmgo xmgg), (a 11, cJ g 20 EV), (a 12, cJ g 20 (up (duT DU EV t k) k (dM (DU k) (EV k) m))), (a 13, cI g 20 SA_), (a 9, cI g 4000 KT), (a 8, cI g 20 KS), (a 10, cI g 20 KO), (a 14, cI g 22 xNO), (a 5, cZ g 5 MK), (a 2, cI g 100 RO), (a 3, cI g 100 RW), (a 4, cI g 100 RK), (a 1, cI g 1505 FI), (a 15, cZ g 22 xOR), (a 16, cZ g 22 xAN), (a 21, cZ g 301 xIS), (a 19, cI g 300 xGF), (a 20, cI g 300 xGS)]) H locs → lv_has ls 6 [(0, .ref (a 0)), (1, .long (lI t)), (3, .int (iI (tkN DU EV t k + (m : Int)))), (4, .int (iI (k : Int))), (5, .int (iI 1))] → W pg l evn rmX8_tick sT mI ar bl mtd cd H locs 0 0 qQ (F0 mI 68 ls []) := by
                intro fuel
                induction fuel with
                | zero => intro m H locs ls hm; exact absurd hm (Nat.not_lt_zero _)
                | succ fuel ih68 =>
                  intro m H locs ls hm hm h hl
                  have hdr : 0 ≤ dM (DU k) (EV k) m ∧ dM (DU k) (EV k) m ≤ t + 2000 ∨ 0 ≤ dM (DU k) (EV k) m ∧ dM (DU k) (EV k) m < 1000000000 := by
                    cases m with
                    | zero => exact Or.inr h_k.2.1
                    | succ m => have hm9 : dM (DU k) (EV k) m ≤ t := hm.resolve_left (by omega); have hm8 : dM (DU k) (EV k) (m + 1) = dM (DU k) (EV k) m + EV k := rfl; have hm7 := h_k.1; have hm6 : 0 ≤ dM (DU k) (EV k) m := (by rw [dM_e]; have := Int.mul_nonneg (show (0 : Int) ≤ (m : Int) by omega) (show 0 ≤ EV k by omega); have := h_k.2.1; omega); exact Or.inl (by omega)
                  refine lv_aload_n zx zb dX8_tick_68 rfl (lv_at hl 0 rfl) ?_
                  refine gf8_51 (v := .ref (a 12)) zC h 0 rfl rfl dX8_tick_69 ?_
                  refine lv_iload zx zb dX8_tick_72 (lv_at hl 3 rfl) ?_
                  refine a_lld zC h 2 rfl (z := (k : Int)) k rfl (by omega) (by decide) dX8_tick_74 ?_
                  rw [up_s]
                  refine lv_lload_n zx zb dX8_tick_75 rfl (lv_at hl 1 rfl) ?_
                  refine l_cmp zC (a := dM (DU k) (EV k) m) (b := t) dX8_tick_76 (by omega) (by omega) ?_
                  refine i_zgt (a := lC (dM (DU k) (EV k) m) t) (tgt := 108) zC dX8_tick_77 (by decide) (lC_R _ _) (fun c_10 => ?_) (fun c_10 => ?_)
                  · have c_10 := lC_gt.mp c_10
                    have hpz := dM_p h_k.1.1 hm c_10
                    rw [duT_s (show (passU (EV k) (DU k) t).2 = _ from congrArg Prod.snd hpz)] at h
                    have e_n : tkN DU EV t k + (m : Int) = tkN DU EV t (k + 1) := by show _ = tkN DU EV t k + (passU (EV k) (DU k) t).1; rw [hpz]
                    rw [e_n] at hl
                    refine lv_iload zx zb dX8_tick_108 (lv_at hl 4 rfl) ?_
                    refine i_zeq (a := 1) (tgt := 119) zC dX8_tick_110 (by decide) (by omega) (fun c_11 => absurd c_11 (by decide)) (fun c_11 => ?_)
                    refine lv_aload_n zx zb dX8_tick_113 rfl (lv_at hl 0 rfl) ?_
                    refine lv_iload zx zb dX8_tick_114 (lv_at hl 3 rfl) ?_
                    refine r_invV (As := [.int (iI (k : Int))]) (rest := []) (wr := [(a 11, cJ g 20 EV), (a 12, cJ g 20 (duT DU EV t (k + 1)))]) (ws2 := fun u_12 => [(a 0, oM a 0 (n : Int) (rg : Int) mbd t mlc msz man mas mak (kp : Int) u_12.2.1 u_12.2.2.1 u_12.2.2.2.1 u_12.2.2.2.2.1 mct mgr u_12.2.2.2.2.2.1 u_12.2.2.2.2.2.2.1), (a 11, cJ g 20 EV), (a 12, cJ g 20 (duT DU EV t (k + 1))), (a 13, cI g 20 (up SA_ k u_12.1)), (a 9, cI g 4000 KT), (a 8, cI g 20 KS), (a 10, cI g 20 KO), (a 14, cI g 22 u_12.2.2.2.2.2.2.2.1), (a 5, cZ g 5 MK), (a 2, cI g 100 RO), (a 3, cI g 100 RW), (a 4, cI g 100 RK), (a 1, cI g 1505 FI), (a 15, cZ g 22 u_12.2.2.2.2.2.2.2.2.1), (a 16, cZ g 22 u_12.2.2.2.2.2.2.2.2.2.1), (a 21, cZ g 301 u_12.2.2.2.2.2.2.2.2.2.2.1), (a 19, cI g 300 u_12.2.2.2.2.2.2.2.2.2.2.2.1), (a 20, cI g 300 u_12.2.2.2.2.2.2.2.2.2.2.2.2)]) 0 0 zC h hl.1 (c_X8_askKept l D g a 0 mbd t mlc msz mas mak (kp : Int) xmfa xmte xmta xmlv mct xmgo man mgr xmgg n rg  KT KS SA_ KO xNO MK RO RW RK FI xOR xAN xIS xGF xGS k (KS k).toNat (rr k) (by omega) (by omega) (by omega) (h_k.2.2.2.2.1) (h_k.2.2.2.1) hn hcb hg hRR hFI h_k.2.2.2.2.2) (cs8_231 zC ⟨(Nat.le_of_ble_eq_true rfl), (Nat.le_of_ble_eq_true rfl)⟩) (.head _) rfl rfl rfl (Nat.le_of_ble_eq_true rfl) (pm fun cp_q => by simp only [cp_o, List.countP_append, List.countP_nil] <;> omega) (fun u => (pm fun cp_q => by simp only [cp_o, List.countP_append, List.countP_nil] <;> omega)) ⟨(Nat.le_of_ble_eq_true rfl), (Nat.le_of_ble_eq_true rfl)⟩ (Nat.le_of_ble_eq_true rfl) (Nat.le_of_ble_eq_true rfl) dX8_tick_116 (fun u_12 H locs hu_12 hz_12 h => ?_)
                    have hku := hu_12
                    refine i_inc (q := 3) (a := (k : Int)) (lv' := [(4, .int (iI ((k : Int) + 1))), (0, .ref (a 0)), (1, .long (lI t)), (3, .int (iI (tkN DU EV t (k + 1)))), (5, .int (iI 1))]) zC hl dX8_tick_119 rfl (by decide) rfl (fun ls hl => ?_)
                    refine lv_goto (tgt := 40) zx zb dX8_tick_122 (by decide) ?_
                    exact ih40 (k + 1) (up SA_ k u_12.1) u_12.2.1 u_12.2.2.1 u_12.2.2.2.1 u_12.2.2.2.2.1 u_12.2.2.2.2.2.1 u_12.2.2.2.2.2.2.1 u_12.2.2.2.2.2.2.2.1 u_12.2.2.2.2.2.2.2.2.1 u_12.2.2.2.2.2.2.2.2.2.1 u_12.2.2.2.2.2.2.2.2.2.2.1 u_12.2.2.2.2.2.2.2.2.2.2.2.1 u_12.2.2.2.2.2.2.2.2.2.2.2.2 _ _ _ (by omega) (by omega) (fun j hj => by
                                                                  by_cases e : j = k
                                                                  · subst e; exact ⟨fun _ => by rw [up_s]; exact hku, fun q => absurd q (by omega)⟩
                                                                  · have h9 := hS j (by omega); unfold skM at h9 ⊢; rw [up_n e]; exact h9) (fun j hj => by rw [up_n (by omega)]; exact hS2 j (by omega)) h (lv_sub hl [1, 2, 3, 0] rfl)
                  · have c_10 := lC_le.mp c_10
                    have h_68 := c_10
                    refine lv_aload_n zx zb dX8_tick_80 rfl (lv_at hl 0 rfl) ?_
                    refine gf8_51 (v := .ref (a 12)) zC h 0 rfl rfl dX8_tick_81 ?_
                    refine lv_iload zx zb dX8_tick_84 (lv_at hl 3 rfl) ?_
                    refine lv_aload_n zx zb dX8_tick_86 rfl (lv_at hl 0 rfl) ?_
                    refine gf8_51 (v := .ref (a 12)) zC h 0 rfl rfl dX8_tick_87 ?_
                    refine lv_iload zx zb dX8_tick_90 (lv_at hl 3 rfl) ?_
                    refine a_lld zC h 2 rfl (z := (k : Int)) k rfl (by omega) (by decide) dX8_tick_92 ?_
                    rw [up_s]
                    refine lv_aload_n zx zb dX8_tick_93 rfl (lv_at hl 0 rfl) ?_
                    refine gf8_47 (v := .ref (a 11)) zC h 0 rfl rfl dX8_tick_94 ?_
                    refine lv_iload zx zb dX8_tick_97 (lv_at hl 3 rfl) ?_
                    refine a_lld zC h 1 rfl (z := (k : Int)) k rfl (by omega) (by decide) dX8_tick_99 ?_
                    refine l_add zC (a := dM (DU k) (EV k) m) (b := EV k) dX8_tick_100 ?_
                    refine a_lst (x := dM (DU k) (EV k) m + (EV k)) zC h 2 (ws' := [(a 0, oM a 0 (n : Int) (rg : Int) mbd t mlc msz man mas mak (kp : Int) xmfa xmte xmta xmlv mct mgr xmgo xmgg), (a 11, cJ g 20 EV), (a 12, cJ g 20 (up (duT DU EV t k) k (dM (DU k) (EV k) (m + 1)))), (a 13, cI g 20 SA_), (a 9, cI g 4000 KT), (a 8, cI g 20 KS), (a 10, cI g 20 KO), (a 14, cI g 22 xNO), (a 5, cZ g 5 MK), (a 2, cI g 100 RO), (a 3, cI g 100 RW), (a 4, cI g 100 RK), (a 1, cI g 1505 FI), (a 15, cZ g 22 xOR), (a 16, cZ g 22 xAN), (a 21, cZ g 301 xIS), (a 19, cI g 300 xGF), (a 20, cI g 300 xGS)]) rfl (z := (k : Int)) k (by rw [show up (up (duT DU EV t k) k (dM (DU k) (EV k) m)) k (dM (DU k) (EV k) m + (EV k)) = up (duT DU EV t k) k (dM (DU k) (EV k) (m + 1)) from up_up]; rfl) rfl (by omega) (by decide) dX8_tick_101 (fun H locs h => ?_)
                    refine i_inc (q := 2) (a := tkN DU EV t k + (m : Int)) (lv' := [(3, .int (iI (tkN DU EV t k + (m : Int) + 1))), (0, .ref (a 0)), (1, .long (lI t)), (4, .int (iI (k : Int))), (5, .int (iI 1))]) zC hl dX8_tick_102 rfl (by decide) rfl (fun ls hl => ?_)
                    rw [show (tkN DU EV t k + (m : Int) + 1 : Int) = tkN DU EV t k + ((m + 1 : Nat) : Int) from (by omega)] at hl
                    refine lv_goto (tgt := 68) zx zb dX8_tick_105 (by decide) ?_
                    exact ih68 (m + 1) _ _ _ (by show (t + 2000 - (dM (DU k) (EV k) m + EV k)).toNat < fuel; omega) (Or.inr h_68) h (lv_sub hl [1, 2, 0, 3, 4] rfl)
              exact L68_9 _ 0 _ _ _ (Nat.lt_succ_self _) (Or.inl rfl) (by rw [up_id (show duT DU EV t k k = dM (DU k) (EV k) 0 from duT_k)]; exact h) (lv_sub hl [1, 2, 3, 4, 0] rfl)
      exact L40_3 _ 0 SA mfa mte mta mlv mgo mgg NO OR AN IS GF GS _ _ _ (Nat.lt_succ_self _) (by omega) (fun j hj => absurd hj (Nat.not_lt_zero j)) (fun j _ => rfl) (by rw [duT_0]; exact h) (lv_sub hl [2, 3, 1, 0] rfl)
    · have c_2 := lC_gt.mp c_2
      refine kc8_102 zC dX8_tick_27 ?_
      exact r_iret zC zQ zr zk h dX8_tick_29 (u := (-1000002, (mnw, DU, SA), (mfa, mte, mta, mlv, mgo, mgg, NO, OR, AN, IS, GF, GS))) rfl (List.Perm.refl _) ⟨fun _ => ⟨rfl, rfl, rfl, rfl⟩, fun q => absurd (by omega) q⟩ (Nat.le_of_ble_eq_true rfl) (Nat.le_of_ble_eq_true rfl)
