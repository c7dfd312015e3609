/-! KEPT, QUESTION -/
theorem lI_div {a b : Int} (ha : 0 ≤ a ∧ a < 4611686018427387904) (hb : 0 < b ∧ b < 4611686018427387904) : lI a / lI b = lI (a / b) := by
  obtain ⟨x, rfl⟩ := Int.eq_ofNat_of_zero_le ha.1
  obtain ⟨y, rfl⟩ := Int.eq_ofNat_of_zero_le (Int.le_of_lt hb.1)
  have e : ∀ n : Nat, n < 9223372036854775808 → lI (n : Int) = lN n := fun n hn => by
    apply Int64.toInt_inj.mp
    rw [lI_toInt (by constructor <;> omega), pk_lT (by omega)]
  have h := pk_lDiv (a := x) (b := y) (by omega) (by omega) (by omega)
  have hd : x / y ≤ x := Nat.div_le_self x y
  rw [e x (by omega), e y (by omega), h, ← e _ (by omega)]
  rfl
def wKept (k : Nat) (q : Nat) (ev nx lc : Int) : va_W := [(k, .inr (2, [.ref q, .long (lI ev), .long (lI nx), .int (iI lc)]))]
def passU (ev nx t : Int) : Int × Int := if t < nx then (0, nx) else ((t - nx) / ev + 1, nx + ((t - nx) / ev + 1) * ev)
noncomputable def wQ (g : Nat → ClassId) (a : Nat → Nat) (ST TF TR TN : Nat → Int) (sc tc : Nat) (fl : Nat → Bool) (tl tf aw : Nat) : va_W :=
  [(a 0, .inr (3, [.ref (a 1), .ref (a 2), .ref (a 3), .ref (a 4), .int (iI (sc : Int)), .int (iI (tc : Int)), .int (iI (bZ fl)), .int (iI (tl : Int)), .int (iI (tf : Int)), .int (iI (aw : Int))])), (a 1, cI g 200 ST), (a 2, cI g 40 TF), (a 3, cC g 40 TR), (a 4, cI g 40 TN)]
/-- a test's truth of a value -/
def tstV (r v x : Int) : Bool := if r = 61 then decide (v = x) else if r = 60 then decide (v < x) else decide (x < v)
def bAdd1 (fl : Nat → Bool) (k : Nat) : Nat → Bool := fun i => fl i || i == k

set_option maxHeartbeats 4000000 in
set_option maxRecDepth 100000 in
theorem c_X2_question (l : Launch) (D : va_G) (g : Nat → ClassId) (k q : Nat) (ev nx lc : Int) : Ct (S := Unit) l D g yX2_question cX2_question 1 (some (.object "TraceQuestions$Question")) rmX2_question [.ref k] (wKept k q ev nx lc) (fun u => some (.ref q)) (fun _ => True) (fun u => wKept k q ev nx lc) := by
  refine Ct.of RX2 rfl (by decide +kernel) [(0, .ref k)] rfl (Nat.le_of_ble_eq_true rfl) ?_
  intro pg evn sT mI bl mtd cd aA ls ar qQ zC zr zk zi zQ h hl
  have zx := zC.1
  have zb := zC.2.1
  have h : Hx D g sT aA sT.heap ([(k, .inr (2, [.ref q, .long (lI ev), .long (lI nx), .int (iI lc)]))]) sT.heap [] := h
  skip
  refine lv_aload_n zx zb dX2_question_0 rfl (lv_at hl 0 rfl) ?_
  refine gf2_15 (v := .ref q) zC h 0 rfl rfl dX2_question_1 ?_
  exact r_aret zC zQ zr zk h dX2_question_4 (u := ()) rfl (List.Perm.refl _) trivial (Nat.le_of_ble_eq_true rfl) (Nat.le_of_ble_eq_true rfl)

set_option maxHeartbeats 4000000 in
set_option maxRecDepth 100000 in
theorem c_X2_latestCount (l : Launch) (D : va_G) (g : Nat → ClassId) (k q : Nat) (ev nx lc : Int) : Ct (S := Unit) l D g yX2_latestCount cX2_latestCount 1 (some .int) rmX2_latestCount [.ref k] (wKept k q ev nx lc) (fun u => some (.int (iI lc))) (fun _ => True) (fun u => wKept k q ev nx lc) := by
  refine Ct.of RX2 rfl (by decide +kernel) [(0, .ref k)] rfl (Nat.le_of_ble_eq_true rfl) ?_
  intro pg evn sT mI bl mtd cd aA ls ar qQ zC zr zk zi zQ h hl
  have zx := zC.1
  have zb := zC.2.1
  have h : Hx D g sT aA sT.heap ([(k, .inr (2, [.ref q, .long (lI ev), .long (lI nx), .int (iI lc)]))]) sT.heap [] := h
  skip
  refine lv_aload_n zx zb dX2_latestCount_0 rfl (lv_at hl 0 rfl) ?_
  refine gf2_9 (v := .int (iI lc)) zC h 0 rfl rfl dX2_latestCount_1 ?_
  exact r_iret zC zQ zr zk h dX2_latestCount_4 (u := ()) rfl (List.Perm.refl _) trivial (Nat.le_of_ble_eq_true rfl) (Nat.le_of_ble_eq_true rfl)

set_option maxHeartbeats 4000000 in
set_option maxRecDepth 100000 in
theorem c_X2_setLatestCount (l : Launch) (D : va_G) (g : Nat → ClassId) (k q : Nat) (ev nx lc : Int) (x : Int) : Ct (S := Unit) l D g yX2_setLatestCount cX2_setLatestCount 2 none rmX2_setLatestCount [.ref k, .int (iI x)] (wKept k q ev nx lc) (fun u => none) (fun _ => True) (fun u => wKept k q ev nx x) := by
  refine Ct.of RX2 rfl (by decide +kernel) [(0, .ref k), (1, .int (iI x))] rfl (Nat.le_of_ble_eq_true rfl) ?_
  intro pg evn sT mI bl mtd cd aA ls ar qQ zC zr zk zi zQ h hl
  have zx := zC.1
  have zb := zC.2.1
  have h : Hx D g sT aA sT.heap ([(k, .inr (2, [.ref q, .long (lI ev), .long (lI nx), .int (iI lc)]))]) sT.heap [] := h
  skip
  refine lv_aload_n zx zb dX2_setLatestCount_0 rfl (lv_at hl 0 rfl) ?_
  refine lv_iload_n zx zb dX2_setLatestCount_1 rfl (lv_at hl 1 rfl) ?_
  refine pf2_9 (x := iI x) zC h 0 (ws' := [(k, .inr (2, [.ref q, .long (lI ev), .long (lI nx), .int (iI x)]))]) rfl rfl (Nat.le_of_ble_eq_true rfl) dX2_setLatestCount_2 (fun H locs h => ?_)
  exact r_vret zC zQ zr zk h dX2_setLatestCount_5 (u := ()) rfl (List.Perm.refl _) trivial (Nat.le_of_ble_eq_true rfl) (Nat.le_of_ble_eq_true rfl)

set_option maxHeartbeats 4000000 in
set_option maxRecDepth 100000 in
theorem c_X2_init (l : Launch) (D : va_G) (g : Nat → ClassId) (k q : Nat) (e0 n0 : Int) : Ct (S := Unit) l D g yX2_init cX2_init 6 none rmX2_init [.ref k, .ref q, .long (lI e0), .long (lI n0)] ([(k, .inr (2, [.null, .long (lI 0), .long (lI 0), .int (iI 0)]))]) (fun u => none) (fun _ => True) (fun u => wKept k q e0 n0 (-1)) := by
  refine Ct.of RX2 rfl (by decide +kernel) [(0, .ref k), (1, .ref q), (2, .long (lI e0)), (4, .long (lI n0))] rfl (Nat.le_of_ble_eq_true rfl) ?_
  intro pg evn sT mI bl mtd cd aA ls ar qQ zC zr zk zi zQ h hl
  have zx := zC.1
  have zb := zC.2.1
  skip
  refine lv_aload_n zx zb dX2_init_0 rfl (lv_at hl 0 rfl) ?_
  refine oi2 zC hl.1 dX2_init_1 (Nat.le_of_ble_eq_true rfl) (Nat.le_of_ble_eq_true rfl) ?_
  refine lv_aload_n zx zb dX2_init_4 rfl (lv_at hl 0 rfl) ?_
  refine lv_iconst (v := iI (-1)) zx zb dX2_init_5 rfl ?_
  refine pf2_9 (x := iI (-1)) zC h 0 (ws' := [(k, .inr (2, [.null, .long (lI 0), .long (lI 0), .int (iI (-1))]))]) rfl rfl (Nat.le_of_ble_eq_true rfl) dX2_init_6 (fun H locs h => ?_)
  refine lv_aload_n zx zb dX2_init_9 rfl (lv_at hl 0 rfl) ?_
  refine lv_aload_n zx zb dX2_init_10 rfl (lv_at hl 1 rfl) ?_
  refine pf2_15 (x := q) zC h 0 (ws' := [(k, .inr (2, [.ref q, .long (lI 0), .long (lI 0), .int (iI (-1))]))]) rfl rfl (Nat.le_of_ble_eq_true rfl) zi dX2_init_11 (fun H locs h => ?_)
  refine lv_aload_n zx zb dX2_init_14 rfl (lv_at hl 0 rfl) ?_
  refine lv_lload_n zx zb dX2_init_15 rfl (lv_at hl 2 rfl) ?_
  refine pf2_19 (x := lI e0) zC h 0 (ws' := [(k, .inr (2, [.ref q, .long (lI e0), .long (lI 0), .int (iI (-1))]))]) rfl rfl (Nat.le_of_ble_eq_true rfl) zi dX2_init_16 (fun H locs h => ?_)
  refine lv_aload_n zx zb dX2_init_19 rfl (lv_at hl 0 rfl) ?_
  refine lv_lload zx zb dX2_init_20 (lv_at hl 3 rfl) ?_
  refine pf2_23 (x := lI n0) zC h 0 (ws' := [(k, .inr (2, [.ref q, .long (lI e0), .long (lI n0), .int (iI (-1))]))]) rfl rfl (Nat.le_of_ble_eq_true rfl) dX2_init_22 (fun H locs h => ?_)
  exact r_vret zC zQ zr zk h dX2_init_25 (u := ()) rfl (List.Perm.refl _) trivial (Nat.le_of_ble_eq_true rfl) (Nat.le_of_ble_eq_true rfl)

set_option maxHeartbeats 4000000 in
set_option maxRecDepth 100000 in
theorem c_X2_passTo (l : Launch) (D : va_G) (g : Nat → ClassId) (k q : Nat) (ev nx lc : Int) (t : Int) (he : 1 ≤ ev ∧ ev ≤ 1000) (hn : 0 ≤ nx ∧ nx < 1000000000) (ht : 0 ≤ t ∧ t < 1000000000) : Ct (S := Int × Int) l D g yX2_passTo cX2_passTo 5 (some .int) rmX2_passTo [.ref k, .long (lI t)] (wKept k q ev nx lc) (fun u => some (.int (iI u.1))) (fun u => u = passU ev nx t) (fun u => wKept k q ev u.2 lc) := by
  refine Ct.of RX2 rfl (by decide +kernel) [(0, .ref k), (1, .long (lI t))] rfl (Nat.le_of_ble_eq_true rfl) ?_
  intro pg evn sT mI bl mtd cd aA ls ar qQ zC zr zk zi zQ h hl
  have zx := zC.1
  have zb := zC.2.1
  have h : Hx D g sT aA sT.heap ([(k, .inr (2, [.ref q, .long (lI ev), .long (lI nx), .int (iI lc)]))]) sT.heap [] := h
  skip
  refine lv_aload_n zx zb dX2_passTo_0 rfl (lv_at hl 0 rfl) ?_
  refine gf2_19 (v := .long (lI ev)) zC h 0 rfl rfl dX2_passTo_1 ?_
  refine lv_lconst (v := lI 1) zx zb dX2_passTo_4 rfl ?_
  refine l_cmp zC (a := ev) (b := 1) dX2_passTo_5 (by omega) (by omega) ?_
  refine i_zlt (a := lC ev 1) (tgt := 18) zC dX2_passTo_6 (by decide) (lC_R _ _) (fun c_1 => absurd (lC_lt.mp c_1) (by omega)) (fun c_1 => ?_)
  have c_1 := lC_ge.mp c_1
  refine lv_lload_n zx zb dX2_passTo_9 rfl (lv_at hl 1 rfl) ?_
  refine lv_aload_n zx zb dX2_passTo_10 rfl (lv_at hl 0 rfl) ?_
  refine gf2_23 (v := .long (lI nx)) zC h 0 rfl rfl dX2_passTo_11 ?_
  refine l_cmp zC (a := t) (b := nx) dX2_passTo_14 (by omega) (by omega) ?_
  refine i_zge (a := lC t nx) (tgt := 20) zC dX2_passTo_15 (by decide) (lC_R _ _) (fun c_2 => ?_) (fun c_2 => ?_)
  · have c_2 := lC_ge.mp c_2
    refine lv_lload_n zx zb dX2_passTo_20 rfl (lv_at hl 1 rfl) ?_
    refine lv_aload_n zx zb dX2_passTo_21 rfl (lv_at hl 0 rfl) ?_
    refine gf2_23 (v := .long (lI nx)) zC h 0 rfl rfl dX2_passTo_22 ?_
    refine l_sub zC (a := t) (b := nx) dX2_passTo_25 ?_
    refine lv_aload_n zx zb dX2_passTo_26 rfl (lv_at hl 0 rfl) ?_
    refine gf2_19 (v := .long (lI ev)) zC h 0 rfl rfl dX2_passTo_27 ?_
    refine lv_ldiv zx zb dX2_passTo_30 (fun z => absurd ((lI_eq (a := ev) (b := 0) (by omega) (by decide)).mp z) (by omega)) ?_
    rw [lI_div (by omega) (by omega)]
    refine lv_lconst (v := lI 1) zx zb dX2_passTo_31 rfl ?_
    refine l_add zC (a := (t - nx) / ev) (b := 1) dX2_passTo_32 ?_
    refine lv_lstore_n (lv' := [(3, .long (lI ((t - nx) / ev + 1))), (0, .ref k), (1, .long (lI t))]) zx zb dX2_passTo_33 rfl hl (by decide) rfl (fun ls hl => ?_)
    refine lv_aload_n zx zb dX2_passTo_34 rfl (lv_at hl 1 rfl) ?_
    refine lv_dup zx zb dX2_passTo_35 rfl ?_
    refine gf2_23 (v := .long (lI nx)) zC h 0 rfl rfl dX2_passTo_36 ?_
    refine lv_lload_n zx zb dX2_passTo_39 rfl (lv_at hl 0 rfl) ?_
    refine lv_aload_n zx zb dX2_passTo_40 rfl (lv_at hl 1 rfl) ?_
    refine gf2_19 (v := .long (lI ev)) zC h 0 rfl rfl dX2_passTo_41 ?_
    refine l_mul zC (a := (t - nx) / ev + 1) (b := ev) dX2_passTo_44 ?_
    refine l_add zC (a := nx) (b := ((t - nx) / ev + 1) * ev) dX2_passTo_45 ?_
    refine pf2_23 (x := lI (nx + (((t - nx) / ev + 1) * ev))) zC h 0 (ws' := [(k, .inr (2, [.ref q, .long (lI ev), .long (lI (nx + (((t - nx) / ev + 1) * ev))), .int (iI lc)]))]) rfl rfl (Nat.le_of_ble_eq_true rfl) dX2_passTo_46 (fun H locs h => ?_)
    refine lv_lload_n zx zb dX2_passTo_49 rfl (lv_at hl 0 rfl) ?_
    refine l_l2i zC (a := (t - nx) / ev + 1) dX2_passTo_50 ?_
    exact r_iret zC zQ zr zk h dX2_passTo_51 (u := ((t - nx) / ev + 1, nx + ((t - nx) / ev + 1) * ev)) rfl (List.Perm.refl _) (by unfold passU; rw [if_neg (by omega)]) (Nat.le_of_ble_eq_true rfl) (Nat.le_of_ble_eq_true rfl)
  · have c_2 := lC_lt.mp c_2
    refine lv_iconst (v := iI (0)) zx zb dX2_passTo_18 rfl ?_
    exact r_iret zC zQ zr zk h dX2_passTo_19 (u := (0, nx)) rfl (List.Perm.refl _) (by unfold passU; rw [if_pos (by omega)]) (Nat.le_of_ble_eq_true rfl) (Nat.le_of_ble_eq_true rfl)

set_option maxHeartbeats 4000000 in
set_option maxRecDepth 100000 in
theorem c_X3_asker (l : Launch) (D : va_G) (g : Nat → ClassId) (a : Nat → Nat) (ST TF TR TN : Nat → Int) (sc tc : Nat) (fl : Nat → Bool) (tl tf aw : Nat) : Ct (S := Unit) l D g yX3_asker cX3_asker 1 (some .int) rmX3_asker [.ref (a 0)] (wQ g a ST TF TR TN sc tc fl tl tf aw) (fun u => some (.int (iI (aw : Int)))) (fun _ => True) (fun u => wQ g a ST TF TR TN sc tc fl tl tf aw) := by
  refine Ct.of RX3 rfl (by decide +kernel) [(0, .ref (a 0))] rfl (Nat.le_of_ble_eq_true rfl) ?_
  intro pg evn sT mI bl mtd cd aA ls ar qQ zC zr zk zi zQ h hl
  have zx := zC.1
  have zb := zC.2.1
  have h : Hx D g sT aA sT.heap ([(a 0, .inr (3, [.ref (a 1), .ref (a 2), .ref (a 3), .ref (a 4), .int (iI (sc : Int)), .int (iI (tc : Int)), .int (iI (bZ fl)), .int (iI (tl : Int)), .int (iI (tf : Int)), .int (iI (aw : Int))])), (a 1, cI g 200 ST), (a 2, cI g 40 TF), (a 3, cC g 40 TR), (a 4, cI g 40 TN)]) sT.heap [] := h
  skip
  refine lv_aload_n zx zb dX3_asker_0 rfl (lv_at hl 0 rfl) ?_
  refine gf3_41 (v := .int (iI (aw : Int))) zC h 0 rfl rfl dX3_asker_1 ?_
  exact r_iret zC zQ zr zk h dX3_asker_4 (u := ()) rfl (List.Perm.refl _) trivial (Nat.le_of_ble_eq_true rfl) (Nat.le_of_ble_eq_true rfl)

set_option maxHeartbeats 4000000 in
set_option maxRecDepth 100000 in
theorem c_X3_tests (l : Launch) (D : va_G) (g : Nat → ClassId) (a : Nat → Nat) (ST TF TR TN : Nat → Int) (sc tc : Nat) (fl : Nat → Bool) (tl tf aw : Nat) : Ct (S := Unit) l D g yX3_tests cX3_tests 1 (some .int) rmX3_tests [.ref (a 0)] (wQ g a ST TF TR TN sc tc fl tl tf aw) (fun u => some (.int (iI (tc : Int)))) (fun _ => True) (fun u => wQ g a ST TF TR TN sc tc fl tl tf aw) := by
  refine Ct.of RX3 rfl (by decide +kernel) [(0, .ref (a 0))] rfl (Nat.le_of_ble_eq_true rfl) ?_
  intro pg evn sT mI bl mtd cd aA ls ar qQ zC zr zk zi zQ h hl
  have zx := zC.1
  have zb := zC.2.1
  have h : Hx D g sT aA sT.heap ([(a 0, .inr (3, [.ref (a 1), .ref (a 2), .ref (a 3), .ref (a 4), .int (iI (sc : Int)), .int (iI (tc : Int)), .int (iI (bZ fl)), .int (iI (tl : Int)), .int (iI (tf : Int)), .int (iI (aw : Int))])), (a 1, cI g 200 ST), (a 2, cI g 40 TF), (a 3, cC g 40 TR), (a 4, cI g 40 TN)]) sT.heap [] := h
  skip
  refine lv_aload_n zx zb dX3_tests_0 rfl (lv_at hl 0 rfl) ?_
  refine gf3_29 (v := .int (iI (tc : Int))) zC h 0 rfl rfl dX3_tests_1 ?_
  exact r_iret zC zQ zr zk h dX3_tests_4 (u := ()) rfl (List.Perm.refl _) trivial (Nat.le_of_ble_eq_true rfl) (Nat.le_of_ble_eq_true rfl)

set_option maxHeartbeats 4000000 in
set_option maxRecDepth 100000 in
theorem c_X3_tail (l : Launch) (D : va_G) (g : Nat → ClassId) (a : Nat → Nat) (ST TF TR TN : Nat → Int) (sc tc : Nat) (fl : Nat → Bool) (tl tf aw : Nat) : Ct (S := Unit) l D g yX3_tail cX3_tail 1 (some .int) rmX3_tail [.ref (a 0)] (wQ g a ST TF TR TN sc tc fl tl tf aw) (fun u => some (.int (iI (tl : Int)))) (fun _ => True) (fun u => wQ g a ST TF TR TN sc tc fl tl tf aw) := by
  refine Ct.of RX3 rfl (by decide +kernel) [(0, .ref (a 0))] rfl (Nat.le_of_ble_eq_true rfl) ?_
  intro pg evn sT mI bl mtd cd aA ls ar qQ zC zr zk zi zQ h hl
  have zx := zC.1
  have zb := zC.2.1
  have h : Hx D g sT aA sT.heap ([(a 0, .inr (3, [.ref (a 1), .ref (a 2), .ref (a 3), .ref (a 4), .int (iI (sc : Int)), .int (iI (tc : Int)), .int (iI (bZ fl)), .int (iI (tl : Int)), .int (iI (tf : Int)), .int (iI (aw : Int))])), (a 1, cI g 200 ST), (a 2, cI g 40 TF), (a 3, cC g 40 TR), (a 4, cI g 40 TN)]) sT.heap [] := h
  skip
  refine lv_aload_n zx zb dX3_tail_0 rfl (lv_at hl 0 rfl) ?_
  refine gf3_35 (v := .int (iI (tl : Int))) zC h 0 rfl rfl dX3_tail_1 ?_
  exact r_iret zC zQ zr zk h dX3_tail_4 (u := ()) rfl (List.Perm.refl _) trivial (Nat.le_of_ble_eq_true rfl) (Nat.le_of_ble_eq_true rfl)

set_option maxHeartbeats 4000000 in
set_option maxRecDepth 100000 in
theorem c_X3_tailField (l : Launch) (D : va_G) (g : Nat → ClassId) (a : Nat → Nat) (ST TF TR TN : Nat → Int) (sc tc : Nat) (fl : Nat → Bool) (tl tf aw : Nat) : Ct (S := Unit) l D g yX3_tailField cX3_tailField 1 (some .int) rmX3_tailField [.ref (a 0)] (wQ g a ST TF TR TN sc tc fl tl tf aw) (fun u => some (.int (iI (tf : Int)))) (fun _ => True) (fun u => wQ g a ST TF TR TN sc tc fl tl tf aw) := by
  refine Ct.of RX3 rfl (by decide +kernel) [(0, .ref (a 0))] rfl (Nat.le_of_ble_eq_true rfl) ?_
  intro pg evn sT mI bl mtd cd aA ls ar qQ zC zr zk zi zQ h hl
  have zx := zC.1
  have zb := zC.2.1
  have h : Hx D g sT aA sT.heap ([(a 0, .inr (3, [.ref (a 1), .ref (a 2), .ref (a 3), .ref (a 4), .int (iI (sc : Int)), .int (iI (tc : Int)), .int (iI (bZ fl)), .int (iI (tl : Int)), .int (iI (tf : Int)), .int (iI (aw : Int))])), (a 1, cI g 200 ST), (a 2, cI g 40 TF), (a 3, cC g 40 TR), (a 4, cI g 40 TN)]) sT.heap [] := h
  skip
  refine lv_aload_n zx zb dX3_tailField_0 rfl (lv_at hl 0 rfl) ?_
  refine gf3_38 (v := .int (iI (tf : Int))) zC h 0 rfl rfl dX3_tailField_1 ?_
  exact r_iret zC zQ zr zk h dX3_tailField_4 (u := ()) rfl (List.Perm.refl _) trivial (Nat.le_of_ble_eq_true rfl) (Nat.le_of_ble_eq_true rfl)

set_option maxHeartbeats 4000000 in
set_option maxRecDepth 100000 in
theorem c_X3_stepCount (l : Launch) (D : va_G) (g : Nat → ClassId) (a : Nat → Nat) (ST TF TR TN : Nat → Int) (sc tc : Nat) (fl : Nat → Bool) (tl tf aw : Nat) : Ct (S := Unit) l D g yX3_stepCount cX3_stepCount 1 (some .int) rmX3_stepCount [.ref (a 0)] (wQ g a ST TF TR TN sc tc fl tl tf aw) (fun u => some (.int (iI (sc : Int)))) (fun _ => True) (fun u => wQ g a ST TF TR TN sc tc fl tl tf aw) := by
  refine Ct.of RX3 rfl (by decide +kernel) [(0, .ref (a 0))] rfl (Nat.le_of_ble_eq_true rfl) ?_
  intro pg evn sT mI bl mtd cd aA ls ar qQ zC zr zk zi zQ h hl
  have zx := zC.1
  have zb := zC.2.1
  have h : Hx D g sT aA sT.heap ([(a 0, .inr (3, [.ref (a 1), .ref (a 2), .ref (a 3), .ref (a 4), .int (iI (sc : Int)), .int (iI (tc : Int)), .int (iI (bZ fl)), .int (iI (tl : Int)), .int (iI (tf : Int)), .int (iI (aw : Int))])), (a 1, cI g 200 ST), (a 2, cI g 40 TF), (a 3, cC g 40 TR), (a 4, cI g 40 TN)]) sT.heap [] := h
  skip
  refine lv_aload_n zx zb dX3_stepCount_0 rfl (lv_at hl 0 rfl) ?_
  refine gf3_25 (v := .int (iI (sc : Int))) zC h 0 rfl rfl dX3_stepCount_1 ?_
  exact r_iret zC zQ zr zk h dX3_stepCount_4 (u := ()) rfl (List.Perm.refl _) trivial (Nat.le_of_ble_eq_true rfl) (Nat.le_of_ble_eq_true rfl)

set_option maxHeartbeats 4000000 in
set_option maxRecDepth 100000 in
theorem c_X3_fields (l : Launch) (D : va_G) (g : Nat → ClassId) (a : Nat → Nat) (ST TF TR TN : Nat → Int) (sc tc : Nat) (fl : Nat → Bool) (tl tf aw : Nat) : Ct (S := Unit) l D g yX3_fields cX3_fields 1 (some .int) rmX3_fields [.ref (a 0)] (wQ g a ST TF TR TN sc tc fl tl tf aw) (fun u => some (.int (iI (bZ fl)))) (fun _ => True) (fun u => wQ g a ST TF TR TN sc tc fl tl tf aw) := by
  refine Ct.of RX3 rfl (by decide +kernel) [(0, .ref (a 0))] rfl (Nat.le_of_ble_eq_true rfl) ?_
  intro pg evn sT mI bl mtd cd aA ls ar qQ zC zr zk zi zQ h hl
  have zx := zC.1
  have zb := zC.2.1
  have h : Hx D g sT aA sT.heap ([(a 0, .inr (3, [.ref (a 1), .ref (a 2), .ref (a 3), .ref (a 4), .int (iI (sc : Int)), .int (iI (tc : Int)), .int (iI (bZ fl)), .int (iI (tl : Int)), .int (iI (tf : Int)), .int (iI (aw : Int))])), (a 1, cI g 200 ST), (a 2, cI g 40 TF), (a 3, cC g 40 TR), (a 4, cI g 40 TN)]) sT.heap [] := h
  skip
  refine lv_aload_n zx zb dX3_fields_0 rfl (lv_at hl 0 rfl) ?_
  refine gf3_32 (v := .int (iI (bZ fl))) zC h 0 rfl rfl dX3_fields_1 ?_
  exact r_iret zC zQ zr zk h dX3_fields_4 (u := ()) rfl (List.Perm.refl _) trivial (Nat.le_of_ble_eq_true rfl) (Nat.le_of_ble_eq_true rfl)

set_option maxHeartbeats 4000000 in
set_option maxRecDepth 100000 in
theorem c_X3_clear (l : Launch) (D : va_G) (g : Nat → ClassId) (a : Nat → Nat) (ST TF TR TN : Nat → Int) (sc tc : Nat) (fl : Nat → Bool) (tl tf aw : Nat) : Ct (S := Unit) l D g yX3_clear cX3_clear 1 none rmX3_clear [.ref (a 0)] (wQ g a ST TF TR TN sc tc fl tl tf aw) (fun u => none) (fun _ => True) (fun u => wQ g a ST TF TR TN 0 0 (fun _ => false) 0 0 aw) := by
  refine Ct.of RX3 rfl (by decide +kernel) [(0, .ref (a 0))] rfl (Nat.le_of_ble_eq_true rfl) ?_
  intro pg evn sT mI bl mtd cd aA ls ar qQ zC zr zk zi zQ h hl
  have zx := zC.1
  have zb := zC.2.1
  have h : Hx D g sT aA sT.heap ([(a 0, .inr (3, [.ref (a 1), .ref (a 2), .ref (a 3), .ref (a 4), .int (iI (sc : Int)), .int (iI (tc : Int)), .int (iI (bZ fl)), .int (iI (tl : Int)), .int (iI (tf : Int)), .int (iI (aw : Int))])), (a 1, cI g 200 ST), (a 2, cI g 40 TF), (a 3, cC g 40 TR), (a 4, cI g 40 TN)]) sT.heap [] := h
  skip
  refine lv_aload_n zx zb dX3_clear_0 rfl (lv_at hl 0 rfl) ?_
  refine lv_iconst (v := iI (0)) zx zb dX3_clear_1 rfl ?_
  refine pf3_25 (x := iI 0) zC h 0 (ws' := [(a 0, .inr (3, [.ref (a 1), .ref (a 2), .ref (a 3), .ref (a 4), .int (iI 0), .int (iI (tc : Int)), .int (iI (bZ fl)), .int (iI (tl : Int)), .int (iI (tf : Int)), .int (iI (aw : Int))])), (a 1, cI g 200 ST), (a 2, cI g 40 TF), (a 3, cC g 40 TR), (a 4, cI g 40 TN)]) rfl rfl (Nat.le_of_ble_eq_true rfl) dX3_clear_2 (fun H locs h => ?_)
  refine lv_aload_n zx zb dX3_clear_5 rfl (lv_at hl 0 rfl) ?_
  refine lv_iconst (v := iI (0)) zx zb dX3_clear_6 rfl ?_
  refine pf3_29 (x := iI 0) zC h 0 (ws' := [(a 0, .inr (3, [.ref (a 1), .ref (a 2), .ref (a 3), .ref (a 4), .int (iI 0), .int (iI 0), .int (iI (bZ fl)), .int (iI (tl : Int)), .int (iI (tf : Int)), .int (iI (aw : Int))])), (a 1, cI g 200 ST), (a 2, cI g 40 TF), (a 3, cC g 40 TR), (a 4, cI g 40 TN)]) rfl rfl (Nat.le_of_ble_eq_true rfl) dX3_clear_7 (fun H locs h => ?_)
  refine lv_aload_n zx zb dX3_clear_10 rfl (lv_at hl 0 rfl) ?_
  refine lv_iconst (v := iI (0)) zx zb dX3_clear_11 rfl ?_
  rw [bZ_0]
  refine pf3_32 (x := iI (bZ fun _ => false)) zC h 0 (ws' := [(a 0, .inr (3, [.ref (a 1), .ref (a 2), .ref (a 3), .ref (a 4), .int (iI 0), .int (iI 0), .int (iI (bZ fun _ => false)), .int (iI (tl : Int)), .int (iI (tf : Int)), .int (iI (aw : Int))])), (a 1, cI g 200 ST), (a 2, cI g 40 TF), (a 3, cC g 40 TR), (a 4, cI g 40 TN)]) rfl rfl (Nat.le_of_ble_eq_true rfl) dX3_clear_12 (fun H locs h => ?_)
  refine lv_aload_n zx zb dX3_clear_15 rfl (lv_at hl 0 rfl) ?_
  refine lv_iconst (v := iI (0)) zx zb dX3_clear_16 rfl ?_
  refine pf3_35 (x := iI 0) zC h 0 (ws' := [(a 0, .inr (3, [.ref (a 1), .ref (a 2), .ref (a 3), .ref (a 4), .int (iI 0), .int (iI 0), .int (iI (bZ fun _ => false)), .int (iI 0), .int (iI (tf : Int)), .int (iI (aw : Int))])), (a 1, cI g 200 ST), (a 2, cI g 40 TF), (a 3, cC g 40 TR), (a 4, cI g 40 TN)]) rfl rfl (Nat.le_of_ble_eq_true rfl) dX3_clear_17 (fun H locs h => ?_)
  refine lv_aload_n zx zb dX3_clear_20 rfl (lv_at hl 0 rfl) ?_
  refine lv_iconst (v := iI (0)) zx zb dX3_clear_21 rfl ?_
  refine pf3_38 (x := iI 0) zC h 0 (ws' := [(a 0, .inr (3, [.ref (a 1), .ref (a 2), .ref (a 3), .ref (a 4), .int (iI 0), .int (iI 0), .int (iI (bZ fun _ => false)), .int (iI 0), .int (iI 0), .int (iI (aw : Int))])), (a 1, cI g 200 ST), (a 2, cI g 40 TF), (a 3, cC g 40 TR), (a 4, cI g 40 TN)]) rfl rfl (Nat.le_of_ble_eq_true rfl) dX3_clear_22 (fun H locs h => ?_)
  exact r_vret zC zQ zr zk h dX3_clear_25 (u := ()) rfl (List.Perm.refl _) trivial (Nat.le_of_ble_eq_true rfl) (Nat.le_of_ble_eq_true rfl)

set_option maxHeartbeats 4000000 in
set_option maxRecDepth 100000 in
theorem c_X3_setAsker (l : Launch) (D : va_G) (g : Nat → ClassId) (a : Nat → Nat) (ST TF TR TN : Nat → Int) (sc tc : Nat) (fl : Nat → Bool) (tl tf aw : Nat) (x : Nat) : Ct (S := Unit) l D g yX3_setAsker cX3_setAsker 2 none rmX3_setAsker [.ref (a 0), .int (iI (x : Int))] (wQ g a ST TF TR TN sc tc fl tl tf aw) (fun u => none) (fun _ => True) (fun u => wQ g a ST TF TR TN sc tc fl tl tf x) := by
  refine Ct.of RX3 rfl (by decide +kernel) [(0, .ref (a 0)), (1, .int (iI (x : Int)))] rfl (Nat.le_of_ble_eq_true rfl) ?_
  intro pg evn sT mI bl mtd cd aA ls ar qQ zC zr zk zi zQ h hl
  have zx := zC.1
  have zb := zC.2.1
  have h : Hx D g sT aA sT.heap ([(a 0, .inr (3, [.ref (a 1), .ref (a 2), .ref (a 3), .ref (a 4), .int (iI (sc : Int)), .int (iI (tc : Int)), .int (iI (bZ fl)), .int (iI (tl : Int)), .int (iI (tf : Int)), .int (iI (aw : Int))])), (a 1, cI g 200 ST), (a 2, cI g 40 TF), (a 3, cC g 40 TR), (a 4, cI g 40 TN)]) sT.heap [] := h
  skip
  refine lv_aload_n zx zb dX3_setAsker_0 rfl (lv_at hl 0 rfl) ?_
  refine lv_iload_n zx zb dX3_setAsker_1 rfl (lv_at hl 1 rfl) ?_
  refine pf3_41 (x := iI (x : Int)) zC h 0 (ws' := [(a 0, .inr (3, [.ref (a 1), .ref (a 2), .ref (a 3), .ref (a 4), .int (iI (sc : Int)), .int (iI (tc : Int)), .int (iI (bZ fl)), .int (iI (tl : Int)), .int (iI (tf : Int)), .int (iI (x : Int))])), (a 1, cI g 200 ST), (a 2, cI g 40 TF), (a 3, cC g 40 TR), (a 4, cI g 40 TN)]) rfl rfl (Nat.le_of_ble_eq_true rfl) dX3_setAsker_2 (fun H locs h => ?_)
  exact r_vret zC zQ zr zk h dX3_setAsker_5 (u := ()) rfl (List.Perm.refl _) trivial (Nat.le_of_ble_eq_true rfl) (Nat.le_of_ble_eq_true rfl)

set_option maxHeartbeats 4000000 in
set_option maxRecDepth 100000 in
theorem c_X3_setTail (l : Launch) (D : va_G) (g : Nat → ClassId) (a : Nat → Nat) (ST TF TR TN : Nat → Int) (sc tc : Nat) (fl : Nat → Bool) (tl tf aw : Nat) (x : Nat) : Ct (S := Unit) l D g yX3_setTail cX3_setTail 2 none rmX3_setTail [.ref (a 0), .int (iI (x : Int))] (wQ g a ST TF TR TN sc tc fl tl tf aw) (fun u => none) (fun _ => True) (fun u => wQ g a ST TF TR TN sc tc fl x tf aw) := by
  refine Ct.of RX3 rfl (by decide +kernel) [(0, .ref (a 0)), (1, .int (iI (x : Int)))] rfl (Nat.le_of_ble_eq_true rfl) ?_
  intro pg evn sT mI bl mtd cd aA ls ar qQ zC zr zk zi zQ h hl
  have zx := zC.1
  have zb := zC.2.1
  have h : Hx D g sT aA sT.heap ([(a 0, .inr (3, [.ref (a 1), .ref (a 2), .ref (a 3), .ref (a 4), .int (iI (sc : Int)), .int (iI (tc : Int)), .int (iI (bZ fl)), .int (iI (tl : Int)), .int (iI (tf : Int)), .int (iI (aw : Int))])), (a 1, cI g 200 ST), (a 2, cI g 40 TF), (a 3, cC g 40 TR), (a 4, cI g 40 TN)]) sT.heap [] := h
  skip
  refine lv_aload_n zx zb dX3_setTail_0 rfl (lv_at hl 0 rfl) ?_
  refine lv_iload_n zx zb dX3_setTail_1 rfl (lv_at hl 1 rfl) ?_
  refine pf3_35 (x := iI (x : Int)) zC h 0 (ws' := [(a 0, .inr (3, [.ref (a 1), .ref (a 2), .ref (a 3), .ref (a 4), .int (iI (sc : Int)), .int (iI (tc : Int)), .int (iI (bZ fl)), .int (iI (x : Int)), .int (iI (tf : Int)), .int (iI (aw : Int))])), (a 1, cI g 200 ST), (a 2, cI g 40 TF), (a 3, cC g 40 TR), (a 4, cI g 40 TN)]) rfl rfl (Nat.le_of_ble_eq_true rfl) dX3_setTail_2 (fun H locs h => ?_)
  exact r_vret zC zQ zr zk h dX3_setTail_5 (u := ()) rfl (List.Perm.refl _) trivial (Nat.le_of_ble_eq_true rfl) (Nat.le_of_ble_eq_true rfl)

set_option maxHeartbeats 4000000 in
set_option maxRecDepth 100000 in
theorem c_X3_setTailField (l : Launch) (D : va_G) (g : Nat → ClassId) (a : Nat → Nat) (ST TF TR TN : Nat → Int) (sc tc : Nat) (fl : Nat → Bool) (tl tf aw : Nat) (x : Nat) (hx : x < 5) : Ct (S := Unit) l D g yX3_setTailField cX3_setTailField 2 none rmX3_setTailField [.ref (a 0), .int (iI (x : Int))] (wQ g a ST TF TR TN sc tc fl tl tf aw) (fun u => none) (fun _ => True) (fun u => wQ g a ST TF TR TN sc tc (bAdd1 fl x) tl x aw) := by
  refine Ct.of RX3 rfl (by decide +kernel) [(0, .ref (a 0)), (1, .int (iI (x : Int)))] rfl (Nat.le_of_ble_eq_true rfl) ?_
  intro pg evn sT mI bl mtd cd aA ls ar qQ zC zr zk zi zQ h hl
  have zx := zC.1
  have zb := zC.2.1
  have h : Hx D g sT aA sT.heap ([(a 0, .inr (3, [.ref (a 1), .ref (a 2), .ref (a 3), .ref (a 4), .int (iI (sc : Int)), .int (iI (tc : Int)), .int (iI (bZ fl)), .int (iI (tl : Int)), .int (iI (tf : Int)), .int (iI (aw : Int))])), (a 1, cI g 200 ST), (a 2, cI g 40 TF), (a 3, cC g 40 TR), (a 4, cI g 40 TN)]) sT.heap [] := h
  skip
  refine lv_aload_n zx zb dX3_setTailField_0 rfl (lv_at hl 0 rfl) ?_
  refine lv_iload_n zx zb dX3_setTailField_1 rfl (lv_at hl 1 rfl) ?_
  refine pf3_38 (x := iI (x : Int)) zC h 0 (ws' := [(a 0, .inr (3, [.ref (a 1), .ref (a 2), .ref (a 3), .ref (a 4), .int (iI (sc : Int)), .int (iI (tc : Int)), .int (iI (bZ fl)), .int (iI (tl : Int)), .int (iI (x : Int)), .int (iI (aw : Int))])), (a 1, cI g 200 ST), (a 2, cI g 40 TF), (a 3, cC g 40 TR), (a 4, cI g 40 TN)]) rfl rfl (Nat.le_of_ble_eq_true rfl) dX3_setTailField_2 (fun H locs h => ?_)
  refine lv_aload_n zx zb dX3_setTailField_5 rfl (lv_at hl 0 rfl) ?_
  refine lv_dup zx zb dX3_setTailField_6 rfl ?_
  refine gf3_32 (v := .int (iI (bZ fl))) zC h 0 rfl rfl dX3_setTailField_7 ?_
  refine lv_iconst (v := iI (1)) zx zb dX3_setTailField_10 rfl ?_
  refine lv_iload_n zx zb dX3_setTailField_11 rfl (lv_at hl 1 rfl) ?_
  refine lv_ishl zx zb dX3_setTailField_12 ?_
  rw [bZ_sh (show x < 32 by omega)]
  refine lv_ior zx zb dX3_setTailField_13 ?_
  rw [bZ_or fl (fun i => i == x), show (fun i => fl i || i == x) = bAdd1 fl x from rfl]
  refine pf3_32 (x := iI (bZ (bAdd1 fl x))) zC h 0 (ws' := [(a 0, .inr (3, [.ref (a 1), .ref (a 2), .ref (a 3), .ref (a 4), .int (iI (sc : Int)), .int (iI (tc : Int)), .int (iI (bZ (bAdd1 fl x))), .int (iI (tl : Int)), .int (iI (x : Int)), .int (iI (aw : Int))])), (a 1, cI g 200 ST), (a 2, cI g 40 TF), (a 3, cC g 40 TR), (a 4, cI g 40 TN)]) rfl rfl (Nat.le_of_ble_eq_true rfl) dX3_setTailField_14 (fun H locs h => ?_)
  exact r_vret zC zQ zr zk h dX3_setTailField_17 (u := ()) rfl (List.Perm.refl _) trivial (Nat.le_of_ble_eq_true rfl) (Nat.le_of_ble_eq_true rfl)

set_option maxHeartbeats 4000000 in
set_option maxRecDepth 100000 in
theorem c_X3_addStep (l : Launch) (D : va_G) (g : Nat → ClassId) (a : Nat → Nat) (ST TF TR TN : Nat → Int) (sc tc : Nat) (fl : Nat → Bool) (tl tf aw : Nat) (x : Int) (hs : sc < 200) : Ct (S := Unit) l D g yX3_addStep cX3_addStep 2 none rmX3_addStep [.ref (a 0), .int (iI x)] (wQ g a ST TF TR TN sc tc fl tl tf aw) (fun u => none) (fun _ => True) (fun u => wQ g a (up ST sc x) TF TR TN (sc + 1) tc fl tl tf aw) := by
  refine Ct.of RX3 rfl (by decide +kernel) [(0, .ref (a 0)), (1, .int (iI x))] rfl (Nat.le_of_ble_eq_true rfl) ?_
  intro pg evn sT mI bl mtd cd aA ls ar qQ zC zr zk zi zQ h hl
  have zx := zC.1
  have zb := zC.2.1
  have h : Hx D g sT aA sT.heap ([(a 0, .inr (3, [.ref (a 1), .ref (a 2), .ref (a 3), .ref (a 4), .int (iI (sc : Int)), .int (iI (tc : Int)), .int (iI (bZ fl)), .int (iI (tl : Int)), .int (iI (tf : Int)), .int (iI (aw : Int))])), (a 1, cI g 200 ST), (a 2, cI g 40 TF), (a 3, cC g 40 TR), (a 4, cI g 40 TN)]) sT.heap [] := h
  skip
  refine lv_aload_n zx zb dX3_addStep_0 rfl (lv_at hl 0 rfl) ?_
  refine gf3_25 (v := .int (iI (sc : Int))) zC h 0 rfl rfl dX3_addStep_1 ?_
  refine i_zlt (a := (sc : Int)) (tgt := 39) zC dX3_addStep_4 (by decide) (by omega) (fun c_1 => absurd c_1 (by omega)) (fun c_1 => ?_)
  refine lv_aload_n zx zb dX3_addStep_7 rfl (lv_at hl 0 rfl) ?_
  refine gf3_25 (v := .int (iI (sc : Int))) zC h 0 rfl rfl dX3_addStep_8 ?_
  refine lv_aload_n zx zb dX3_addStep_11 rfl (lv_at hl 0 rfl) ?_
  refine gf3_9 (v := .ref (a 1)) zC h 0 rfl rfl dX3_addStep_12 ?_
  refine a_len zC h 1 0 rfl rfl (200) rfl dX3_addStep_15 ?_
  refine i_cge (a := (sc : Int)) (b := 200) (tgt := 39) zC dX3_addStep_16 (by decide) (by omega) (fun c_2 => absurd c_2 (by omega)) (fun c_2 => ?_)
  refine lv_aload_n zx zb dX3_addStep_19 rfl (lv_at hl 0 rfl) ?_
  refine gf3_9 (v := .ref (a 1)) zC h 0 rfl rfl dX3_addStep_20 ?_
  refine lv_aload_n zx zb dX3_addStep_23 rfl (lv_at hl 0 rfl) ?_
  refine gf3_25 (v := .int (iI (sc : Int))) zC h 0 rfl rfl dX3_addStep_24 ?_
  refine lv_iload_n zx zb dX3_addStep_27 rfl (lv_at hl 1 rfl) ?_
  refine a_ist (x := x) zC h 1 (ws' := [(a 0, .inr (3, [.ref (a 1), .ref (a 2), .ref (a 3), .ref (a 4), .int (iI (sc : Int)), .int (iI (tc : Int)), .int (iI (bZ fl)), .int (iI (tl : Int)), .int (iI (tf : Int)), .int (iI (aw : Int))])), (a 1, cI g 200 (up ST sc x)), (a 2, cI g 40 TF), (a 3, cC g 40 TR), (a 4, cI g 40 TN)]) rfl (z := (sc : Int)) sc rfl (by omega) (by omega) (by decide) dX3_addStep_28 (fun H locs h => ?_)
  refine lv_aload_n zx zb dX3_addStep_29 rfl (lv_at hl 0 rfl) ?_
  refine lv_dup zx zb dX3_addStep_30 rfl ?_
  refine gf3_25 (v := .int (iI (sc : Int))) zC h 0 rfl rfl dX3_addStep_31 ?_
  refine lv_iconst (v := iI (1)) zx zb dX3_addStep_34 rfl ?_
  refine i_add zC (a := (sc : Int)) (b := 1) dX3_addStep_35 ?_
  refine pf3_25 (x := iI ((sc : Int) + 1)) zC h 0 (ws' := [(a 0, .inr (3, [.ref (a 1), .ref (a 2), .ref (a 3), .ref (a 4), .int (iI ((sc : Int) + 1)), .int (iI (tc : Int)), .int (iI (bZ fl)), .int (iI (tl : Int)), .int (iI (tf : Int)), .int (iI (aw : Int))])), (a 1, cI g 200 (up ST sc x)), (a 2, cI g 40 TF), (a 3, cC g 40 TR), (a 4, cI g 40 TN)]) rfl rfl (Nat.le_of_ble_eq_true rfl) dX3_addStep_36 (fun H locs h => ?_)
  exact r_vret zC zQ zr zk h dX3_addStep_39 (u := ()) rfl (List.Perm.refl _) trivial (Nat.le_of_ble_eq_true rfl) (Nat.le_of_ble_eq_true rfl)

set_option maxHeartbeats 4000000 in
set_option maxRecDepth 100000 in
theorem c_X3_addTest (l : Launch) (D : va_G) (g : Nat → ClassId) (a : Nat → Nat) (ST TF TR TN : Nat → Int) (sc tc : Nat) (fl : Nat → Bool) (tl tf aw : Nat) (f : Nat) (r x : Int) (hf : f < 5) (hr : vp_nar .char (iI r) = iI r) (hs : sc < 200) (ht : tc < 40) : Ct (S := Unit) l D g yX3_addTest cX3_addTest 4 none rmX3_addTest [.ref (a 0), .int (iI (f : Int)), .int (iI r), .int (iI x)] (wQ g a ST TF TR TN sc tc fl tl tf aw) (fun u => none) (fun _ => True) (fun u => wQ g a (up ST sc 5) (up TF tc (f : Int)) (up TR tc r) (up TN tc x) (sc + 1) (tc + 1) (bAdd1 fl f) tl tf aw) := by
  refine Ct.of RX3 rfl (by decide +kernel) [(0, .ref (a 0)), (1, .int (iI (f : Int))), (2, .int (iI r)), (3, .int (iI x))] rfl (Nat.le_of_ble_eq_true rfl) ?_
  intro pg evn sT mI bl mtd cd aA ls ar qQ zC zr zk zi zQ h hl
  have zx := zC.1
  have zb := zC.2.1
  have h : Hx D g sT aA sT.heap ([(a 0, .inr (3, [.ref (a 1), .ref (a 2), .ref (a 3), .ref (a 4), .int (iI (sc : Int)), .int (iI (tc : Int)), .int (iI (bZ fl)), .int (iI (tl : Int)), .int (iI (tf : Int)), .int (iI (aw : Int))])), (a 1, cI g 200 ST), (a 2, cI g 40 TF), (a 3, cC g 40 TR), (a 4, cI g 40 TN)]) sT.heap [] := h
  skip
  refine lv_aload_n zx zb dX3_addTest_0 rfl (lv_at hl 0 rfl) ?_
  refine gf3_29 (v := .int (iI (tc : Int))) zC h 0 rfl rfl dX3_addTest_1 ?_
  refine i_zlt (a := (tc : Int)) (tgt := 73) zC dX3_addTest_4 (by decide) (by omega) (fun c_1 => absurd c_1 (by omega)) (fun c_1 => ?_)
  refine lv_aload_n zx zb dX3_addTest_7 rfl (lv_at hl 0 rfl) ?_
  refine gf3_29 (v := .int (iI (tc : Int))) zC h 0 rfl rfl dX3_addTest_8 ?_
  refine lv_bipush (v := iI (40)) zx zb dX3_addTest_11 rfl ?_
  refine i_cge (a := (tc : Int)) (b := 40) (tgt := 73) zC dX3_addTest_13 (by decide) (by omega) (fun c_2 => absurd c_2 (by omega)) (fun c_2 => ?_)
  refine lv_aload_n zx zb dX3_addTest_16 rfl (lv_at hl 0 rfl) ?_
  refine gf3_15 (v := .ref (a 2)) zC h 0 rfl rfl dX3_addTest_17 ?_
  refine lv_aload_n zx zb dX3_addTest_20 rfl (lv_at hl 0 rfl) ?_
  refine gf3_29 (v := .int (iI (tc : Int))) zC h 0 rfl rfl dX3_addTest_21 ?_
  refine lv_iload_n zx zb dX3_addTest_24 rfl (lv_at hl 1 rfl) ?_
  refine a_ist (x := (f : Int)) zC h 2 (ws' := [(a 0, .inr (3, [.ref (a 1), .ref (a 2), .ref (a 3), .ref (a 4), .int (iI (sc : Int)), .int (iI (tc : Int)), .int (iI (bZ fl)), .int (iI (tl : Int)), .int (iI (tf : Int)), .int (iI (aw : Int))])), (a 1, cI g 200 ST), (a 2, cI g 40 (up TF tc (f : Int))), (a 3, cC g 40 TR), (a 4, cI g 40 TN)]) rfl (z := (tc : Int)) tc rfl (by omega) (by omega) (by decide) dX3_addTest_25 (fun H locs h => ?_)
  refine lv_aload_n zx zb dX3_addTest_26 rfl (lv_at hl 0 rfl) ?_
  refine gf3_18 (v := .ref (a 3)) zC h 0 rfl rfl dX3_addTest_27 ?_
  refine lv_aload_n zx zb dX3_addTest_30 rfl (lv_at hl 0 rfl) ?_
  refine gf3_29 (v := .int (iI (tc : Int))) zC h 0 rfl rfl dX3_addTest_31 ?_
  refine lv_iload_n zx zb dX3_addTest_34 rfl (lv_at hl 2 rfl) ?_
  refine a_cst (x := r) zC h 3 (ws' := [(a 0, .inr (3, [.ref (a 1), .ref (a 2), .ref (a 3), .ref (a 4), .int (iI (sc : Int)), .int (iI (tc : Int)), .int (iI (bZ fl)), .int (iI (tl : Int)), .int (iI (tf : Int)), .int (iI (aw : Int))])), (a 1, cI g 200 ST), (a 2, cI g 40 (up TF tc (f : Int))), (a 3, cC g 40 (up TR tc r)), (a 4, cI g 40 TN)]) rfl (z := (tc : Int)) tc rfl hr (by omega) (by omega) (by decide) dX3_addTest_35 (fun H locs h => ?_)
  refine lv_aload_n zx zb dX3_addTest_36 rfl (lv_at hl 0 rfl) ?_
  refine gf3_22 (v := .ref (a 4)) zC h 0 rfl rfl dX3_addTest_37 ?_
  refine lv_aload_n zx zb dX3_addTest_40 rfl (lv_at hl 0 rfl) ?_
  refine gf3_29 (v := .int (iI (tc : Int))) zC h 0 rfl rfl dX3_addTest_41 ?_
  refine lv_iload_n zx zb dX3_addTest_44 rfl (lv_at hl 3 rfl) ?_
  refine a_ist (x := x) zC h 4 (ws' := [(a 0, .inr (3, [.ref (a 1), .ref (a 2), .ref (a 3), .ref (a 4), .int (iI (sc : Int)), .int (iI (tc : Int)), .int (iI (bZ fl)), .int (iI (tl : Int)), .int (iI (tf : Int)), .int (iI (aw : Int))])), (a 1, cI g 200 ST), (a 2, cI g 40 (up TF tc (f : Int))), (a 3, cC g 40 (up TR tc r)), (a 4, cI g 40 (up TN tc x))]) rfl (z := (tc : Int)) tc rfl (by omega) (by omega) (by decide) dX3_addTest_45 (fun H locs h => ?_)
  refine lv_aload_n zx zb dX3_addTest_46 rfl (lv_at hl 0 rfl) ?_
  refine lv_dup zx zb dX3_addTest_47 rfl ?_
  refine gf3_29 (v := .int (iI (tc : Int))) zC h 0 rfl rfl dX3_addTest_48 ?_
  refine lv_iconst (v := iI (1)) zx zb dX3_addTest_51 rfl ?_
  refine i_add zC (a := (tc : Int)) (b := 1) dX3_addTest_52 ?_
  refine pf3_29 (x := iI ((tc : Int) + 1)) zC h 0 (ws' := [(a 0, .inr (3, [.ref (a 1), .ref (a 2), .ref (a 3), .ref (a 4), .int (iI (sc : Int)), .int (iI ((tc : Int) + 1)), .int (iI (bZ fl)), .int (iI (tl : Int)), .int (iI (tf : Int)), .int (iI (aw : Int))])), (a 1, cI g 200 ST), (a 2, cI g 40 (up TF tc (f : Int))), (a 3, cC g 40 (up TR tc r)), (a 4, cI g 40 (up TN tc x))]) rfl rfl (Nat.le_of_ble_eq_true rfl) dX3_addTest_53 (fun H locs h => ?_)
  refine lv_aload_n zx zb dX3_addTest_56 rfl (lv_at hl 0 rfl) ?_
  refine lv_dup zx zb dX3_addTest_57 rfl ?_
  refine gf3_32 (v := .int (iI (bZ fl))) zC h 0 rfl rfl dX3_addTest_58 ?_
  refine lv_iconst (v := iI (1)) zx zb dX3_addTest_61 rfl ?_
  refine lv_iload_n zx zb dX3_addTest_62 rfl (lv_at hl 1 rfl) ?_
  refine lv_ishl zx zb dX3_addTest_63 ?_
  rw [bZ_sh (show f < 32 by omega)]
  refine lv_ior zx zb dX3_addTest_64 ?_
  rw [bZ_or fl (fun i => i == f), show (fun i => fl i || i == f) = bAdd1 fl f from rfl]
  refine pf3_32 (x := iI (bZ (bAdd1 fl f))) zC h 0 (ws' := [(a 0, .inr (3, [.ref (a 1), .ref (a 2), .ref (a 3), .ref (a 4), .int (iI (sc : Int)), .int (iI ((tc : Int) + 1)), .int (iI (bZ (bAdd1 fl f))), .int (iI (tl : Int)), .int (iI (tf : Int)), .int (iI (aw : Int))])), (a 1, cI g 200 ST), (a 2, cI g 40 (up TF tc (f : Int))), (a 3, cC g 40 (up TR tc r)), (a 4, cI g 40 (up TN tc x))]) rfl rfl (Nat.le_of_ble_eq_true rfl) dX3_addTest_65 (fun H locs h => ?_)
  refine lv_aload_n zx zb dX3_addTest_68 rfl (lv_at hl 0 rfl) ?_
  refine lv_iconst (v := iI (5)) zx zb dX3_addTest_69 rfl ?_
  refine r_invV (As := [.int (iI 5)]) (rest := []) (wr := []) (ws2 := fun u_3 => [(a 0, .inr (3, [.ref (a 1), .ref (a 2), .ref (a 3), .ref (a 4), .int (iI ((sc + 1 : Nat) : Int)), .int (iI ((tc + 1 : Nat) : Int)), .int (iI (bZ (bAdd1 fl f))), .int (iI (tl : Int)), .int (iI (tf : Int)), .int (iI (aw : Int))])), (a 1, cI g 200 (up ST sc 5)), (a 2, cI g 40 (up TF tc (f : Int))), (a 3, cC g 40 (up TR tc r)), (a 4, cI g 40 (up TN tc x))]) 0 0 zC h hl.1 (c_X3_addStep l D g a ST (up TF tc (f : Int)) (up TR tc r) (up TN tc x) sc (tc + 1) (bAdd1 fl f) tl tf aw 5 hs) (cs3_44 zC ⟨(Nat.le_of_ble_eq_true rfl), (Nat.le_of_ble_eq_true rfl)⟩) (.head _) rfl rfl rfl (Nat.le_of_ble_eq_true rfl) (List.Perm.of_eq (List.append_nil _).symm) (fun u => List.Perm.of_eq (List.append_nil _)) ⟨(Nat.le_of_ble_eq_true rfl), (Nat.le_of_ble_eq_true rfl)⟩ (Nat.le_of_ble_eq_true rfl) (Nat.le_of_ble_eq_true rfl) dX3_addTest_70 (fun u_3 H locs hu_3 hz_3 h => ?_)
  exact r_vret zC zQ zr zk h dX3_addTest_73 (u := ()) rfl (List.Perm.refl _) trivial (Nat.le_of_ble_eq_true rfl) (Nat.le_of_ble_eq_true rfl)

set_option maxHeartbeats 4000000 in
set_option maxRecDepth 100000 in
theorem c_X3_step (l : Launch) (D : va_G) (g : Nat → ClassId) (a : Nat → Nat) (ST TF TR TN : Nat → Int) (sc tc : Nat) (fl : Nat → Bool) (tl tf aw : Nat) (k : Nat) (hk : k < 200) : Ct (S := Unit) l D g yX3_step cX3_step 2 (some .int) rmX3_step [.ref (a 0), .int (iI (k : Int))] (wQ g a ST TF TR TN sc tc fl tl tf aw) (fun u => some (.int (iI (ST k)))) (fun _ => True) (fun u => wQ g a ST TF TR TN sc tc fl tl tf aw) := by
  refine Ct.of RX3 rfl (by decide +kernel) [(0, .ref (a 0)), (1, .int (iI (k : Int)))] rfl (Nat.le_of_ble_eq_true rfl) ?_
  intro pg evn sT mI bl mtd cd aA ls ar qQ zC zr zk zi zQ h hl
  have zx := zC.1
  have zb := zC.2.1
  have h : Hx D g sT aA sT.heap ([(a 0, .inr (3, [.ref (a 1), .ref (a 2), .ref (a 3), .ref (a 4), .int (iI (sc : Int)), .int (iI (tc : Int)), .int (iI (bZ fl)), .int (iI (tl : Int)), .int (iI (tf : Int)), .int (iI (aw : Int))])), (a 1, cI g 200 ST), (a 2, cI g 40 TF), (a 3, cC g 40 TR), (a 4, cI g 40 TN)]) sT.heap [] := h
  skip
  refine lv_iload_n zx zb dX3_step_0 rfl (lv_at hl 1 rfl) ?_
  refine i_zlt (a := (k : Int)) (tgt := 22) zC dX3_step_1 (by decide) (by omega) (fun c_1 => absurd c_1 (by omega)) (fun c_1 => ?_)
  refine lv_iload_n zx zb dX3_step_4 rfl (lv_at hl 1 rfl) ?_
  refine lv_aload_n zx zb dX3_step_5 rfl (lv_at hl 0 rfl) ?_
  refine gf3_9 (v := .ref (a 1)) zC h 0 rfl rfl dX3_step_6 ?_
  refine a_len zC h 1 0 rfl rfl (200) rfl dX3_step_9 ?_
  refine i_cge (a := (k : Int)) (b := 200) (tgt := 22) zC dX3_step_10 (by decide) (by omega) (fun c_2 => absurd c_2 (by omega)) (fun c_2 => ?_)
  refine lv_aload_n zx zb dX3_step_13 rfl (lv_at hl 0 rfl) ?_
  refine gf3_9 (v := .ref (a 1)) zC h 0 rfl rfl dX3_step_14 ?_
  refine lv_iload_n zx zb dX3_step_17 rfl (lv_at hl 1 rfl) ?_
  refine a_ild zC h 1 rfl (z := (k : Int)) k (by omega) (by omega) (by decide) dX3_step_18 ?_
  refine lv_goto (tgt := 23) zx zb dX3_step_19 (by decide) ?_
  exact r_iret zC zQ zr zk h dX3_step_23 (u := ()) rfl (List.Perm.refl _) trivial (Nat.le_of_ble_eq_true rfl) (Nat.le_of_ble_eq_true rfl)

set_option maxHeartbeats 4000000 in
set_option maxRecDepth 100000 in
theorem c_X3_isTestTrue (l : Launch) (D : va_G) (g : Nat → ClassId) (a : Nat → Nat) (ST TF TR TN : Nat → Int) (sc tc : Nat) (fl : Nat → Bool) (tl tf aw : Nat) (b r1 r2 r3 : Nat → Nat) (n : Nat) (Vv U Dn : Nat → Nat → Int) (t f k : Nat) (z : Int) (ht : t < 40) (hf : f < 5) (hk : k < n) (hn : n ≤ 300) (hz : z = (k : Int) + 1) (hF : TF t = (f : Int)) (hr : TR t = 60 ∨ TR t = 61 ∨ TR t = 62) (hV : R32 (Vv f k)) (hN : R32 (TN t)) : Ct (S := Unit) l D g yX3_isTestTrue cX3_isTestTrue 5 (some .boolean) rmX3_isTestTrue [.ref (a 0), .int (iI (t : Int)), .ref (b 0), .int (iI z)] (wQ g a ST TF TR TN sc tc fl tl tf aw ++ wRows g b r1 r2 r3 n Vv U Dn) (fun u => some (.int (bI (tstV (TR t) (Vv f k) (TN t))))) (fun _ => True) (fun u => wQ g a ST TF TR TN sc tc fl tl tf aw ++ wRows g b r1 r2 r3 n Vv U Dn) := by
  refine Ct.of RX3 rfl (by decide +kernel) [(0, .ref (a 0)), (1, .int (iI (t : Int))), (2, .ref (b 0)), (3, .int (iI z))] rfl (Nat.le_of_ble_eq_true rfl) ?_
  intro pg evn sT mI bl mtd cd aA ls ar qQ zC zr zk zi zQ h hl
  have zx := zC.1
  have zb := zC.2.1
  have h : Hx D g sT aA sT.heap ((a 0, .inr (3, [.ref (a 1), .ref (a 2), .ref (a 3), .ref (a 4), .int (iI (sc : Int)), .int (iI (tc : Int)), .int (iI (bZ fl)), .int (iI (tl : Int)), .int (iI (tf : Int)), .int (iI (aw : Int))])) :: (a 1, cI g 200 ST) :: (a 2, cI g 40 TF) :: (a 3, cC g 40 TR) :: (a 4, cI g 40 TN) :: (wRows g b r1 r2 r3 n Vv U Dn)) sT.heap [] := h
  skip
  refine lv_iload_n zx zb dX3_isTestTrue_0 rfl (lv_at hl 1 rfl) ?_
  refine i_zlt (a := (t : Int)) (tgt := 10) zC dX3_isTestTrue_1 (by decide) (by omega) (fun c_1 => absurd c_1 (by omega)) (fun c_1 => ?_)
  refine lv_iload_n zx zb dX3_isTestTrue_4 rfl (lv_at hl 1 rfl) ?_
  refine lv_bipush (v := iI (40)) zx zb dX3_isTestTrue_5 rfl ?_
  refine i_clt (a := (t : Int)) (b := 40) (tgt := 12) zC dX3_isTestTrue_7 (by decide) (by omega) (fun c_2 => ?_) (fun c_2 => absurd c_2 (by omega))
  refine lv_aload_n zx zb dX3_isTestTrue_12 rfl (lv_at hl 2 rfl) ?_
  refine lv_iload_n zx zb dX3_isTestTrue_13 rfl (lv_at hl 3 rfl) ?_
  refine lv_aload_n zx zb dX3_isTestTrue_14 rfl (lv_at hl 0 rfl) ?_
  refine gf3_15 (v := .ref (a 2)) zC h 0 rfl rfl dX3_isTestTrue_15 ?_
  refine lv_iload_n zx zb dX3_isTestTrue_18 rfl (lv_at hl 1 rfl) ?_
  refine a_ild zC h 2 rfl (z := (t : Int)) t (by omega) (by omega) (by decide) dX3_isTestTrue_19 ?_
  rw [hF]
  refine r_invV (As := [.int (iI z), .int (iI (f : Int))]) (rest := []) (wr := [(a 0, .inr (3, [.ref (a 1), .ref (a 2), .ref (a 3), .ref (a 4), .int (iI (sc : Int)), .int (iI (tc : Int)), .int (iI (bZ fl)), .int (iI (tl : Int)), .int (iI (tf : Int)), .int (iI (aw : Int))])), (a 1, cI g 200 ST), (a 2, cI g 40 TF), (a 3, cC g 40 TR), (a 4, cI g 40 TN)]) (ws2 := fun u_3 => (a 0, .inr (3, [.ref (a 1), .ref (a 2), .ref (a 3), .ref (a 4), .int (iI (sc : Int)), .int (iI (tc : Int)), .int (iI (bZ fl)), .int (iI (tl : Int)), .int (iI (tf : Int)), .int (iI (aw : Int))])) :: (a 1, cI g 200 ST) :: (a 2, cI g 40 TF) :: (a 3, cC g 40 TR) :: (a 4, cI g 40 TN) :: (wRows g b r1 r2 r3 n Vv U Dn)) 0 0 zC h hl.1 (c_X6_value l D g b r1 r2 r3 n Vv U Dn k f z hz hk hn hf) (cs3_48 zC ⟨(Nat.le_of_ble_eq_true rfl), (Nat.le_of_ble_eq_true rfl)⟩) (.tail _ (.tail _ (.tail _ (.tail _ (.tail _ wRows_mem))))) rfl rfl rfl (Nat.le_of_ble_eq_true rfl) (pm fun cp_q => by simp only [cp_o, List.countP_append, List.countP_nil] <;> omega) (fun u => (pm fun cp_q => by simp only [cp_o, List.countP_append, List.countP_nil] <;> omega)) ⟨(Nat.le_of_ble_eq_true rfl), (Nat.le_of_ble_eq_true rfl)⟩ (Nat.le_of_ble_eq_true rfl) (Nat.le_of_ble_eq_true rfl) dX3_isTestTrue_20 (fun u_3 H locs hu_3 hz_3 h => ?_)
  refine lv_istore (lv' := [(4, .int (iI (Vv f k))), (0, .ref (a 0)), (1, .int (iI (t : Int))), (2, .ref (b 0)), (3, .int (iI z))]) zx zb dX3_isTestTrue_23 hl (by decide) rfl (fun ls hl => ?_)
  refine lv_aload_n zx zb dX3_isTestTrue_25 rfl (lv_at hl 1 rfl) ?_
  refine gf3_18 (v := .ref (a 3)) zC h 0 rfl rfl dX3_isTestTrue_26 ?_
  refine lv_iload_n zx zb dX3_isTestTrue_29 rfl (lv_at hl 2 rfl) ?_
  refine a_cld zC h 3 rfl (z := (t : Int)) t (by omega) (by omega) (by decide) dX3_isTestTrue_30 ?_
  rcases hr with e_r | e_r | e_r
  · rw [e_r]
    refine lv_lookup (tgt := 73) (off := 42) zx zb dX3_isTestTrue_31 (by decide) (by decide) (by decide) ?_
    refine lv_iload zx zb dX3_isTestTrue_73 (lv_at hl 0 rfl) ?_
    refine lv_aload_n zx zb dX3_isTestTrue_75 rfl (lv_at hl 1 rfl) ?_
    refine gf3_22 (v := .ref (a 4)) zC h 0 rfl rfl dX3_isTestTrue_76 ?_
    refine lv_iload_n zx zb dX3_isTestTrue_79 rfl (lv_at hl 2 rfl) ?_
    refine a_ild zC h 4 rfl (z := (t : Int)) t (by omega) (by omega) (by decide) dX3_isTestTrue_80 ?_
    refine i_cge (a := Vv f k) (b := TN t) (tgt := 88) zC dX3_isTestTrue_81 (by decide) (by omega) (fun c_4 => ?_) (fun c_4 => ?_)
    · skip
      refine lv_iconst (v := iI (0)) zx zb dX3_isTestTrue_88 rfl ?_
      exact r_zret (b := false) zC zQ zr zk h dX3_isTestTrue_89 rfl (u := ()) (by rw [show tstV (TR t) (Vv f k) (TN t) = false from by unfold tstV; simp [e_r]; omega]; rfl) (List.Perm.refl _) trivial (Nat.le_of_ble_eq_true rfl) (Nat.le_of_ble_eq_true rfl)
    · skip
      refine lv_iconst (v := iI (1)) zx zb dX3_isTestTrue_84 rfl ?_
      refine lv_goto (tgt := 89) zx zb dX3_isTestTrue_85 (by decide) ?_
      exact r_zret (b := true) zC zQ zr zk h dX3_isTestTrue_89 rfl (u := ()) (by rw [show tstV (TR t) (Vv f k) (TN t) = true from by unfold tstV; simp [e_r]; omega]; rfl) (List.Perm.refl _) trivial (Nat.le_of_ble_eq_true rfl) (Nat.le_of_ble_eq_true rfl)
  · rw [e_r]
    refine lv_lookup (tgt := 56) (off := 25) zx zb dX3_isTestTrue_31 (by decide) (by decide) (by decide) ?_
    refine lv_iload zx zb dX3_isTestTrue_56 (lv_at hl 0 rfl) ?_
    refine lv_aload_n zx zb dX3_isTestTrue_58 rfl (lv_at hl 1 rfl) ?_
    refine gf3_22 (v := .ref (a 4)) zC h 0 rfl rfl dX3_isTestTrue_59 ?_
    refine lv_iload_n zx zb dX3_isTestTrue_62 rfl (lv_at hl 2 rfl) ?_
    refine a_ild zC h 4 rfl (z := (t : Int)) t (by omega) (by omega) (by decide) dX3_isTestTrue_63 ?_
    refine i_cne (a := Vv f k) (b := TN t) (tgt := 71) zC dX3_isTestTrue_64 (by decide) (by omega) (fun c_5 => ?_) (fun c_5 => ?_)
    · skip
      refine lv_iconst (v := iI (0)) zx zb dX3_isTestTrue_71 rfl ?_
      exact r_zret (b := false) zC zQ zr zk h dX3_isTestTrue_72 rfl (u := ()) (by rw [show tstV (TR t) (Vv f k) (TN t) = false from by unfold tstV; simp [e_r]; omega]; rfl) (List.Perm.refl _) trivial (Nat.le_of_ble_eq_true rfl) (Nat.le_of_ble_eq_true rfl)
    · skip
      refine lv_iconst (v := iI (1)) zx zb dX3_isTestTrue_67 rfl ?_
      refine lv_goto (tgt := 72) zx zb dX3_isTestTrue_68 (by decide) ?_
      exact r_zret (b := true) zC zQ zr zk h dX3_isTestTrue_72 rfl (u := ()) (by rw [show tstV (TR t) (Vv f k) (TN t) = true from by unfold tstV; simp [e_r]; omega]; rfl) (List.Perm.refl _) trivial (Nat.le_of_ble_eq_true rfl) (Nat.le_of_ble_eq_true rfl)
  · rw [e_r]
    refine lv_lookup (tgt := 90) (off := 59) zx zb dX3_isTestTrue_31 (by decide) (by decide) (by decide) ?_
    refine lv_iload zx zb dX3_isTestTrue_90 (lv_at hl 0 rfl) ?_
    refine lv_aload_n zx zb dX3_isTestTrue_92 rfl (lv_at hl 1 rfl) ?_
    refine gf3_22 (v := .ref (a 4)) zC h 0 rfl rfl dX3_isTestTrue_93 ?_
    refine lv_iload_n zx zb dX3_isTestTrue_96 rfl (lv_at hl 2 rfl) ?_
    refine a_ild zC h 4 rfl (z := (t : Int)) t (by omega) (by omega) (by decide) dX3_isTestTrue_97 ?_
    refine i_cle (a := Vv f k) (b := TN t) (tgt := 105) zC dX3_isTestTrue_98 (by decide) (by omega) (fun c_6 => ?_) (fun c_6 => ?_)
    · skip
      refine lv_iconst (v := iI (0)) zx zb dX3_isTestTrue_105 rfl ?_
      exact r_zret (b := false) zC zQ zr zk h dX3_isTestTrue_106 rfl (u := ()) (by rw [show tstV (TR t) (Vv f k) (TN t) = false from by unfold tstV; simp [e_r]; omega]; rfl) (List.Perm.refl _) trivial (Nat.le_of_ble_eq_true rfl) (Nat.le_of_ble_eq_true rfl)
    · skip
      refine lv_iconst (v := iI (1)) zx zb dX3_isTestTrue_101 rfl ?_
      refine lv_goto (tgt := 106) zx zb dX3_isTestTrue_102 (by decide) ?_
      exact r_zret (b := true) zC zQ zr zk h dX3_isTestTrue_106 rfl (u := ()) (by rw [show tstV (TR t) (Vv f k) (TN t) = true from by unfold tstV; simp [e_r]; omega]; rfl) (List.Perm.refl _) trivial (Nat.le_of_ble_eq_true rfl) (Nat.le_of_ble_eq_true rfl)
