/-! FOUND: what a question found -/
def wFound (g : Nat → ClassId) (a : Nat → Nat) (F Hm : Nat → Int) (n : Nat) : va_W := [(a 0, .inr (0, [.ref (a 1), .ref (a 2), .int (iI (n : Int))])), (a 1, cI g 300 F), (a 2, cI g 300 Hm)]
theorem wFound_mem {g : Nat → ClassId} {a : Nat → Nat} {F Hm : Nat → Int} {n : Nat} : (a 0, .inr (0, [.ref (a 1), .ref (a 2), .int (iI (n : Int))])) ∈ wFound g a F Hm n := .head _

set_option maxHeartbeats 4000000 in
set_option maxRecDepth 100000 in
theorem c_X0_count (l : Launch) (D : va_G) (g : Nat → ClassId) (a : Nat → Nat) (F Hm : Nat → Int) (n : Nat) : Ct (S := Unit) l D g yX0_count cX0_count 1 (some .int) rmX0_count [.ref (a 0)] (wFound g a F Hm n) (fun u => some (.int (iI (n : Int)))) (fun _ => True) (fun u => wFound g a F Hm n) := by
  refine Ct.of RX0 rfl (by decide +kernel) [(0, .ref (a 0))] rfl (Nat.le_of_ble_eq_true rfl) ?_
  intro pg evn sT mI bl mtd cd aA ls ar qQ zC zr zk zi zQ h hl
  have zx := zC.1
  have zb := zC.2.1
  have h : Hx D g sT aA sT.heap ([(a 0, .inr (0, [.ref (a 1), .ref (a 2), .int (iI (n : Int))])), (a 1, cI g 300 F), (a 2, cI g 300 Hm)]) sT.heap [] := h
  skip
  refine lv_aload_n zx zb dX0_count_0 rfl (lv_at hl 0 rfl) ?_
  refine gf0_18 (v := .int (iI (n : Int))) zC h 0 rfl rfl dX0_count_1 ?_
  exact r_iret zC zQ zr zk h dX0_count_4 (u := ()) rfl (List.Perm.refl _) trivial (Nat.le_of_ble_eq_true rfl) (Nat.le_of_ble_eq_true rfl)

set_option maxHeartbeats 4000000 in
set_option maxRecDepth 100000 in
theorem c_X0_clear (l : Launch) (D : va_G) (g : Nat → ClassId) (a : Nat → Nat) (F Hm : Nat → Int) (n : Nat) : Ct (S := Unit) l D g yX0_clear cX0_clear 1 none rmX0_clear [.ref (a 0)] (wFound g a F Hm n) (fun u => none) (fun _ => True) (fun u => wFound g a F Hm 0) := by
  refine Ct.of RX0 rfl (by decide +kernel) [(0, .ref (a 0))] rfl (Nat.le_of_ble_eq_true rfl) ?_
  intro pg evn sT mI bl mtd cd aA ls ar qQ zC zr zk zi zQ h hl
  have zx := zC.1
  have zb := zC.2.1
  have h : Hx D g sT aA sT.heap ([(a 0, .inr (0, [.ref (a 1), .ref (a 2), .int (iI (n : Int))])), (a 1, cI g 300 F), (a 2, cI g 300 Hm)]) sT.heap [] := h
  skip
  refine lv_aload_n zx zb dX0_clear_0 rfl (lv_at hl 0 rfl) ?_
  refine lv_iconst (v := iI (0)) zx zb dX0_clear_1 rfl ?_
  refine pf0_18 (x := iI 0) zC h 0 (ws' := [(a 0, .inr (0, [.ref (a 1), .ref (a 2), .int (iI 0)])), (a 1, cI g 300 F), (a 2, cI g 300 Hm)]) rfl rfl (Nat.le_of_ble_eq_true rfl) dX0_clear_2 (fun H locs h => ?_)
  exact r_vret zC zQ zr zk h dX0_clear_5 (u := ()) rfl (List.Perm.refl _) trivial (Nat.le_of_ble_eq_true rfl) (Nat.le_of_ble_eq_true rfl)

set_option maxHeartbeats 4000000 in
set_option maxRecDepth 100000 in
theorem c_X0_add (l : Launch) (D : va_G) (g : Nat → ClassId) (a : Nat → Nat) (F Hm : Nat → Int) (n : Nat) (x : Int) (hn : n < 300) : Ct (S := Unit) l D g yX0_add cX0_add 2 none rmX0_add [.ref (a 0), .int (iI x)] (wFound g a F Hm n) (fun u => none) (fun _ => True) (fun u => wFound g a (up F n x) (up Hm n 1) (n + 1)) := by
  refine Ct.of RX0 rfl (by decide +kernel) [(0, .ref (a 0)), (1, .int (iI x))] rfl (Nat.le_of_ble_eq_true rfl) ?_
  intro pg evn sT mI bl mtd cd aA ls ar qQ zC zr zk zi zQ h hl
  have zx := zC.1
  have zb := zC.2.1
  have h : Hx D g sT aA sT.heap ([(a 0, .inr (0, [.ref (a 1), .ref (a 2), .int (iI (n : Int))])), (a 1, cI g 300 F), (a 2, cI g 300 Hm)]) sT.heap [] := h
  skip
  refine lv_aload_n zx zb dX0_add_0 rfl (lv_at hl 0 rfl) ?_
  refine gf0_18 (v := .int (iI (n : Int))) zC h 0 rfl rfl dX0_add_1 ?_
  refine i_zlt (a := (n : Int)) (tgt := 47) zC dX0_add_4 (by decide) (by omega) (fun c_1 => absurd c_1 (by omega)) (fun c_1 => ?_)
  refine lv_aload_n zx zb dX0_add_7 rfl (lv_at hl 0 rfl) ?_
  refine gf0_18 (v := .int (iI (n : Int))) zC h 0 rfl rfl dX0_add_8 ?_
  refine lv_sipush (v := iI (300)) zx zb dX0_add_11 rfl ?_
  refine i_cge (a := (n : Int)) (b := 300) (tgt := 47) zC dX0_add_14 (by decide) (by omega) (fun c_2 => absurd c_2 (by omega)) (fun c_2 => ?_)
  refine lv_aload_n zx zb dX0_add_17 rfl (lv_at hl 0 rfl) ?_
  refine gf0_9 (v := .ref (a 1)) zC h 0 rfl rfl dX0_add_18 ?_
  refine lv_aload_n zx zb dX0_add_21 rfl (lv_at hl 0 rfl) ?_
  refine gf0_18 (v := .int (iI (n : Int))) zC h 0 rfl rfl dX0_add_22 ?_
  refine lv_iload_n zx zb dX0_add_25 rfl (lv_at hl 1 rfl) ?_
  refine a_ist (x := x) zC h 1 (ws' := [(a 0, .inr (0, [.ref (a 1), .ref (a 2), .int (iI (n : Int))])), (a 1, cI g 300 (up F n x)), (a 2, cI g 300 Hm)]) rfl (z := (n : Int)) n rfl (by omega) (by omega) (by decide) dX0_add_26 (fun H locs h => ?_)
  refine lv_aload_n zx zb dX0_add_27 rfl (lv_at hl 0 rfl) ?_
  refine gf0_15 (v := .ref (a 2)) zC h 0 rfl rfl dX0_add_28 ?_
  refine lv_aload_n zx zb dX0_add_31 rfl (lv_at hl 0 rfl) ?_
  refine gf0_18 (v := .int (iI (n : Int))) zC h 0 rfl rfl dX0_add_32 ?_
  refine lv_iconst (v := iI (1)) zx zb dX0_add_35 rfl ?_
  refine a_ist (x := 1) zC h 2 (ws' := [(a 0, .inr (0, [.ref (a 1), .ref (a 2), .int (iI (n : Int))])), (a 1, cI g 300 (up F n x)), (a 2, cI g 300 (up Hm n 1))]) rfl (z := (n : Int)) n rfl (by omega) (by omega) (by decide) dX0_add_36 (fun H locs h => ?_)
  refine lv_aload_n zx zb dX0_add_37 rfl (lv_at hl 0 rfl) ?_
  refine lv_dup zx zb dX0_add_38 rfl ?_
  refine gf0_18 (v := .int (iI (n : Int))) zC h 0 rfl rfl dX0_add_39 ?_
  refine lv_iconst (v := iI (1)) zx zb dX0_add_42 rfl ?_
  refine i_add zC (a := (n : Int)) (b := 1) dX0_add_43 ?_
  refine pf0_18 (x := iI ((n : Int) + 1)) zC h 0 (ws' := [(a 0, .inr (0, [.ref (a 1), .ref (a 2), .int (iI ((n : Int) + 1))])), (a 1, cI g 300 (up F n x)), (a 2, cI g 300 (up Hm n 1))]) rfl rfl (Nat.le_of_ble_eq_true rfl) dX0_add_44 (fun H locs h => ?_)
  exact r_vret zC zQ zr zk h dX0_add_47 (u := ()) rfl (List.Perm.refl _) trivial (Nat.le_of_ble_eq_true rfl) (Nat.le_of_ble_eq_true rfl)

set_option maxHeartbeats 4000000 in
set_option maxRecDepth 100000 in
theorem c_X0_addToGroup (l : Launch) (D : va_G) (g : Nat → ClassId) (a : Nat → Nat) (F Hm : Nat → Int) (n : Nat) (x : Int) (hn : n < 300) (hx : R32 x) (hF : ∀ k, k < n → R32 (F k)) : Ct (S := (Nat → Int) × (Nat → Int) × Nat) l D g yX0_addToGroup cX0_addToGroup 3 none rmX0_addToGroup [.ref (a 0), .int (iI x)] (wFound g a F Hm n) (fun u => none) (fun u => u = if 0 < n ∧ F (n - 1) = x then (F, up Hm (n - 1) (Hm (n - 1) + 1), n) else (up F n x, up Hm n 1, n + 1)) (fun u => wFound g a u.1 u.2.1 u.2.2) := by
  refine Ct.of RX0 rfl (by decide +kernel) [(0, .ref (a 0)), (1, .int (iI x))] rfl (Nat.le_of_ble_eq_true rfl) ?_
  intro pg evn sT mI bl mtd cd aA ls ar qQ zC zr zk zi zQ h hl
  have zx := zC.1
  have zb := zC.2.1
  have h : Hx D g sT aA sT.heap ([(a 0, .inr (0, [.ref (a 1), .ref (a 2), .int (iI (n : Int))])), (a 1, cI g 300 F), (a 2, cI g 300 Hm)]) sT.heap [] := h
  skip
  refine lv_aload_n zx zb dX0_addToGroup_0 rfl (lv_at hl 0 rfl) ?_
  refine gf0_18 (v := .int (iI (n : Int))) zC h 0 rfl rfl dX0_addToGroup_1 ?_
  refine lv_iconst (v := iI (1)) zx zb dX0_addToGroup_4 rfl ?_
  refine i_sub zC (a := (n : Int)) (b := 1) dX0_addToGroup_5 ?_
  refine lv_istore_n (lv' := [(2, .int (iI ((n : Int) - 1))), (0, .ref (a 0)), (1, .int (iI x))]) zx zb dX0_addToGroup_6 rfl hl (by decide) rfl (fun ls hl => ?_)
  refine lv_iload_n zx zb dX0_addToGroup_7 rfl (lv_at hl 0 rfl) ?_
  refine i_zlt (a := (n : Int) - 1) (tgt := 41) zC dX0_addToGroup_8 (by decide) (by omega) (fun c_1 => ?_) (fun c_1 => ?_)
  · skip
    refine lv_aload_n zx zb dX0_addToGroup_41 rfl (lv_at hl 1 rfl) ?_
    refine lv_iload_n zx zb dX0_addToGroup_42 rfl (lv_at hl 2 rfl) ?_
    refine r_invV (As := [.int (iI x)]) (rest := []) (wr := []) (ws2 := fun u_2 => [(a 0, .inr (0, [.ref (a 1), .ref (a 2), .int (iI ((n + 1 : Nat) : Int))])), (a 1, cI g 300 (up F n x)), (a 2, cI g 300 (up Hm n 1))]) 0 0 zC h hl.1 (c_X0_add l D g a F Hm n x hn) (cs0_22 zC ⟨(Nat.le_of_ble_eq_true rfl), (Nat.le_of_ble_eq_true rfl)⟩) (.head _) rfl rfl rfl (Nat.le_of_ble_eq_true rfl) (List.Perm.of_eq (List.append_nil _).symm) (fun u => List.Perm.of_eq (List.append_nil _)) ⟨(Nat.le_of_ble_eq_true rfl), (Nat.le_of_ble_eq_true rfl)⟩ (Nat.le_of_ble_eq_true rfl) (Nat.le_of_ble_eq_true rfl) dX0_addToGroup_43 (fun u_2 H locs hu_2 hz_2 h => ?_)
    exact r_vret zC zQ zr zk h dX0_addToGroup_46 (u := (up F n x, up Hm n 1, n + 1)) rfl (List.Perm.refl _) (by rw [if_neg (by omega)]) (Nat.le_of_ble_eq_true rfl) (Nat.le_of_ble_eq_true rfl)
  · skip
    refine lv_iload_n zx zb dX0_addToGroup_11 rfl (lv_at hl 0 rfl) ?_
    refine lv_sipush (v := iI (300)) zx zb dX0_addToGroup_12 rfl ?_
    refine i_cge (a := (n : Int) - 1) (b := 300) (tgt := 41) zC dX0_addToGroup_15 (by decide) (by omega) (fun c_3 => absurd c_3 (by omega)) (fun c_3 => ?_)
    refine lv_aload_n zx zb dX0_addToGroup_18 rfl (lv_at hl 1 rfl) ?_
    refine gf0_9 (v := .ref (a 1)) zC h 0 rfl rfl dX0_addToGroup_19 ?_
    refine lv_iload_n zx zb dX0_addToGroup_22 rfl (lv_at hl 0 rfl) ?_
    refine a_ild zC h 1 rfl (z := (n : Int) - 1) (n - 1) (by omega) (by omega) (by decide) dX0_addToGroup_23 ?_
    refine lv_iload_n zx zb dX0_addToGroup_24 rfl (lv_at hl 2 rfl) ?_
    have hF1 := hF (n - 1) (by omega)
    refine i_cne (a := F (n - 1)) (b := x) (tgt := 41) zC dX0_addToGroup_25 (by decide) (by omega) (fun c_4 => ?_) (fun c_4 => ?_)
    · skip
      refine lv_aload_n zx zb dX0_addToGroup_41 rfl (lv_at hl 1 rfl) ?_
      refine lv_iload_n zx zb dX0_addToGroup_42 rfl (lv_at hl 2 rfl) ?_
      refine r_invV (As := [.int (iI x)]) (rest := []) (wr := []) (ws2 := fun u_5 => [(a 0, .inr (0, [.ref (a 1), .ref (a 2), .int (iI ((n + 1 : Nat) : Int))])), (a 1, cI g 300 (up F n x)), (a 2, cI g 300 (up Hm n 1))]) 0 0 zC h hl.1 (c_X0_add l D g a F Hm n x hn) (cs0_22 zC ⟨(Nat.le_of_ble_eq_true rfl), (Nat.le_of_ble_eq_true rfl)⟩) (.head _) rfl rfl rfl (Nat.le_of_ble_eq_true rfl) (List.Perm.of_eq (List.append_nil _).symm) (fun u => List.Perm.of_eq (List.append_nil _)) ⟨(Nat.le_of_ble_eq_true rfl), (Nat.le_of_ble_eq_true rfl)⟩ (Nat.le_of_ble_eq_true rfl) (Nat.le_of_ble_eq_true rfl) dX0_addToGroup_43 (fun u_5 H locs hu_5 hz_5 h => ?_)
      exact r_vret zC zQ zr zk h dX0_addToGroup_46 (u := (up F n x, up Hm n 1, n + 1)) rfl (List.Perm.refl _) (by rw [if_neg (by omega)]) (Nat.le_of_ble_eq_true rfl) (Nat.le_of_ble_eq_true rfl)
    · skip
      refine lv_aload_n zx zb dX0_addToGroup_28 rfl (lv_at hl 1 rfl) ?_
      refine gf0_15 (v := .ref (a 2)) zC h 0 rfl rfl dX0_addToGroup_29 ?_
      refine lv_iload_n zx zb dX0_addToGroup_32 rfl (lv_at hl 0 rfl) ?_
      refine lv_dup2_11 zx zb dX0_addToGroup_33 rfl rfl ?_
      refine a_ild zC h 2 rfl (z := (n : Int) - 1) (n - 1) (by omega) (by omega) (by decide) dX0_addToGroup_34 ?_
      refine lv_iconst (v := iI (1)) zx zb dX0_addToGroup_35 rfl ?_
      refine i_add zC (a := Hm (n - 1)) (b := 1) dX0_addToGroup_36 ?_
      refine a_ist (x := Hm (n - 1) + 1) zC h 2 (ws' := [(a 0, .inr (0, [.ref (a 1), .ref (a 2), .int (iI (n : Int))])), (a 1, cI g 300 F), (a 2, cI g 300 (up Hm (n - 1) (Hm (n - 1) + 1)))]) rfl (z := (n : Int) - 1) (n - 1) rfl (by omega) (by omega) (by decide) dX0_addToGroup_37 (fun H locs h => ?_)
      refine lv_goto (tgt := 46) zx zb dX0_addToGroup_38 (by decide) ?_
      exact r_vret zC zQ zr zk h dX0_addToGroup_46 (u := (F, up Hm (n - 1) (Hm (n - 1) + 1), n)) rfl (List.Perm.refl _) (by rw [if_pos ⟨by omega, by omega⟩]) (Nat.le_of_ble_eq_true rfl) (Nat.le_of_ble_eq_true rfl)

set_option maxHeartbeats 4000000 in
set_option maxRecDepth 100000 in
theorem c_X0_first (l : Launch) (D : va_G) (g : Nat → ClassId) (a : Nat → Nat) (F Hm : Nat → Int) (n : Nat) (k : Nat) (hk : k < 300) : Ct (S := Unit) l D g yX0_first cX0_first 2 (some .int) rmX0_first [.ref (a 0), .int (iI (k : Int))] (wFound g a F Hm n) (fun u => some (.int (iI (F k)))) (fun _ => True) (fun u => wFound g a F Hm n) := by
  refine Ct.of RX0 rfl (by decide +kernel) [(0, .ref (a 0)), (1, .int (iI (k : Int)))] rfl (Nat.le_of_ble_eq_true rfl) ?_
  intro pg evn sT mI bl mtd cd aA ls ar qQ zC zr zk zi zQ h hl
  have zx := zC.1
  have zb := zC.2.1
  have h : Hx D g sT aA sT.heap ([(a 0, .inr (0, [.ref (a 1), .ref (a 2), .int (iI (n : Int))])), (a 1, cI g 300 F), (a 2, cI g 300 Hm)]) sT.heap [] := h
  skip
  refine lv_iload_n zx zb dX0_first_0 rfl (lv_at hl 1 rfl) ?_
  refine i_zlt (a := (k : Int)) (tgt := 20) zC dX0_first_1 (by decide) (by omega) (fun c_1 => absurd c_1 (by omega)) (fun c_1 => ?_)
  refine lv_iload_n zx zb dX0_first_4 rfl (lv_at hl 1 rfl) ?_
  refine lv_sipush (v := iI (300)) zx zb dX0_first_5 rfl ?_
  refine i_cge (a := (k : Int)) (b := 300) (tgt := 20) zC dX0_first_8 (by decide) (by omega) (fun c_2 => absurd c_2 (by omega)) (fun c_2 => ?_)
  refine lv_aload_n zx zb dX0_first_11 rfl (lv_at hl 0 rfl) ?_
  refine gf0_9 (v := .ref (a 1)) zC h 0 rfl rfl dX0_first_12 ?_
  refine lv_iload_n zx zb dX0_first_15 rfl (lv_at hl 1 rfl) ?_
  refine a_ild zC h 1 rfl (z := (k : Int)) k (by omega) (by omega) (by decide) dX0_first_16 ?_
  refine lv_goto (tgt := 21) zx zb dX0_first_17 (by decide) ?_
  exact r_iret zC zQ zr zk h dX0_first_21 (u := ()) rfl (List.Perm.refl _) trivial (Nat.le_of_ble_eq_true rfl) (Nat.le_of_ble_eq_true rfl)

set_option maxHeartbeats 4000000 in
set_option maxRecDepth 100000 in
theorem c_X0_howMany (l : Launch) (D : va_G) (g : Nat → ClassId) (a : Nat → Nat) (F Hm : Nat → Int) (n : Nat) (k : Nat) (hk : k < 300) : Ct (S := Unit) l D g yX0_howMany cX0_howMany 2 (some .int) rmX0_howMany [.ref (a 0), .int (iI (k : Int))] (wFound g a F Hm n) (fun u => some (.int (iI (Hm k)))) (fun _ => True) (fun u => wFound g a F Hm n) := by
  refine Ct.of RX0 rfl (by decide +kernel) [(0, .ref (a 0)), (1, .int (iI (k : Int)))] rfl (Nat.le_of_ble_eq_true rfl) ?_
  intro pg evn sT mI bl mtd cd aA ls ar qQ zC zr zk zi zQ h hl
  have zx := zC.1
  have zb := zC.2.1
  have h : Hx D g sT aA sT.heap ([(a 0, .inr (0, [.ref (a 1), .ref (a 2), .int (iI (n : Int))])), (a 1, cI g 300 F), (a 2, cI g 300 Hm)]) sT.heap [] := h
  skip
  refine lv_iload_n zx zb dX0_howMany_0 rfl (lv_at hl 1 rfl) ?_
  refine i_zlt (a := (k : Int)) (tgt := 20) zC dX0_howMany_1 (by decide) (by omega) (fun c_1 => absurd c_1 (by omega)) (fun c_1 => ?_)
  refine lv_iload_n zx zb dX0_howMany_4 rfl (lv_at hl 1 rfl) ?_
  refine lv_sipush (v := iI (300)) zx zb dX0_howMany_5 rfl ?_
  refine i_cge (a := (k : Int)) (b := 300) (tgt := 20) zC dX0_howMany_8 (by decide) (by omega) (fun c_2 => absurd c_2 (by omega)) (fun c_2 => ?_)
  refine lv_aload_n zx zb dX0_howMany_11 rfl (lv_at hl 0 rfl) ?_
  refine gf0_15 (v := .ref (a 2)) zC h 0 rfl rfl dX0_howMany_12 ?_
  refine lv_iload_n zx zb dX0_howMany_15 rfl (lv_at hl 1 rfl) ?_
  refine a_ild zC h 2 rfl (z := (k : Int)) k (by omega) (by omega) (by decide) dX0_howMany_16 ?_
  refine lv_goto (tgt := 21) zx zb dX0_howMany_17 (by decide) ?_
  exact r_iret zC zQ zr zk h dX0_howMany_21 (u := ()) rfl (List.Perm.refl _) trivial (Nat.le_of_ble_eq_true rfl) (Nat.le_of_ble_eq_true rfl)
