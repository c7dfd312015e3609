/-! RIGHTS: for each asker and each owner (or any) the kinds (or any), as bits -/
noncomputable def bG (B : Nat → Nat → Nat → Bool) : Nat → Nat → Int := fun w o => bZ (B w o)
def bAdd (B : Nat → Nat → Nat → Bool) (w o k : Nat) : Nat → Nat → Nat → Bool := fun w' o' i => B w' o' i || (w' == w && (o' == o && i == k))
theorem bG_add {B : Nat → Nat → Nat → Bool} {w o k : Nat} : pV (bG B) w o (bZ fun i => B w o i || i == k) = bG (bAdd B w o k) := by
  funext w' o'
  unfold pV
  by_cases h1 : w' = w
  · subst h1
    rw [up_s]
    by_cases h2 : o' = o
    · subst h2
      rw [up_s]
      refine bZ_congr fun i _ => ?_
      simp [bAdd]
    · rw [up_n h2]
      refine bZ_congr fun i _ => ?_
      simp [bAdd, h2]
  · rw [up_n h1]
    refine bZ_congr fun i _ => ?_
    simp [bAdd, h1]
noncomputable def wRights (g : Nat → ClassId) (a r : Nat → Nat) (n : Nat) (B : Nat → Nat → Nat → Bool) (Cn : Nat → Int) : va_W := (a 0, .inr (5, [.ref (a 1), .ref (a 2), .int (iI (n : Int))])) :: (a 1, cG g 50 r) :: (a 2, cI g 50 Cn) :: sG g r 50 101 (bG B)
theorem wRights_mem {g : Nat → ClassId} {a r : Nat → Nat} {n : Nat} {B : Nat → Nat → Nat → Bool} {Cn : Nat → Int} : (a 0, .inr (5, [.ref (a 1), .ref (a 2), .int (iI (n : Int))])) ∈ wRights g a r n B Cn := .head _
theorem see_mask {x y : Nat → Bool} {k : Nat} (hk : k < 20) : (bZ fun i => (x i || y i) && (i == 0 || i == k + 1)) = 0 ↔ (x 0 || y 0 || (x (k + 1) || y (k + 1))) = false := by
  rw [bZ_eq0]
  constructor
  · intro h
    have h0 := h 0 (by omega)
    have h1 := h (k + 1) (by omega)
    simp at h0 h1
    simp [h0, h1]
  · intro h i hi
    simp at h
    by_cases e0 : i = 0
    · subst e0; simp [h]
    · by_cases e1 : i = k + 1
      · subst e1; simp [h]
      · simp [e0, e1]

set_option maxHeartbeats 4000000 in
set_option maxRecDepth 100000 in
theorem c_X5_count (l : Launch) (D : va_G) (g : Nat → ClassId) (a r : Nat → Nat) (n : Nat) (B : Nat → Nat → Nat → Bool) (Cn : Nat → Int) : Ct (S := Unit) l D g yX5_count cX5_count 1 (some .int) rmX5_count [.ref (a 0)] (wRights g a r n B Cn) (fun u => some (.int (iI (n : Int)))) (fun _ => True) (fun u => wRights g a r n B Cn) := by
  refine Ct.of RX5 rfl (by decide +kernel) [(0, .ref (a 0))] rfl (Nat.le_of_ble_eq_true rfl) ?_
  intro pg evn sT mI bl mtd cd aA ls ar qQ zC zr zk zi zQ h hl
  have zx := zC.1
  have zb := zC.2.1
  have h : Hx D g sT aA sT.heap ((a 0, .inr (5, [.ref (a 1), .ref (a 2), .int (iI (n : Int))])) :: (a 1, cG g 50 r) :: (a 2, cI g 50 Cn) :: (sG g r 50 101 (bG B))) sT.heap [] := h
  skip
  refine lv_aload_n zx zb dX5_count_0 rfl (lv_at hl 0 rfl) ?_
  refine gf5_20 (v := .int (iI (n : Int))) zC h 0 rfl rfl dX5_count_1 ?_
  exact r_iret zC zQ zr zk h dX5_count_4 (u := ()) rfl (List.Perm.refl _) trivial (Nat.le_of_ble_eq_true rfl) (Nat.le_of_ble_eq_true rfl)

set_option maxHeartbeats 4000000 in
set_option maxRecDepth 100000 in
theorem c_X5_countOf (l : Launch) (D : va_G) (g : Nat → ClassId) (a r : Nat → Nat) (n : Nat) (B : Nat → Nat → Nat → Bool) (Cn : Nat → Int) (w : Nat) (hw : w < 50) : Ct (S := Unit) l D g yX5_countOf cX5_countOf 2 (some .int) rmX5_countOf [.ref (a 0), .int (iI (w : Int))] (wRights g a r n B Cn) (fun u => some (.int (iI (Cn w)))) (fun _ => True) (fun u => wRights g a r n B Cn) := by
  refine Ct.of RX5 rfl (by decide +kernel) [(0, .ref (a 0)), (1, .int (iI (w : Int)))] rfl (Nat.le_of_ble_eq_true rfl) ?_
  intro pg evn sT mI bl mtd cd aA ls ar qQ zC zr zk zi zQ h hl
  have zx := zC.1
  have zb := zC.2.1
  have h : Hx D g sT aA sT.heap ((a 0, .inr (5, [.ref (a 1), .ref (a 2), .int (iI (n : Int))])) :: (a 1, cG g 50 r) :: (a 2, cI g 50 Cn) :: (sG g r 50 101 (bG B))) sT.heap [] := h
  skip
  refine lv_iload_n zx zb dX5_countOf_0 rfl (lv_at hl 1 rfl) ?_
  refine i_zlt (a := (w : Int)) (tgt := 19) zC dX5_countOf_1 (by decide) (by omega) (fun c_1 => absurd c_1 (by omega)) (fun c_1 => ?_)
  refine lv_iload_n zx zb dX5_countOf_4 rfl (lv_at hl 1 rfl) ?_
  refine lv_bipush (v := iI (50)) zx zb dX5_countOf_5 rfl ?_
  refine i_cge (a := (w : Int)) (b := 50) (tgt := 19) zC dX5_countOf_7 (by decide) (by omega) (fun c_2 => absurd c_2 (by omega)) (fun c_2 => ?_)
  refine lv_aload_n zx zb dX5_countOf_10 rfl (lv_at hl 0 rfl) ?_
  refine gf5_16 (v := .ref (a 2)) zC h 0 rfl rfl dX5_countOf_11 ?_
  refine lv_iload_n zx zb dX5_countOf_14 rfl (lv_at hl 1 rfl) ?_
  refine a_ild zC h 2 rfl (z := (w : Int)) w (by omega) (by omega) (by decide) dX5_countOf_15 ?_
  refine lv_goto (tgt := 20) zx zb dX5_countOf_16 (by decide) ?_
  exact r_iret zC zQ zr zk h dX5_countOf_20 (u := ()) rfl (List.Perm.refl _) trivial (Nat.le_of_ble_eq_true rfl) (Nat.le_of_ble_eq_true rfl)

set_option maxHeartbeats 4000000 in
set_option maxRecDepth 100000 in
theorem c_X5_kindsOf (l : Launch) (D : va_G) (g : Nat → ClassId) (a r : Nat → Nat) (n : Nat) (B : Nat → Nat → Nat → Bool) (Cn : Nat → Int) (w : Nat) (z : Int) (hw : w < 50) (hz : -1 ≤ z ∧ z < 100) : Ct (S := Unit) l D g yX5_kindsOf cX5_kindsOf 3 (some .int) rmX5_kindsOf [.ref (a 0), .int (iI (w : Int)), .int (iI z)] (wRights g a r n B Cn) (fun u => some (.int (iI (bZ (B w (z + 1).toNat))))) (fun _ => True) (fun u => wRights g a r n B Cn) := by
  refine Ct.of RX5 rfl (by decide +kernel) [(0, .ref (a 0)), (1, .int (iI (w : Int))), (2, .int (iI z))] rfl (Nat.le_of_ble_eq_true rfl) ?_
  intro pg evn sT mI bl mtd cd aA ls ar qQ zC zr zk zi zQ h hl
  have zx := zC.1
  have zb := zC.2.1
  have h : Hx D g sT aA sT.heap ((a 0, .inr (5, [.ref (a 1), .ref (a 2), .int (iI (n : Int))])) :: (a 1, cG g 50 r) :: (a 2, cI g 50 Cn) :: (sG g r 50 101 (bG B))) sT.heap [] := h
  skip
  refine lv_iload_n zx zb dX5_kindsOf_0 rfl (lv_at hl 1 rfl) ?_
  refine i_zlt (a := (w : Int)) (tgt := 21) zC dX5_kindsOf_1 (by decide) (by omega) (fun c_1 => absurd c_1 (by omega)) (fun c_1 => ?_)
  refine lv_iload_n zx zb dX5_kindsOf_4 rfl (lv_at hl 1 rfl) ?_
  refine lv_bipush (v := iI (50)) zx zb dX5_kindsOf_5 rfl ?_
  refine i_cge (a := (w : Int)) (b := 50) (tgt := 21) zC dX5_kindsOf_7 (by decide) (by omega) (fun c_2 => absurd c_2 (by omega)) (fun c_2 => ?_)
  refine lv_iload_n zx zb dX5_kindsOf_10 rfl (lv_at hl 2 rfl) ?_
  refine lv_iconst (v := iI (-1)) zx zb dX5_kindsOf_11 rfl ?_
  refine i_clt (a := z) (b := -1) (tgt := 21) zC dX5_kindsOf_12 (by decide) (by omega) (fun c_3 => absurd c_3 (by omega)) (fun c_3 => ?_)
  refine lv_iload_n zx zb dX5_kindsOf_15 rfl (lv_at hl 2 rfl) ?_
  refine lv_bipush (v := iI (100)) zx zb dX5_kindsOf_16 rfl ?_
  refine i_clt (a := z) (b := 100) (tgt := 23) zC dX5_kindsOf_18 (by decide) (by omega) (fun c_4 => ?_) (fun c_4 => absurd c_4 (by omega))
  refine lv_aload_n zx zb dX5_kindsOf_23 rfl (lv_at hl 0 rfl) ?_
  refine gf5_11 (v := .ref (a 1)) zC h 0 rfl rfl dX5_kindsOf_24 ?_
  refine lv_iload_n zx zb dX5_kindsOf_27 rfl (lv_at hl 1 rfl) ?_
  refine a_gld zC h 1 rfl (z := (w : Int)) w (by omega) (by omega) (by decide) dX5_kindsOf_28 ?_
  refine lv_iload_n zx zb dX5_kindsOf_29 rfl (lv_at hl 2 rfl) ?_
  refine lv_iconst (v := iI (1)) zx zb dX5_kindsOf_30 rfl ?_
  refine i_add zC (a := z) (b := 1) dX5_kindsOf_31 ?_
  refine a_ildM (n := 101) (F := bG B w) zC h (.tail _ (.tail _ (.tail _ (sG_get (by omega))))) (z := z + 1) ((z + 1).toNat) (by omega) (by omega) (by decide) dX5_kindsOf_32 ?_
  exact r_iret zC zQ zr zk h dX5_kindsOf_33 (u := ()) rfl (List.Perm.refl _) trivial (Nat.le_of_ble_eq_true rfl) (Nat.le_of_ble_eq_true rfl)

set_option maxHeartbeats 4000000 in
set_option maxRecDepth 100000 in
theorem c_X5_holds (l : Launch) (D : va_G) (g : Nat → ClassId) (a r : Nat → Nat) (n : Nat) (B : Nat → Nat → Nat → Bool) (Cn : Nat → Int) (w : Nat) (z q : Int) (hw : w < 50) (hz : -1 ≤ z ∧ z < 100) (hq : -1 ≤ q ∧ q < 20) : Ct (S := Unit) l D g yX5_holds cX5_holds 4 (some .boolean) rmX5_holds [.ref (a 0), .int (iI (w : Int)), .int (iI z), .int (iI q)] (wRights g a r n B Cn) (fun u => some (.int (bI (B w (z + 1).toNat (q + 1).toNat)))) (fun _ => True) (fun u => wRights g a r n B Cn) := by
  refine Ct.of RX5 rfl (by decide +kernel) [(0, .ref (a 0)), (1, .int (iI (w : Int))), (2, .int (iI z)), (3, .int (iI q))] rfl (Nat.le_of_ble_eq_true rfl) ?_
  intro pg evn sT mI bl mtd cd aA ls ar qQ zC zr zk zi zQ h hl
  have zx := zC.1
  have zb := zC.2.1
  have h : Hx D g sT aA sT.heap ((a 0, .inr (5, [.ref (a 1), .ref (a 2), .int (iI (n : Int))])) :: (a 1, cG g 50 r) :: (a 2, cI g 50 Cn) :: (sG g r 50 101 (bG B))) sT.heap [] := h
  skip
  refine lv_aload_n zx zb dX5_holds_0 rfl (lv_at hl 0 rfl) ?_
  refine lv_iload_n zx zb dX5_holds_1 rfl (lv_at hl 1 rfl) ?_
  refine lv_iload_n zx zb dX5_holds_2 rfl (lv_at hl 2 rfl) ?_
  refine r_invV (As := [.int (iI (w : Int)), .int (iI z)]) (rest := []) (wr := []) (ws2 := fun u_1 => (a 0, .inr (5, [.ref (a 1), .ref (a 2), .int (iI (n : Int))])) :: (a 1, cG g 50 r) :: (a 2, cI g 50 Cn) :: (sG g r 50 101 (bG B))) 0 0 zC h hl.1 (c_X5_kindsOf l D g a r n B Cn w z hw hz) (cs5_24 zC ⟨(Nat.le_of_ble_eq_true rfl), (Nat.le_of_ble_eq_true rfl)⟩) (.head _) rfl rfl rfl (Nat.le_of_ble_eq_true rfl) (List.Perm.of_eq (List.append_nil _).symm) (fun u => List.Perm.of_eq (List.append_nil _)) ⟨(Nat.le_of_ble_eq_true rfl), (Nat.le_of_ble_eq_true rfl)⟩ (Nat.le_of_ble_eq_true rfl) (Nat.le_of_ble_eq_true rfl) dX5_holds_3 (fun u_1 H locs hu_1 hz_1 h => ?_)
  refine lv_iload_n zx zb dX5_holds_6 rfl (lv_at hl 3 rfl) ?_
  refine lv_iconst (v := iI (1)) zx zb dX5_holds_7 rfl ?_
  refine i_add zC (a := q) (b := 1) dX5_holds_8 ?_
  refine lv_ishr zx zb dX5_holds_9 ?_
  refine lv_iconst (v := iI (1)) zx zb dX5_holds_10 rfl ?_
  refine lv_iand zx zb dX5_holds_11 ?_
  rw [show (q + 1 : Int) = (((q + 1).toNat : Nat) : Int) from by omega, bZ_tst (f := B w (z + 1).toNat) (show (q + 1).toNat < 32 by omega)]
  refine b_zeq (b := (B w (z + 1).toNat) ((q + 1).toNat)) (tgt := 19) zC dX5_holds_12 (by decide) (fun c_2 => ?_) (fun c_2 => ?_)
  · skip
    refine lv_iconst (v := iI (0)) zx zb dX5_holds_19 rfl ?_
    exact r_zret (b := false) zC zQ zr zk h dX5_holds_20 rfl (u := ()) (by rw [show B w (z + 1).toNat (q + 1).toNat = false from c_2]; rfl) (List.Perm.refl _) trivial (Nat.le_of_ble_eq_true rfl) (Nat.le_of_ble_eq_true rfl)
  · skip
    refine lv_iconst (v := iI (1)) zx zb dX5_holds_15 rfl ?_
    refine lv_goto (tgt := 20) zx zb dX5_holds_16 (by decide) ?_
    exact r_zret (b := true) zC zQ zr zk h dX5_holds_20 rfl (u := ()) (by rw [show B w (z + 1).toNat (q + 1).toNat = true from c_2]; rfl) (List.Perm.refl _) trivial (Nat.le_of_ble_eq_true rfl) (Nat.le_of_ble_eq_true rfl)

set_option maxHeartbeats 4000000 in
set_option maxRecDepth 100000 in
theorem c_X5_add (l : Launch) (D : va_G) (g : Nat → ClassId) (a r : Nat → Nat) (n : Nat) (B : Nat → Nat → Nat → Bool) (Cn : Nat → Int) (w : Nat) (z q : Int) (hw : w < 50) (hz : -1 ≤ z ∧ z < 100) (hq : -1 ≤ q ∧ q < 20) : Ct (S := Unit) l D g yX5_add cX5_add 4 none rmX5_add [.ref (a 0), .int (iI (w : Int)), .int (iI z), .int (iI q)] (wRights g a r n B Cn) (fun u => none) (fun _ => True) (fun u => wRights g a r (n + 1) (bAdd B w (z + 1).toNat (q + 1).toNat) (up Cn w (Cn w + 1))) := by
  refine Ct.of RX5 rfl (by decide +kernel) [(0, .ref (a 0)), (1, .int (iI (w : Int))), (2, .int (iI z)), (3, .int (iI q))] rfl (Nat.le_of_ble_eq_true rfl) ?_
  intro pg evn sT mI bl mtd cd aA ls ar qQ zC zr zk zi zQ h hl
  have zx := zC.1
  have zb := zC.2.1
  have h : Hx D g sT aA sT.heap ((a 0, .inr (5, [.ref (a 1), .ref (a 2), .int (iI (n : Int))])) :: (a 1, cG g 50 r) :: (a 2, cI g 50 Cn) :: (sG g r 50 101 (bG B))) sT.heap [] := h
  skip
  refine lv_iload_n zx zb dX5_add_0 rfl (lv_at hl 1 rfl) ?_
  refine i_zlt (a := (w : Int)) (tgt := 21) zC dX5_add_1 (by decide) (by omega) (fun c_1 => absurd c_1 (by omega)) (fun c_1 => ?_)
  refine lv_iload_n zx zb dX5_add_4 rfl (lv_at hl 1 rfl) ?_
  refine lv_bipush (v := iI (50)) zx zb dX5_add_5 rfl ?_
  refine i_cge (a := (w : Int)) (b := 50) (tgt := 21) zC dX5_add_7 (by decide) (by omega) (fun c_2 => absurd c_2 (by omega)) (fun c_2 => ?_)
  refine lv_iload_n zx zb dX5_add_10 rfl (lv_at hl 2 rfl) ?_
  refine lv_iconst (v := iI (-1)) zx zb dX5_add_11 rfl ?_
  refine i_clt (a := z) (b := -1) (tgt := 21) zC dX5_add_12 (by decide) (by omega) (fun c_3 => absurd c_3 (by omega)) (fun c_3 => ?_)
  refine lv_iload_n zx zb dX5_add_15 rfl (lv_at hl 2 rfl) ?_
  refine lv_bipush (v := iI (100)) zx zb dX5_add_16 rfl ?_
  refine i_clt (a := z) (b := 100) (tgt := 22) zC dX5_add_18 (by decide) (by omega) (fun c_4 => ?_) (fun c_4 => absurd c_4 (by omega))
  refine lv_aload_n zx zb dX5_add_22 rfl (lv_at hl 0 rfl) ?_
  refine gf5_11 (v := .ref (a 1)) zC h 0 rfl rfl dX5_add_23 ?_
  refine lv_iload_n zx zb dX5_add_26 rfl (lv_at hl 1 rfl) ?_
  refine a_gld zC h 1 rfl (z := (w : Int)) w (by omega) (by omega) (by decide) dX5_add_27 ?_
  refine lv_iload_n zx zb dX5_add_28 rfl (lv_at hl 2 rfl) ?_
  refine lv_iconst (v := iI (1)) zx zb dX5_add_29 rfl ?_
  refine i_add zC (a := z) (b := 1) dX5_add_30 ?_
  refine lv_dup2_11 zx zb dX5_add_31 rfl rfl ?_
  refine a_ildM (n := 101) (F := bG B w) zC h (.tail _ (.tail _ (.tail _ (sG_get (by omega))))) (z := z + 1) ((z + 1).toNat) (by omega) (by omega) (by decide) dX5_add_32 ?_
  rw [show bG B w (z + 1).toNat = bZ (B w (z + 1).toNat) from rfl]
  refine lv_iconst (v := iI (1)) zx zb dX5_add_33 rfl ?_
  refine lv_iload_n zx zb dX5_add_34 rfl (lv_at hl 3 rfl) ?_
  refine lv_iconst (v := iI (1)) zx zb dX5_add_35 rfl ?_
  refine i_add zC (a := q) (b := 1) dX5_add_36 ?_
  refine lv_ishl zx zb dX5_add_37 ?_
  rw [show (q + 1 : Int) = (((q + 1).toNat : Nat) : Int) from by omega, bZ_sh (show (q + 1).toNat < 32 by omega)]
  refine lv_ior zx zb dX5_add_38 ?_
  rw [bZ_or (B w (z + 1).toNat) (fun i => i == (q + 1).toNat)]
  refine a_istM (n := 101) (F := (bG B) w) (wr := (a 0, .inr (5, [.ref (a 1), .ref (a 2), .int (iI (n : Int))])) :: (a 1, cG g 50 r) :: (a 2, cI g 50 Cn) :: (sGx g r 50 101 (bG B) w)) zC h (pm fun cp_q => by simp only [cp_o, List.countP_append, List.countP_nil, (sG_split (g := g) (r := r) (len := 101) (F := bG B) (show w < 50 by omega)).countP_eq cp_q] <;> omega) (x := bZ fun i => (B w (z + 1).toNat) i || i == (q + 1).toNat) ((z + 1).toNat) (ws' := (a 0, .inr (5, [.ref (a 1), .ref (a 2), .int (iI (n : Int))])) :: (a 1, cG g 50 r) :: (a 2, cI g 50 Cn) :: (sG g r 50 101 (pV (bG B) w ((z + 1).toNat) (bZ fun i => (B w (z + 1).toNat) i || i == (q + 1).toNat)))) (pm fun cp_q => by simp only [cp_o, List.countP_append, List.countP_nil, (sG_putV (g := g) (r := r) (len := 101) (F := bG B) (k := ((z + 1).toNat)) (x := (bZ fun i => (B w (z + 1).toNat) i || i == (q + 1).toNat)) (show w < 50 by omega)).countP_eq cp_q] <;> omega) (by omega) (by omega) (by decide) dX5_add_39 (fun H locs h => ?_)
  refine lv_aload_n zx zb dX5_add_40 rfl (lv_at hl 0 rfl) ?_
  refine gf5_16 (v := .ref (a 2)) zC h 0 rfl rfl dX5_add_41 ?_
  refine lv_iload_n zx zb dX5_add_44 rfl (lv_at hl 1 rfl) ?_
  refine lv_dup2_11 zx zb dX5_add_45 rfl rfl ?_
  refine a_ild zC h 2 rfl (z := (w : Int)) w (by omega) (by omega) (by decide) dX5_add_46 ?_
  refine lv_iconst (v := iI (1)) zx zb dX5_add_47 rfl ?_
  refine i_add zC (a := Cn w) (b := 1) dX5_add_48 ?_
  refine a_ist (x := Cn w + 1) zC h 2 (ws' := (a 0, .inr (5, [.ref (a 1), .ref (a 2), .int (iI (n : Int))])) :: (a 1, cG g 50 r) :: (a 2, cI g 50 (up Cn w (Cn w + 1))) :: (sG g r 50 101 (pV (bG B) w ((z + 1).toNat) (bZ fun i => (B w (z + 1).toNat) i || i == (q + 1).toNat)))) rfl (z := (w : Int)) w rfl (by omega) (by omega) (by decide) dX5_add_49 (fun H locs h => ?_)
  refine lv_aload_n zx zb dX5_add_50 rfl (lv_at hl 0 rfl) ?_
  refine lv_dup zx zb dX5_add_51 rfl ?_
  refine gf5_20 (v := .int (iI (n : Int))) zC h 0 rfl rfl dX5_add_52 ?_
  refine lv_iconst (v := iI (1)) zx zb dX5_add_55 rfl ?_
  refine i_add zC (a := (n : Int)) (b := 1) dX5_add_56 ?_
  refine pf5_20 (x := iI ((n : Int) + 1)) zC h 0 (ws' := (a 0, .inr (5, [.ref (a 1), .ref (a 2), .int (iI ((n : Int) + 1))])) :: (a 1, cG g 50 r) :: (a 2, cI g 50 (up Cn w (Cn w + 1))) :: (sG g r 50 101 (pV (bG B) w ((z + 1).toNat) (bZ fun i => (B w (z + 1).toNat) i || i == (q + 1).toNat)))) rfl rfl (Nat.le_of_ble_eq_true rfl) dX5_add_57 (fun H locs h => ?_)
  exact r_vret zC zQ zr zk h dX5_add_60 (u := ()) rfl (List.Perm.of_eq (by rw [bG_add]; rfl)) trivial (Nat.le_of_ble_eq_true rfl) (Nat.le_of_ble_eq_true rfl)

set_option maxHeartbeats 4000000 in
set_option maxRecDepth 100000 in
theorem c_X5_letSee (l : Launch) (D : va_G) (g : Nat → ClassId) (a r : Nat → Nat) (n : Nat) (B : Nat → Nat → Nat → Bool) (Cn : Nat → Int) (w o k : Nat) (hw : w < 50) (ho : o < 100) (hk : k < 20) : Ct (S := Unit) l D g yX5_letSee cX5_letSee 5 (some .boolean) rmX5_letSee [.ref (a 0), .int (iI (w : Int)), .int (iI (o : Int)), .int (iI (k : Int))] (wRights g a r n B Cn) (fun u => some (.int (bI (B w 0 0 || B w (o + 1) 0 || (B w 0 (k + 1) || B w (o + 1) (k + 1)))))) (fun _ => True) (fun u => wRights g a r n B Cn) := by
  refine Ct.of RX5 rfl (by decide +kernel) [(0, .ref (a 0)), (1, .int (iI (w : Int))), (2, .int (iI (o : Int))), (3, .int (iI (k : Int)))] rfl (Nat.le_of_ble_eq_true rfl) ?_
  intro pg evn sT mI bl mtd cd aA ls ar qQ zC zr zk zi zQ h hl
  have zx := zC.1
  have zb := zC.2.1
  have h : Hx D g sT aA sT.heap ((a 0, .inr (5, [.ref (a 1), .ref (a 2), .int (iI (n : Int))])) :: (a 1, cG g 50 r) :: (a 2, cI g 50 Cn) :: (sG g r 50 101 (bG B))) sT.heap [] := h
  skip
  refine lv_aload_n zx zb dX5_letSee_0 rfl (lv_at hl 0 rfl) ?_
  refine lv_iload_n zx zb dX5_letSee_1 rfl (lv_at hl 1 rfl) ?_
  refine lv_iconst (v := iI (-1)) zx zb dX5_letSee_2 rfl ?_
  refine r_invV (As := [.int (iI (w : Int)), .int (iI (-1))]) (rest := []) (wr := []) (ws2 := fun u_1 => (a 0, .inr (5, [.ref (a 1), .ref (a 2), .int (iI (n : Int))])) :: (a 1, cG g 50 r) :: (a 2, cI g 50 Cn) :: (sG g r 50 101 (bG B))) 0 0 zC h hl.1 (c_X5_kindsOf l D g a r n B Cn w (-1) hw (by omega)) (cs5_24 zC ⟨(Nat.le_of_ble_eq_true rfl), (Nat.le_of_ble_eq_true rfl)⟩) (.head _) rfl rfl rfl (Nat.le_of_ble_eq_true rfl) (List.Perm.of_eq (List.append_nil _).symm) (fun u => List.Perm.of_eq (List.append_nil _)) ⟨(Nat.le_of_ble_eq_true rfl), (Nat.le_of_ble_eq_true rfl)⟩ (Nat.le_of_ble_eq_true rfl) (Nat.le_of_ble_eq_true rfl) dX5_letSee_3 (fun u_1 H locs hu_1 hz_1 h => ?_)
  refine lv_aload_n zx zb dX5_letSee_6 rfl (lv_at hl 0 rfl) ?_
  refine lv_iload_n zx zb dX5_letSee_7 rfl (lv_at hl 1 rfl) ?_
  refine lv_iload_n zx zb dX5_letSee_8 rfl (lv_at hl 2 rfl) ?_
  refine r_invV (As := [.int (iI (w : Int)), .int (iI (o : Int))]) (rest := [.int (iI (bZ (B w 0)))]) (wr := []) (ws2 := fun u_2 => (a 0, .inr (5, [.ref (a 1), .ref (a 2), .int (iI (n : Int))])) :: (a 1, cG g 50 r) :: (a 2, cI g 50 Cn) :: (sG g r 50 101 (bG B))) 0 0 zC h hl.1 (c_X5_kindsOf l D g a r n B Cn w (o : Int) hw (by omega)) (cs5_24 zC ⟨(Nat.le_of_ble_eq_true rfl), (Nat.le_of_ble_eq_true rfl)⟩) (.head _) rfl rfl rfl (Nat.le_of_ble_eq_true rfl) (List.Perm.of_eq (List.append_nil _).symm) (fun u => List.Perm.of_eq (List.append_nil _)) ⟨(Nat.le_of_ble_eq_true rfl), (Nat.le_of_ble_eq_true rfl)⟩ (Nat.le_of_ble_eq_true rfl) (Nat.le_of_ble_eq_true rfl) dX5_letSee_9 (fun u_2 H locs hu_2 hz_2 h => ?_)
  rw [show ((o : Int) + 1).toNat = o + 1 from by omega]
  refine lv_ior zx zb dX5_letSee_12 ?_
  rw [bZ_or (B w 0) (B w (o + 1))]
  refine lv_istore (lv' := [(4, .int (iI (bZ fun i => (B w 0) i || (B w (o + 1)) i))), (0, .ref (a 0)), (1, .int (iI (w : Int))), (2, .int (iI (o : Int))), (3, .int (iI (k : Int)))]) zx zb dX5_letSee_13 hl (by decide) rfl (fun ls hl => ?_)
  refine lv_iload zx zb dX5_letSee_15 (lv_at hl 0 rfl) ?_
  refine lv_iconst (v := iI (1)) zx zb dX5_letSee_17 rfl ?_
  refine lv_iconst (v := iI (1)) zx zb dX5_letSee_18 rfl ?_
  refine lv_iload_n zx zb dX5_letSee_19 rfl (lv_at hl 4 rfl) ?_
  refine lv_iconst (v := iI (1)) zx zb dX5_letSee_20 rfl ?_
  refine i_add zC (a := (k : Int)) (b := 1) dX5_letSee_21 ?_
  refine lv_ishl zx zb dX5_letSee_22 ?_
  rw [show ((k : Int) + 1 : Int) = ((k + 1 : Nat) : Int) from by omega, bZ_sh (show k + 1 < 32 by omega)]
  rw [bZ_1]
  refine lv_ior zx zb dX5_letSee_23 ?_
  rw [bZ_or (fun i => i == 0) (fun i => i == k + 1)]
  refine lv_iand zx zb dX5_letSee_24 ?_
  rw [bZ_and (fun i => B w 0 i || B w (o + 1) i) (fun i => i == 0 || i == k + 1)]
  refine i_zeq (a := bZ fun i => (B w 0 i || B w (o + 1) i) && (i == 0 || i == k + 1)) (tgt := 32) zC dX5_letSee_25 (by decide) (bZ_R _) (fun c_3 => ?_) (fun c_3 => ?_)
  · skip
    refine lv_iconst (v := iI (0)) zx zb dX5_letSee_32 rfl ?_
    exact r_zret (b := false) zC zQ zr zk h dX5_letSee_33 rfl (u := ()) (by rw [(see_mask hk).mp c_3]; rfl) (List.Perm.refl _) trivial (Nat.le_of_ble_eq_true rfl) (Nat.le_of_ble_eq_true rfl)
  · skip
    refine lv_iconst (v := iI (1)) zx zb dX5_letSee_28 rfl ?_
    refine lv_goto (tgt := 33) zx zb dX5_letSee_29 (by decide) ?_
    exact r_zret (b := true) zC zQ zr zk h dX5_letSee_33 rfl (u := ()) (by rw [bnf (mt (see_mask hk).mpr c_3)]; rfl) (List.Perm.refl _) trivial (Nat.le_of_ble_eq_true rfl) (Nat.le_of_ble_eq_true rfl)
