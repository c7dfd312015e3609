/-! JUDGE: a condition's steps gone through for a row. A level's word: a part before is true; this part's tests are; the next is turned -/
noncomputable def wJ (j L : Nat) (O T N : Nat → Bool) : va_W := [(j, .inr (1, [.int (iI (bZ fun i => i == L)), .int (iI (bZ O)), .int (iI (bZ T)), .int (iI (bZ N))]))]
theorem jb_clr {O : Nat → Bool} {L : Nat} : (bZ fun i => O i && !(i == L)) = bZ (up O L false) := bZ_congr fun i _ => by
  by_cases h : i = L
  · subst h; rw [up_s]; simp
  · rw [up_n h]; simp [h]
theorem jb_set {O : Nat → Bool} {L : Nat} : (bZ fun i => O i || i == L) = bZ (up O L true) := bZ_congr fun i _ => by
  by_cases h : i = L
  · subst h; rw [up_s]; simp
  · rw [up_n h]; simp [h]
theorem jb_flip {O : Nat → Bool} {L : Nat} : (bZ fun i => O i ^^ (i == L)) = bZ (up O L (!O L)) := bZ_congr fun i _ => by
  by_cases h : i = L
  · subst h; rw [up_s]; simp
  · rw [up_n h]
    show (O i ^^ (i == L)) = O i
    rw [beq_eq_false_iff_ne.mpr h, Bool.xor_false]
theorem jb_or {O T : Nat → Bool} {L : Nat} : (bZ fun i => O i || (T i && i == L)) = bZ (up O L (O L || T L)) := bZ_congr fun i _ => by
  by_cases h : i = L
  · subst h; rw [up_s]; simp
  · rw [up_n h]; simp [h]
theorem jb_tst {O : Nat → Bool} {L : Nat} (hL : L < 32) : (bZ fun i => O i && i == L) = 0 ↔ O L = false := by
  rw [bZ_eq0]
  constructor
  · intro h
    have := h L hL
    simpa using this
  · intro h i _
    by_cases e : i = L
    · subst e; simp [h]
    · simp [e]
theorem jb_keep {O : Nat → Bool} {L : Nat} : bZ O = bZ (up O L (O L)) := bZ_congr fun i _ => by
  by_cases h : i = L
  · subst h; rw [up_s]
  · rw [up_n h]

set_option maxHeartbeats 4000000 in
set_option maxRecDepth 100000 in
theorem c_X1_beginLevel (l : Launch) (D : va_G) (g : Nat → ClassId) (j L : Nat) (O T N : Nat → Bool) (hL : L < 32) : Ct (S := Unit) l D g yX1_beginLevel cX1_beginLevel 1 none rmX1_beginLevel [.ref j] (wJ j L O T N) (fun u => none) (fun _ => True) (fun u => wJ j L (up O L false) (up T L true) (up N L false)) := by
  refine Ct.of RX1 rfl (by decide +kernel) [(0, .ref j)] rfl (Nat.le_of_ble_eq_true rfl) ?_
  intro pg evn sT mI bl mtd cd aA ls ar qQ zC zr zk zi zQ h hl
  have zx := zC.1
  have zb := zC.2.1
  have h : Hx D g sT aA sT.heap ([(j, .inr (1, [.int (iI (bZ fun i => i == L)), .int (iI (bZ O)), .int (iI (bZ T)), .int (iI (bZ N))]))]) sT.heap [] := h
  skip
  refine lv_aload_n zx zb dX1_beginLevel_0 rfl (lv_at hl 0 rfl) ?_
  refine lv_dup zx zb dX1_beginLevel_1 rfl ?_
  refine gf1_13 (v := .int (iI (bZ O))) zC h 0 rfl rfl dX1_beginLevel_2 ?_
  refine lv_aload_n zx zb dX1_beginLevel_5 rfl (lv_at hl 0 rfl) ?_
  refine gf1_7 (v := .int (iI (bZ fun i => i == L))) zC h 0 rfl rfl dX1_beginLevel_6 ?_
  refine lv_iconst (v := iI (-1)) zx zb dX1_beginLevel_9 rfl ?_
  refine lv_ixor zx zb dX1_beginLevel_10 ?_
  rw [bZ_not (fun i => i == L)]
  refine lv_iand zx zb dX1_beginLevel_11 ?_
  rw [bZ_and O (fun i => !(i == L)), jb_clr]
  refine pf1_13 (x := iI (bZ (up O L false))) zC h 0 (ws' := [(j, .inr (1, [.int (iI (bZ fun i => i == L)), .int (iI (bZ (up O L false))), .int (iI (bZ T)), .int (iI (bZ N))]))]) rfl rfl (Nat.le_of_ble_eq_true rfl) dX1_beginLevel_12 (fun H locs h => ?_)
  refine lv_aload_n zx zb dX1_beginLevel_15 rfl (lv_at hl 0 rfl) ?_
  refine lv_dup zx zb dX1_beginLevel_16 rfl ?_
  refine gf1_16 (v := .int (iI (bZ T))) zC h 0 rfl rfl dX1_beginLevel_17 ?_
  refine lv_aload_n zx zb dX1_beginLevel_20 rfl (lv_at hl 0 rfl) ?_
  refine gf1_7 (v := .int (iI (bZ fun i => i == L))) zC h 0 rfl rfl dX1_beginLevel_21 ?_
  refine lv_ior zx zb dX1_beginLevel_24 ?_
  rw [bZ_or T (fun i => i == L), jb_set]
  refine pf1_16 (x := iI (bZ (up T L true))) zC h 0 (ws' := [(j, .inr (1, [.int (iI (bZ fun i => i == L)), .int (iI (bZ (up O L false))), .int (iI (bZ (up T L true))), .int (iI (bZ N))]))]) rfl rfl (Nat.le_of_ble_eq_true rfl) dX1_beginLevel_25 (fun H locs h => ?_)
  refine lv_aload_n zx zb dX1_beginLevel_28 rfl (lv_at hl 0 rfl) ?_
  refine lv_dup zx zb dX1_beginLevel_29 rfl ?_
  refine gf1_19 (v := .int (iI (bZ N))) zC h 0 rfl rfl dX1_beginLevel_30 ?_
  refine lv_aload_n zx zb dX1_beginLevel_33 rfl (lv_at hl 0 rfl) ?_
  refine gf1_7 (v := .int (iI (bZ fun i => i == L))) zC h 0 rfl rfl dX1_beginLevel_34 ?_
  refine lv_iconst (v := iI (-1)) zx zb dX1_beginLevel_37 rfl ?_
  refine lv_ixor zx zb dX1_beginLevel_38 ?_
  rw [bZ_not (fun i => i == L)]
  refine lv_iand zx zb dX1_beginLevel_39 ?_
  rw [bZ_and N (fun i => !(i == L)), jb_clr]
  refine pf1_19 (x := iI (bZ (up N L false))) zC h 0 (ws' := [(j, .inr (1, [.int (iI (bZ fun i => i == L)), .int (iI (bZ (up O L false))), .int (iI (bZ (up T L true))), .int (iI (bZ (up N L false)))]))]) rfl rfl (Nat.le_of_ble_eq_true rfl) dX1_beginLevel_40 (fun H locs h => ?_)
  exact r_vret zC zQ zr zk h dX1_beginLevel_43 (u := ()) rfl (List.Perm.refl _) trivial (Nat.le_of_ble_eq_true rfl) (Nat.le_of_ble_eq_true rfl)

set_option maxHeartbeats 4000000 in
set_option maxRecDepth 100000 in
theorem c_X1_isLevelTrue (l : Launch) (D : va_G) (g : Nat → ClassId) (j L : Nat) (O T N : Nat → Bool) (hL : L < 32) : Ct (S := Unit) l D g yX1_isLevelTrue cX1_isLevelTrue 1 (some .boolean) rmX1_isLevelTrue [.ref j] (wJ j L O T N) (fun u => some (.int (bI (O L || T L)))) (fun _ => True) (fun u => wJ j L O T N) := by
  refine Ct.of RX1 rfl (by decide +kernel) [(0, .ref j)] rfl (Nat.le_of_ble_eq_true rfl) ?_
  intro pg evn sT mI bl mtd cd aA ls ar qQ zC zr zk zi zQ h hl
  have zx := zC.1
  have zb := zC.2.1
  have h : Hx D g sT aA sT.heap ([(j, .inr (1, [.int (iI (bZ fun i => i == L)), .int (iI (bZ O)), .int (iI (bZ T)), .int (iI (bZ N))]))]) sT.heap [] := h
  skip
  refine lv_aload_n zx zb dX1_isLevelTrue_0 rfl (lv_at hl 0 rfl) ?_
  refine gf1_13 (v := .int (iI (bZ O))) zC h 0 rfl rfl dX1_isLevelTrue_1 ?_
  refine lv_aload_n zx zb dX1_isLevelTrue_4 rfl (lv_at hl 0 rfl) ?_
  refine gf1_16 (v := .int (iI (bZ T))) zC h 0 rfl rfl dX1_isLevelTrue_5 ?_
  refine lv_ior zx zb dX1_isLevelTrue_8 ?_
  rw [bZ_or O T]
  refine lv_aload_n zx zb dX1_isLevelTrue_9 rfl (lv_at hl 0 rfl) ?_
  refine gf1_7 (v := .int (iI (bZ fun i => i == L))) zC h 0 rfl rfl dX1_isLevelTrue_10 ?_
  refine lv_iand zx zb dX1_isLevelTrue_13 ?_
  rw [bZ_and (fun i => O i || T i) (fun i => i == L)]
  refine i_zeq (a := bZ fun i => (O i || T i) && i == L) (tgt := 21) zC dX1_isLevelTrue_14 (by decide) (bZ_R _) (fun c_1 => ?_) (fun c_1 => ?_)
  · skip
    refine lv_iconst (v := iI (0)) zx zb dX1_isLevelTrue_21 rfl ?_
    exact r_zret (b := false) zC zQ zr zk h dX1_isLevelTrue_22 rfl (u := ()) (by rw [(jb_tst (O := fun i => O i || T i) hL).mp c_1]; rfl) (List.Perm.refl _) trivial (Nat.le_of_ble_eq_true rfl) (Nat.le_of_ble_eq_true rfl)
  · skip
    refine lv_iconst (v := iI (1)) zx zb dX1_isLevelTrue_17 rfl ?_
    refine lv_goto (tgt := 22) zx zb dX1_isLevelTrue_18 (by decide) ?_
    exact r_zret (b := true) zC zQ zr zk h dX1_isLevelTrue_22 rfl (u := ()) (by rw [bnf (mt (jb_tst (O := fun i => O i || T i) hL).mpr c_1)]; rfl) (List.Perm.refl _) trivial (Nat.le_of_ble_eq_true rfl) (Nat.le_of_ble_eq_true rfl)

set_option maxHeartbeats 4000000 in
set_option maxRecDepth 100000 in
theorem c_X1_take (l : Launch) (D : va_G) (g : Nat → ClassId) (j L : Nat) (O T N : Nat → Bool) (hL : L < 32) (b : Bool) : Ct (S := Unit) l D g yX1_take cX1_take 3 none rmX1_take [.ref j, .int (bI b)] (wJ j L O T N) (fun u => none) (fun _ => True) (fun u => wJ j L O (up T L (T L && (b != N L))) (up N L false)) := by
  refine Ct.of RX1 rfl (by decide +kernel) [(0, .ref j), (1, .int (bI b))] rfl (Nat.le_of_ble_eq_true rfl) ?_
  intro pg evn sT mI bl mtd cd aA ls ar qQ zC zr zk zi zQ h hl
  have zx := zC.1
  have zb := zC.2.1
  have h : Hx D g sT aA sT.heap ([(j, .inr (1, [.int (iI (bZ fun i => i == L)), .int (iI (bZ O)), .int (iI (bZ T)), .int (iI (bZ N))]))]) sT.heap [] := h
  skip
  refine lv_aload_n zx zb dX1_take_0 rfl (lv_at hl 0 rfl) ?_
  refine gf1_19 (v := .int (iI (bZ N))) zC h 0 rfl rfl dX1_take_1 ?_
  refine lv_aload_n zx zb dX1_take_4 rfl (lv_at hl 0 rfl) ?_
  refine gf1_7 (v := .int (iI (bZ fun i => i == L))) zC h 0 rfl rfl dX1_take_5 ?_
  refine lv_iand zx zb dX1_take_8 ?_
  rw [bZ_and N (fun i => i == L)]
  refine i_zeq (a := bZ fun i => N i && i == L) (tgt := 16) zC dX1_take_9 (by decide) (bZ_R _) (fun c_1 => ?_) (fun c_1 => ?_)
  · skip
    have hN : N L = false := (jb_tst hL).mp c_1
    refine lv_iconst (v := iI (0)) zx zb dX1_take_16 rfl ?_
    refine lv_istore_n (lv' := [(2, .int (iI 0)), (0, .ref j), (1, .int (bI b))]) zx zb dX1_take_17 rfl hl (by decide) rfl (fun ls hl => ?_)
    refine lv_iload_n zx zb dX1_take_18 rfl (lv_at hl 2 rfl) ?_
    refine lv_iload_n zx zb dX1_take_19 rfl (lv_at hl 0 rfl) ?_
    refine b_cne (a := b) (b := false) (tgt := 38) zC dX1_take_20 (by decide) (fun c_2 => ?_) (fun c_2 => ?_)
    · skip
      refine lv_aload_n zx zb dX1_take_38 rfl (lv_at hl 1 rfl) ?_
      refine lv_dup zx zb dX1_take_39 rfl ?_
      refine gf1_19 (v := .int (iI (bZ N))) zC h 0 rfl rfl dX1_take_40 ?_
      refine lv_aload_n zx zb dX1_take_43 rfl (lv_at hl 1 rfl) ?_
      refine gf1_7 (v := .int (iI (bZ fun i => i == L))) zC h 0 rfl rfl dX1_take_44 ?_
      refine lv_iconst (v := iI (-1)) zx zb dX1_take_47 rfl ?_
      refine lv_ixor zx zb dX1_take_48 ?_
      rw [bZ_not (fun i => i == L)]
      refine lv_iand zx zb dX1_take_49 ?_
      rw [bZ_and N (fun i => !(i == L)), jb_clr]
      refine pf1_19 (x := iI (bZ (up N L false))) zC h 0 (ws' := [(j, .inr (1, [.int (iI (bZ fun i => i == L)), .int (iI (bZ O)), .int (iI (bZ T)), .int (iI (bZ (up N L false)))]))]) rfl rfl (Nat.le_of_ble_eq_true rfl) dX1_take_50 (fun H locs h => ?_)
      exact r_vret zC zQ zr zk h dX1_take_53 (u := ()) rfl (List.Perm.of_eq (by rw [show bZ T = bZ (up T L (T L && (b != N L))) from by rw [show (T L && (b != N L)) = T L from by simp_all]; exact jb_keep]; rfl)) trivial (Nat.le_of_ble_eq_true rfl) (Nat.le_of_ble_eq_true rfl)
    · skip
      refine lv_aload_n zx zb dX1_take_23 rfl (lv_at hl 1 rfl) ?_
      refine lv_dup zx zb dX1_take_24 rfl ?_
      refine gf1_16 (v := .int (iI (bZ T))) zC h 0 rfl rfl dX1_take_25 ?_
      refine lv_aload_n zx zb dX1_take_28 rfl (lv_at hl 1 rfl) ?_
      refine gf1_7 (v := .int (iI (bZ fun i => i == L))) zC h 0 rfl rfl dX1_take_29 ?_
      refine lv_iconst (v := iI (-1)) zx zb dX1_take_32 rfl ?_
      refine lv_ixor zx zb dX1_take_33 ?_
      rw [bZ_not (fun i => i == L)]
      refine lv_iand zx zb dX1_take_34 ?_
      rw [bZ_and T (fun i => !(i == L)), jb_clr]
      refine pf1_16 (x := iI (bZ (up T L false))) zC h 0 (ws' := [(j, .inr (1, [.int (iI (bZ fun i => i == L)), .int (iI (bZ O)), .int (iI (bZ (up T L false))), .int (iI (bZ N))]))]) rfl rfl (Nat.le_of_ble_eq_true rfl) dX1_take_35 (fun H locs h => ?_)
      refine lv_aload_n zx zb dX1_take_38 rfl (lv_at hl 1 rfl) ?_
      refine lv_dup zx zb dX1_take_39 rfl ?_
      refine gf1_19 (v := .int (iI (bZ N))) zC h 0 rfl rfl dX1_take_40 ?_
      refine lv_aload_n zx zb dX1_take_43 rfl (lv_at hl 1 rfl) ?_
      refine gf1_7 (v := .int (iI (bZ fun i => i == L))) zC h 0 rfl rfl dX1_take_44 ?_
      refine lv_iconst (v := iI (-1)) zx zb dX1_take_47 rfl ?_
      refine lv_ixor zx zb dX1_take_48 ?_
      rw [bZ_not (fun i => i == L)]
      refine lv_iand zx zb dX1_take_49 ?_
      rw [bZ_and N (fun i => !(i == L)), jb_clr]
      refine pf1_19 (x := iI (bZ (up N L false))) zC h 0 (ws' := [(j, .inr (1, [.int (iI (bZ fun i => i == L)), .int (iI (bZ O)), .int (iI (bZ (up T L false))), .int (iI (bZ (up N L false)))]))]) rfl rfl (Nat.le_of_ble_eq_true rfl) dX1_take_50 (fun H locs h => ?_)
      exact r_vret zC zQ zr zk h dX1_take_53 (u := ()) rfl (List.Perm.of_eq (by rw [show up T L false = up T L (T L && (b != N L)) from by rw [show (T L && (b != N L)) = false from by simp_all]]; rfl)) trivial (Nat.le_of_ble_eq_true rfl) (Nat.le_of_ble_eq_true rfl)
  · skip
    have hN : N L = true := bnf (mt (jb_tst hL).mpr c_1)
    refine lv_iconst (v := iI (1)) zx zb dX1_take_12 rfl ?_
    refine lv_goto (tgt := 17) zx zb dX1_take_13 (by decide) ?_
    refine lv_istore_n (lv' := [(2, .int (iI 1)), (0, .ref j), (1, .int (bI b))]) zx zb dX1_take_17 rfl hl (by decide) rfl (fun ls hl => ?_)
    refine lv_iload_n zx zb dX1_take_18 rfl (lv_at hl 2 rfl) ?_
    refine lv_iload_n zx zb dX1_take_19 rfl (lv_at hl 0 rfl) ?_
    refine b_cne (a := b) (b := true) (tgt := 38) zC dX1_take_20 (by decide) (fun c_3 => ?_) (fun c_3 => ?_)
    · skip
      refine lv_aload_n zx zb dX1_take_38 rfl (lv_at hl 1 rfl) ?_
      refine lv_dup zx zb dX1_take_39 rfl ?_
      refine gf1_19 (v := .int (iI (bZ N))) zC h 0 rfl rfl dX1_take_40 ?_
      refine lv_aload_n zx zb dX1_take_43 rfl (lv_at hl 1 rfl) ?_
      refine gf1_7 (v := .int (iI (bZ fun i => i == L))) zC h 0 rfl rfl dX1_take_44 ?_
      refine lv_iconst (v := iI (-1)) zx zb dX1_take_47 rfl ?_
      refine lv_ixor zx zb dX1_take_48 ?_
      rw [bZ_not (fun i => i == L)]
      refine lv_iand zx zb dX1_take_49 ?_
      rw [bZ_and N (fun i => !(i == L)), jb_clr]
      refine pf1_19 (x := iI (bZ (up N L false))) zC h 0 (ws' := [(j, .inr (1, [.int (iI (bZ fun i => i == L)), .int (iI (bZ O)), .int (iI (bZ T)), .int (iI (bZ (up N L false)))]))]) rfl rfl (Nat.le_of_ble_eq_true rfl) dX1_take_50 (fun H locs h => ?_)
      exact r_vret zC zQ zr zk h dX1_take_53 (u := ()) rfl (List.Perm.of_eq (by rw [show bZ T = bZ (up T L (T L && (b != N L))) from by rw [show (T L && (b != N L)) = T L from by simp_all]; exact jb_keep]; rfl)) trivial (Nat.le_of_ble_eq_true rfl) (Nat.le_of_ble_eq_true rfl)
    · skip
      refine lv_aload_n zx zb dX1_take_23 rfl (lv_at hl 1 rfl) ?_
      refine lv_dup zx zb dX1_take_24 rfl ?_
      refine gf1_16 (v := .int (iI (bZ T))) zC h 0 rfl rfl dX1_take_25 ?_
      refine lv_aload_n zx zb dX1_take_28 rfl (lv_at hl 1 rfl) ?_
      refine gf1_7 (v := .int (iI (bZ fun i => i == L))) zC h 0 rfl rfl dX1_take_29 ?_
      refine lv_iconst (v := iI (-1)) zx zb dX1_take_32 rfl ?_
      refine lv_ixor zx zb dX1_take_33 ?_
      rw [bZ_not (fun i => i == L)]
      refine lv_iand zx zb dX1_take_34 ?_
      rw [bZ_and T (fun i => !(i == L)), jb_clr]
      refine pf1_16 (x := iI (bZ (up T L false))) zC h 0 (ws' := [(j, .inr (1, [.int (iI (bZ fun i => i == L)), .int (iI (bZ O)), .int (iI (bZ (up T L false))), .int (iI (bZ N))]))]) rfl rfl (Nat.le_of_ble_eq_true rfl) dX1_take_35 (fun H locs h => ?_)
      refine lv_aload_n zx zb dX1_take_38 rfl (lv_at hl 1 rfl) ?_
      refine lv_dup zx zb dX1_take_39 rfl ?_
      refine gf1_19 (v := .int (iI (bZ N))) zC h 0 rfl rfl dX1_take_40 ?_
      refine lv_aload_n zx zb dX1_take_43 rfl (lv_at hl 1 rfl) ?_
      refine gf1_7 (v := .int (iI (bZ fun i => i == L))) zC h 0 rfl rfl dX1_take_44 ?_
      refine lv_iconst (v := iI (-1)) zx zb dX1_take_47 rfl ?_
      refine lv_ixor zx zb dX1_take_48 ?_
      rw [bZ_not (fun i => i == L)]
      refine lv_iand zx zb dX1_take_49 ?_
      rw [bZ_and N (fun i => !(i == L)), jb_clr]
      refine pf1_19 (x := iI (bZ (up N L false))) zC h 0 (ws' := [(j, .inr (1, [.int (iI (bZ fun i => i == L)), .int (iI (bZ O)), .int (iI (bZ (up T L false))), .int (iI (bZ (up N L false)))]))]) rfl rfl (Nat.le_of_ble_eq_true rfl) dX1_take_50 (fun H locs h => ?_)
      exact r_vret zC zQ zr zk h dX1_take_53 (u := ()) rfl (List.Perm.of_eq (by rw [show up T L false = up T L (T L && (b != N L)) from by rw [show (T L && (b != N L)) = false from by simp_all]]; rfl)) trivial (Nat.le_of_ble_eq_true rfl) (Nat.le_of_ble_eq_true rfl)

set_option maxHeartbeats 4000000 in
set_option maxRecDepth 100000 in
theorem c_X1_endLevel (l : Launch) (D : va_G) (g : Nat → ClassId) (j L : Nat) (O T N : Nat → Bool) (hL : L + 1 < 32) : Ct (S := Unit) l D g yX1_endLevel cX1_endLevel 2 none rmX1_endLevel [.ref j] (wJ j (L + 1) O T N) (fun u => none) (fun _ => True) (fun u => wJ j L O (up T L (T L && ((O (L + 1) || T (L + 1)) != N L))) (up N L false)) := by
  refine Ct.of RX1 rfl (by decide +kernel) [(0, .ref j)] rfl (Nat.le_of_ble_eq_true rfl) ?_
  intro pg evn sT mI bl mtd cd aA ls ar qQ zC zr zk zi zQ h hl
  have zx := zC.1
  have zb := zC.2.1
  have h : Hx D g sT aA sT.heap ([(j, .inr (1, [.int (iI (bZ fun i => i == L + 1)), .int (iI (bZ O)), .int (iI (bZ T)), .int (iI (bZ N))]))]) sT.heap [] := h
  skip
  refine lv_aload_n zx zb dX1_endLevel_0 rfl (lv_at hl 0 rfl) ?_
  refine r_invV (As := []) (rest := []) (wr := []) (ws2 := fun u_1 => [(j, .inr (1, [.int (iI (bZ fun i => i == L + 1)), .int (iI (bZ O)), .int (iI (bZ T)), .int (iI (bZ N))]))]) 0 0 zC h hl.1 (c_X1_isLevelTrue l D g j (L + 1) O T N hL) (cs1_46 zC ⟨(Nat.le_of_ble_eq_true rfl), (Nat.le_of_ble_eq_true rfl)⟩) (.head _) rfl rfl rfl (Nat.le_of_ble_eq_true rfl) (List.Perm.of_eq (List.append_nil _).symm) (fun u => List.Perm.of_eq (List.append_nil _)) ⟨(Nat.le_of_ble_eq_true rfl), (Nat.le_of_ble_eq_true rfl)⟩ (Nat.le_of_ble_eq_true rfl) (Nat.le_of_ble_eq_true rfl) dX1_endLevel_1 (fun u_1 H locs hu_1 hz_1 h => ?_)
  refine lv_istore_n (lv' := [(1, .int (bI (O (L + 1) || T (L + 1)))), (0, .ref j)]) zx zb dX1_endLevel_4 rfl hl (by decide) rfl (fun ls hl => ?_)
  refine lv_aload_n zx zb dX1_endLevel_5 rfl (lv_at hl 1 rfl) ?_
  refine lv_dup zx zb dX1_endLevel_6 rfl ?_
  refine gf1_7 (v := .int (iI (bZ fun i => i == L + 1))) zC h 0 rfl rfl dX1_endLevel_7 ?_
  refine lv_iconst (v := iI (1)) zx zb dX1_endLevel_10 rfl ?_
  refine lv_iushr zx zb dX1_endLevel_11 rfl ?_
  rw [bZ_ushr1 hL]
  refine pf1_7 (x := iI (bZ fun i => i == L)) zC h 0 (ws' := [(j, .inr (1, [.int (iI (bZ fun i => i == L)), .int (iI (bZ O)), .int (iI (bZ T)), .int (iI (bZ N))]))]) rfl rfl (Nat.le_of_ble_eq_true rfl) dX1_endLevel_12 (fun H locs h => ?_)
  refine lv_aload_n zx zb dX1_endLevel_15 rfl (lv_at hl 1 rfl) ?_
  refine lv_iload_n zx zb dX1_endLevel_16 rfl (lv_at hl 0 rfl) ?_
  refine r_invV (As := [.int (bI (O (L + 1) || T (L + 1)))]) (rest := []) (wr := []) (ws2 := fun u_2 => [(j, .inr (1, [.int (iI (bZ fun i => i == L)), .int (iI (bZ O)), .int (iI (bZ (up T L (T L && ((O (L + 1) || T (L + 1)) != N L))))), .int (iI (bZ (up N L false)))]))]) 0 0 zC h hl.1 (c_X1_take l D g j L O T N (by omega) (O (L + 1) || T (L + 1))) (cs1_42 zC ⟨(Nat.le_of_ble_eq_true rfl), (Nat.le_of_ble_eq_true rfl)⟩) (.head _) rfl rfl rfl (Nat.le_of_ble_eq_true rfl) (List.Perm.of_eq (List.append_nil _).symm) (fun u => List.Perm.of_eq (List.append_nil _)) ⟨(Nat.le_of_ble_eq_true rfl), (Nat.le_of_ble_eq_true rfl)⟩ (Nat.le_of_ble_eq_true rfl) (Nat.le_of_ble_eq_true rfl) dX1_endLevel_17 (fun u_2 H locs hu_2 hz_2 h => ?_)
  exact r_vret zC zQ zr zk h dX1_endLevel_20 (u := ()) rfl (List.Perm.refl _) trivial (Nat.le_of_ble_eq_true rfl) (Nat.le_of_ble_eq_true rfl)
