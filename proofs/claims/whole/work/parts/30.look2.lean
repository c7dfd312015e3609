/-! THE REFERENCE: a text looked at -/
theorem atX_R {tx : Nat → Int} {n k : Nat} (h : ∀ k, k < n → R32 (tx k)) : R32 (atX tx n k) := by
  unfold atX
  split
  · next q => exact h k q
  · decide
theorem LF_R {mk : Nat → Bool} {tx : Nat → Int} {n : Nat} {r : RS} {v : Int} (h : LF mk tx n (rBegin r) v) : -1 ≤ v ∧ v ≤ (n : Int) := by
  obtain ⟨u, hu⟩ := h
  exact rFF_R (u := (v, u)) hu
theorem LQ_R {mk : Nat → Bool} {tx : Nat → Int} {n : Nat} {r : RS} {v : Int} {te ta : Nat} (h : LQ mk tx n (rBegin r) v te ta) : -1 ≤ v ∧ v ≤ (n : Int) := by
  obtain ⟨u, hu, -⟩ := h
  exact rFF_R (u := (v, u)) hu
def mz (b : Bool) : Nat := if b = true then 1 else 0
def LH (mk : Nat → Bool) (tx : Nat → Int) (n : Nat) (r0 : RS) (wa mo : Bool) (k : Nat) (dp fa : Int) (te lv : Nat) (NO : Nat → Int) : Prop :=
  k ≤ n + 7 ∧ (fa < 0 → fa = -1 ∧ (mo = true → LI mk tx n r0 wa k lv dp te NO) ∧ (mo = false → LE mk tx n r0 k lv te)) ∧ (0 ≤ fa → LF mk tx n r0 fa)

set_option maxHeartbeats 4000000 in
set_option maxRecDepth 100000 in
theorem c_X8_lookAtTail (l : Launch) (D : va_G) (g : Nat → ClassId) (a : Nat → Nat) (mth mrw mrg mbd mnw mlc msz mas mak mkp mfa mte mlv mct mgo : Int) (man mgr mgg : Bool) (ta : Nat) (s len : Nat) (F : Nat → Int) (MK : Nat → Bool) (fr n te : Nat) (r : RS) (hfn : fr + n ≤ len) (hlen : len < 100000) (hR : ∀ k, k < n → R32 ((fun k => F (fr + k)) k)) (hLE : LE MK (fun k => F (fr + k)) n (rBegin r) ta 0 te) (hta : ta < n) : Ct (S := Int) l D g yX8_lookAtTail cX8_lookAtTail 5 none rmX8_lookAtTail [.ref (a 0), .ref s, .int (iI (fr : Int)), .int (iI (n : Int))] ([(a 0, oM a mth mrw mrg mbd mnw mlc msz man mas mak mkp mfa mte (ta : Int) mlv mct mgr mgo mgg), (s, cI g len F), (a 5, cZ g 5 MK)]) (fun u => none) (fun u => LQ MK (fun k => F (fr + k)) n (rBegin r) u te ta) (fun u => [(a 0, oM a mth mrw mrg mbd mnw mlc msz man mas mak mkp u mte (ta : Int) mlv mct mgr mgo mgg), (s, cI g len F), (a 5, cZ g 5 MK)]) := by
  refine Ct.of RX8 rfl (by decide +kernel) [(0, .ref (a 0)), (1, .ref s), (2, .int (iI (fr : Int))), (3, .int (iI (n : Int)))] rfl (Nat.le_of_ble_eq_true rfl) ?_
  intro pg evn sT mI bl mtd cd aA ls ar qQ zC zr zk zi zQ h hl
  have zx := zC.1
  have zb := zC.2.1
  skip
  refine lv_aload_n zx zb dX8_lookAtTail_0 rfl (lv_at hl 1 rfl) ?_
  refine lv_iload_n zx zb dX8_lookAtTail_1 rfl (lv_at hl 2 rfl) ?_
  refine lv_iload_n zx zb dX8_lookAtTail_2 rfl (lv_at hl 3 rfl) ?_
  refine lv_aload_n zx zb dX8_lookAtTail_3 rfl (lv_at hl 0 rfl) ?_
  refine gf8_140 (v := .int (iI (ta : Int))) zC h 0 rfl rfl dX8_lookAtTail_4 ?_
  refine r_invS (As := [.ref s, .int (iI (fr : Int)), .int (iI (n : Int)), .int (iI (ta : Int))]) (rest := []) (wr := [(a 0, oM a mth mrw mrg mbd mnw mlc msz man mas mak mkp mfa mte (ta : Int) mlv mct mgr mgo mgg), (a 5, cZ g 5 MK)]) (ws2 := fun u_1 => [(a 0, oM a mth mrw mrg mbd mnw mlc msz man mas mak mkp mfa mte (ta : Int) mlv mct mgr mgo mgg), (s, cI g len F), (a 5, cZ g 5 MK)]) 0 0 zC h hl.1 (c_X8_at l D g s len F fr n ta hfn hlen (by omega)) (cs8_120 zC ⟨(Nat.le_of_ble_eq_true rfl), (Nat.le_of_ble_eq_true rfl)⟩) rfl rfl (Nat.le_of_ble_eq_true rfl) (pm fun cp_q => by simp only [cp_o, List.countP_append, List.countP_nil] <;> omega) (fun u => (pm fun cp_q => by simp only [cp_o, List.countP_append, List.countP_nil] <;> omega)) ⟨(Nat.le_of_ble_eq_true rfl), (Nat.le_of_ble_eq_true rfl)⟩ (Nat.le_of_ble_eq_true rfl) (Nat.le_of_ble_eq_true rfl) dX8_lookAtTail_7 (fun u_1 H locs hu_1 hz_1 h => ?_)
  rw [atX_T]
  have hxR_0 := atX_R (k := ta) hR
  refine r_invS (As := [.int (iI (atX (fun k => F (fr + k)) n ta))]) (rest := []) (wr := [(a 0, oM a mth mrw mrg mbd mnw mlc msz man mas mak mkp mfa mte (ta : Int) mlv mct mgr mgo mgg), (s, cI g len F), (a 5, cZ g 5 MK)]) (ws2 := fun u_2 => [(a 0, oM a mth mrw mrg mbd mnw mlc msz man mas mak mkp mfa mte (ta : Int) mlv mct mgr mgo mgg), (s, cI g len F), (a 5, cZ g 5 MK)]) 0 0 zC h hl.1 (c_X8_isTail l D g (atX (fun k => F (fr + k)) n ta) (by omega)) (cs8_124 zC ⟨(Nat.le_of_ble_eq_true rfl), (Nat.le_of_ble_eq_true rfl)⟩) rfl rfl (Nat.le_of_ble_eq_true rfl) (List.Perm.refl _) (fun u => List.Perm.refl _) ⟨(Nat.le_of_ble_eq_true rfl), (Nat.le_of_ble_eq_true rfl)⟩ (Nat.le_of_ble_eq_true rfl) (Nat.le_of_ble_eq_true rfl) dX8_lookAtTail_10 (fun u_2 H locs hu_2 hz_2 h => ?_)
  refine b_zne (b := decide (tOf (atX (fun k => F (fr + k)) n ta) ≠ 0)) (tgt := 25) zC dX8_lookAtTail_13 (by decide) (fun c_3 => ?_) (fun c_3 => ?_)
  · skip
    simp only [decide_eq_true_eq, decide_eq_false_iff_not] at c_3
    have ht := c_3
    refine lv_aload_n zx zb dX8_lookAtTail_25 rfl (lv_at hl 1 rfl) ?_
    refine lv_iload_n zx zb dX8_lookAtTail_26 rfl (lv_at hl 2 rfl) ?_
    refine lv_iload_n zx zb dX8_lookAtTail_27 rfl (lv_at hl 3 rfl) ?_
    refine lv_aload_n zx zb dX8_lookAtTail_28 rfl (lv_at hl 0 rfl) ?_
    refine gf8_140 (v := .int (iI (ta : Int))) zC h 0 rfl rfl dX8_lookAtTail_29 ?_
    refine lv_iconst (v := iI (1)) zx zb dX8_lookAtTail_32 rfl ?_
    refine i_add zC (a := (ta : Int)) (b := 1) dX8_lookAtTail_33 ?_
    rw [show ((ta : Int) + 1 : Int) = ((ta + 1 : Nat) : Int) from by omega]
    refine r_invS (As := [.ref s, .int (iI (fr : Int)), .int (iI (n : Int)), .int (iI ((ta + 1 : Nat) : Int))]) (rest := []) (wr := [(a 0, oM a mth mrw mrg mbd mnw mlc msz man mas mak mkp mfa mte (ta : Int) mlv mct mgr mgo mgg), (a 5, cZ g 5 MK)]) (ws2 := fun u_4 => [(a 0, oM a mth mrw mrg mbd mnw mlc msz man mas mak mkp mfa mte (ta : Int) mlv mct mgr mgo mgg), (s, cI g len F), (a 5, cZ g 5 MK)]) 0 0 zC h hl.1 (c_X8_at l D g s len F fr n (ta + 1) hfn hlen (by omega)) (cs8_120 zC ⟨(Nat.le_of_ble_eq_true rfl), (Nat.le_of_ble_eq_true rfl)⟩) rfl rfl (Nat.le_of_ble_eq_true rfl) (pm fun cp_q => by simp only [cp_o, List.countP_append, List.countP_nil] <;> omega) (fun u => (pm fun cp_q => by simp only [cp_o, List.countP_append, List.countP_nil] <;> omega)) ⟨(Nat.le_of_ble_eq_true rfl), (Nat.le_of_ble_eq_true rfl)⟩ (Nat.le_of_ble_eq_true rfl) (Nat.le_of_ble_eq_true rfl) dX8_lookAtTail_34 (fun u_4 H locs hu_4 hz_4 h => ?_)
    rw [atX_T]
    have hxR_3 := atX_R (k := (ta + 1)) hR
    refine r_invS (As := [.int (iI (atX (fun k => F (fr + k)) n (ta + 1)))]) (rest := []) (wr := [(a 0, oM a mth mrw mrg mbd mnw mlc msz man mas mak mkp mfa mte (ta : Int) mlv mct mgr mgo mgg), (s, cI g len F), (a 5, cZ g 5 MK)]) (ws2 := fun u_5 => [(a 0, oM a mth mrw mrg mbd mnw mlc msz man mas mak mkp mfa mte (ta : Int) mlv mct mgr mgo mgg), (s, cI g len F), (a 5, cZ g 5 MK)]) 0 0 zC h hl.1 (c_X8_fieldOf l D g (atX (fun k => F (fr + k)) n (ta + 1)) (by omega)) (cs8_128 zC ⟨(Nat.le_of_ble_eq_true rfl), (Nat.le_of_ble_eq_true rfl)⟩) rfl rfl (Nat.le_of_ble_eq_true rfl) (List.Perm.refl _) (fun u => List.Perm.refl _) ⟨(Nat.le_of_ble_eq_true rfl), (Nat.le_of_ble_eq_true rfl)⟩ (Nat.le_of_ble_eq_true rfl) (Nat.le_of_ble_eq_true rfl) dX8_lookAtTail_37 (fun u_5 H locs hu_5 hz_5 h => ?_)
    have hfR_5 := fOf_R (atX (fun k => F (fr + k)) n (ta + 1))
    refine lv_istore (lv' := [(4, .int (iI (fOf (atX (fun k => F (fr + k)) n (ta + 1))))), (0, .ref (a 0)), (1, .ref s), (2, .int (iI (fr : Int))), (3, .int (iI (n : Int)))]) zx zb dX8_lookAtTail_40 hl (by decide) rfl (fun ls hl => ?_)
    refine lv_aload_n zx zb dX8_lookAtTail_42 rfl (lv_at hl 1 rfl) ?_
    refine lv_iload zx zb dX8_lookAtTail_43 (lv_at hl 0 rfl) ?_
    refine i_zlt (a := fOf (atX (fun k => F (fr + k)) n (ta + 1))) (tgt := 58) zC dX8_lookAtTail_45 (by decide) (by omega) (fun c_6 => ?_) (fun c_6 => ?_)
    · skip
      refine lv_aload_n zx zb dX8_lookAtTail_58 rfl (lv_at hl 1 rfl) ?_
      refine gf8_140 (v := .int (iI (ta : Int))) zC h 0 rfl rfl dX8_lookAtTail_59 ?_
      refine lv_iconst (v := iI (1)) zx zb dX8_lookAtTail_62 rfl ?_
      refine i_add zC (a := (ta : Int)) (b := 1) dX8_lookAtTail_63 ?_
      refine lv_goto (tgt := 87) zx zb dX8_lookAtTail_64 (by decide) ?_
      refine pf8_114 (x := iI ((ta : Int) + 1)) zC h 0 (ws' := [(a 0, oM a mth mrw mrg mbd mnw mlc msz man mas mak mkp ((ta : Int) + 1) mte (ta : Int) mlv mct mgr mgo mgg), (s, cI g len F), (a 5, cZ g 5 MK)]) rfl rfl (Nat.le_of_ble_eq_true rfl) dX8_lookAtTail_87 (fun H locs h => ?_)
      exact r_vret zC zQ zr zk h dX8_lookAtTail_90 (u := ((ta : Int) + 1)) rfl (List.Perm.refl _) (LF_Q (LE_t1 hLE hta ht (Or.inl c_6)) (by omega)) (Nat.le_of_ble_eq_true rfl) (Nat.le_of_ble_eq_true rfl)
    · skip
      have hf := c_6
      refine lv_aload_n zx zb dX8_lookAtTail_48 rfl (lv_at hl 1 rfl) ?_
      refine gf8_22 (v := .ref (a 5)) zC h 0 rfl rfl dX8_lookAtTail_49 ?_
      refine lv_iload zx zb dX8_lookAtTail_52 (lv_at hl 0 rfl) ?_
      refine a_zld zC h 2 rfl (z := fOf (atX (fun k => F (fr + k)) n (ta + 1))) ((fOf (atX (fun k => F (fr + k)) n (ta + 1))).toNat) (by omega) (by omega) (by decide) dX8_lookAtTail_54 ?_
      refine b_zeq (b := MK ((fOf (atX (fun k => F (fr + k)) n (ta + 1))).toNat)) (tgt := 67) zC dX8_lookAtTail_55 (by decide) (fun c_7 => ?_) (fun c_7 => ?_)
      · skip
        have hm := c_7
        refine lv_aload_n zx zb dX8_lookAtTail_67 rfl (lv_at hl 1 rfl) ?_
        refine gf8_140 (v := .int (iI (ta : Int))) zC h 0 rfl rfl dX8_lookAtTail_68 ?_
        refine lv_iconst (v := iI (2)) zx zb dX8_lookAtTail_71 rfl ?_
        refine i_add zC (a := (ta : Int)) (b := 2) dX8_lookAtTail_72 ?_
        refine lv_iload_n zx zb dX8_lookAtTail_73 rfl (lv_at hl 4 rfl) ?_
        refine i_cge (a := (ta : Int) + 2) (b := (n : Int)) (tgt := 86) zC dX8_lookAtTail_74 (by decide) (by omega) (fun c_8 => ?_) (fun c_8 => ?_)
        · skip
          refine lv_iconst (v := iI (-1)) zx zb dX8_lookAtTail_86 rfl ?_
          refine pf8_114 (x := iI (-1)) zC h 0 (ws' := [(a 0, oM a mth mrw mrg mbd mnw mlc msz man mas mak mkp (-1) mte (ta : Int) mlv mct mgr mgo mgg), (s, cI g len F), (a 5, cZ g 5 MK)]) rfl rfl (Nat.le_of_ble_eq_true rfl) dX8_lookAtTail_87 (fun H locs h => ?_)
          exact r_vret zC zQ zr zk h dX8_lookAtTail_90 (u := (-1)) rfl (List.Perm.refl _) (LE_t3 hLE hta ht hf hm (by omega)) (Nat.le_of_ble_eq_true rfl) (Nat.le_of_ble_eq_true rfl)
        · skip
          refine lv_aload_n zx zb dX8_lookAtTail_77 rfl (lv_at hl 1 rfl) ?_
          refine gf8_140 (v := .int (iI (ta : Int))) zC h 0 rfl rfl dX8_lookAtTail_78 ?_
          refine lv_iconst (v := iI (2)) zx zb dX8_lookAtTail_81 rfl ?_
          refine i_add zC (a := (ta : Int)) (b := 2) dX8_lookAtTail_82 ?_
          refine lv_goto (tgt := 87) zx zb dX8_lookAtTail_83 (by decide) ?_
          refine pf8_114 (x := iI ((ta : Int) + 2)) zC h 0 (ws' := [(a 0, oM a mth mrw mrg mbd mnw mlc msz man mas mak mkp ((ta : Int) + 2) mte (ta : Int) mlv mct mgr mgo mgg), (s, cI g len F), (a 5, cZ g 5 MK)]) rfl rfl (Nat.le_of_ble_eq_true rfl) dX8_lookAtTail_87 (fun H locs h => ?_)
          exact r_vret zC zQ zr zk h dX8_lookAtTail_90 (u := ((ta : Int) + 2)) rfl (List.Perm.refl _) (LF_Q (LE_t2 hLE hta ht hf hm (by omega)) (by omega)) (Nat.le_of_ble_eq_true rfl) (Nat.le_of_ble_eq_true rfl)
      · skip
        refine lv_aload_n zx zb dX8_lookAtTail_58 rfl (lv_at hl 1 rfl) ?_
        refine gf8_140 (v := .int (iI (ta : Int))) zC h 0 rfl rfl dX8_lookAtTail_59 ?_
        refine lv_iconst (v := iI (1)) zx zb dX8_lookAtTail_62 rfl ?_
        refine i_add zC (a := (ta : Int)) (b := 1) dX8_lookAtTail_63 ?_
        refine lv_goto (tgt := 87) zx zb dX8_lookAtTail_64 (by decide) ?_
        refine pf8_114 (x := iI ((ta : Int) + 1)) zC h 0 (ws' := [(a 0, oM a mth mrw mrg mbd mnw mlc msz man mas mak mkp ((ta : Int) + 1) mte (ta : Int) mlv mct mgr mgo mgg), (s, cI g len F), (a 5, cZ g 5 MK)]) rfl rfl (Nat.le_of_ble_eq_true rfl) dX8_lookAtTail_87 (fun H locs h => ?_)
        exact r_vret zC zQ zr zk h dX8_lookAtTail_90 (u := ((ta : Int) + 1)) rfl (List.Perm.refl _) (LF_Q (LE_t1 hLE hta ht (Or.inr c_7)) (by omega)) (Nat.le_of_ble_eq_true rfl) (Nat.le_of_ble_eq_true rfl)
  · skip
    simp only [decide_eq_true_eq, decide_eq_false_iff_not] at c_3
    have ht := c_3
    refine lv_aload_n zx zb dX8_lookAtTail_16 rfl (lv_at hl 0 rfl) ?_
    refine lv_aload_n zx zb dX8_lookAtTail_17 rfl (lv_at hl 0 rfl) ?_
    refine gf8_140 (v := .int (iI (ta : Int))) zC h 0 rfl rfl dX8_lookAtTail_18 ?_
    refine pf8_114 (x := iI (ta : Int)) zC h 0 (ws' := [(a 0, oM a mth mrw mrg mbd mnw mlc msz man mas mak mkp (ta : Int) mte (ta : Int) mlv mct mgr mgo mgg), (s, cI g len F), (a 5, cZ g 5 MK)]) rfl rfl (Nat.le_of_ble_eq_true rfl) dX8_lookAtTail_21 (fun H locs h => ?_)
    exact r_vret zC zQ zr zk h dX8_lookAtTail_24 (u := (ta : Int)) rfl (List.Perm.refl _) (LF_Q (LE_t0 hLE hta (by omega)) (by omega)) (Nat.le_of_ble_eq_true rfl) (Nat.le_of_ble_eq_true rfl)

set_option maxHeartbeats 4000000 in
set_option maxRecDepth 100000 in
theorem c_X8_look (l : Launch) (D : va_G) (g : Nat → ClassId) (a : Nat → Nat) (mth mrw mrg mbd mnw mlc msz mas mak mkp mfa mte mta mlv mct mgo : Int) (man mgr mgg : Bool) (s len : Nat) (F : Nat → Int) (NO : Nat → Int) (MK : Nat → Bool) (fr n : Nat) (r : RS) (hfn : fr + n ≤ len) (hlen : len < 100000) (hR : ∀ k, k < n → R32 ((fun k => F (fr + k)) k)) : Ct (S := Int × Nat × Nat × Nat × (Nat → Int)) l D g yX8_look cX8_look 12 none rmX8_look [.ref (a 0), .ref s, .int (iI (fr : Int)), .int (iI (n : Int))] ([(a 0, oM a mth mrw mrg mbd mnw mlc msz man mas mak mkp mfa mte mta mlv mct mgr mgo mgg), (s, cI g len F), (a 14, cI g 22 NO), (a 5, cZ g 5 MK)]) (fun u => none) (fun u => LQ MK (fun k => F (fr + k)) n (rBegin r) u.1 u.2.1 u.2.2.1) (fun u => [(a 0, oM a mth mrw mrg mbd mnw mlc msz man mas mak mkp u.1 (u.2.1 : Int) (u.2.2.1 : Int) (u.2.2.2.1 : Int) mct mgr mgo mgg), (s, cI g len F), (a 14, cI g 22 u.2.2.2.2), (a 5, cZ g 5 MK)]) := by
  refine Ct.of RX8 rfl (by decide +kernel) [(0, .ref (a 0)), (1, .ref s), (2, .int (iI (fr : Int))), (3, .int (iI (n : Int)))] rfl (Nat.le_of_ble_eq_true rfl) ?_
  intro pg evn sT mI bl mtd cd aA ls ar qQ zC zr zk zi zQ h hl
  have zx := zC.1
  have zb := zC.2.1
  have hz1 : mz true = 1 := rfl
  have hz0 : mz false = 0 := rfl
  skip
  refine lv_aload_n zx zb dX8_look_0 rfl (lv_at hl 0 rfl) ?_
  refine lv_iconst (v := iI (-1)) zx zb dX8_look_1 rfl ?_
  refine pf8_114 (x := iI (-1)) zC h 0 (ws' := [(a 0, oM a mth mrw mrg mbd mnw mlc msz man mas mak mkp (-1) mte mta mlv mct mgr mgo mgg), (s, cI g len F), (a 14, cI g 22 NO), (a 5, cZ g 5 MK)]) rfl rfl (Nat.le_of_ble_eq_true rfl) dX8_look_2 (fun H locs h => ?_)
  refine lv_aload_n zx zb dX8_look_5 rfl (lv_at hl 0 rfl) ?_
  refine lv_iconst (v := iI (0)) zx zb dX8_look_6 rfl ?_
  refine pf8_117 (x := iI 0) zC h 0 (ws' := [(a 0, oM a mth mrw mrg mbd mnw mlc msz man mas mak mkp (-1) 0 mta mlv mct mgr mgo mgg), (s, cI g len F), (a 14, cI g 22 NO), (a 5, cZ g 5 MK)]) rfl rfl (Nat.le_of_ble_eq_true rfl) dX8_look_7 (fun H locs h => ?_)
  refine lv_aload_n zx zb dX8_look_10 rfl (lv_at hl 0 rfl) ?_
  refine lv_iconst (v := iI (0)) zx zb dX8_look_11 rfl ?_
  refine pf8_111 (x := iI 0) zC h 0 (ws' := [(a 0, oM a mth mrw mrg mbd mnw mlc msz man mas mak mkp (-1) 0 mta 0 mct mgr mgo mgg), (s, cI g len F), (a 14, cI g 22 NO), (a 5, cZ g 5 MK)]) rfl rfl (Nat.le_of_ble_eq_true rfl) dX8_look_12 (fun H locs h => ?_)
  refine lv_aload_n zx zb dX8_look_15 rfl (lv_at hl 0 rfl) ?_
  refine gf8_57 (v := .ref (a 14)) zC h 0 rfl rfl dX8_look_16 ?_
  refine lv_iconst (v := iI (0)) zx zb dX8_look_19 rfl ?_
  refine lv_iconst (v := iI (0)) zx zb dX8_look_20 rfl ?_
  refine a_ist (x := 0) zC h 2 (ws' := [(a 0, oM a mth mrw mrg mbd mnw mlc msz man mas mak mkp (-1) 0 mta 0 mct mgr mgo mgg), (s, cI g len F), (a 14, cI g 22 (up NO 0 0)), (a 5, cZ g 5 MK)]) rfl (z := 0) 0 rfl rfl (by decide) (by decide) dX8_look_21 (fun H locs h => ?_)
  refine lv_iconst (v := iI (0)) zx zb dX8_look_22 rfl ?_
  refine lv_istore (lv' := [(4, .int (iI 0)), (0, .ref (a 0)), (1, .ref s), (2, .int (iI (fr : Int))), (3, .int (iI (n : Int)))]) zx zb dX8_look_23 hl (by decide) rfl (fun ls hl => ?_)
  refine lv_iconst (v := iI (0)) zx zb dX8_look_25 rfl ?_
  refine lv_istore (lv' := [(5, .int (iI 0)), (4, .int (iI 0)), (0, .ref (a 0)), (1, .ref s), (2, .int (iI (fr : Int))), (3, .int (iI (n : Int)))]) zx zb dX8_look_26 hl (by decide) rfl (fun ls hl => ?_)
  refine lv_iload_n zx zb dX8_look_28 rfl (lv_at hl 5 rfl) ?_
  refine i_zle (a := (n : Int)) (tgt := 49) zC dX8_look_29 (by decide) (by omega) (fun c_1 => ?_) (fun c_1 => ?_)
  · skip
    refine lv_iconst (v := iI (0)) zx zb dX8_look_49 rfl ?_
    refine lv_istore (lv' := [(6, .int (iI 0)), (5, .int (iI 0)), (4, .int (iI 0)), (0, .ref (a 0)), (1, .ref s), (2, .int (iI (fr : Int))), (3, .int (iI (n : Int)))]) zx zb dX8_look_50 hl (by decide) rfl (fun ls hl => ?_)
    refine lv_iload zx zb dX8_look_52 (lv_at hl 0 rfl) ?_
    refine lv_istore (lv' := [(7, .int (iI 0)), (6, .int (iI 0)), (5, .int (iI 0)), (4, .int (iI 0)), (0, .ref (a 0)), (1, .ref s), (2, .int (iI (fr : Int))), (3, .int (iI (n : Int)))]) zx zb dX8_look_54 hl (by decide) rfl (fun ls hl => ?_)
    have L56_2 : ∀ (fuel : Nat) (wa : Bool) (mo : Bool) (k : Nat) (dp : Int) (fa : Int) (te : Nat) (lv : Nat) (NO : Nat → Int) (H : Heap) (locs : List Loc) (ls : Array Slot), (n + 8 - k) + mz mo < fuel → (LH MK (fun k => F (fr + k)) n (rBegin r) wa mo k dp fa te lv NO) → (-1 ≤ fa ∧ fa ≤ (n : Int) + 7) → (lv ≤ 21) → Hx D g sT aA sT.heap ([(a 0, oM a mth mrw mrg mbd mnw mlc msz man mas mak mkp fa (te : Int) mta (lv : Int) mct mgr mgo mgg), (s, cI g len F), (a 14, cI g 22 NO), (a 5, cZ g 5 MK)]) H locs → lv_has ls 12 [(0, .ref (a 0)), (1, .ref s), (2, .int (iI (fr : Int))), (3, .int (iI (n : Int))), (4, .int (iI dp)), (5, .int (iI (k : Int))), (6, .int (bI wa)), (7, .int (bI mo))] → W pg l evn rmX8_look sT mI ar bl mtd cd H locs 0 0 qQ (F0 mI 56 ls []) := by
      intro fuel
      induction fuel with
      | zero => intro wa mo k dp fa te lv NO H locs ls hm; exact absurd hm (Nat.not_lt_zero _)
      | succ fuel ih56 =>
        intro wa mo k dp fa te lv NO H locs ls hm hH hfr hlv h hl
        refine lv_iload zx zb dX8_look_56 (lv_at hl 7 rfl) ?_
        refine b_zeq (b := mo) (tgt := 457) zC dX8_look_58 (by decide) (fun c_3 => ?_) (fun c_3 => ?_)
        · skip
          subst c_3
          refine lv_aload_n zx zb dX8_look_457 rfl (lv_at hl 0 rfl) ?_
          refine lv_iload zx zb dX8_look_458 (lv_at hl 5 rfl) ?_
          refine pf8_140 (x := iI (k : Int)) zC h 0 (ws' := [(a 0, oM a mth mrw mrg mbd mnw mlc msz man mas mak mkp fa (te : Int) (k : Int) (lv : Int) mct mgr mgo mgg), (s, cI g len F), (a 14, cI g 22 NO), (a 5, cZ g 5 MK)]) rfl rfl (Nat.le_of_ble_eq_true rfl) dX8_look_460 (fun H locs h => ?_)
          refine lv_aload_n zx zb dX8_look_463 rfl (lv_at hl 0 rfl) ?_
          refine gf8_114 (v := .int (iI fa)) zC h 0 rfl rfl dX8_look_464 ?_
          refine i_zge (a := fa) (tgt := 483) zC dX8_look_467 (by decide) (by omega) (fun c_4 => ?_) (fun c_4 => ?_)
          · skip
            have hF := hH.2.2 c_4
            have hle := LF_R hF
            refine lv_aload_n zx zb dX8_look_483 rfl (lv_at hl 0 rfl) ?_
            refine gf8_114 (v := .int (iI fa)) zC h 0 rfl rfl dX8_look_484 ?_
            refine i_zge (a := fa) (tgt := 503) zC dX8_look_487 (by decide) (by omega) (fun c_5 => ?_) (fun c_5 => absurd c_5 (by omega))
            refine lv_aload_n zx zb dX8_look_503 rfl (lv_at hl 0 rfl) ?_
            refine lv_aload_n zx zb dX8_look_504 rfl (lv_at hl 0 rfl) ?_
            refine gf8_114 (v := .int (iI fa)) zC h 0 rfl rfl dX8_look_505 ?_
            refine lv_iload_n zx zb dX8_look_508 rfl (lv_at hl 3 rfl) ?_
            refine i_cle (a := fa) (b := (n : Int)) (tgt := 516) zC dX8_look_509 (by decide) (by omega) (fun c_6 => ?_) (fun c_6 => absurd c_6 (by omega))
            refine lv_aload_n zx zb dX8_look_516 rfl (lv_at hl 0 rfl) ?_
            refine gf8_114 (v := .int (iI fa)) zC h 0 rfl rfl dX8_look_517 ?_
            refine pf8_114 (x := iI fa) zC h 0 (ws' := [(a 0, oM a mth mrw mrg mbd mnw mlc msz man mas mak mkp fa (te : Int) (k : Int) (lv : Int) mct mgr mgo mgg), (s, cI g len F), (a 14, cI g 22 NO), (a 5, cZ g 5 MK)]) rfl rfl (Nat.le_of_ble_eq_true rfl) dX8_look_520 (fun H locs h => ?_)
            exact r_vret zC zQ zr zk h dX8_look_523 (u := (fa, te, k, lv, NO)) rfl (List.Perm.refl _) (LF_Q hF (by omega)) (Nat.le_of_ble_eq_true rfl) (Nat.le_of_ble_eq_true rfl)
          · skip
            have hE := (hH.2.1 c_4).2.2 rfl
            have hfa := (hH.2.1 c_4).1
            have hkn := hE.1
            refine lv_aload_n zx zb dX8_look_470 rfl (lv_at hl 0 rfl) ?_
            refine gf8_111 (v := .int (iI (lv : Int))) zC h 0 rfl rfl dX8_look_471 ?_
            refine i_zle (a := (lv : Int)) (tgt := 483) zC dX8_look_474 (by decide) (by omega) (fun c_7 => ?_) (fun c_7 => ?_)
            · skip
              have hE0 : LE MK (fun k => F (fr + k)) n (rBegin r) k 0 te := by rw [show (0 : Nat) = lv from by omega]; exact hE
              refine lv_aload_n zx zb dX8_look_483 rfl (lv_at hl 0 rfl) ?_
              refine gf8_114 (v := .int (iI fa)) zC h 0 rfl rfl dX8_look_484 ?_
              refine i_zge (a := fa) (tgt := 503) zC dX8_look_487 (by decide) (by omega) (fun c_8 => absurd c_8 (by omega)) (fun c_8 => ?_)
              refine lv_iload zx zb dX8_look_490 (lv_at hl 5 rfl) ?_
              refine lv_iload_n zx zb dX8_look_492 rfl (lv_at hl 3 rfl) ?_
              refine i_cge (a := (k : Int)) (b := (n : Int)) (tgt := 503) zC dX8_look_493 (by decide) (by omega) (fun c_9 => ?_) (fun c_9 => ?_)
              · skip
                refine lv_aload_n zx zb dX8_look_503 rfl (lv_at hl 0 rfl) ?_
                refine lv_aload_n zx zb dX8_look_504 rfl (lv_at hl 0 rfl) ?_
                refine gf8_114 (v := .int (iI fa)) zC h 0 rfl rfl dX8_look_505 ?_
                refine lv_iload_n zx zb dX8_look_508 rfl (lv_at hl 3 rfl) ?_
                refine i_cle (a := fa) (b := (n : Int)) (tgt := 516) zC dX8_look_509 (by decide) (by omega) (fun c_10 => ?_) (fun c_10 => absurd c_10 (by omega))
                refine lv_aload_n zx zb dX8_look_516 rfl (lv_at hl 0 rfl) ?_
                refine gf8_114 (v := .int (iI fa)) zC h 0 rfl rfl dX8_look_517 ?_
                refine pf8_114 (x := iI fa) zC h 0 (ws' := [(a 0, oM a mth mrw mrg mbd mnw mlc msz man mas mak mkp fa (te : Int) (k : Int) (lv : Int) mct mgr mgo mgg), (s, cI g len F), (a 14, cI g 22 NO), (a 5, cZ g 5 MK)]) rfl rfl (Nat.le_of_ble_eq_true rfl) dX8_look_520 (fun H locs h => ?_)
                exact r_vret zC zQ zr zk h dX8_look_523 (u := (fa, te, k, lv, NO)) rfl (List.Perm.refl _) (by rw [hfa]; exact LE_n hE0 (show n ≤ k by omega)) (Nat.le_of_ble_eq_true rfl) (Nat.le_of_ble_eq_true rfl)
              · skip
                refine lv_aload_n zx zb dX8_look_496 rfl (lv_at hl 0 rfl) ?_
                refine lv_aload_n zx zb dX8_look_497 rfl (lv_at hl 1 rfl) ?_
                refine lv_iload_n zx zb dX8_look_498 rfl (lv_at hl 2 rfl) ?_
                refine lv_iload_n zx zb dX8_look_499 rfl (lv_at hl 3 rfl) ?_
                refine r_invV (As := [.ref s, .int (iI (fr : Int)), .int (iI (n : Int))]) (rest := []) (wr := [(a 14, cI g 22 NO)]) (ws2 := fun u_11 => [(a 0, oM a mth mrw mrg mbd mnw mlc msz man mas mak mkp u_11 (te : Int) (k : Int) (lv : Int) mct mgr mgo mgg), (s, cI g len F), (a 14, cI g 22 NO), (a 5, cZ g 5 MK)]) 0 0 zC h hl.1 (c_X8_lookAtTail l D g a mth mrw mrg mbd mnw mlc msz mas mak mkp fa (te : Int) (lv : Int) mct mgo man mgr mgg k s len F MK fr n te r hfn hlen hR hE0 (by omega)) (cs8_143 zC ⟨(Nat.le_of_ble_eq_true rfl), (Nat.le_of_ble_eq_true rfl)⟩) (.head _) rfl rfl rfl (Nat.le_of_ble_eq_true rfl) (pm fun cp_q => by simp only [cp_o, List.countP_append, List.countP_nil] <;> omega) (fun u => (pm fun cp_q => by simp only [cp_o, List.countP_append, List.countP_nil] <;> omega)) ⟨(Nat.le_of_ble_eq_true rfl), (Nat.le_of_ble_eq_true rfl)⟩ (Nat.le_of_ble_eq_true rfl) (Nat.le_of_ble_eq_true rfl) dX8_look_500 (fun u_11 H locs hu_11 hz_11 h => ?_)
                have hle := LQ_R hu_11
                refine lv_aload_n zx zb dX8_look_503 rfl (lv_at hl 0 rfl) ?_
                refine lv_aload_n zx zb dX8_look_504 rfl (lv_at hl 0 rfl) ?_
                refine gf8_114 (v := .int (iI u_11)) zC h 0 rfl rfl dX8_look_505 ?_
                refine lv_iload_n zx zb dX8_look_508 rfl (lv_at hl 3 rfl) ?_
                refine i_cle (a := u_11) (b := (n : Int)) (tgt := 516) zC dX8_look_509 (by decide) (by omega) (fun c_12 => ?_) (fun c_12 => absurd c_12 (by omega))
                refine lv_aload_n zx zb dX8_look_516 rfl (lv_at hl 0 rfl) ?_
                refine gf8_114 (v := .int (iI u_11)) zC h 0 rfl rfl dX8_look_517 ?_
                refine pf8_114 (x := iI u_11) zC h 0 (ws' := [(a 0, oM a mth mrw mrg mbd mnw mlc msz man mas mak mkp u_11 (te : Int) (k : Int) (lv : Int) mct mgr mgo mgg), (s, cI g len F), (a 14, cI g 22 NO), (a 5, cZ g 5 MK)]) rfl rfl (Nat.le_of_ble_eq_true rfl) dX8_look_520 (fun H locs h => ?_)
                exact r_vret zC zQ zr zk h dX8_look_523 (u := (u_11, te, k, lv, NO)) rfl (List.Perm.refl _) hu_11 (Nat.le_of_ble_eq_true rfl) (Nat.le_of_ble_eq_true rfl)
            · skip
              have hF := LE_lv hE (by omega)
              refine lv_aload_n zx zb dX8_look_477 rfl (lv_at hl 0 rfl) ?_
              refine lv_iload zx zb dX8_look_478 (lv_at hl 5 rfl) ?_
              refine pf8_114 (x := iI (k : Int)) zC h 0 (ws' := [(a 0, oM a mth mrw mrg mbd mnw mlc msz man mas mak mkp (k : Int) (te : Int) (k : Int) (lv : Int) mct mgr mgo mgg), (s, cI g len F), (a 14, cI g 22 NO), (a 5, cZ g 5 MK)]) rfl rfl (Nat.le_of_ble_eq_true rfl) dX8_look_480 (fun H locs h => ?_)
              refine lv_aload_n zx zb dX8_look_483 rfl (lv_at hl 0 rfl) ?_
              refine gf8_114 (v := .int (iI (k : Int))) zC h 0 rfl rfl dX8_look_484 ?_
              refine i_zge (a := (k : Int)) (tgt := 503) zC dX8_look_487 (by decide) (by omega) (fun c_13 => ?_) (fun c_13 => absurd c_13 (by omega))
              refine lv_aload_n zx zb dX8_look_503 rfl (lv_at hl 0 rfl) ?_
              refine lv_aload_n zx zb dX8_look_504 rfl (lv_at hl 0 rfl) ?_
              refine gf8_114 (v := .int (iI (k : Int))) zC h 0 rfl rfl dX8_look_505 ?_
              refine lv_iload_n zx zb dX8_look_508 rfl (lv_at hl 3 rfl) ?_
              refine i_cle (a := (k : Int)) (b := (n : Int)) (tgt := 516) zC dX8_look_509 (by decide) (by omega) (fun c_14 => ?_) (fun c_14 => absurd c_14 (by omega))
              refine lv_aload_n zx zb dX8_look_516 rfl (lv_at hl 0 rfl) ?_
              refine gf8_114 (v := .int (iI (k : Int))) zC h 0 rfl rfl dX8_look_517 ?_
              refine pf8_114 (x := iI (k : Int)) zC h 0 (ws' := [(a 0, oM a mth mrw mrg mbd mnw mlc msz man mas mak mkp (k : Int) (te : Int) (k : Int) (lv : Int) mct mgr mgo mgg), (s, cI g len F), (a 14, cI g 22 NO), (a 5, cZ g 5 MK)]) rfl rfl (Nat.le_of_ble_eq_true rfl) dX8_look_520 (fun H locs h => ?_)
              exact r_vret zC zQ zr zk h dX8_look_523 (u := ((k : Int), te, k, lv, NO)) rfl (List.Perm.refl _) (LF_Q hF (by omega)) (Nat.le_of_ble_eq_true rfl) (Nat.le_of_ble_eq_true rfl)
        · skip
          subst c_3
          refine lv_aload_n zx zb dX8_look_61 rfl (lv_at hl 0 rfl) ?_
          refine gf8_114 (v := .int (iI fa)) zC h 0 rfl rfl dX8_look_62 ?_
          refine i_zge (a := fa) (tgt := 457) zC dX8_look_65 (by decide) (by omega) (fun c_15 => ?_) (fun c_15 => ?_)
          · skip
            refine lv_aload_n zx zb dX8_look_457 rfl (lv_at hl 0 rfl) ?_
            refine lv_iload zx zb dX8_look_458 (lv_at hl 5 rfl) ?_
            refine pf8_140 (x := iI (k : Int)) zC h 0 (ws' := [(a 0, oM a mth mrw mrg mbd mnw mlc msz man mas mak mkp fa (te : Int) (k : Int) (lv : Int) mct mgr mgo mgg), (s, cI g len F), (a 14, cI g 22 NO), (a 5, cZ g 5 MK)]) rfl rfl (Nat.le_of_ble_eq_true rfl) dX8_look_460 (fun H locs h => ?_)
            refine lv_aload_n zx zb dX8_look_463 rfl (lv_at hl 0 rfl) ?_
            refine gf8_114 (v := .int (iI fa)) zC h 0 rfl rfl dX8_look_464 ?_
            refine i_zge (a := fa) (tgt := 483) zC dX8_look_467 (by decide) (by omega) (fun c_16 => ?_) (fun c_16 => absurd c_16 (by omega))
            have hF := hH.2.2 c_16
            have hle := LF_R hF
            refine lv_aload_n zx zb dX8_look_483 rfl (lv_at hl 0 rfl) ?_
            refine gf8_114 (v := .int (iI fa)) zC h 0 rfl rfl dX8_look_484 ?_
            refine i_zge (a := fa) (tgt := 503) zC dX8_look_487 (by decide) (by omega) (fun c_17 => ?_) (fun c_17 => absurd c_17 (by omega))
            refine lv_aload_n zx zb dX8_look_503 rfl (lv_at hl 0 rfl) ?_
            refine lv_aload_n zx zb dX8_look_504 rfl (lv_at hl 0 rfl) ?_
            refine gf8_114 (v := .int (iI fa)) zC h 0 rfl rfl dX8_look_505 ?_
            refine lv_iload_n zx zb dX8_look_508 rfl (lv_at hl 3 rfl) ?_
            refine i_cle (a := fa) (b := (n : Int)) (tgt := 516) zC dX8_look_509 (by decide) (by omega) (fun c_18 => ?_) (fun c_18 => absurd c_18 (by omega))
            refine lv_aload_n zx zb dX8_look_516 rfl (lv_at hl 0 rfl) ?_
            refine gf8_114 (v := .int (iI fa)) zC h 0 rfl rfl dX8_look_517 ?_
            refine pf8_114 (x := iI fa) zC h 0 (ws' := [(a 0, oM a mth mrw mrg mbd mnw mlc msz man mas mak mkp fa (te : Int) (k : Int) (lv : Int) mct mgr mgo mgg), (s, cI g len F), (a 14, cI g 22 NO), (a 5, cZ g 5 MK)]) rfl rfl (Nat.le_of_ble_eq_true rfl) dX8_look_520 (fun H locs h => ?_)
            exact r_vret zC zQ zr zk h dX8_look_523 (u := (fa, te, k, lv, NO)) rfl (List.Perm.refl _) (LF_Q hF (by omega)) (Nat.le_of_ble_eq_true rfl) (Nat.le_of_ble_eq_true rfl)
          · skip
            have hI := (hH.2.1 c_15).2.1 rfl
            have hfa := (hH.2.1 c_15).1
            have hB := LI_lv hI
            refine lv_aload_n zx zb dX8_look_68 rfl (lv_at hl 1 rfl) ?_
            refine lv_iload_n zx zb dX8_look_69 rfl (lv_at hl 2 rfl) ?_
            refine lv_iload_n zx zb dX8_look_70 rfl (lv_at hl 3 rfl) ?_
            refine lv_iload zx zb dX8_look_71 (lv_at hl 5 rfl) ?_
            refine r_invS (As := [.ref s, .int (iI (fr : Int)), .int (iI (n : Int)), .int (iI (k : Int))]) (rest := []) (wr := [(a 0, oM a mth mrw mrg mbd mnw mlc msz man mas mak mkp fa (te : Int) mta (lv : Int) mct mgr mgo mgg), (a 14, cI g 22 NO), (a 5, cZ g 5 MK)]) (ws2 := fun u_19 => [(a 0, oM a mth mrw mrg mbd mnw mlc msz man mas mak mkp fa (te : Int) mta (lv : Int) mct mgr mgo mgg), (s, cI g len F), (a 14, cI g 22 NO), (a 5, cZ g 5 MK)]) 0 0 zC h hl.1 (c_X8_at l D g s len F fr n k hfn hlen (by omega)) (cs8_120 zC ⟨(Nat.le_of_ble_eq_true rfl), (Nat.le_of_ble_eq_true rfl)⟩) rfl rfl (Nat.le_of_ble_eq_true rfl) (pm fun cp_q => by simp only [cp_o, List.countP_append, List.countP_nil] <;> omega) (fun u => (pm fun cp_q => by simp only [cp_o, List.countP_append, List.countP_nil] <;> omega)) ⟨(Nat.le_of_ble_eq_true rfl), (Nat.le_of_ble_eq_true rfl)⟩ (Nat.le_of_ble_eq_true rfl) (Nat.le_of_ble_eq_true rfl) dX8_look_73 (fun u_19 H locs hu_19 hz_19 h => ?_)
            rw [atX_T]
            have hxR_18 := atX_R (k := k) hR
            refine lv_istore (lv' := [(8, .int (iI (atX (fun k => F (fr + k)) n k))), (0, .ref (a 0)), (1, .ref s), (2, .int (iI (fr : Int))), (3, .int (iI (n : Int))), (4, .int (iI dp)), (5, .int (iI (k : Int))), (6, .int (bI wa)), (7, .int (bI true))]) zx zb dX8_look_76 hl (by decide) rfl (fun ls hl => ?_)
            refine lv_iload zx zb dX8_look_78 (lv_at hl 7 rfl) ?_
            refine b_zeq (b := wa) (tgt := 185) zC dX8_look_80 (by decide) (fun c_20 => ?_) (fun c_20 => ?_)
            · skip
              subst c_20
              refine lv_iload zx zb dX8_look_185 (lv_at hl 7 rfl) ?_
              refine b_zeq (b := false) (tgt := 387) zC dX8_look_187 (by decide) (fun c_21 => ?_) (fun c_21 => absurd c_21 (by decide))
              refine lv_iload zx zb dX8_look_387 (lv_at hl 0 rfl) ?_
              refine lv_bipush (v := iI (38)) zx zb dX8_look_389 rfl ?_
              refine i_ceq (a := atX (fun k => F (fr + k)) n k) (b := 38) (tgt := 401) zC dX8_look_391 (by decide) (by omega) (fun c_22 => ?_) (fun c_22 => ?_)
              · skip
                refine i_inc (q := 6) (a := (k : Int)) (lv' := [(5, .int (iI ((k : Int) + 1))), (8, .int (iI (atX (fun k => F (fr + k)) n k))), (0, .ref (a 0)), (1, .ref s), (2, .int (iI (fr : Int))), (3, .int (iI (n : Int))), (4, .int (iI dp)), (6, .int (bI false)), (7, .int (bI true))]) zC hl dX8_look_401 rfl (by decide) rfl (fun ls hl => ?_)
                refine lv_iconst (v := iI (1)) zx zb dX8_look_404 rfl ?_
                refine lv_istore (lv' := [(6, .int (iI 1)), (5, .int (iI ((k : Int) + 1))), (8, .int (iI (atX (fun k => F (fr + k)) n k))), (0, .ref (a 0)), (1, .ref s), (2, .int (iI (fr : Int))), (3, .int (iI (n : Int))), (4, .int (iI dp)), (7, .int (bI true))]) zx zb dX8_look_405 hl (by decide) rfl (fun ls hl => ?_)
                refine lv_goto (tgt := 454) zx zb dX8_look_407 (by decide) ?_
                refine lv_goto (tgt := 56) zx zb dX8_look_454 (by decide) ?_
                exact ih56 true true (k + 1) dp fa te lv NO _ _ _ (by omega) ⟨by omega, fun _ => ⟨by omega, fun _ => (C1 hI (Or.inl c_22)), fun q => absurd q (by decide)⟩, fun q => absurd q (by omega)⟩ (by omega) (by omega) h (lv_sub hl [3, 4, 5, 6, 7, 1, 0, 8] rfl)
              · skip
                have h38 := c_22
                refine lv_iload zx zb dX8_look_394 (lv_at hl 0 rfl) ?_
                refine lv_bipush (v := iI (124)) zx zb dX8_look_396 rfl ?_
                refine i_cne (a := atX (fun k => F (fr + k)) n k) (b := 124) (tgt := 410) zC dX8_look_398 (by decide) (by omega) (fun c_23 => ?_) (fun c_23 => ?_)
                · skip
                  have h124 := c_23
                  refine lv_iload zx zb dX8_look_410 (lv_at hl 0 rfl) ?_
                  refine lv_bipush (v := iI (41)) zx zb dX8_look_412 rfl ?_
                  refine i_cne (a := atX (fun k => F (fr + k)) n k) (b := 41) (tgt := 451) zC dX8_look_414 (by decide) (by omega) (fun c_24 => ?_) (fun c_24 => ?_)
                  · skip
                    refine lv_iconst (v := iI (0)) zx zb dX8_look_451 rfl ?_
                    refine lv_istore (lv' := [(7, .int (iI 0)), (8, .int (iI (atX (fun k => F (fr + k)) n k))), (0, .ref (a 0)), (1, .ref s), (2, .int (iI (fr : Int))), (3, .int (iI (n : Int))), (4, .int (iI dp)), (5, .int (iI (k : Int))), (6, .int (bI false))]) zx zb dX8_look_452 hl (by decide) rfl (fun ls hl => ?_)
                    refine lv_goto (tgt := 56) zx zb dX8_look_454 (by decide) ?_
                    exact ih56 false false k dp fa te lv NO _ _ _ (by omega) ⟨by omega, fun _ => ⟨by omega, fun q => absurd q (by decide), fun _ => (C3 hI h38 h124 (by omega))⟩, fun q => absurd q (by omega)⟩ (by omega) (by omega) h (lv_sub hl [2, 3, 4, 5, 6, 7, 8, 0] rfl)
                  · skip
                    refine lv_aload_n zx zb dX8_look_417 rfl (lv_at hl 1 rfl) ?_
                    refine gf8_111 (v := .int (iI (lv : Int))) zC h 0 rfl rfl dX8_look_418 ?_
                    refine i_zle (a := (lv : Int)) (tgt := 451) zC dX8_look_421 (by decide) (by omega) (fun c_25 => ?_) (fun c_25 => ?_)
                    · skip
                      refine lv_iconst (v := iI (0)) zx zb dX8_look_451 rfl ?_
                      refine lv_istore (lv' := [(7, .int (iI 0)), (8, .int (iI (atX (fun k => F (fr + k)) n k))), (0, .ref (a 0)), (1, .ref s), (2, .int (iI (fr : Int))), (3, .int (iI (n : Int))), (4, .int (iI dp)), (5, .int (iI (k : Int))), (6, .int (bI false))]) zx zb dX8_look_452 hl (by decide) rfl (fun ls hl => ?_)
                      refine lv_goto (tgt := 56) zx zb dX8_look_454 (by decide) ?_
                      exact ih56 false false k dp fa te lv NO _ _ _ (by omega) ⟨by omega, fun _ => ⟨by omega, fun q => absurd q (by decide), fun _ => (C3 hI h38 h124 (by omega))⟩, fun q => absurd q (by omega)⟩ (by omega) (by omega) h (lv_sub hl [2, 3, 4, 5, 6, 7, 8, 0] rfl)
                    · skip
                      refine i_inc (q := 6) (a := (k : Int)) (lv' := [(5, .int (iI ((k : Int) + 1))), (8, .int (iI (atX (fun k => F (fr + k)) n k))), (0, .ref (a 0)), (1, .ref s), (2, .int (iI (fr : Int))), (3, .int (iI (n : Int))), (4, .int (iI dp)), (6, .int (bI false)), (7, .int (bI true))]) zC hl dX8_look_424 rfl (by decide) rfl (fun ls hl => ?_)
                      refine lv_aload_n zx zb dX8_look_427 rfl (lv_at hl 2 rfl) ?_
                      refine lv_dup zx zb dX8_look_428 rfl ?_
                      refine gf8_111 (v := .int (iI (lv : Int))) zC h 0 rfl rfl dX8_look_429 ?_
                      refine lv_iconst (v := iI (1)) zx zb dX8_look_432 rfl ?_
                      refine i_sub zC (a := (lv : Int)) (b := 1) dX8_look_433 ?_
                      rw [show ((lv : Int) - 1 : Int) = ((lv - 1 : Nat) : Int) from by omega]
                      refine pf8_111 (x := iI ((lv - 1 : Nat) : Int)) zC h 0 (ws' := [(a 0, oM a mth mrw mrg mbd mnw mlc msz man mas mak mkp fa (te : Int) mta ((lv - 1 : Nat) : Int) mct mgr mgo mgg), (s, cI g len F), (a 14, cI g 22 NO), (a 5, cZ g 5 MK)]) rfl rfl (Nat.le_of_ble_eq_true rfl) dX8_look_434 (fun H locs h => ?_)
                      refine lv_iload zx zb dX8_look_437 (lv_at hl 6 rfl) ?_
                      refine lv_iconst (v := iI (1)) zx zb dX8_look_439 rfl ?_
                      refine i_sub zC (a := dp) (b := 1) dX8_look_440 ?_
                      refine lv_aload_n zx zb dX8_look_441 rfl (lv_at hl 2 rfl) ?_
                      refine r_invV (As := []) (rest := [.int (iI (dp - 1))]) (wr := [(s, cI g len F), (a 5, cZ g 5 MK)]) (ws2 := fun u_26 => [(a 0, oM a mth mrw mrg mbd mnw mlc msz man mas mak mkp fa (te : Int) mta ((lv - 1 : Nat) : Int) mct mgr mgo mgg), (s, cI g len F), (a 14, cI g 22 (up NO (lv - 1) 0)), (a 5, cZ g 5 MK)]) 0 0 zC h hl.1 (c_X8_overs l D g a mth mrw mrg mbd mnw mlc msz mas mak mkp fa (te : Int) mta mct mgo man mgr mgg (lv - 1)  NO  (by omega)) (cs8_136 zC ⟨(Nat.le_of_ble_eq_true rfl), (Nat.le_of_ble_eq_true rfl)⟩) (.head _) rfl rfl rfl (Nat.le_of_ble_eq_true rfl) (pm fun cp_q => by simp only [cp_o, List.countP_append, List.countP_nil] <;> omega) (fun u => (pm fun cp_q => by simp only [cp_o, List.countP_append, List.countP_nil] <;> omega)) ⟨(Nat.le_of_ble_eq_true rfl), (Nat.le_of_ble_eq_true rfl)⟩ (Nat.le_of_ble_eq_true rfl) (Nat.le_of_ble_eq_true rfl) dX8_look_442 (fun u_26 H locs hu_26 hz_26 h => ?_)
                      refine i_sub zC (a := dp - 1) (b := NO (lv - 1)) dX8_look_445 ?_
                      refine lv_istore (lv' := [(4, .int (iI (dp - 1 - (NO (lv - 1))))), (5, .int (iI ((k : Int) + 1))), (8, .int (iI (atX (fun k => F (fr + k)) n k))), (0, .ref (a 0)), (1, .ref s), (2, .int (iI (fr : Int))), (3, .int (iI (n : Int))), (6, .int (bI false)), (7, .int (bI true))]) zx zb dX8_look_446 hl (by decide) rfl (fun ls hl => ?_)
                      refine lv_goto (tgt := 454) zx zb dX8_look_448 (by decide) ?_
                      refine lv_goto (tgt := 56) zx zb dX8_look_454 (by decide) ?_
                      exact ih56 false true (k + 1) (dp - 1 - (NO (lv - 1))) fa te (lv - 1) (up NO (lv - 1) 0) _ _ _ (by omega) ⟨by omega, fun _ => ⟨by omega, fun _ => (C2 hI (by omega) (by omega)), fun q => absurd q (by decide)⟩, fun q => absurd q (by omega)⟩ (by omega) (by omega) h (lv_sub hl [3, 4, 5, 6, 0, 1, 7, 8] rfl)
                · skip
                  refine i_inc (q := 6) (a := (k : Int)) (lv' := [(5, .int (iI ((k : Int) + 1))), (8, .int (iI (atX (fun k => F (fr + k)) n k))), (0, .ref (a 0)), (1, .ref s), (2, .int (iI (fr : Int))), (3, .int (iI (n : Int))), (4, .int (iI dp)), (6, .int (bI false)), (7, .int (bI true))]) zC hl dX8_look_401 rfl (by decide) rfl (fun ls hl => ?_)
                  refine lv_iconst (v := iI (1)) zx zb dX8_look_404 rfl ?_
                  refine lv_istore (lv' := [(6, .int (iI 1)), (5, .int (iI ((k : Int) + 1))), (8, .int (iI (atX (fun k => F (fr + k)) n k))), (0, .ref (a 0)), (1, .ref s), (2, .int (iI (fr : Int))), (3, .int (iI (n : Int))), (4, .int (iI dp)), (7, .int (bI true))]) zx zb dX8_look_405 hl (by decide) rfl (fun ls hl => ?_)
                  refine lv_goto (tgt := 454) zx zb dX8_look_407 (by decide) ?_
                  refine lv_goto (tgt := 56) zx zb dX8_look_454 (by decide) ?_
                  exact ih56 true true (k + 1) dp fa te lv NO _ _ _ (by omega) ⟨by omega, fun _ => ⟨by omega, fun _ => (C1 hI (Or.inr c_23)), fun q => absurd q (by decide)⟩, fun q => absurd q (by omega)⟩ (by omega) (by omega) h (lv_sub hl [3, 4, 5, 6, 7, 1, 0, 8] rfl)
            · skip
              subst c_20
              refine lv_iload zx zb dX8_look_83 (lv_at hl 0 rfl) ?_
              refine lv_bipush (v := iI (33)) zx zb dX8_look_85 rfl ?_
              refine i_ceq (a := atX (fun k => F (fr + k)) n k) (b := 33) (tgt := 97) zC dX8_look_87 (by decide) (by omega) (fun c_27 => ?_) (fun c_27 => ?_)
              · skip
                have hc := c_27
                refine lv_aload_n zx zb dX8_look_97 rfl (lv_at hl 1 rfl) ?_
                refine lv_iload zx zb dX8_look_98 (lv_at hl 5 rfl) ?_
                refine lv_bipush (v := iI (20)) zx zb dX8_look_100 rfl ?_
                refine i_cne (a := dp) (b := 20) (tgt := 110) zC dX8_look_102 (by decide) (by omega) (fun c_28 => ?_) (fun c_28 => ?_)
                · skip
                  refine lv_iconst (v := iI (-1)) zx zb dX8_look_110 rfl ?_
                  refine pf8_114 (x := iI (-1)) zC h 0 (ws' := [(a 0, oM a mth mrw mrg mbd mnw mlc msz man mas mak mkp (-1) (te : Int) mta (lv : Int) mct mgr mgo mgg), (s, cI g len F), (a 14, cI g 22 NO), (a 5, cZ g 5 MK)]) rfl rfl (Nat.le_of_ble_eq_true rfl) dX8_look_111 (fun H locs h => ?_)
                  refine i_inc (q := 5) (a := dp) (lv' := [(4, .int (iI (dp + 1))), (8, .int (iI (atX (fun k => F (fr + k)) n k))), (0, .ref (a 0)), (1, .ref s), (2, .int (iI (fr : Int))), (3, .int (iI (n : Int))), (5, .int (iI (k : Int))), (6, .int (bI true)), (7, .int (bI true))]) zC hl dX8_look_114 rfl (by decide) rfl (fun ls hl => ?_)
                  refine lv_iload zx zb dX8_look_117 (lv_at hl 1 rfl) ?_
                  refine lv_bipush (v := iI (33)) zx zb dX8_look_119 rfl ?_
                  refine i_cne (a := atX (fun k => F (fr + k)) n k) (b := 33) (tgt := 140) zC dX8_look_121 (by decide) (by omega) (fun c_29 => absurd c_29 (by omega)) (fun c_29 => ?_)
                  refine lv_aload_n zx zb dX8_look_124 rfl (lv_at hl 2 rfl) ?_
                  refine gf8_57 (v := .ref (a 14)) zC h 0 rfl rfl dX8_look_125 ?_
                  refine lv_aload_n zx zb dX8_look_128 rfl (lv_at hl 2 rfl) ?_
                  refine gf8_111 (v := .int (iI (lv : Int))) zC h 0 rfl rfl dX8_look_129 ?_
                  refine lv_dup2_11 zx zb dX8_look_132 rfl rfl ?_
                  refine a_ild zC h 2 rfl (z := (lv : Int)) lv rfl (by omega) (by decide) dX8_look_133 ?_
                  refine lv_iconst (v := iI (1)) zx zb dX8_look_134 rfl ?_
                  refine i_add zC (a := NO lv) (b := 1) dX8_look_135 ?_
                  refine a_ist (x := NO lv + 1) zC h 2 (ws' := [(a 0, oM a mth mrw mrg mbd mnw mlc msz man mas mak mkp (-1) (te : Int) mta (lv : Int) mct mgr mgo mgg), (s, cI g len F), (a 14, cI g 22 (up NO lv (NO lv + 1))), (a 5, cZ g 5 MK)]) rfl (z := (lv : Int)) lv rfl rfl (by omega) (by decide) dX8_look_136 (fun H locs h => ?_)
                  refine lv_goto (tgt := 179) zx zb dX8_look_137 (by decide) ?_
                  refine i_inc (q := 6) (a := (k : Int)) (lv' := [(5, .int (iI ((k : Int) + 1))), (4, .int (iI (dp + 1))), (8, .int (iI (atX (fun k => F (fr + k)) n k))), (0, .ref (a 0)), (1, .ref s), (2, .int (iI (fr : Int))), (3, .int (iI (n : Int))), (6, .int (bI true)), (7, .int (bI true))]) zC hl dX8_look_179 rfl (by decide) rfl (fun ls hl => ?_)
                  refine lv_goto (tgt := 454) zx zb dX8_look_182 (by decide) ?_
                  refine lv_goto (tgt := 56) zx zb dX8_look_454 (by decide) ?_
                  exact ih56 true true (k + 1) (dp + 1) (-1) te lv (up NO lv (NO lv + 1)) _ _ _ (by omega) ⟨by omega, fun _ => ⟨by omega, fun _ => (A_t hI hc (by omega)), fun q => absurd q (by decide)⟩, fun q => absurd q (by omega)⟩ (by omega) (by omega) h (lv_sub hl [3, 4, 5, 6, 1, 0, 7, 8] rfl)
                · skip
                  refine lv_iload zx zb dX8_look_105 (lv_at hl 6 rfl) ?_
                  refine lv_goto (tgt := 111) zx zb dX8_look_107 (by decide) ?_
                  refine pf8_114 (x := iI (k : Int)) zC h 0 (ws' := [(a 0, oM a mth mrw mrg mbd mnw mlc msz man mas mak mkp (k : Int) (te : Int) mta (lv : Int) mct mgr mgo mgg), (s, cI g len F), (a 14, cI g 22 NO), (a 5, cZ g 5 MK)]) rfl rfl (Nat.le_of_ble_eq_true rfl) dX8_look_111 (fun H locs h => ?_)
                  refine i_inc (q := 5) (a := dp) (lv' := [(4, .int (iI (dp + 1))), (8, .int (iI (atX (fun k => F (fr + k)) n k))), (0, .ref (a 0)), (1, .ref s), (2, .int (iI (fr : Int))), (3, .int (iI (n : Int))), (5, .int (iI (k : Int))), (6, .int (bI true)), (7, .int (bI true))]) zC hl dX8_look_114 rfl (by decide) rfl (fun ls hl => ?_)
                  refine lv_iload zx zb dX8_look_117 (lv_at hl 1 rfl) ?_
                  refine lv_bipush (v := iI (33)) zx zb dX8_look_119 rfl ?_
                  refine i_cne (a := atX (fun k => F (fr + k)) n k) (b := 33) (tgt := 140) zC dX8_look_121 (by decide) (by omega) (fun c_30 => absurd c_30 (by omega)) (fun c_30 => ?_)
                  refine lv_aload_n zx zb dX8_look_124 rfl (lv_at hl 2 rfl) ?_
                  refine gf8_57 (v := .ref (a 14)) zC h 0 rfl rfl dX8_look_125 ?_
                  refine lv_aload_n zx zb dX8_look_128 rfl (lv_at hl 2 rfl) ?_
                  refine gf8_111 (v := .int (iI (lv : Int))) zC h 0 rfl rfl dX8_look_129 ?_
                  refine lv_dup2_11 zx zb dX8_look_132 rfl rfl ?_
                  refine a_ild zC h 2 rfl (z := (lv : Int)) lv rfl (by omega) (by decide) dX8_look_133 ?_
                  refine lv_iconst (v := iI (1)) zx zb dX8_look_134 rfl ?_
                  refine i_add zC (a := NO lv) (b := 1) dX8_look_135 ?_
                  refine a_ist (x := NO lv + 1) zC h 2 (ws' := [(a 0, oM a mth mrw mrg mbd mnw mlc msz man mas mak mkp (k : Int) (te : Int) mta (lv : Int) mct mgr mgo mgg), (s, cI g len F), (a 14, cI g 22 (up NO lv (NO lv + 1))), (a 5, cZ g 5 MK)]) rfl (z := (lv : Int)) lv rfl rfl (by omega) (by decide) dX8_look_136 (fun H locs h => ?_)
                  refine lv_goto (tgt := 179) zx zb dX8_look_137 (by decide) ?_
                  refine i_inc (q := 6) (a := (k : Int)) (lv' := [(5, .int (iI ((k : Int) + 1))), (4, .int (iI (dp + 1))), (8, .int (iI (atX (fun k => F (fr + k)) n k))), (0, .ref (a 0)), (1, .ref s), (2, .int (iI (fr : Int))), (3, .int (iI (n : Int))), (6, .int (bI true)), (7, .int (bI true))]) zC hl dX8_look_179 rfl (by decide) rfl (fun ls hl => ?_)
                  refine lv_goto (tgt := 454) zx zb dX8_look_182 (by decide) ?_
                  refine lv_goto (tgt := 56) zx zb dX8_look_454 (by decide) ?_
                  exact ih56 true true (k + 1) (dp + 1) (k : Int) te lv (up NO lv (NO lv + 1)) _ _ _ (by omega) ⟨by omega, fun q => absurd q (by omega), fun _ => (A_f hI (by omega) (by omega))⟩ (by omega) (by omega) h (lv_sub hl [3, 4, 5, 6, 1, 0, 7, 8] rfl)
              · skip
                have h33 := c_27
                refine lv_iload zx zb dX8_look_90 (lv_at hl 0 rfl) ?_
                refine lv_bipush (v := iI (40)) zx zb dX8_look_92 rfl ?_
                refine i_cne (a := atX (fun k => F (fr + k)) n k) (b := 40) (tgt := 185) zC dX8_look_94 (by decide) (by omega) (fun c_31 => ?_) (fun c_31 => ?_)
                · skip
                  have h40 := c_31
                  refine lv_iload zx zb dX8_look_185 (lv_at hl 7 rfl) ?_
                  refine b_zeq (b := true) (tgt := 387) zC dX8_look_187 (by decide) (fun c_32 => absurd c_32 (by decide)) (fun c_32 => ?_)
                  have J286_33 : ∀ (f1 : Int) (H : Heap) (locs : List Loc) (ls : Array Slot), ((f1 < 0 → f1 = -1 ∧ LD MK (fun k => F (fr + k)) n (rBegin r) k (k + 2) lv dp te NO) ∧ (0 ≤ f1 → LF MK (fun k => F (fr + k)) n (rBegin r) f1)) → (-1 ≤ f1 ∧ f1 ≤ (n : Int) + 7) → Hx D g sT aA sT.heap ([(a 0, oM a mth mrw mrg mbd mnw mlc msz man mas mak mkp f1 (te : Int) mta (lv : Int) mct mgr mgo mgg), (s, cI g len F), (a 14, cI g 22 NO), (a 5, cZ g 5 MK)]) H locs → lv_has ls 12 [(0, .ref (a 0)), (1, .ref s), (2, .int (iI (fr : Int))), (3, .int (iI (n : Int))), (4, .int (iI dp)), (5, .int (iI (k : Int))), (6, .int (bI true)), (7, .int (bI true))] → W pg l evn rmX8_look sT mI ar bl mtd cd H locs 0 0 qQ (F0 mI 286 ls []) := by
                    intro f1 H locs ls hJ hf1 h hl
                    refine lv_iload zx zb dX8_look_286 (lv_at hl 5 rfl) ?_
                    refine lv_iconst (v := iI (2)) zx zb dX8_look_288 rfl ?_
                    refine i_add zC (a := (k : Int)) (b := 2) dX8_look_289 ?_
                    refine lv_istore (lv' := [(11, .int (iI ((k : Int) + 2))), (0, .ref (a 0)), (1, .ref s), (2, .int (iI (fr : Int))), (3, .int (iI (n : Int))), (4, .int (iI dp)), (5, .int (iI (k : Int))), (6, .int (bI true)), (7, .int (bI true))]) zx zb dX8_look_290 hl (by decide) rfl (fun ls hl => ?_)
                    have L292_34 : ∀ (fuel : Nat) (e : Nat) (H : Heap) (locs : List Loc) (ls : Array Slot), k + 8 - e < fuel → (k + 2 ≤ e ∧ e ≤ k + 7) → (f1 < 0 → LD MK (fun k => F (fr + k)) n (rBegin r) k e lv dp te NO) → Hx D g sT aA sT.heap ([(a 0, oM a mth mrw mrg mbd mnw mlc msz man mas mak mkp f1 (te : Int) mta (lv : Int) mct mgr mgo mgg), (s, cI g len F), (a 14, cI g 22 NO), (a 5, cZ g 5 MK)]) H locs → lv_has ls 12 [(0, .ref (a 0)), (1, .ref s), (2, .int (iI (fr : Int))), (3, .int (iI (n : Int))), (4, .int (iI dp)), (5, .int (iI (k : Int))), (6, .int (bI true)), (7, .int (bI true)), (11, .int (iI (e : Int)))] → W pg l evn rmX8_look sT mI ar bl mtd cd H locs 0 0 qQ (F0 mI 292 ls []) := by
                      intro fuel
                      induction fuel with
                      | zero => intro e H locs ls hm; exact absurd hm (Nat.not_lt_zero _)
                      | succ fuel ih292 =>
                        intro e H locs ls hm he hDe h hl
                        refine lv_iload zx zb dX8_look_292 (lv_at hl 8 rfl) ?_
                        refine lv_iload zx zb dX8_look_294 (lv_at hl 5 rfl) ?_
                        refine lv_bipush (v := iI (7)) zx zb dX8_look_296 rfl ?_
                        refine i_add zC (a := (k : Int)) (b := 7) dX8_look_298 ?_
                        refine i_cge (a := (e : Int)) (b := (k : Int) + 7) (tgt := 329) zC dX8_look_299 (by decide) (by omega) (fun c_35 => ?_) (fun c_35 => ?_)
                        · skip
                          have hX : k + 7 ≤ e ∨ ¬ (48 ≤ atX (fun k => F (fr + k)) n e ∧ atX (fun k => F (fr + k)) n e ≤ 57) := Or.inl (by omega)
                          refine lv_aload_n zx zb dX8_look_329 rfl (lv_at hl 0 rfl) ?_
                          refine lv_aload_n zx zb dX8_look_330 rfl (lv_at hl 0 rfl) ?_
                          refine gf8_114 (v := .int (iI f1)) zC h 0 rfl rfl dX8_look_331 ?_
                          refine i_zge (a := f1) (tgt := 351) zC dX8_look_334 (by decide) (by omega) (fun c_36 => ?_) (fun c_36 => ?_)
                          · skip
                            refine lv_aload_n zx zb dX8_look_351 rfl (lv_at hl 0 rfl) ?_
                            refine gf8_114 (v := .int (iI f1)) zC h 0 rfl rfl dX8_look_352 ?_
                            refine pf8_114 (x := iI f1) zC h 0 (ws' := [(a 0, oM a mth mrw mrg mbd mnw mlc msz man mas mak mkp f1 (te : Int) mta (lv : Int) mct mgr mgo mgg), (s, cI g len F), (a 14, cI g 22 NO), (a 5, cZ g 5 MK)]) rfl rfl (Nat.le_of_ble_eq_true rfl) dX8_look_355 (fun H locs h => ?_)
                            refine lv_iload zx zb dX8_look_358 (lv_at hl 8 rfl) ?_
                            refine lv_istore (lv' := [(5, .int (iI (e : Int))), (0, .ref (a 0)), (1, .ref s), (2, .int (iI (fr : Int))), (3, .int (iI (n : Int))), (4, .int (iI dp)), (6, .int (bI true)), (7, .int (bI true)), (11, .int (iI (e : Int)))]) zx zb dX8_look_360 hl (by decide) rfl (fun ls hl => ?_)
                            refine lv_aload_n zx zb dX8_look_362 rfl (lv_at hl 1 rfl) ?_
                            refine lv_dup zx zb dX8_look_363 rfl ?_
                            refine gf8_117 (v := .int (iI (te : Int))) zC h 0 rfl rfl dX8_look_364 ?_
                            refine lv_iconst (v := iI (1)) zx zb dX8_look_367 rfl ?_
                            refine i_add zC (a := (te : Int)) (b := 1) dX8_look_368 ?_
                            rw [show ((te : Int) + 1 : Int) = ((te + 1 : Nat) : Int) from by omega]
                            refine pf8_117 (x := iI ((te + 1 : Nat) : Int)) zC h 0 (ws' := [(a 0, oM a mth mrw mrg mbd mnw mlc msz man mas mak mkp f1 ((te + 1 : Nat) : Int) mta (lv : Int) mct mgr mgo mgg), (s, cI g len F), (a 14, cI g 22 NO), (a 5, cZ g 5 MK)]) rfl rfl (Nat.le_of_ble_eq_true rfl) dX8_look_369 (fun H locs h => ?_)
                            refine lv_iload zx zb dX8_look_372 (lv_at hl 5 rfl) ?_
                            refine lv_aload_n zx zb dX8_look_374 rfl (lv_at hl 1 rfl) ?_
                            refine r_invV (As := []) (rest := [.int (iI dp)]) (wr := [(s, cI g len F), (a 5, cZ g 5 MK)]) (ws2 := fun u_37 => [(a 0, oM a mth mrw mrg mbd mnw mlc msz man mas mak mkp f1 ((te + 1 : Nat) : Int) mta (lv : Int) mct mgr mgo mgg), (s, cI g len F), (a 14, cI g 22 (up NO lv 0)), (a 5, cZ g 5 MK)]) 0 0 zC h hl.1 (c_X8_overs l D g a mth mrw mrg mbd mnw mlc msz mas mak mkp f1 ((te + 1 : Nat) : Int) mta mct mgo man mgr mgg lv  NO  (by omega)) (cs8_136 zC ⟨(Nat.le_of_ble_eq_true rfl), (Nat.le_of_ble_eq_true rfl)⟩) (.head _) rfl rfl rfl (Nat.le_of_ble_eq_true rfl) (pm fun cp_q => by simp only [cp_o, List.countP_append, List.countP_nil] <;> omega) (fun u => (pm fun cp_q => by simp only [cp_o, List.countP_append, List.countP_nil] <;> omega)) ⟨(Nat.le_of_ble_eq_true rfl), (Nat.le_of_ble_eq_true rfl)⟩ (Nat.le_of_ble_eq_true rfl) (Nat.le_of_ble_eq_true rfl) dX8_look_375 (fun u_37 H locs hu_37 hz_37 h => ?_)
                            refine i_sub zC (a := dp) (b := NO lv) dX8_look_378 ?_
                            refine lv_istore (lv' := [(4, .int (iI (dp - (NO lv)))), (5, .int (iI (e : Int))), (0, .ref (a 0)), (1, .ref s), (2, .int (iI (fr : Int))), (3, .int (iI (n : Int))), (6, .int (bI true)), (7, .int (bI true)), (11, .int (iI (e : Int)))]) zx zb dX8_look_379 hl (by decide) rfl (fun ls hl => ?_)
                            refine lv_iconst (v := iI (0)) zx zb dX8_look_381 rfl ?_
                            refine lv_istore (lv' := [(6, .int (iI 0)), (4, .int (iI (dp - (NO lv)))), (5, .int (iI (e : Int))), (0, .ref (a 0)), (1, .ref s), (2, .int (iI (fr : Int))), (3, .int (iI (n : Int))), (7, .int (bI true)), (11, .int (iI (e : Int)))]) zx zb dX8_look_382 hl (by decide) rfl (fun ls hl => ?_)
                            refine lv_goto (tgt := 454) zx zb dX8_look_384 (by decide) ?_
                            refine lv_goto (tgt := 56) zx zb dX8_look_454 (by decide) ?_
                            exact ih56 false true e (dp - (NO lv)) f1 (te + 1) lv (up NO lv 0) _ _ _ (by omega) ⟨by omega, fun q => absurd q (by omega), fun _ => (hJ.2 (by omega))⟩ (by omega) (by omega) h (lv_sub hl [3, 4, 5, 6, 1, 2, 0, 7] rfl)
                          · skip
                            refine lv_iload zx zb dX8_look_337 (lv_at hl 8 rfl) ?_
                            refine lv_iload zx zb dX8_look_339 (lv_at hl 5 rfl) ?_
                            refine lv_iconst (v := iI (2)) zx zb dX8_look_341 rfl ?_
                            refine i_add zC (a := (k : Int)) (b := 2) dX8_look_342 ?_
                            refine i_cne (a := (e : Int)) (b := (k : Int) + 2) (tgt := 351) zC dX8_look_343 (by decide) (by omega) (fun c_38 => ?_) (fun c_38 => ?_)
                            · skip
                              refine lv_aload_n zx zb dX8_look_351 rfl (lv_at hl 0 rfl) ?_
                              refine gf8_114 (v := .int (iI f1)) zC h 0 rfl rfl dX8_look_352 ?_
                              refine pf8_114 (x := iI f1) zC h 0 (ws' := [(a 0, oM a mth mrw mrg mbd mnw mlc msz man mas mak mkp f1 (te : Int) mta (lv : Int) mct mgr mgo mgg), (s, cI g len F), (a 14, cI g 22 NO), (a 5, cZ g 5 MK)]) rfl rfl (Nat.le_of_ble_eq_true rfl) dX8_look_355 (fun H locs h => ?_)
                              refine lv_iload zx zb dX8_look_358 (lv_at hl 8 rfl) ?_
                              refine lv_istore (lv' := [(5, .int (iI (e : Int))), (0, .ref (a 0)), (1, .ref s), (2, .int (iI (fr : Int))), (3, .int (iI (n : Int))), (4, .int (iI dp)), (6, .int (bI true)), (7, .int (bI true)), (11, .int (iI (e : Int)))]) zx zb dX8_look_360 hl (by decide) rfl (fun ls hl => ?_)
                              refine lv_aload_n zx zb dX8_look_362 rfl (lv_at hl 1 rfl) ?_
                              refine lv_dup zx zb dX8_look_363 rfl ?_
                              refine gf8_117 (v := .int (iI (te : Int))) zC h 0 rfl rfl dX8_look_364 ?_
                              refine lv_iconst (v := iI (1)) zx zb dX8_look_367 rfl ?_
                              refine i_add zC (a := (te : Int)) (b := 1) dX8_look_368 ?_
                              rw [show ((te : Int) + 1 : Int) = ((te + 1 : Nat) : Int) from by omega]
                              refine pf8_117 (x := iI ((te + 1 : Nat) : Int)) zC h 0 (ws' := [(a 0, oM a mth mrw mrg mbd mnw mlc msz man mas mak mkp f1 ((te + 1 : Nat) : Int) mta (lv : Int) mct mgr mgo mgg), (s, cI g len F), (a 14, cI g 22 NO), (a 5, cZ g 5 MK)]) rfl rfl (Nat.le_of_ble_eq_true rfl) dX8_look_369 (fun H locs h => ?_)
                              refine lv_iload zx zb dX8_look_372 (lv_at hl 5 rfl) ?_
                              refine lv_aload_n zx zb dX8_look_374 rfl (lv_at hl 1 rfl) ?_
                              refine r_invV (As := []) (rest := [.int (iI dp)]) (wr := [(s, cI g len F), (a 5, cZ g 5 MK)]) (ws2 := fun u_39 => [(a 0, oM a mth mrw mrg mbd mnw mlc msz man mas mak mkp f1 ((te + 1 : Nat) : Int) mta (lv : Int) mct mgr mgo mgg), (s, cI g len F), (a 14, cI g 22 (up NO lv 0)), (a 5, cZ g 5 MK)]) 0 0 zC h hl.1 (c_X8_overs l D g a mth mrw mrg mbd mnw mlc msz mas mak mkp f1 ((te + 1 : Nat) : Int) mta mct mgo man mgr mgg lv  NO  (by omega)) (cs8_136 zC ⟨(Nat.le_of_ble_eq_true rfl), (Nat.le_of_ble_eq_true rfl)⟩) (.head _) rfl rfl rfl (Nat.le_of_ble_eq_true rfl) (pm fun cp_q => by simp only [cp_o, List.countP_append, List.countP_nil] <;> omega) (fun u => (pm fun cp_q => by simp only [cp_o, List.countP_append, List.countP_nil] <;> omega)) ⟨(Nat.le_of_ble_eq_true rfl), (Nat.le_of_ble_eq_true rfl)⟩ (Nat.le_of_ble_eq_true rfl) (Nat.le_of_ble_eq_true rfl) dX8_look_375 (fun u_39 H locs hu_39 hz_39 h => ?_)
                              refine i_sub zC (a := dp) (b := NO lv) dX8_look_378 ?_
                              refine lv_istore (lv' := [(4, .int (iI (dp - (NO lv)))), (5, .int (iI (e : Int))), (0, .ref (a 0)), (1, .ref s), (2, .int (iI (fr : Int))), (3, .int (iI (n : Int))), (6, .int (bI true)), (7, .int (bI true)), (11, .int (iI (e : Int)))]) zx zb dX8_look_379 hl (by decide) rfl (fun ls hl => ?_)
                              refine lv_iconst (v := iI (0)) zx zb dX8_look_381 rfl ?_
                              refine lv_istore (lv' := [(6, .int (iI 0)), (4, .int (iI (dp - (NO lv)))), (5, .int (iI (e : Int))), (0, .ref (a 0)), (1, .ref s), (2, .int (iI (fr : Int))), (3, .int (iI (n : Int))), (7, .int (bI true)), (11, .int (iI (e : Int)))]) zx zb dX8_look_382 hl (by decide) rfl (fun ls hl => ?_)
                              refine lv_goto (tgt := 454) zx zb dX8_look_384 (by decide) ?_
                              refine lv_goto (tgt := 56) zx zb dX8_look_454 (by decide) ?_
                              exact ih56 false true e (dp - (NO lv)) f1 (te + 1) lv (up NO lv 0) _ _ _ (by omega) ⟨by omega, fun _ => ⟨by omega, fun _ => (B6 (hDe (by omega)) (by omega) hX), fun q => absurd q (by decide)⟩, fun q => absurd q (by omega)⟩ (by omega) (by omega) h (lv_sub hl [3, 4, 5, 6, 1, 2, 0, 7] rfl)
                            · skip
                              refine lv_iload zx zb dX8_look_346 (lv_at hl 8 rfl) ?_
                              refine lv_goto (tgt := 355) zx zb dX8_look_348 (by decide) ?_
                              refine pf8_114 (x := iI (e : Int)) zC h 0 (ws' := [(a 0, oM a mth mrw mrg mbd mnw mlc msz man mas mak mkp (e : Int) (te : Int) mta (lv : Int) mct mgr mgo mgg), (s, cI g len F), (a 14, cI g 22 NO), (a 5, cZ g 5 MK)]) rfl rfl (Nat.le_of_ble_eq_true rfl) dX8_look_355 (fun H locs h => ?_)
                              refine lv_iload zx zb dX8_look_358 (lv_at hl 8 rfl) ?_
                              refine lv_istore (lv' := [(5, .int (iI (e : Int))), (0, .ref (a 0)), (1, .ref s), (2, .int (iI (fr : Int))), (3, .int (iI (n : Int))), (4, .int (iI dp)), (6, .int (bI true)), (7, .int (bI true)), (11, .int (iI (e : Int)))]) zx zb dX8_look_360 hl (by decide) rfl (fun ls hl => ?_)
                              refine lv_aload_n zx zb dX8_look_362 rfl (lv_at hl 1 rfl) ?_
                              refine lv_dup zx zb dX8_look_363 rfl ?_
                              refine gf8_117 (v := .int (iI (te : Int))) zC h 0 rfl rfl dX8_look_364 ?_
                              refine lv_iconst (v := iI (1)) zx zb dX8_look_367 rfl ?_
                              refine i_add zC (a := (te : Int)) (b := 1) dX8_look_368 ?_
                              rw [show ((te : Int) + 1 : Int) = ((te + 1 : Nat) : Int) from by omega]
                              refine pf8_117 (x := iI ((te + 1 : Nat) : Int)) zC h 0 (ws' := [(a 0, oM a mth mrw mrg mbd mnw mlc msz man mas mak mkp (e : Int) ((te + 1 : Nat) : Int) mta (lv : Int) mct mgr mgo mgg), (s, cI g len F), (a 14, cI g 22 NO), (a 5, cZ g 5 MK)]) rfl rfl (Nat.le_of_ble_eq_true rfl) dX8_look_369 (fun H locs h => ?_)
                              refine lv_iload zx zb dX8_look_372 (lv_at hl 5 rfl) ?_
                              refine lv_aload_n zx zb dX8_look_374 rfl (lv_at hl 1 rfl) ?_
                              refine r_invV (As := []) (rest := [.int (iI dp)]) (wr := [(s, cI g len F), (a 5, cZ g 5 MK)]) (ws2 := fun u_40 => [(a 0, oM a mth mrw mrg mbd mnw mlc msz man mas mak mkp (e : Int) ((te + 1 : Nat) : Int) mta (lv : Int) mct mgr mgo mgg), (s, cI g len F), (a 14, cI g 22 (up NO lv 0)), (a 5, cZ g 5 MK)]) 0 0 zC h hl.1 (c_X8_overs l D g a mth mrw mrg mbd mnw mlc msz mas mak mkp (e : Int) ((te + 1 : Nat) : Int) mta mct mgo man mgr mgg lv  NO  (by omega)) (cs8_136 zC ⟨(Nat.le_of_ble_eq_true rfl), (Nat.le_of_ble_eq_true rfl)⟩) (.head _) rfl rfl rfl (Nat.le_of_ble_eq_true rfl) (pm fun cp_q => by simp only [cp_o, List.countP_append, List.countP_nil] <;> omega) (fun u => (pm fun cp_q => by simp only [cp_o, List.countP_append, List.countP_nil] <;> omega)) ⟨(Nat.le_of_ble_eq_true rfl), (Nat.le_of_ble_eq_true rfl)⟩ (Nat.le_of_ble_eq_true rfl) (Nat.le_of_ble_eq_true rfl) dX8_look_375 (fun u_40 H locs hu_40 hz_40 h => ?_)
                              refine i_sub zC (a := dp) (b := NO lv) dX8_look_378 ?_
                              refine lv_istore (lv' := [(4, .int (iI (dp - (NO lv)))), (5, .int (iI (e : Int))), (0, .ref (a 0)), (1, .ref s), (2, .int (iI (fr : Int))), (3, .int (iI (n : Int))), (6, .int (bI true)), (7, .int (bI true)), (11, .int (iI (e : Int)))]) zx zb dX8_look_379 hl (by decide) rfl (fun ls hl => ?_)
                              refine lv_iconst (v := iI (0)) zx zb dX8_look_381 rfl ?_
                              refine lv_istore (lv' := [(6, .int (iI 0)), (4, .int (iI (dp - (NO lv)))), (5, .int (iI (e : Int))), (0, .ref (a 0)), (1, .ref s), (2, .int (iI (fr : Int))), (3, .int (iI (n : Int))), (7, .int (bI true)), (11, .int (iI (e : Int)))]) zx zb dX8_look_382 hl (by decide) rfl (fun ls hl => ?_)
                              refine lv_goto (tgt := 454) zx zb dX8_look_384 (by decide) ?_
                              refine lv_goto (tgt := 56) zx zb dX8_look_454 (by decide) ?_
                              exact ih56 false true e (dp - (NO lv)) (e : Int) (te + 1) lv (up NO lv 0) _ _ _ (by omega) ⟨by omega, fun q => absurd q (by omega), fun _ => (B5 (hDe (by omega)) (by omega) (by rcases hX with q | q; omega; exact q))⟩ (by omega) (by omega) h (lv_sub hl [3, 4, 5, 6, 1, 2, 0, 7] rfl)
                        · skip
                          refine lv_aload_n zx zb dX8_look_302 rfl (lv_at hl 1 rfl) ?_
                          refine lv_iload_n zx zb dX8_look_303 rfl (lv_at hl 2 rfl) ?_
                          refine lv_iload_n zx zb dX8_look_304 rfl (lv_at hl 3 rfl) ?_
                          refine lv_iload zx zb dX8_look_305 (lv_at hl 8 rfl) ?_
                          refine r_invS (As := [.ref s, .int (iI (fr : Int)), .int (iI (n : Int)), .int (iI (e : Int))]) (rest := []) (wr := [(a 0, oM a mth mrw mrg mbd mnw mlc msz man mas mak mkp f1 (te : Int) mta (lv : Int) mct mgr mgo mgg), (a 14, cI g 22 NO), (a 5, cZ g 5 MK)]) (ws2 := fun u_41 => [(a 0, oM a mth mrw mrg mbd mnw mlc msz man mas mak mkp f1 (te : Int) mta (lv : Int) mct mgr mgo mgg), (s, cI g len F), (a 14, cI g 22 NO), (a 5, cZ g 5 MK)]) 0 0 zC h hl.1 (c_X8_at l D g s len F fr n e hfn hlen (by omega)) (cs8_120 zC ⟨(Nat.le_of_ble_eq_true rfl), (Nat.le_of_ble_eq_true rfl)⟩) rfl rfl (Nat.le_of_ble_eq_true rfl) (pm fun cp_q => by simp only [cp_o, List.countP_append, List.countP_nil] <;> omega) (fun u => (pm fun cp_q => by simp only [cp_o, List.countP_append, List.countP_nil] <;> omega)) ⟨(Nat.le_of_ble_eq_true rfl), (Nat.le_of_ble_eq_true rfl)⟩ (Nat.le_of_ble_eq_true rfl) (Nat.le_of_ble_eq_true rfl) dX8_look_307 (fun u_41 H locs hu_41 hz_41 h => ?_)
                          rw [atX_T]
                          have hxR_40 := atX_R (k := e) hR
                          refine i_i2l zC (a := atX (fun k => F (fr + k)) n e) dX8_look_310 (by omega) ?_
                          refine kl8_132 zC dX8_look_311 ?_
                          refine kl8_134 zC dX8_look_314 ?_
                          refine r_invS (As := [.long (lI (atX (fun k => F (fr + k)) n e)), .long (lI 48), .long (lI 57)]) (rest := []) (wr := [(a 0, oM a mth mrw mrg mbd mnw mlc msz man mas mak mkp f1 (te : Int) mta (lv : Int) mct mgr mgo mgg), (s, cI g len F), (a 14, cI g 22 NO), (a 5, cZ g 5 MK)]) (ws2 := fun u_42 => [(a 0, oM a mth mrw mrg mbd mnw mlc msz man mas mak mkp f1 (te : Int) mta (lv : Int) mct mgr mgo mgg), (s, cI g len F), (a 14, cI g 22 NO), (a 5, cZ g 5 MK)]) 0 0 zC h hl.1 (c_X8_within l D g (atX (fun k => F (fr + k)) n e) 48 57 (by omega) (by omega) (by omega)) (cs8_90 zC ⟨(Nat.le_of_ble_eq_true rfl), (Nat.le_of_ble_eq_true rfl)⟩) rfl rfl (Nat.le_of_ble_eq_true rfl) (List.Perm.refl _) (fun u => List.Perm.refl _) ⟨(Nat.le_of_ble_eq_true rfl), (Nat.le_of_ble_eq_true rfl)⟩ (Nat.le_of_ble_eq_true rfl) (Nat.le_of_ble_eq_true rfl) dX8_look_317 (fun u_42 H locs hu_42 hz_42 h => ?_)
                          refine b_zeq (b := decide (48 ≤ atX (fun k => F (fr + k)) n e ∧ atX (fun k => F (fr + k)) n e ≤ 57)) (tgt := 329) zC dX8_look_320 (by decide) (fun c_43 => ?_) (fun c_43 => ?_)
                          · skip
                            simp only [decide_eq_true_eq, decide_eq_false_iff_not] at c_43
                            have hX : k + 7 ≤ e ∨ ¬ (48 ≤ atX (fun k => F (fr + k)) n e ∧ atX (fun k => F (fr + k)) n e ≤ 57) := Or.inr c_43
                            refine lv_aload_n zx zb dX8_look_329 rfl (lv_at hl 0 rfl) ?_
                            refine lv_aload_n zx zb dX8_look_330 rfl (lv_at hl 0 rfl) ?_
                            refine gf8_114 (v := .int (iI f1)) zC h 0 rfl rfl dX8_look_331 ?_
                            refine i_zge (a := f1) (tgt := 351) zC dX8_look_334 (by decide) (by omega) (fun c_44 => ?_) (fun c_44 => ?_)
                            · skip
                              refine lv_aload_n zx zb dX8_look_351 rfl (lv_at hl 0 rfl) ?_
                              refine gf8_114 (v := .int (iI f1)) zC h 0 rfl rfl dX8_look_352 ?_
                              refine pf8_114 (x := iI f1) zC h 0 (ws' := [(a 0, oM a mth mrw mrg mbd mnw mlc msz man mas mak mkp f1 (te : Int) mta (lv : Int) mct mgr mgo mgg), (s, cI g len F), (a 14, cI g 22 NO), (a 5, cZ g 5 MK)]) rfl rfl (Nat.le_of_ble_eq_true rfl) dX8_look_355 (fun H locs h => ?_)
                              refine lv_iload zx zb dX8_look_358 (lv_at hl 8 rfl) ?_
                              refine lv_istore (lv' := [(5, .int (iI (e : Int))), (0, .ref (a 0)), (1, .ref s), (2, .int (iI (fr : Int))), (3, .int (iI (n : Int))), (4, .int (iI dp)), (6, .int (bI true)), (7, .int (bI true)), (11, .int (iI (e : Int)))]) zx zb dX8_look_360 hl (by decide) rfl (fun ls hl => ?_)
                              refine lv_aload_n zx zb dX8_look_362 rfl (lv_at hl 1 rfl) ?_
                              refine lv_dup zx zb dX8_look_363 rfl ?_
                              refine gf8_117 (v := .int (iI (te : Int))) zC h 0 rfl rfl dX8_look_364 ?_
                              refine lv_iconst (v := iI (1)) zx zb dX8_look_367 rfl ?_
                              refine i_add zC (a := (te : Int)) (b := 1) dX8_look_368 ?_
                              rw [show ((te : Int) + 1 : Int) = ((te + 1 : Nat) : Int) from by omega]
                              refine pf8_117 (x := iI ((te + 1 : Nat) : Int)) zC h 0 (ws' := [(a 0, oM a mth mrw mrg mbd mnw mlc msz man mas mak mkp f1 ((te + 1 : Nat) : Int) mta (lv : Int) mct mgr mgo mgg), (s, cI g len F), (a 14, cI g 22 NO), (a 5, cZ g 5 MK)]) rfl rfl (Nat.le_of_ble_eq_true rfl) dX8_look_369 (fun H locs h => ?_)
                              refine lv_iload zx zb dX8_look_372 (lv_at hl 5 rfl) ?_
                              refine lv_aload_n zx zb dX8_look_374 rfl (lv_at hl 1 rfl) ?_
                              refine r_invV (As := []) (rest := [.int (iI dp)]) (wr := [(s, cI g len F), (a 5, cZ g 5 MK)]) (ws2 := fun u_45 => [(a 0, oM a mth mrw mrg mbd mnw mlc msz man mas mak mkp f1 ((te + 1 : Nat) : Int) mta (lv : Int) mct mgr mgo mgg), (s, cI g len F), (a 14, cI g 22 (up NO lv 0)), (a 5, cZ g 5 MK)]) 0 0 zC h hl.1 (c_X8_overs l D g a mth mrw mrg mbd mnw mlc msz mas mak mkp f1 ((te + 1 : Nat) : Int) mta mct mgo man mgr mgg lv  NO  (by omega)) (cs8_136 zC ⟨(Nat.le_of_ble_eq_true rfl), (Nat.le_of_ble_eq_true rfl)⟩) (.head _) rfl rfl rfl (Nat.le_of_ble_eq_true rfl) (pm fun cp_q => by simp only [cp_o, List.countP_append, List.countP_nil] <;> omega) (fun u => (pm fun cp_q => by simp only [cp_o, List.countP_append, List.countP_nil] <;> omega)) ⟨(Nat.le_of_ble_eq_true rfl), (Nat.le_of_ble_eq_true rfl)⟩ (Nat.le_of_ble_eq_true rfl) (Nat.le_of_ble_eq_true rfl) dX8_look_375 (fun u_45 H locs hu_45 hz_45 h => ?_)
                              refine i_sub zC (a := dp) (b := NO lv) dX8_look_378 ?_
                              refine lv_istore (lv' := [(4, .int (iI (dp - (NO lv)))), (5, .int (iI (e : Int))), (0, .ref (a 0)), (1, .ref s), (2, .int (iI (fr : Int))), (3, .int (iI (n : Int))), (6, .int (bI true)), (7, .int (bI true)), (11, .int (iI (e : Int)))]) zx zb dX8_look_379 hl (by decide) rfl (fun ls hl => ?_)
                              refine lv_iconst (v := iI (0)) zx zb dX8_look_381 rfl ?_
                              refine lv_istore (lv' := [(6, .int (iI 0)), (4, .int (iI (dp - (NO lv)))), (5, .int (iI (e : Int))), (0, .ref (a 0)), (1, .ref s), (2, .int (iI (fr : Int))), (3, .int (iI (n : Int))), (7, .int (bI true)), (11, .int (iI (e : Int)))]) zx zb dX8_look_382 hl (by decide) rfl (fun ls hl => ?_)
                              refine lv_goto (tgt := 454) zx zb dX8_look_384 (by decide) ?_
                              refine lv_goto (tgt := 56) zx zb dX8_look_454 (by decide) ?_
                              exact ih56 false true e (dp - (NO lv)) f1 (te + 1) lv (up NO lv 0) _ _ _ (by omega) ⟨by omega, fun q => absurd q (by omega), fun _ => (hJ.2 (by omega))⟩ (by omega) (by omega) h (lv_sub hl [3, 4, 5, 6, 1, 2, 0, 7] rfl)
                            · skip
                              refine lv_iload zx zb dX8_look_337 (lv_at hl 8 rfl) ?_
                              refine lv_iload zx zb dX8_look_339 (lv_at hl 5 rfl) ?_
                              refine lv_iconst (v := iI (2)) zx zb dX8_look_341 rfl ?_
                              refine i_add zC (a := (k : Int)) (b := 2) dX8_look_342 ?_
                              refine i_cne (a := (e : Int)) (b := (k : Int) + 2) (tgt := 351) zC dX8_look_343 (by decide) (by omega) (fun c_46 => ?_) (fun c_46 => ?_)
                              · skip
                                refine lv_aload_n zx zb dX8_look_351 rfl (lv_at hl 0 rfl) ?_
                                refine gf8_114 (v := .int (iI f1)) zC h 0 rfl rfl dX8_look_352 ?_
                                refine pf8_114 (x := iI f1) zC h 0 (ws' := [(a 0, oM a mth mrw mrg mbd mnw mlc msz man mas mak mkp f1 (te : Int) mta (lv : Int) mct mgr mgo mgg), (s, cI g len F), (a 14, cI g 22 NO), (a 5, cZ g 5 MK)]) rfl rfl (Nat.le_of_ble_eq_true rfl) dX8_look_355 (fun H locs h => ?_)
                                refine lv_iload zx zb dX8_look_358 (lv_at hl 8 rfl) ?_
                                refine lv_istore (lv' := [(5, .int (iI (e : Int))), (0, .ref (a 0)), (1, .ref s), (2, .int (iI (fr : Int))), (3, .int (iI (n : Int))), (4, .int (iI dp)), (6, .int (bI true)), (7, .int (bI true)), (11, .int (iI (e : Int)))]) zx zb dX8_look_360 hl (by decide) rfl (fun ls hl => ?_)
                                refine lv_aload_n zx zb dX8_look_362 rfl (lv_at hl 1 rfl) ?_
                                refine lv_dup zx zb dX8_look_363 rfl ?_
                                refine gf8_117 (v := .int (iI (te : Int))) zC h 0 rfl rfl dX8_look_364 ?_
                                refine lv_iconst (v := iI (1)) zx zb dX8_look_367 rfl ?_
                                refine i_add zC (a := (te : Int)) (b := 1) dX8_look_368 ?_
                                rw [show ((te : Int) + 1 : Int) = ((te + 1 : Nat) : Int) from by omega]
                                refine pf8_117 (x := iI ((te + 1 : Nat) : Int)) zC h 0 (ws' := [(a 0, oM a mth mrw mrg mbd mnw mlc msz man mas mak mkp f1 ((te + 1 : Nat) : Int) mta (lv : Int) mct mgr mgo mgg), (s, cI g len F), (a 14, cI g 22 NO), (a 5, cZ g 5 MK)]) rfl rfl (Nat.le_of_ble_eq_true rfl) dX8_look_369 (fun H locs h => ?_)
                                refine lv_iload zx zb dX8_look_372 (lv_at hl 5 rfl) ?_
                                refine lv_aload_n zx zb dX8_look_374 rfl (lv_at hl 1 rfl) ?_
                                refine r_invV (As := []) (rest := [.int (iI dp)]) (wr := [(s, cI g len F), (a 5, cZ g 5 MK)]) (ws2 := fun u_47 => [(a 0, oM a mth mrw mrg mbd mnw mlc msz man mas mak mkp f1 ((te + 1 : Nat) : Int) mta (lv : Int) mct mgr mgo mgg), (s, cI g len F), (a 14, cI g 22 (up NO lv 0)), (a 5, cZ g 5 MK)]) 0 0 zC h hl.1 (c_X8_overs l D g a mth mrw mrg mbd mnw mlc msz mas mak mkp f1 ((te + 1 : Nat) : Int) mta mct mgo man mgr mgg lv  NO  (by omega)) (cs8_136 zC ⟨(Nat.le_of_ble_eq_true rfl), (Nat.le_of_ble_eq_true rfl)⟩) (.head _) rfl rfl rfl (Nat.le_of_ble_eq_true rfl) (pm fun cp_q => by simp only [cp_o, List.countP_append, List.countP_nil] <;> omega) (fun u => (pm fun cp_q => by simp only [cp_o, List.countP_append, List.countP_nil] <;> omega)) ⟨(Nat.le_of_ble_eq_true rfl), (Nat.le_of_ble_eq_true rfl)⟩ (Nat.le_of_ble_eq_true rfl) (Nat.le_of_ble_eq_true rfl) dX8_look_375 (fun u_47 H locs hu_47 hz_47 h => ?_)
                                refine i_sub zC (a := dp) (b := NO lv) dX8_look_378 ?_
                                refine lv_istore (lv' := [(4, .int (iI (dp - (NO lv)))), (5, .int (iI (e : Int))), (0, .ref (a 0)), (1, .ref s), (2, .int (iI (fr : Int))), (3, .int (iI (n : Int))), (6, .int (bI true)), (7, .int (bI true)), (11, .int (iI (e : Int)))]) zx zb dX8_look_379 hl (by decide) rfl (fun ls hl => ?_)
                                refine lv_iconst (v := iI (0)) zx zb dX8_look_381 rfl ?_
                                refine lv_istore (lv' := [(6, .int (iI 0)), (4, .int (iI (dp - (NO lv)))), (5, .int (iI (e : Int))), (0, .ref (a 0)), (1, .ref s), (2, .int (iI (fr : Int))), (3, .int (iI (n : Int))), (7, .int (bI true)), (11, .int (iI (e : Int)))]) zx zb dX8_look_382 hl (by decide) rfl (fun ls hl => ?_)
                                refine lv_goto (tgt := 454) zx zb dX8_look_384 (by decide) ?_
                                refine lv_goto (tgt := 56) zx zb dX8_look_454 (by decide) ?_
                                exact ih56 false true e (dp - (NO lv)) f1 (te + 1) lv (up NO lv 0) _ _ _ (by omega) ⟨by omega, fun _ => ⟨by omega, fun _ => (B6 (hDe (by omega)) (by omega) hX), fun q => absurd q (by decide)⟩, fun q => absurd q (by omega)⟩ (by omega) (by omega) h (lv_sub hl [3, 4, 5, 6, 1, 2, 0, 7] rfl)
                              · skip
                                refine lv_iload zx zb dX8_look_346 (lv_at hl 8 rfl) ?_
                                refine lv_goto (tgt := 355) zx zb dX8_look_348 (by decide) ?_
                                refine pf8_114 (x := iI (e : Int)) zC h 0 (ws' := [(a 0, oM a mth mrw mrg mbd mnw mlc msz man mas mak mkp (e : Int) (te : Int) mta (lv : Int) mct mgr mgo mgg), (s, cI g len F), (a 14, cI g 22 NO), (a 5, cZ g 5 MK)]) rfl rfl (Nat.le_of_ble_eq_true rfl) dX8_look_355 (fun H locs h => ?_)
                                refine lv_iload zx zb dX8_look_358 (lv_at hl 8 rfl) ?_
                                refine lv_istore (lv' := [(5, .int (iI (e : Int))), (0, .ref (a 0)), (1, .ref s), (2, .int (iI (fr : Int))), (3, .int (iI (n : Int))), (4, .int (iI dp)), (6, .int (bI true)), (7, .int (bI true)), (11, .int (iI (e : Int)))]) zx zb dX8_look_360 hl (by decide) rfl (fun ls hl => ?_)
                                refine lv_aload_n zx zb dX8_look_362 rfl (lv_at hl 1 rfl) ?_
                                refine lv_dup zx zb dX8_look_363 rfl ?_
                                refine gf8_117 (v := .int (iI (te : Int))) zC h 0 rfl rfl dX8_look_364 ?_
                                refine lv_iconst (v := iI (1)) zx zb dX8_look_367 rfl ?_
                                refine i_add zC (a := (te : Int)) (b := 1) dX8_look_368 ?_
                                rw [show ((te : Int) + 1 : Int) = ((te + 1 : Nat) : Int) from by omega]
                                refine pf8_117 (x := iI ((te + 1 : Nat) : Int)) zC h 0 (ws' := [(a 0, oM a mth mrw mrg mbd mnw mlc msz man mas mak mkp (e : Int) ((te + 1 : Nat) : Int) mta (lv : Int) mct mgr mgo mgg), (s, cI g len F), (a 14, cI g 22 NO), (a 5, cZ g 5 MK)]) rfl rfl (Nat.le_of_ble_eq_true rfl) dX8_look_369 (fun H locs h => ?_)
                                refine lv_iload zx zb dX8_look_372 (lv_at hl 5 rfl) ?_
                                refine lv_aload_n zx zb dX8_look_374 rfl (lv_at hl 1 rfl) ?_
                                refine r_invV (As := []) (rest := [.int (iI dp)]) (wr := [(s, cI g len F), (a 5, cZ g 5 MK)]) (ws2 := fun u_48 => [(a 0, oM a mth mrw mrg mbd mnw mlc msz man mas mak mkp (e : Int) ((te + 1 : Nat) : Int) mta (lv : Int) mct mgr mgo mgg), (s, cI g len F), (a 14, cI g 22 (up NO lv 0)), (a 5, cZ g 5 MK)]) 0 0 zC h hl.1 (c_X8_overs l D g a mth mrw mrg mbd mnw mlc msz mas mak mkp (e : Int) ((te + 1 : Nat) : Int) mta mct mgo man mgr mgg lv  NO  (by omega)) (cs8_136 zC ⟨(Nat.le_of_ble_eq_true rfl), (Nat.le_of_ble_eq_true rfl)⟩) (.head _) rfl rfl rfl (Nat.le_of_ble_eq_true rfl) (pm fun cp_q => by simp only [cp_o, List.countP_append, List.countP_nil] <;> omega) (fun u => (pm fun cp_q => by simp only [cp_o, List.countP_append, List.countP_nil] <;> omega)) ⟨(Nat.le_of_ble_eq_true rfl), (Nat.le_of_ble_eq_true rfl)⟩ (Nat.le_of_ble_eq_true rfl) (Nat.le_of_ble_eq_true rfl) dX8_look_375 (fun u_48 H locs hu_48 hz_48 h => ?_)
                                refine i_sub zC (a := dp) (b := NO lv) dX8_look_378 ?_
                                refine lv_istore (lv' := [(4, .int (iI (dp - (NO lv)))), (5, .int (iI (e : Int))), (0, .ref (a 0)), (1, .ref s), (2, .int (iI (fr : Int))), (3, .int (iI (n : Int))), (6, .int (bI true)), (7, .int (bI true)), (11, .int (iI (e : Int)))]) zx zb dX8_look_379 hl (by decide) rfl (fun ls hl => ?_)
                                refine lv_iconst (v := iI (0)) zx zb dX8_look_381 rfl ?_
                                refine lv_istore (lv' := [(6, .int (iI 0)), (4, .int (iI (dp - (NO lv)))), (5, .int (iI (e : Int))), (0, .ref (a 0)), (1, .ref s), (2, .int (iI (fr : Int))), (3, .int (iI (n : Int))), (7, .int (bI true)), (11, .int (iI (e : Int)))]) zx zb dX8_look_382 hl (by decide) rfl (fun ls hl => ?_)
                                refine lv_goto (tgt := 454) zx zb dX8_look_384 (by decide) ?_
                                refine lv_goto (tgt := 56) zx zb dX8_look_454 (by decide) ?_
                                exact ih56 false true e (dp - (NO lv)) (e : Int) (te + 1) lv (up NO lv 0) _ _ _ (by omega) ⟨by omega, fun q => absurd q (by omega), fun _ => (B5 (hDe (by omega)) (by omega) (by rcases hX with q | q; omega; exact q))⟩ (by omega) (by omega) h (lv_sub hl [3, 4, 5, 6, 1, 2, 0, 7] rfl)
                          · skip
                            simp only [decide_eq_true_eq, decide_eq_false_iff_not] at c_43
                            refine i_inc (q := 8) (a := (e : Int)) (lv' := [(11, .int (iI ((e : Int) + 1))), (0, .ref (a 0)), (1, .ref s), (2, .int (iI (fr : Int))), (3, .int (iI (n : Int))), (4, .int (iI dp)), (5, .int (iI (k : Int))), (6, .int (bI true)), (7, .int (bI true))]) zC hl dX8_look_323 rfl (by decide) rfl (fun ls hl => ?_)
                            refine lv_goto (tgt := 292) zx zb dX8_look_326 (by decide) ?_
                            exact ih292 (e + 1) _ _ _ (by omega) (by omega) (fun q => B4 (hDe q) (by omega) (by omega) (by omega)) h (lv_sub hl [1, 2, 3, 4, 5, 6, 7, 8, 0] rfl)
                    exact L292_34 _ (k + 2) _ _ _ (Nat.lt_succ_self _) (by omega) (fun q => (hJ.1 q).2) h (lv_sub hl [1, 2, 3, 4, 5, 6, 7, 8, 0] rfl)
                  refine lv_iload zx zb dX8_look_190 (lv_at hl 0 rfl) ?_
                  refine r_invS (As := [.int (iI (atX (fun k => F (fr + k)) n k))]) (rest := []) (wr := [(a 0, oM a mth mrw mrg mbd mnw mlc msz man mas mak mkp fa (te : Int) mta (lv : Int) mct mgr mgo mgg), (s, cI g len F), (a 14, cI g 22 NO), (a 5, cZ g 5 MK)]) (ws2 := fun u_49 => [(a 0, oM a mth mrw mrg mbd mnw mlc msz man mas mak mkp fa (te : Int) mta (lv : Int) mct mgr mgo mgg), (s, cI g len F), (a 14, cI g 22 NO), (a 5, cZ g 5 MK)]) 0 0 zC h hl.1 (c_X8_fieldOf l D g (atX (fun k => F (fr + k)) n k) (by omega)) (cs8_128 zC ⟨(Nat.le_of_ble_eq_true rfl), (Nat.le_of_ble_eq_true rfl)⟩) rfl rfl (Nat.le_of_ble_eq_true rfl) (List.Perm.refl _) (fun u => List.Perm.refl _) ⟨(Nat.le_of_ble_eq_true rfl), (Nat.le_of_ble_eq_true rfl)⟩ (Nat.le_of_ble_eq_true rfl) (Nat.le_of_ble_eq_true rfl) dX8_look_192 (fun u_49 H locs hu_49 hz_49 h => ?_)
                  have hfR_49 := fOf_R (atX (fun k => F (fr + k)) n k)
                  refine lv_istore (lv' := [(9, .int (iI (fOf (atX (fun k => F (fr + k)) n k)))), (8, .int (iI (atX (fun k => F (fr + k)) n k))), (0, .ref (a 0)), (1, .ref s), (2, .int (iI (fr : Int))), (3, .int (iI (n : Int))), (4, .int (iI dp)), (5, .int (iI (k : Int))), (6, .int (bI true)), (7, .int (bI true))]) zx zb dX8_look_195 hl (by decide) rfl (fun ls hl => ?_)
                  refine lv_aload_n zx zb dX8_look_197 rfl (lv_at hl 2 rfl) ?_
                  refine lv_iload zx zb dX8_look_198 (lv_at hl 0 rfl) ?_
                  refine i_zlt (a := fOf (atX (fun k => F (fr + k)) n k)) (tgt := 222) zC dX8_look_200 (by decide) (by omega) (fun c_50 => ?_) (fun c_50 => ?_)
                  · skip
                    have hF : LF MK (fun k => F (fr + k)) n (rBegin r) (k : Int) := B1 hI h33 h40 (Or.inl c_50)
                    refine lv_iload zx zb dX8_look_222 (lv_at hl 7 rfl) ?_
                    refine lv_goto (tgt := 228) zx zb dX8_look_224 (by decide) ?_
                    refine pf8_114 (x := iI (k : Int)) zC h 0 (ws' := [(a 0, oM a mth mrw mrg mbd mnw mlc msz man mas mak mkp (k : Int) (te : Int) mta (lv : Int) mct mgr mgo mgg), (s, cI g len F), (a 14, cI g 22 NO), (a 5, cZ g 5 MK)]) rfl rfl (Nat.le_of_ble_eq_true rfl) dX8_look_228 (fun H locs h => ?_)
                    refine lv_aload_n zx zb dX8_look_231 rfl (lv_at hl 3 rfl) ?_
                    refine lv_iload_n zx zb dX8_look_232 rfl (lv_at hl 4 rfl) ?_
                    refine lv_iload_n zx zb dX8_look_233 rfl (lv_at hl 5 rfl) ?_
                    refine lv_iload zx zb dX8_look_234 (lv_at hl 7 rfl) ?_
                    refine lv_iconst (v := iI (1)) zx zb dX8_look_236 rfl ?_
                    refine i_add zC (a := (k : Int)) (b := 1) dX8_look_237 ?_
                    rw [show ((k : Int) + 1 : Int) = ((k + 1 : Nat) : Int) from by omega]
                    refine r_invS (As := [.ref s, .int (iI (fr : Int)), .int (iI (n : Int)), .int (iI ((k + 1 : Nat) : Int))]) (rest := []) (wr := [(a 0, oM a mth mrw mrg mbd mnw mlc msz man mas mak mkp (k : Int) (te : Int) mta (lv : Int) mct mgr mgo mgg), (a 14, cI g 22 NO), (a 5, cZ g 5 MK)]) (ws2 := fun u_51 => [(a 0, oM a mth mrw mrg mbd mnw mlc msz man mas mak mkp (k : Int) (te : Int) mta (lv : Int) mct mgr mgo mgg), (s, cI g len F), (a 14, cI g 22 NO), (a 5, cZ g 5 MK)]) 0 0 zC h hl.1 (c_X8_at l D g s len F fr n (k + 1) hfn hlen (by omega)) (cs8_120 zC ⟨(Nat.le_of_ble_eq_true rfl), (Nat.le_of_ble_eq_true rfl)⟩) rfl rfl (Nat.le_of_ble_eq_true rfl) (pm fun cp_q => by simp only [cp_o, List.countP_append, List.countP_nil] <;> omega) (fun u => (pm fun cp_q => by simp only [cp_o, List.countP_append, List.countP_nil] <;> omega)) ⟨(Nat.le_of_ble_eq_true rfl), (Nat.le_of_ble_eq_true rfl)⟩ (Nat.le_of_ble_eq_true rfl) (Nat.le_of_ble_eq_true rfl) dX8_look_238 (fun u_51 H locs hu_51 hz_51 h => ?_)
                    rw [atX_T]
                    have hxR_50 := atX_R (k := (k + 1)) hR
                    refine lv_istore (lv' := [(10, .int (iI (atX (fun k => F (fr + k)) n (k + 1)))), (9, .int (iI (fOf (atX (fun k => F (fr + k)) n k)))), (8, .int (iI (atX (fun k => F (fr + k)) n k))), (0, .ref (a 0)), (1, .ref s), (2, .int (iI (fr : Int))), (3, .int (iI (n : Int))), (4, .int (iI dp)), (5, .int (iI (k : Int))), (6, .int (bI true)), (7, .int (bI true))]) zx zb dX8_look_241 hl (by decide) rfl (fun ls hl => ?_)
                    refine lv_aload_n zx zb dX8_look_243 rfl (lv_at hl 3 rfl) ?_
                    refine lv_aload_n zx zb dX8_look_244 rfl (lv_at hl 3 rfl) ?_
                    refine gf8_114 (v := .int (iI (k : Int))) zC h 0 rfl rfl dX8_look_245 ?_
                    refine i_zge (a := (k : Int)) (tgt := 279) zC dX8_look_248 (by decide) (by omega) (fun c_52 => ?_) (fun c_52 => absurd c_52 (by omega))
                    refine lv_aload_n zx zb dX8_look_279 rfl (lv_at hl 3 rfl) ?_
                    refine gf8_114 (v := .int (iI (k : Int))) zC h 0 rfl rfl dX8_look_280 ?_
                    refine pf8_114 (x := iI (k : Int)) zC h 0 (ws' := [(a 0, oM a mth mrw mrg mbd mnw mlc msz man mas mak mkp (k : Int) (te : Int) mta (lv : Int) mct mgr mgo mgg), (s, cI g len F), (a 14, cI g 22 NO), (a 5, cZ g 5 MK)]) rfl rfl (Nat.le_of_ble_eq_true rfl) dX8_look_283 (fun H locs h => ?_)
                    exact J286_33 (k : Int) _ _ _ ⟨fun q => absurd q (by omega), fun _ => hF⟩ (by omega) h (lv_sub hl [3, 4, 5, 6, 7, 8, 9, 10] rfl)
                  · skip
                    have hf := c_50
                    refine lv_aload_n zx zb dX8_look_203 rfl (lv_at hl 2 rfl) ?_
                    refine gf8_22 (v := .ref (a 5)) zC h 0 rfl rfl dX8_look_204 ?_
                    refine lv_iload zx zb dX8_look_207 (lv_at hl 0 rfl) ?_
                    refine a_zld zC h 3 rfl (z := fOf (atX (fun k => F (fr + k)) n k)) ((fOf (atX (fun k => F (fr + k)) n k)).toNat) (by omega) (by omega) (by decide) dX8_look_209 ?_
                    refine b_zne (b := MK ((fOf (atX (fun k => F (fr + k)) n k)).toNat)) (tgt := 222) zC dX8_look_210 (by decide) (fun c_53 => ?_) (fun c_53 => ?_)
                    · skip
                      have hF : LF MK (fun k => F (fr + k)) n (rBegin r) (k : Int) := B1 hI h33 h40 (Or.inr (Or.inl c_53))
                      refine lv_iload zx zb dX8_look_222 (lv_at hl 7 rfl) ?_
                      refine lv_goto (tgt := 228) zx zb dX8_look_224 (by decide) ?_
                      refine pf8_114 (x := iI (k : Int)) zC h 0 (ws' := [(a 0, oM a mth mrw mrg mbd mnw mlc msz man mas mak mkp (k : Int) (te : Int) mta (lv : Int) mct mgr mgo mgg), (s, cI g len F), (a 14, cI g 22 NO), (a 5, cZ g 5 MK)]) rfl rfl (Nat.le_of_ble_eq_true rfl) dX8_look_228 (fun H locs h => ?_)
                      refine lv_aload_n zx zb dX8_look_231 rfl (lv_at hl 3 rfl) ?_
                      refine lv_iload_n zx zb dX8_look_232 rfl (lv_at hl 4 rfl) ?_
                      refine lv_iload_n zx zb dX8_look_233 rfl (lv_at hl 5 rfl) ?_
                      refine lv_iload zx zb dX8_look_234 (lv_at hl 7 rfl) ?_
                      refine lv_iconst (v := iI (1)) zx zb dX8_look_236 rfl ?_
                      refine i_add zC (a := (k : Int)) (b := 1) dX8_look_237 ?_
                      rw [show ((k : Int) + 1 : Int) = ((k + 1 : Nat) : Int) from by omega]
                      refine r_invS (As := [.ref s, .int (iI (fr : Int)), .int (iI (n : Int)), .int (iI ((k + 1 : Nat) : Int))]) (rest := []) (wr := [(a 0, oM a mth mrw mrg mbd mnw mlc msz man mas mak mkp (k : Int) (te : Int) mta (lv : Int) mct mgr mgo mgg), (a 14, cI g 22 NO), (a 5, cZ g 5 MK)]) (ws2 := fun u_54 => [(a 0, oM a mth mrw mrg mbd mnw mlc msz man mas mak mkp (k : Int) (te : Int) mta (lv : Int) mct mgr mgo mgg), (s, cI g len F), (a 14, cI g 22 NO), (a 5, cZ g 5 MK)]) 0 0 zC h hl.1 (c_X8_at l D g s len F fr n (k + 1) hfn hlen (by omega)) (cs8_120 zC ⟨(Nat.le_of_ble_eq_true rfl), (Nat.le_of_ble_eq_true rfl)⟩) rfl rfl (Nat.le_of_ble_eq_true rfl) (pm fun cp_q => by simp only [cp_o, List.countP_append, List.countP_nil] <;> omega) (fun u => (pm fun cp_q => by simp only [cp_o, List.countP_append, List.countP_nil] <;> omega)) ⟨(Nat.le_of_ble_eq_true rfl), (Nat.le_of_ble_eq_true rfl)⟩ (Nat.le_of_ble_eq_true rfl) (Nat.le_of_ble_eq_true rfl) dX8_look_238 (fun u_54 H locs hu_54 hz_54 h => ?_)
                      rw [atX_T]
                      have hxR_53 := atX_R (k := (k + 1)) hR
                      refine lv_istore (lv' := [(10, .int (iI (atX (fun k => F (fr + k)) n (k + 1)))), (9, .int (iI (fOf (atX (fun k => F (fr + k)) n k)))), (8, .int (iI (atX (fun k => F (fr + k)) n k))), (0, .ref (a 0)), (1, .ref s), (2, .int (iI (fr : Int))), (3, .int (iI (n : Int))), (4, .int (iI dp)), (5, .int (iI (k : Int))), (6, .int (bI true)), (7, .int (bI true))]) zx zb dX8_look_241 hl (by decide) rfl (fun ls hl => ?_)
                      refine lv_aload_n zx zb dX8_look_243 rfl (lv_at hl 3 rfl) ?_
                      refine lv_aload_n zx zb dX8_look_244 rfl (lv_at hl 3 rfl) ?_
                      refine gf8_114 (v := .int (iI (k : Int))) zC h 0 rfl rfl dX8_look_245 ?_
                      refine i_zge (a := (k : Int)) (tgt := 279) zC dX8_look_248 (by decide) (by omega) (fun c_55 => ?_) (fun c_55 => absurd c_55 (by omega))
                      refine lv_aload_n zx zb dX8_look_279 rfl (lv_at hl 3 rfl) ?_
                      refine gf8_114 (v := .int (iI (k : Int))) zC h 0 rfl rfl dX8_look_280 ?_
                      refine pf8_114 (x := iI (k : Int)) zC h 0 (ws' := [(a 0, oM a mth mrw mrg mbd mnw mlc msz man mas mak mkp (k : Int) (te : Int) mta (lv : Int) mct mgr mgo mgg), (s, cI g len F), (a 14, cI g 22 NO), (a 5, cZ g 5 MK)]) rfl rfl (Nat.le_of_ble_eq_true rfl) dX8_look_283 (fun H locs h => ?_)
                      exact J286_33 (k : Int) _ _ _ ⟨fun q => absurd q (by omega), fun _ => hF⟩ (by omega) h (lv_sub hl [3, 4, 5, 6, 7, 8, 9, 10] rfl)
                    · skip
                      have hm := c_53
                      refine lv_aload_n zx zb dX8_look_213 rfl (lv_at hl 2 rfl) ?_
                      refine gf8_117 (v := .int (iI (te : Int))) zC h 0 rfl rfl dX8_look_214 ?_
                      refine lv_bipush (v := iI (40)) zx zb dX8_look_217 rfl ?_
                      refine i_cne (a := (te : Int)) (b := 40) (tgt := 227) zC dX8_look_219 (by decide) (by omega) (fun c_56 => ?_) (fun c_56 => ?_)
                      · skip
                        have ht : te ≠ 40 := by omega
                        refine lv_iconst (v := iI (-1)) zx zb dX8_look_227 rfl ?_
                        refine pf8_114 (x := iI (-1)) zC h 0 (ws' := [(a 0, oM a mth mrw mrg mbd mnw mlc msz man mas mak mkp (-1) (te : Int) mta (lv : Int) mct mgr mgo mgg), (s, cI g len F), (a 14, cI g 22 NO), (a 5, cZ g 5 MK)]) rfl rfl (Nat.le_of_ble_eq_true rfl) dX8_look_228 (fun H locs h => ?_)
                        refine lv_aload_n zx zb dX8_look_231 rfl (lv_at hl 3 rfl) ?_
                        refine lv_iload_n zx zb dX8_look_232 rfl (lv_at hl 4 rfl) ?_
                        refine lv_iload_n zx zb dX8_look_233 rfl (lv_at hl 5 rfl) ?_
                        refine lv_iload zx zb dX8_look_234 (lv_at hl 7 rfl) ?_
                        refine lv_iconst (v := iI (1)) zx zb dX8_look_236 rfl ?_
                        refine i_add zC (a := (k : Int)) (b := 1) dX8_look_237 ?_
                        rw [show ((k : Int) + 1 : Int) = ((k + 1 : Nat) : Int) from by omega]
                        refine r_invS (As := [.ref s, .int (iI (fr : Int)), .int (iI (n : Int)), .int (iI ((k + 1 : Nat) : Int))]) (rest := []) (wr := [(a 0, oM a mth mrw mrg mbd mnw mlc msz man mas mak mkp (-1) (te : Int) mta (lv : Int) mct mgr mgo mgg), (a 14, cI g 22 NO), (a 5, cZ g 5 MK)]) (ws2 := fun u_57 => [(a 0, oM a mth mrw mrg mbd mnw mlc msz man mas mak mkp (-1) (te : Int) mta (lv : Int) mct mgr mgo mgg), (s, cI g len F), (a 14, cI g 22 NO), (a 5, cZ g 5 MK)]) 0 0 zC h hl.1 (c_X8_at l D g s len F fr n (k + 1) hfn hlen (by omega)) (cs8_120 zC ⟨(Nat.le_of_ble_eq_true rfl), (Nat.le_of_ble_eq_true rfl)⟩) rfl rfl (Nat.le_of_ble_eq_true rfl) (pm fun cp_q => by simp only [cp_o, List.countP_append, List.countP_nil] <;> omega) (fun u => (pm fun cp_q => by simp only [cp_o, List.countP_append, List.countP_nil] <;> omega)) ⟨(Nat.le_of_ble_eq_true rfl), (Nat.le_of_ble_eq_true rfl)⟩ (Nat.le_of_ble_eq_true rfl) (Nat.le_of_ble_eq_true rfl) dX8_look_238 (fun u_57 H locs hu_57 hz_57 h => ?_)
                        rw [atX_T]
                        have hxR_56 := atX_R (k := (k + 1)) hR
                        refine lv_istore (lv' := [(10, .int (iI (atX (fun k => F (fr + k)) n (k + 1)))), (9, .int (iI (fOf (atX (fun k => F (fr + k)) n k)))), (8, .int (iI (atX (fun k => F (fr + k)) n k))), (0, .ref (a 0)), (1, .ref s), (2, .int (iI (fr : Int))), (3, .int (iI (n : Int))), (4, .int (iI dp)), (5, .int (iI (k : Int))), (6, .int (bI true)), (7, .int (bI true))]) zx zb dX8_look_241 hl (by decide) rfl (fun ls hl => ?_)
                        refine lv_aload_n zx zb dX8_look_243 rfl (lv_at hl 3 rfl) ?_
                        refine lv_aload_n zx zb dX8_look_244 rfl (lv_at hl 3 rfl) ?_
                        refine gf8_114 (v := .int (iI (-1))) zC h 0 rfl rfl dX8_look_245 ?_
                        refine i_zge (a := -1) (tgt := 279) zC dX8_look_248 (by decide) (by omega) (fun c_58 => absurd c_58 (by omega)) (fun c_58 => ?_)
                        refine lv_iload zx zb dX8_look_251 (lv_at hl 0 rfl) ?_
                        refine lv_bipush (v := iI (61)) zx zb dX8_look_253 rfl ?_
                        refine i_ceq (a := atX (fun k => F (fr + k)) n (k + 1)) (b := 61) (tgt := 279) zC dX8_look_255 (by decide) (by omega) (fun c_59 => ?_) (fun c_59 => ?_)
                        · skip
                          have hD := B3 hI h33 h40 hf hm ht (Or.inl c_59)
                          refine lv_aload_n zx zb dX8_look_279 rfl (lv_at hl 3 rfl) ?_
                          refine gf8_114 (v := .int (iI (-1))) zC h 0 rfl rfl dX8_look_280 ?_
                          refine pf8_114 (x := iI (-1)) zC h 0 (ws' := [(a 0, oM a mth mrw mrg mbd mnw mlc msz man mas mak mkp (-1) (te : Int) mta (lv : Int) mct mgr mgo mgg), (s, cI g len F), (a 14, cI g 22 NO), (a 5, cZ g 5 MK)]) rfl rfl (Nat.le_of_ble_eq_true rfl) dX8_look_283 (fun H locs h => ?_)
                          exact J286_33 (-1) _ _ _ ⟨fun _ => ⟨by omega, hD⟩, fun q => absurd q (by omega)⟩ (by omega) h (lv_sub hl [3, 4, 5, 6, 7, 8, 9, 10] rfl)
                        · skip
                          have ho1 := c_59
                          refine lv_iload zx zb dX8_look_258 (lv_at hl 0 rfl) ?_
                          refine lv_bipush (v := iI (60)) zx zb dX8_look_260 rfl ?_
                          refine i_ceq (a := atX (fun k => F (fr + k)) n (k + 1)) (b := 60) (tgt := 279) zC dX8_look_262 (by decide) (by omega) (fun c_60 => ?_) (fun c_60 => ?_)
                          · skip
                            have hD := B3 hI h33 h40 hf hm ht (Or.inr (Or.inl c_60))
                            refine lv_aload_n zx zb dX8_look_279 rfl (lv_at hl 3 rfl) ?_
                            refine gf8_114 (v := .int (iI (-1))) zC h 0 rfl rfl dX8_look_280 ?_
                            refine pf8_114 (x := iI (-1)) zC h 0 (ws' := [(a 0, oM a mth mrw mrg mbd mnw mlc msz man mas mak mkp (-1) (te : Int) mta (lv : Int) mct mgr mgo mgg), (s, cI g len F), (a 14, cI g 22 NO), (a 5, cZ g 5 MK)]) rfl rfl (Nat.le_of_ble_eq_true rfl) dX8_look_283 (fun H locs h => ?_)
                            exact J286_33 (-1) _ _ _ ⟨fun _ => ⟨by omega, hD⟩, fun q => absurd q (by omega)⟩ (by omega) h (lv_sub hl [3, 4, 5, 6, 7, 8, 9, 10] rfl)
                          · skip
                            have ho2 := c_60
                            refine lv_iload zx zb dX8_look_265 (lv_at hl 0 rfl) ?_
                            refine lv_bipush (v := iI (62)) zx zb dX8_look_267 rfl ?_
                            refine i_ceq (a := atX (fun k => F (fr + k)) n (k + 1)) (b := 62) (tgt := 279) zC dX8_look_269 (by decide) (by omega) (fun c_61 => ?_) (fun c_61 => ?_)
                            · skip
                              have hD := B3 hI h33 h40 hf hm ht (Or.inr (Or.inr c_61))
                              refine lv_aload_n zx zb dX8_look_279 rfl (lv_at hl 3 rfl) ?_
                              refine gf8_114 (v := .int (iI (-1))) zC h 0 rfl rfl dX8_look_280 ?_
                              refine pf8_114 (x := iI (-1)) zC h 0 (ws' := [(a 0, oM a mth mrw mrg mbd mnw mlc msz man mas mak mkp (-1) (te : Int) mta (lv : Int) mct mgr mgo mgg), (s, cI g len F), (a 14, cI g 22 NO), (a 5, cZ g 5 MK)]) rfl rfl (Nat.le_of_ble_eq_true rfl) dX8_look_283 (fun H locs h => ?_)
                              exact J286_33 (-1) _ _ _ ⟨fun _ => ⟨by omega, hD⟩, fun q => absurd q (by omega)⟩ (by omega) h (lv_sub hl [3, 4, 5, 6, 7, 8, 9, 10] rfl)
                            · skip
                              have hF : LF MK (fun k => F (fr + k)) n (rBegin r) ((k : Int) + 1) := B2 hI h33 h40 hf hm ht ho1 ho2 c_61
                              refine lv_iload zx zb dX8_look_272 (lv_at hl 8 rfl) ?_
                              refine lv_iconst (v := iI (1)) zx zb dX8_look_274 rfl ?_
                              refine i_add zC (a := (k : Int)) (b := 1) dX8_look_275 ?_
                              refine lv_goto (tgt := 283) zx zb dX8_look_276 (by decide) ?_
                              refine pf8_114 (x := iI ((k : Int) + 1)) zC h 0 (ws' := [(a 0, oM a mth mrw mrg mbd mnw mlc msz man mas mak mkp ((k : Int) + 1) (te : Int) mta (lv : Int) mct mgr mgo mgg), (s, cI g len F), (a 14, cI g 22 NO), (a 5, cZ g 5 MK)]) rfl rfl (Nat.le_of_ble_eq_true rfl) dX8_look_283 (fun H locs h => ?_)
                              exact J286_33 ((k : Int) + 1) _ _ _ ⟨fun q => absurd q (by omega), fun _ => hF⟩ (by omega) h (lv_sub hl [3, 4, 5, 6, 7, 8, 9, 10] rfl)
                      · skip
                        have hF : LF MK (fun k => F (fr + k)) n (rBegin r) (k : Int) := B1 hI h33 h40 (Or.inr (Or.inr (by omega)))
                        refine lv_iload zx zb dX8_look_222 (lv_at hl 7 rfl) ?_
                        refine lv_goto (tgt := 228) zx zb dX8_look_224 (by decide) ?_
                        refine pf8_114 (x := iI (k : Int)) zC h 0 (ws' := [(a 0, oM a mth mrw mrg mbd mnw mlc msz man mas mak mkp (k : Int) (te : Int) mta (lv : Int) mct mgr mgo mgg), (s, cI g len F), (a 14, cI g 22 NO), (a 5, cZ g 5 MK)]) rfl rfl (Nat.le_of_ble_eq_true rfl) dX8_look_228 (fun H locs h => ?_)
                        refine lv_aload_n zx zb dX8_look_231 rfl (lv_at hl 3 rfl) ?_
                        refine lv_iload_n zx zb dX8_look_232 rfl (lv_at hl 4 rfl) ?_
                        refine lv_iload_n zx zb dX8_look_233 rfl (lv_at hl 5 rfl) ?_
                        refine lv_iload zx zb dX8_look_234 (lv_at hl 7 rfl) ?_
                        refine lv_iconst (v := iI (1)) zx zb dX8_look_236 rfl ?_
                        refine i_add zC (a := (k : Int)) (b := 1) dX8_look_237 ?_
                        rw [show ((k : Int) + 1 : Int) = ((k + 1 : Nat) : Int) from by omega]
                        refine r_invS (As := [.ref s, .int (iI (fr : Int)), .int (iI (n : Int)), .int (iI ((k + 1 : Nat) : Int))]) (rest := []) (wr := [(a 0, oM a mth mrw mrg mbd mnw mlc msz man mas mak mkp (k : Int) (te : Int) mta (lv : Int) mct mgr mgo mgg), (a 14, cI g 22 NO), (a 5, cZ g 5 MK)]) (ws2 := fun u_62 => [(a 0, oM a mth mrw mrg mbd mnw mlc msz man mas mak mkp (k : Int) (te : Int) mta (lv : Int) mct mgr mgo mgg), (s, cI g len F), (a 14, cI g 22 NO), (a 5, cZ g 5 MK)]) 0 0 zC h hl.1 (c_X8_at l D g s len F fr n (k + 1) hfn hlen (by omega)) (cs8_120 zC ⟨(Nat.le_of_ble_eq_true rfl), (Nat.le_of_ble_eq_true rfl)⟩) rfl rfl (Nat.le_of_ble_eq_true rfl) (pm fun cp_q => by simp only [cp_o, List.countP_append, List.countP_nil] <;> omega) (fun u => (pm fun cp_q => by simp only [cp_o, List.countP_append, List.countP_nil] <;> omega)) ⟨(Nat.le_of_ble_eq_true rfl), (Nat.le_of_ble_eq_true rfl)⟩ (Nat.le_of_ble_eq_true rfl) (Nat.le_of_ble_eq_true rfl) dX8_look_238 (fun u_62 H locs hu_62 hz_62 h => ?_)
                        rw [atX_T]
                        have hxR_61 := atX_R (k := (k + 1)) hR
                        refine lv_istore (lv' := [(10, .int (iI (atX (fun k => F (fr + k)) n (k + 1)))), (9, .int (iI (fOf (atX (fun k => F (fr + k)) n k)))), (8, .int (iI (atX (fun k => F (fr + k)) n k))), (0, .ref (a 0)), (1, .ref s), (2, .int (iI (fr : Int))), (3, .int (iI (n : Int))), (4, .int (iI dp)), (5, .int (iI (k : Int))), (6, .int (bI true)), (7, .int (bI true))]) zx zb dX8_look_241 hl (by decide) rfl (fun ls hl => ?_)
                        refine lv_aload_n zx zb dX8_look_243 rfl (lv_at hl 3 rfl) ?_
                        refine lv_aload_n zx zb dX8_look_244 rfl (lv_at hl 3 rfl) ?_
                        refine gf8_114 (v := .int (iI (k : Int))) zC h 0 rfl rfl dX8_look_245 ?_
                        refine i_zge (a := (k : Int)) (tgt := 279) zC dX8_look_248 (by decide) (by omega) (fun c_63 => ?_) (fun c_63 => absurd c_63 (by omega))
                        refine lv_aload_n zx zb dX8_look_279 rfl (lv_at hl 3 rfl) ?_
                        refine gf8_114 (v := .int (iI (k : Int))) zC h 0 rfl rfl dX8_look_280 ?_
                        refine pf8_114 (x := iI (k : Int)) zC h 0 (ws' := [(a 0, oM a mth mrw mrg mbd mnw mlc msz man mas mak mkp (k : Int) (te : Int) mta (lv : Int) mct mgr mgo mgg), (s, cI g len F), (a 14, cI g 22 NO), (a 5, cZ g 5 MK)]) rfl rfl (Nat.le_of_ble_eq_true rfl) dX8_look_283 (fun H locs h => ?_)
                        exact J286_33 (k : Int) _ _ _ ⟨fun q => absurd q (by omega), fun _ => hF⟩ (by omega) h (lv_sub hl [3, 4, 5, 6, 7, 8, 9, 10] rfl)
                · skip
                  have hc := c_31
                  refine lv_aload_n zx zb dX8_look_97 rfl (lv_at hl 1 rfl) ?_
                  refine lv_iload zx zb dX8_look_98 (lv_at hl 5 rfl) ?_
                  refine lv_bipush (v := iI (20)) zx zb dX8_look_100 rfl ?_
                  refine i_cne (a := dp) (b := 20) (tgt := 110) zC dX8_look_102 (by decide) (by omega) (fun c_64 => ?_) (fun c_64 => ?_)
                  · skip
                    refine lv_iconst (v := iI (-1)) zx zb dX8_look_110 rfl ?_
                    refine pf8_114 (x := iI (-1)) zC h 0 (ws' := [(a 0, oM a mth mrw mrg mbd mnw mlc msz man mas mak mkp (-1) (te : Int) mta (lv : Int) mct mgr mgo mgg), (s, cI g len F), (a 14, cI g 22 NO), (a 5, cZ g 5 MK)]) rfl rfl (Nat.le_of_ble_eq_true rfl) dX8_look_111 (fun H locs h => ?_)
                    refine i_inc (q := 5) (a := dp) (lv' := [(4, .int (iI (dp + 1))), (8, .int (iI (atX (fun k => F (fr + k)) n k))), (0, .ref (a 0)), (1, .ref s), (2, .int (iI (fr : Int))), (3, .int (iI (n : Int))), (5, .int (iI (k : Int))), (6, .int (bI true)), (7, .int (bI true))]) zC hl dX8_look_114 rfl (by decide) rfl (fun ls hl => ?_)
                    refine lv_iload zx zb dX8_look_117 (lv_at hl 1 rfl) ?_
                    refine lv_bipush (v := iI (33)) zx zb dX8_look_119 rfl ?_
                    refine i_cne (a := atX (fun k => F (fr + k)) n k) (b := 33) (tgt := 140) zC dX8_look_121 (by decide) (by omega) (fun c_65 => ?_) (fun c_65 => absurd c_65 (by omega))
                    refine lv_aload_n zx zb dX8_look_140 rfl (lv_at hl 2 rfl) ?_
                    refine lv_dup zx zb dX8_look_141 rfl ?_
                    refine gf8_111 (v := .int (iI (lv : Int))) zC h 0 rfl rfl dX8_look_142 ?_
                    refine lv_iconst (v := iI (1)) zx zb dX8_look_145 rfl ?_
                    refine i_add zC (a := (lv : Int)) (b := 1) dX8_look_146 ?_
                    rw [show ((lv : Int) + 1 : Int) = ((lv + 1 : Nat) : Int) from by omega]
                    refine pf8_111 (x := iI ((lv + 1 : Nat) : Int)) zC h 0 (ws' := [(a 0, oM a mth mrw mrg mbd mnw mlc msz man mas mak mkp (-1) (te : Int) mta ((lv + 1 : Nat) : Int) mct mgr mgo mgg), (s, cI g len F), (a 14, cI g 22 NO), (a 5, cZ g 5 MK)]) rfl rfl (Nat.le_of_ble_eq_true rfl) dX8_look_147 (fun H locs h => ?_)
                    refine lv_aload_n zx zb dX8_look_150 rfl (lv_at hl 2 rfl) ?_
                    refine gf8_57 (v := .ref (a 14)) zC h 0 rfl rfl dX8_look_151 ?_
                    refine lv_aload_n zx zb dX8_look_154 rfl (lv_at hl 2 rfl) ?_
                    refine gf8_111 (v := .int (iI ((lv + 1 : Nat) : Int))) zC h 0 rfl rfl dX8_look_155 ?_
                    refine lv_aload_n zx zb dX8_look_158 rfl (lv_at hl 2 rfl) ?_
                    refine gf8_114 (v := .int (iI (-1))) zC h 0 rfl rfl dX8_look_159 ?_
                    refine i_zge (a := -1) (tgt := 169) zC dX8_look_162 (by decide) (by omega) (fun c_66 => absurd c_66 (by omega)) (fun c_66 => ?_)
                    refine lv_iconst (v := iI (0)) zx zb dX8_look_165 rfl ?_
                    refine lv_goto (tgt := 178) zx zb dX8_look_166 (by decide) ?_
                    refine a_ist (x := 0) zC h 2 (ws' := [(a 0, oM a mth mrw mrg mbd mnw mlc msz man mas mak mkp (-1) (te : Int) mta ((lv + 1 : Nat) : Int) mct mgr mgo mgg), (s, cI g len F), (a 14, cI g 22 (up NO (lv + 1) 0)), (a 5, cZ g 5 MK)]) rfl (z := ((lv + 1 : Nat) : Int)) (lv + 1) rfl rfl (by omega) (by decide) dX8_look_178 (fun H locs h => ?_)
                    refine i_inc (q := 6) (a := (k : Int)) (lv' := [(5, .int (iI ((k : Int) + 1))), (4, .int (iI (dp + 1))), (8, .int (iI (atX (fun k => F (fr + k)) n k))), (0, .ref (a 0)), (1, .ref s), (2, .int (iI (fr : Int))), (3, .int (iI (n : Int))), (6, .int (bI true)), (7, .int (bI true))]) zC hl dX8_look_179 rfl (by decide) rfl (fun ls hl => ?_)
                    refine lv_goto (tgt := 454) zx zb dX8_look_182 (by decide) ?_
                    refine lv_goto (tgt := 56) zx zb dX8_look_454 (by decide) ?_
                    exact ih56 true true (k + 1) (dp + 1) (-1) te (lv + 1) (up NO (lv + 1) 0) _ _ _ (by omega) ⟨by omega, fun _ => ⟨by omega, fun _ => (A_o hI hc (by omega)), fun q => absurd q (by decide)⟩, fun q => absurd q (by omega)⟩ (by omega) (by omega) h (lv_sub hl [3, 4, 5, 6, 1, 0, 7, 8] rfl)
                  · skip
                    refine lv_iload zx zb dX8_look_105 (lv_at hl 6 rfl) ?_
                    refine lv_goto (tgt := 111) zx zb dX8_look_107 (by decide) ?_
                    refine pf8_114 (x := iI (k : Int)) zC h 0 (ws' := [(a 0, oM a mth mrw mrg mbd mnw mlc msz man mas mak mkp (k : Int) (te : Int) mta (lv : Int) mct mgr mgo mgg), (s, cI g len F), (a 14, cI g 22 NO), (a 5, cZ g 5 MK)]) rfl rfl (Nat.le_of_ble_eq_true rfl) dX8_look_111 (fun H locs h => ?_)
                    refine i_inc (q := 5) (a := dp) (lv' := [(4, .int (iI (dp + 1))), (8, .int (iI (atX (fun k => F (fr + k)) n k))), (0, .ref (a 0)), (1, .ref s), (2, .int (iI (fr : Int))), (3, .int (iI (n : Int))), (5, .int (iI (k : Int))), (6, .int (bI true)), (7, .int (bI true))]) zC hl dX8_look_114 rfl (by decide) rfl (fun ls hl => ?_)
                    refine lv_iload zx zb dX8_look_117 (lv_at hl 1 rfl) ?_
                    refine lv_bipush (v := iI (33)) zx zb dX8_look_119 rfl ?_
                    refine i_cne (a := atX (fun k => F (fr + k)) n k) (b := 33) (tgt := 140) zC dX8_look_121 (by decide) (by omega) (fun c_67 => ?_) (fun c_67 => absurd c_67 (by omega))
                    refine lv_aload_n zx zb dX8_look_140 rfl (lv_at hl 2 rfl) ?_
                    refine lv_dup zx zb dX8_look_141 rfl ?_
                    refine gf8_111 (v := .int (iI (lv : Int))) zC h 0 rfl rfl dX8_look_142 ?_
                    refine lv_iconst (v := iI (1)) zx zb dX8_look_145 rfl ?_
                    refine i_add zC (a := (lv : Int)) (b := 1) dX8_look_146 ?_
                    rw [show ((lv : Int) + 1 : Int) = ((lv + 1 : Nat) : Int) from by omega]
                    refine pf8_111 (x := iI ((lv + 1 : Nat) : Int)) zC h 0 (ws' := [(a 0, oM a mth mrw mrg mbd mnw mlc msz man mas mak mkp (k : Int) (te : Int) mta ((lv + 1 : Nat) : Int) mct mgr mgo mgg), (s, cI g len F), (a 14, cI g 22 NO), (a 5, cZ g 5 MK)]) rfl rfl (Nat.le_of_ble_eq_true rfl) dX8_look_147 (fun H locs h => ?_)
                    refine lv_aload_n zx zb dX8_look_150 rfl (lv_at hl 2 rfl) ?_
                    refine gf8_57 (v := .ref (a 14)) zC h 0 rfl rfl dX8_look_151 ?_
                    refine lv_aload_n zx zb dX8_look_154 rfl (lv_at hl 2 rfl) ?_
                    refine gf8_111 (v := .int (iI ((lv + 1 : Nat) : Int))) zC h 0 rfl rfl dX8_look_155 ?_
                    refine lv_aload_n zx zb dX8_look_158 rfl (lv_at hl 2 rfl) ?_
                    refine gf8_114 (v := .int (iI (k : Int))) zC h 0 rfl rfl dX8_look_159 ?_
                    refine i_zge (a := (k : Int)) (tgt := 169) zC dX8_look_162 (by decide) (by omega) (fun c_68 => ?_) (fun c_68 => absurd c_68 (by omega))
                    refine lv_aload_n zx zb dX8_look_169 rfl (lv_at hl 2 rfl) ?_
                    refine gf8_57 (v := .ref (a 14)) zC h 0 rfl rfl dX8_look_170 ?_
                    refine lv_aload_n zx zb dX8_look_173 rfl (lv_at hl 2 rfl) ?_
                    refine gf8_111 (v := .int (iI ((lv + 1 : Nat) : Int))) zC h 0 rfl rfl dX8_look_174 ?_
                    refine a_ild zC h 2 rfl (z := ((lv + 1 : Nat) : Int)) (lv + 1) rfl (by omega) (by decide) dX8_look_177 ?_
                    refine a_ist (x := NO (lv + 1)) zC h 2 (ws' := [(a 0, oM a mth mrw mrg mbd mnw mlc msz man mas mak mkp (k : Int) (te : Int) mta ((lv + 1 : Nat) : Int) mct mgr mgo mgg), (s, cI g len F), (a 14, cI g 22 (up NO (lv + 1) (NO (lv + 1)))), (a 5, cZ g 5 MK)]) rfl (z := ((lv + 1 : Nat) : Int)) (lv + 1) rfl rfl (by omega) (by decide) dX8_look_178 (fun H locs h => ?_)
                    refine i_inc (q := 6) (a := (k : Int)) (lv' := [(5, .int (iI ((k : Int) + 1))), (4, .int (iI (dp + 1))), (8, .int (iI (atX (fun k => F (fr + k)) n k))), (0, .ref (a 0)), (1, .ref s), (2, .int (iI (fr : Int))), (3, .int (iI (n : Int))), (6, .int (bI true)), (7, .int (bI true))]) zC hl dX8_look_179 rfl (by decide) rfl (fun ls hl => ?_)
                    refine lv_goto (tgt := 454) zx zb dX8_look_182 (by decide) ?_
                    refine lv_goto (tgt := 56) zx zb dX8_look_454 (by decide) ?_
                    exact ih56 true true (k + 1) (dp + 1) (k : Int) te (lv + 1) (up NO (lv + 1) (NO (lv + 1))) _ _ _ (by omega) ⟨by omega, fun q => absurd q (by omega), fun _ => (A_f hI (by omega) (by omega))⟩ (by omega) (by omega) h (lv_sub hl [3, 4, 5, 6, 1, 0, 7, 8] rfl)
    exact L56_2 _ false false 0 0 (-1) 0 0 (up NO 0 0) _ _ _ (Nat.lt_succ_self _) ⟨by omega, fun _ => ⟨rfl, fun q => absurd q (by decide), fun _ => LE_0 (Or.inl (by omega))⟩, fun q => absurd q (by decide)⟩ (by omega) (by omega) h (lv_sub hl [4, 5, 6, 7, 3, 2, 1, 0] rfl)
  · skip
    refine lv_aload_n zx zb dX8_look_32 rfl (lv_at hl 3 rfl) ?_
    refine lv_iload_n zx zb dX8_look_33 rfl (lv_at hl 4 rfl) ?_
    refine lv_iload_n zx zb dX8_look_34 rfl (lv_at hl 5 rfl) ?_
    refine lv_iconst (v := iI (0)) zx zb dX8_look_35 rfl ?_
    refine r_invS (As := [.ref s, .int (iI (fr : Int)), .int (iI (n : Int)), .int (iI 0)]) (rest := []) (wr := [(a 0, oM a mth mrw mrg mbd mnw mlc msz man mas mak mkp (-1) 0 mta 0 mct mgr mgo mgg), (a 14, cI g 22 (up NO 0 0)), (a 5, cZ g 5 MK)]) (ws2 := fun u_69 => [(a 0, oM a mth mrw mrg mbd mnw mlc msz man mas mak mkp (-1) 0 mta 0 mct mgr mgo mgg), (s, cI g len F), (a 14, cI g 22 (up NO 0 0)), (a 5, cZ g 5 MK)]) 0 0 zC h hl.1 (c_X8_at l D g s len F fr n 0 hfn hlen (by omega)) (cs8_120 zC ⟨(Nat.le_of_ble_eq_true rfl), (Nat.le_of_ble_eq_true rfl)⟩) rfl rfl (Nat.le_of_ble_eq_true rfl) (pm fun cp_q => by simp only [cp_o, List.countP_append, List.countP_nil] <;> omega) (fun u => (pm fun cp_q => by simp only [cp_o, List.countP_append, List.countP_nil] <;> omega)) ⟨(Nat.le_of_ble_eq_true rfl), (Nat.le_of_ble_eq_true rfl)⟩ (Nat.le_of_ble_eq_true rfl) (Nat.le_of_ble_eq_true rfl) dX8_look_36 (fun u_69 H locs hu_69 hz_69 h => ?_)
    rw [atX_T]
    have hxR_68 := atX_R (k := 0) hR
    refine r_invS (As := [.int (iI (atX (fun k => F (fr + k)) n 0))]) (rest := []) (wr := [(a 0, oM a mth mrw mrg mbd mnw mlc msz man mas mak mkp (-1) 0 mta 0 mct mgr mgo mgg), (s, cI g len F), (a 14, cI g 22 (up NO 0 0)), (a 5, cZ g 5 MK)]) (ws2 := fun u_70 => [(a 0, oM a mth mrw mrg mbd mnw mlc msz man mas mak mkp (-1) 0 mta 0 mct mgr mgo mgg), (s, cI g len F), (a 14, cI g 22 (up NO 0 0)), (a 5, cZ g 5 MK)]) 0 0 zC h hl.1 (c_X8_isTail l D g (atX (fun k => F (fr + k)) n 0) (by omega)) (cs8_124 zC ⟨(Nat.le_of_ble_eq_true rfl), (Nat.le_of_ble_eq_true rfl)⟩) rfl rfl (Nat.le_of_ble_eq_true rfl) (List.Perm.refl _) (fun u => List.Perm.refl _) ⟨(Nat.le_of_ble_eq_true rfl), (Nat.le_of_ble_eq_true rfl)⟩ (Nat.le_of_ble_eq_true rfl) (Nat.le_of_ble_eq_true rfl) dX8_look_39 (fun u_70 H locs hu_70 hz_70 h => ?_)
    refine b_zne (b := decide (tOf (atX (fun k => F (fr + k)) n 0) ≠ 0)) (tgt := 49) zC dX8_look_42 (by decide) (fun c_71 => ?_) (fun c_71 => ?_)
    · skip
      simp only [decide_eq_true_eq, decide_eq_false_iff_not] at c_71
      refine lv_iconst (v := iI (0)) zx zb dX8_look_49 rfl ?_
      refine lv_istore (lv' := [(6, .int (iI 0)), (5, .int (iI 0)), (4, .int (iI 0)), (0, .ref (a 0)), (1, .ref s), (2, .int (iI (fr : Int))), (3, .int (iI (n : Int)))]) zx zb dX8_look_50 hl (by decide) rfl (fun ls hl => ?_)
      refine lv_iload zx zb dX8_look_52 (lv_at hl 0 rfl) ?_
      refine lv_istore (lv' := [(7, .int (iI 0)), (6, .int (iI 0)), (5, .int (iI 0)), (4, .int (iI 0)), (0, .ref (a 0)), (1, .ref s), (2, .int (iI (fr : Int))), (3, .int (iI (n : Int)))]) zx zb dX8_look_54 hl (by decide) rfl (fun ls hl => ?_)
      have L56_72 : ∀ (fuel : Nat) (wa : Bool) (mo : Bool) (k : Nat) (dp : Int) (fa : Int) (te : Nat) (lv : Nat) (NO : Nat → Int) (H : Heap) (locs : List Loc) (ls : Array Slot), (n + 8 - k) + mz mo < fuel → (LH MK (fun k => F (fr + k)) n (rBegin r) wa mo k dp fa te lv NO) → (-1 ≤ fa ∧ fa ≤ (n : Int) + 7) → (lv ≤ 21) → Hx D g sT aA sT.heap ([(a 0, oM a mth mrw mrg mbd mnw mlc msz man mas mak mkp fa (te : Int) mta (lv : Int) mct mgr mgo mgg), (s, cI g len F), (a 14, cI g 22 NO), (a 5, cZ g 5 MK)]) H locs → lv_has ls 12 [(0, .ref (a 0)), (1, .ref s), (2, .int (iI (fr : Int))), (3, .int (iI (n : Int))), (4, .int (iI dp)), (5, .int (iI (k : Int))), (6, .int (bI wa)), (7, .int (bI mo))] → W pg l evn rmX8_look sT mI ar bl mtd cd H locs 0 0 qQ (F0 mI 56 ls []) := by
        intro fuel
        induction fuel with
        | zero => intro wa mo k dp fa te lv NO H locs ls hm; exact absurd hm (Nat.not_lt_zero _)
        | succ fuel ih56 =>
          intro wa mo k dp fa te lv NO H locs ls hm hH hfr hlv h hl
          refine lv_iload zx zb dX8_look_56 (lv_at hl 7 rfl) ?_
          refine b_zeq (b := mo) (tgt := 457) zC dX8_look_58 (by decide) (fun c_73 => ?_) (fun c_73 => ?_)
          · skip
            subst c_73
            refine lv_aload_n zx zb dX8_look_457 rfl (lv_at hl 0 rfl) ?_
            refine lv_iload zx zb dX8_look_458 (lv_at hl 5 rfl) ?_
            refine pf8_140 (x := iI (k : Int)) zC h 0 (ws' := [(a 0, oM a mth mrw mrg mbd mnw mlc msz man mas mak mkp fa (te : Int) (k : Int) (lv : Int) mct mgr mgo mgg), (s, cI g len F), (a 14, cI g 22 NO), (a 5, cZ g 5 MK)]) rfl rfl (Nat.le_of_ble_eq_true rfl) dX8_look_460 (fun H locs h => ?_)
            refine lv_aload_n zx zb dX8_look_463 rfl (lv_at hl 0 rfl) ?_
            refine gf8_114 (v := .int (iI fa)) zC h 0 rfl rfl dX8_look_464 ?_
            refine i_zge (a := fa) (tgt := 483) zC dX8_look_467 (by decide) (by omega) (fun c_74 => ?_) (fun c_74 => ?_)
            · skip
              have hF := hH.2.2 c_74
              have hle := LF_R hF
              refine lv_aload_n zx zb dX8_look_483 rfl (lv_at hl 0 rfl) ?_
              refine gf8_114 (v := .int (iI fa)) zC h 0 rfl rfl dX8_look_484 ?_
              refine i_zge (a := fa) (tgt := 503) zC dX8_look_487 (by decide) (by omega) (fun c_75 => ?_) (fun c_75 => absurd c_75 (by omega))
              refine lv_aload_n zx zb dX8_look_503 rfl (lv_at hl 0 rfl) ?_
              refine lv_aload_n zx zb dX8_look_504 rfl (lv_at hl 0 rfl) ?_
              refine gf8_114 (v := .int (iI fa)) zC h 0 rfl rfl dX8_look_505 ?_
              refine lv_iload_n zx zb dX8_look_508 rfl (lv_at hl 3 rfl) ?_
              refine i_cle (a := fa) (b := (n : Int)) (tgt := 516) zC dX8_look_509 (by decide) (by omega) (fun c_76 => ?_) (fun c_76 => absurd c_76 (by omega))
              refine lv_aload_n zx zb dX8_look_516 rfl (lv_at hl 0 rfl) ?_
              refine gf8_114 (v := .int (iI fa)) zC h 0 rfl rfl dX8_look_517 ?_
              refine pf8_114 (x := iI fa) zC h 0 (ws' := [(a 0, oM a mth mrw mrg mbd mnw mlc msz man mas mak mkp fa (te : Int) (k : Int) (lv : Int) mct mgr mgo mgg), (s, cI g len F), (a 14, cI g 22 NO), (a 5, cZ g 5 MK)]) rfl rfl (Nat.le_of_ble_eq_true rfl) dX8_look_520 (fun H locs h => ?_)
              exact r_vret zC zQ zr zk h dX8_look_523 (u := (fa, te, k, lv, NO)) rfl (List.Perm.refl _) (LF_Q hF (by omega)) (Nat.le_of_ble_eq_true rfl) (Nat.le_of_ble_eq_true rfl)
            · skip
              have hE := (hH.2.1 c_74).2.2 rfl
              have hfa := (hH.2.1 c_74).1
              have hkn := hE.1
              refine lv_aload_n zx zb dX8_look_470 rfl (lv_at hl 0 rfl) ?_
              refine gf8_111 (v := .int (iI (lv : Int))) zC h 0 rfl rfl dX8_look_471 ?_
              refine i_zle (a := (lv : Int)) (tgt := 483) zC dX8_look_474 (by decide) (by omega) (fun c_77 => ?_) (fun c_77 => ?_)
              · skip
                have hE0 : LE MK (fun k => F (fr + k)) n (rBegin r) k 0 te := by rw [show (0 : Nat) = lv from by omega]; exact hE
                refine lv_aload_n zx zb dX8_look_483 rfl (lv_at hl 0 rfl) ?_
                refine gf8_114 (v := .int (iI fa)) zC h 0 rfl rfl dX8_look_484 ?_
                refine i_zge (a := fa) (tgt := 503) zC dX8_look_487 (by decide) (by omega) (fun c_78 => absurd c_78 (by omega)) (fun c_78 => ?_)
                refine lv_iload zx zb dX8_look_490 (lv_at hl 5 rfl) ?_
                refine lv_iload_n zx zb dX8_look_492 rfl (lv_at hl 3 rfl) ?_
                refine i_cge (a := (k : Int)) (b := (n : Int)) (tgt := 503) zC dX8_look_493 (by decide) (by omega) (fun c_79 => ?_) (fun c_79 => ?_)
                · skip
                  refine lv_aload_n zx zb dX8_look_503 rfl (lv_at hl 0 rfl) ?_
                  refine lv_aload_n zx zb dX8_look_504 rfl (lv_at hl 0 rfl) ?_
                  refine gf8_114 (v := .int (iI fa)) zC h 0 rfl rfl dX8_look_505 ?_
                  refine lv_iload_n zx zb dX8_look_508 rfl (lv_at hl 3 rfl) ?_
                  refine i_cle (a := fa) (b := (n : Int)) (tgt := 516) zC dX8_look_509 (by decide) (by omega) (fun c_80 => ?_) (fun c_80 => absurd c_80 (by omega))
                  refine lv_aload_n zx zb dX8_look_516 rfl (lv_at hl 0 rfl) ?_
                  refine gf8_114 (v := .int (iI fa)) zC h 0 rfl rfl dX8_look_517 ?_
                  refine pf8_114 (x := iI fa) zC h 0 (ws' := [(a 0, oM a mth mrw mrg mbd mnw mlc msz man mas mak mkp fa (te : Int) (k : Int) (lv : Int) mct mgr mgo mgg), (s, cI g len F), (a 14, cI g 22 NO), (a 5, cZ g 5 MK)]) rfl rfl (Nat.le_of_ble_eq_true rfl) dX8_look_520 (fun H locs h => ?_)
                  exact r_vret zC zQ zr zk h dX8_look_523 (u := (fa, te, k, lv, NO)) rfl (List.Perm.refl _) (by rw [hfa]; exact LE_n hE0 (show n ≤ k by omega)) (Nat.le_of_ble_eq_true rfl) (Nat.le_of_ble_eq_true rfl)
                · skip
                  refine lv_aload_n zx zb dX8_look_496 rfl (lv_at hl 0 rfl) ?_
                  refine lv_aload_n zx zb dX8_look_497 rfl (lv_at hl 1 rfl) ?_
                  refine lv_iload_n zx zb dX8_look_498 rfl (lv_at hl 2 rfl) ?_
                  refine lv_iload_n zx zb dX8_look_499 rfl (lv_at hl 3 rfl) ?_
                  refine r_invV (As := [.ref s, .int (iI (fr : Int)), .int (iI (n : Int))]) (rest := []) (wr := [(a 14, cI g 22 NO)]) (ws2 := fun u_81 => [(a 0, oM a mth mrw mrg mbd mnw mlc msz man mas mak mkp u_81 (te : Int) (k : Int) (lv : Int) mct mgr mgo mgg), (s, cI g len F), (a 14, cI g 22 NO), (a 5, cZ g 5 MK)]) 0 0 zC h hl.1 (c_X8_lookAtTail l D g a mth mrw mrg mbd mnw mlc msz mas mak mkp fa (te : Int) (lv : Int) mct mgo man mgr mgg k s len F MK fr n te r hfn hlen hR hE0 (by omega)) (cs8_143 zC ⟨(Nat.le_of_ble_eq_true rfl), (Nat.le_of_ble_eq_true rfl)⟩) (.head _) rfl rfl rfl (Nat.le_of_ble_eq_true rfl) (pm fun cp_q => by simp only [cp_o, List.countP_append, List.countP_nil] <;> omega) (fun u => (pm fun cp_q => by simp only [cp_o, List.countP_append, List.countP_nil] <;> omega)) ⟨(Nat.le_of_ble_eq_true rfl), (Nat.le_of_ble_eq_true rfl)⟩ (Nat.le_of_ble_eq_true rfl) (Nat.le_of_ble_eq_true rfl) dX8_look_500 (fun u_81 H locs hu_81 hz_81 h => ?_)
                  have hle := LQ_R hu_81
                  refine lv_aload_n zx zb dX8_look_503 rfl (lv_at hl 0 rfl) ?_
                  refine lv_aload_n zx zb dX8_look_504 rfl (lv_at hl 0 rfl) ?_
                  refine gf8_114 (v := .int (iI u_81)) zC h 0 rfl rfl dX8_look_505 ?_
                  refine lv_iload_n zx zb dX8_look_508 rfl (lv_at hl 3 rfl) ?_
                  refine i_cle (a := u_81) (b := (n : Int)) (tgt := 516) zC dX8_look_509 (by decide) (by omega) (fun c_82 => ?_) (fun c_82 => absurd c_82 (by omega))
                  refine lv_aload_n zx zb dX8_look_516 rfl (lv_at hl 0 rfl) ?_
                  refine gf8_114 (v := .int (iI u_81)) zC h 0 rfl rfl dX8_look_517 ?_
                  refine pf8_114 (x := iI u_81) zC h 0 (ws' := [(a 0, oM a mth mrw mrg mbd mnw mlc msz man mas mak mkp u_81 (te : Int) (k : Int) (lv : Int) mct mgr mgo mgg), (s, cI g len F), (a 14, cI g 22 NO), (a 5, cZ g 5 MK)]) rfl rfl (Nat.le_of_ble_eq_true rfl) dX8_look_520 (fun H locs h => ?_)
                  exact r_vret zC zQ zr zk h dX8_look_523 (u := (u_81, te, k, lv, NO)) rfl (List.Perm.refl _) hu_81 (Nat.le_of_ble_eq_true rfl) (Nat.le_of_ble_eq_true rfl)
              · skip
                have hF := LE_lv hE (by omega)
                refine lv_aload_n zx zb dX8_look_477 rfl (lv_at hl 0 rfl) ?_
                refine lv_iload zx zb dX8_look_478 (lv_at hl 5 rfl) ?_
                refine pf8_114 (x := iI (k : Int)) zC h 0 (ws' := [(a 0, oM a mth mrw mrg mbd mnw mlc msz man mas mak mkp (k : Int) (te : Int) (k : Int) (lv : Int) mct mgr mgo mgg), (s, cI g len F), (a 14, cI g 22 NO), (a 5, cZ g 5 MK)]) rfl rfl (Nat.le_of_ble_eq_true rfl) dX8_look_480 (fun H locs h => ?_)
                refine lv_aload_n zx zb dX8_look_483 rfl (lv_at hl 0 rfl) ?_
                refine gf8_114 (v := .int (iI (k : Int))) zC h 0 rfl rfl dX8_look_484 ?_
                refine i_zge (a := (k : Int)) (tgt := 503) zC dX8_look_487 (by decide) (by omega) (fun c_83 => ?_) (fun c_83 => absurd c_83 (by omega))
                refine lv_aload_n zx zb dX8_look_503 rfl (lv_at hl 0 rfl) ?_
                refine lv_aload_n zx zb dX8_look_504 rfl (lv_at hl 0 rfl) ?_
                refine gf8_114 (v := .int (iI (k : Int))) zC h 0 rfl rfl dX8_look_505 ?_
                refine lv_iload_n zx zb dX8_look_508 rfl (lv_at hl 3 rfl) ?_
                refine i_cle (a := (k : Int)) (b := (n : Int)) (tgt := 516) zC dX8_look_509 (by decide) (by omega) (fun c_84 => ?_) (fun c_84 => absurd c_84 (by omega))
                refine lv_aload_n zx zb dX8_look_516 rfl (lv_at hl 0 rfl) ?_
                refine gf8_114 (v := .int (iI (k : Int))) zC h 0 rfl rfl dX8_look_517 ?_
                refine pf8_114 (x := iI (k : Int)) zC h 0 (ws' := [(a 0, oM a mth mrw mrg mbd mnw mlc msz man mas mak mkp (k : Int) (te : Int) (k : Int) (lv : Int) mct mgr mgo mgg), (s, cI g len F), (a 14, cI g 22 NO), (a 5, cZ g 5 MK)]) rfl rfl (Nat.le_of_ble_eq_true rfl) dX8_look_520 (fun H locs h => ?_)
                exact r_vret zC zQ zr zk h dX8_look_523 (u := ((k : Int), te, k, lv, NO)) rfl (List.Perm.refl _) (LF_Q hF (by omega)) (Nat.le_of_ble_eq_true rfl) (Nat.le_of_ble_eq_true rfl)
          · skip
            subst c_73
            refine lv_aload_n zx zb dX8_look_61 rfl (lv_at hl 0 rfl) ?_
            refine gf8_114 (v := .int (iI fa)) zC h 0 rfl rfl dX8_look_62 ?_
            refine i_zge (a := fa) (tgt := 457) zC dX8_look_65 (by decide) (by omega) (fun c_85 => ?_) (fun c_85 => ?_)
            · skip
              refine lv_aload_n zx zb dX8_look_457 rfl (lv_at hl 0 rfl) ?_
              refine lv_iload zx zb dX8_look_458 (lv_at hl 5 rfl) ?_
              refine pf8_140 (x := iI (k : Int)) zC h 0 (ws' := [(a 0, oM a mth mrw mrg mbd mnw mlc msz man mas mak mkp fa (te : Int) (k : Int) (lv : Int) mct mgr mgo mgg), (s, cI g len F), (a 14, cI g 22 NO), (a 5, cZ g 5 MK)]) rfl rfl (Nat.le_of_ble_eq_true rfl) dX8_look_460 (fun H locs h => ?_)
              refine lv_aload_n zx zb dX8_look_463 rfl (lv_at hl 0 rfl) ?_
              refine gf8_114 (v := .int (iI fa)) zC h 0 rfl rfl dX8_look_464 ?_
              refine i_zge (a := fa) (tgt := 483) zC dX8_look_467 (by decide) (by omega) (fun c_86 => ?_) (fun c_86 => absurd c_86 (by omega))
              have hF := hH.2.2 c_86
              have hle := LF_R hF
              refine lv_aload_n zx zb dX8_look_483 rfl (lv_at hl 0 rfl) ?_
              refine gf8_114 (v := .int (iI fa)) zC h 0 rfl rfl dX8_look_484 ?_
              refine i_zge (a := fa) (tgt := 503) zC dX8_look_487 (by decide) (by omega) (fun c_87 => ?_) (fun c_87 => absurd c_87 (by omega))
              refine lv_aload_n zx zb dX8_look_503 rfl (lv_at hl 0 rfl) ?_
              refine lv_aload_n zx zb dX8_look_504 rfl (lv_at hl 0 rfl) ?_
              refine gf8_114 (v := .int (iI fa)) zC h 0 rfl rfl dX8_look_505 ?_
              refine lv_iload_n zx zb dX8_look_508 rfl (lv_at hl 3 rfl) ?_
              refine i_cle (a := fa) (b := (n : Int)) (tgt := 516) zC dX8_look_509 (by decide) (by omega) (fun c_88 => ?_) (fun c_88 => absurd c_88 (by omega))
              refine lv_aload_n zx zb dX8_look_516 rfl (lv_at hl 0 rfl) ?_
              refine gf8_114 (v := .int (iI fa)) zC h 0 rfl rfl dX8_look_517 ?_
              refine pf8_114 (x := iI fa) zC h 0 (ws' := [(a 0, oM a mth mrw mrg mbd mnw mlc msz man mas mak mkp fa (te : Int) (k : Int) (lv : Int) mct mgr mgo mgg), (s, cI g len F), (a 14, cI g 22 NO), (a 5, cZ g 5 MK)]) rfl rfl (Nat.le_of_ble_eq_true rfl) dX8_look_520 (fun H locs h => ?_)
              exact r_vret zC zQ zr zk h dX8_look_523 (u := (fa, te, k, lv, NO)) rfl (List.Perm.refl _) (LF_Q hF (by omega)) (Nat.le_of_ble_eq_true rfl) (Nat.le_of_ble_eq_true rfl)
            · skip
              have hI := (hH.2.1 c_85).2.1 rfl
              have hfa := (hH.2.1 c_85).1
              have hB := LI_lv hI
              refine lv_aload_n zx zb dX8_look_68 rfl (lv_at hl 1 rfl) ?_
              refine lv_iload_n zx zb dX8_look_69 rfl (lv_at hl 2 rfl) ?_
              refine lv_iload_n zx zb dX8_look_70 rfl (lv_at hl 3 rfl) ?_
              refine lv_iload zx zb dX8_look_71 (lv_at hl 5 rfl) ?_
              refine r_invS (As := [.ref s, .int (iI (fr : Int)), .int (iI (n : Int)), .int (iI (k : Int))]) (rest := []) (wr := [(a 0, oM a mth mrw mrg mbd mnw mlc msz man mas mak mkp fa (te : Int) mta (lv : Int) mct mgr mgo mgg), (a 14, cI g 22 NO), (a 5, cZ g 5 MK)]) (ws2 := fun u_89 => [(a 0, oM a mth mrw mrg mbd mnw mlc msz man mas mak mkp fa (te : Int) mta (lv : Int) mct mgr mgo mgg), (s, cI g len F), (a 14, cI g 22 NO), (a 5, cZ g 5 MK)]) 0 0 zC h hl.1 (c_X8_at l D g s len F fr n k hfn hlen (by omega)) (cs8_120 zC ⟨(Nat.le_of_ble_eq_true rfl), (Nat.le_of_ble_eq_true rfl)⟩) rfl rfl (Nat.le_of_ble_eq_true rfl) (pm fun cp_q => by simp only [cp_o, List.countP_append, List.countP_nil] <;> omega) (fun u => (pm fun cp_q => by simp only [cp_o, List.countP_append, List.countP_nil] <;> omega)) ⟨(Nat.le_of_ble_eq_true rfl), (Nat.le_of_ble_eq_true rfl)⟩ (Nat.le_of_ble_eq_true rfl) (Nat.le_of_ble_eq_true rfl) dX8_look_73 (fun u_89 H locs hu_89 hz_89 h => ?_)
              rw [atX_T]
              have hxR_88 := atX_R (k := k) hR
              refine lv_istore (lv' := [(8, .int (iI (atX (fun k => F (fr + k)) n k))), (0, .ref (a 0)), (1, .ref s), (2, .int (iI (fr : Int))), (3, .int (iI (n : Int))), (4, .int (iI dp)), (5, .int (iI (k : Int))), (6, .int (bI wa)), (7, .int (bI true))]) zx zb dX8_look_76 hl (by decide) rfl (fun ls hl => ?_)
              refine lv_iload zx zb dX8_look_78 (lv_at hl 7 rfl) ?_
              refine b_zeq (b := wa) (tgt := 185) zC dX8_look_80 (by decide) (fun c_90 => ?_) (fun c_90 => ?_)
              · skip
                subst c_90
                refine lv_iload zx zb dX8_look_185 (lv_at hl 7 rfl) ?_
                refine b_zeq (b := false) (tgt := 387) zC dX8_look_187 (by decide) (fun c_91 => ?_) (fun c_91 => absurd c_91 (by decide))
                refine lv_iload zx zb dX8_look_387 (lv_at hl 0 rfl) ?_
                refine lv_bipush (v := iI (38)) zx zb dX8_look_389 rfl ?_
                refine i_ceq (a := atX (fun k => F (fr + k)) n k) (b := 38) (tgt := 401) zC dX8_look_391 (by decide) (by omega) (fun c_92 => ?_) (fun c_92 => ?_)
                · skip
                  refine i_inc (q := 6) (a := (k : Int)) (lv' := [(5, .int (iI ((k : Int) + 1))), (8, .int (iI (atX (fun k => F (fr + k)) n k))), (0, .ref (a 0)), (1, .ref s), (2, .int (iI (fr : Int))), (3, .int (iI (n : Int))), (4, .int (iI dp)), (6, .int (bI false)), (7, .int (bI true))]) zC hl dX8_look_401 rfl (by decide) rfl (fun ls hl => ?_)
                  refine lv_iconst (v := iI (1)) zx zb dX8_look_404 rfl ?_
                  refine lv_istore (lv' := [(6, .int (iI 1)), (5, .int (iI ((k : Int) + 1))), (8, .int (iI (atX (fun k => F (fr + k)) n k))), (0, .ref (a 0)), (1, .ref s), (2, .int (iI (fr : Int))), (3, .int (iI (n : Int))), (4, .int (iI dp)), (7, .int (bI true))]) zx zb dX8_look_405 hl (by decide) rfl (fun ls hl => ?_)
                  refine lv_goto (tgt := 454) zx zb dX8_look_407 (by decide) ?_
                  refine lv_goto (tgt := 56) zx zb dX8_look_454 (by decide) ?_
                  exact ih56 true true (k + 1) dp fa te lv NO _ _ _ (by omega) ⟨by omega, fun _ => ⟨by omega, fun _ => (C1 hI (Or.inl c_92)), fun q => absurd q (by decide)⟩, fun q => absurd q (by omega)⟩ (by omega) (by omega) h (lv_sub hl [3, 4, 5, 6, 7, 1, 0, 8] rfl)
                · skip
                  have h38 := c_92
                  refine lv_iload zx zb dX8_look_394 (lv_at hl 0 rfl) ?_
                  refine lv_bipush (v := iI (124)) zx zb dX8_look_396 rfl ?_
                  refine i_cne (a := atX (fun k => F (fr + k)) n k) (b := 124) (tgt := 410) zC dX8_look_398 (by decide) (by omega) (fun c_93 => ?_) (fun c_93 => ?_)
                  · skip
                    have h124 := c_93
                    refine lv_iload zx zb dX8_look_410 (lv_at hl 0 rfl) ?_
                    refine lv_bipush (v := iI (41)) zx zb dX8_look_412 rfl ?_
                    refine i_cne (a := atX (fun k => F (fr + k)) n k) (b := 41) (tgt := 451) zC dX8_look_414 (by decide) (by omega) (fun c_94 => ?_) (fun c_94 => ?_)
                    · skip
                      refine lv_iconst (v := iI (0)) zx zb dX8_look_451 rfl ?_
                      refine lv_istore (lv' := [(7, .int (iI 0)), (8, .int (iI (atX (fun k => F (fr + k)) n k))), (0, .ref (a 0)), (1, .ref s), (2, .int (iI (fr : Int))), (3, .int (iI (n : Int))), (4, .int (iI dp)), (5, .int (iI (k : Int))), (6, .int (bI false))]) zx zb dX8_look_452 hl (by decide) rfl (fun ls hl => ?_)
                      refine lv_goto (tgt := 56) zx zb dX8_look_454 (by decide) ?_
                      exact ih56 false false k dp fa te lv NO _ _ _ (by omega) ⟨by omega, fun _ => ⟨by omega, fun q => absurd q (by decide), fun _ => (C3 hI h38 h124 (by omega))⟩, fun q => absurd q (by omega)⟩ (by omega) (by omega) h (lv_sub hl [2, 3, 4, 5, 6, 7, 8, 0] rfl)
                    · skip
                      refine lv_aload_n zx zb dX8_look_417 rfl (lv_at hl 1 rfl) ?_
                      refine gf8_111 (v := .int (iI (lv : Int))) zC h 0 rfl rfl dX8_look_418 ?_
                      refine i_zle (a := (lv : Int)) (tgt := 451) zC dX8_look_421 (by decide) (by omega) (fun c_95 => ?_) (fun c_95 => ?_)
                      · skip
                        refine lv_iconst (v := iI (0)) zx zb dX8_look_451 rfl ?_
                        refine lv_istore (lv' := [(7, .int (iI 0)), (8, .int (iI (atX (fun k => F (fr + k)) n k))), (0, .ref (a 0)), (1, .ref s), (2, .int (iI (fr : Int))), (3, .int (iI (n : Int))), (4, .int (iI dp)), (5, .int (iI (k : Int))), (6, .int (bI false))]) zx zb dX8_look_452 hl (by decide) rfl (fun ls hl => ?_)
                        refine lv_goto (tgt := 56) zx zb dX8_look_454 (by decide) ?_
                        exact ih56 false false k dp fa te lv NO _ _ _ (by omega) ⟨by omega, fun _ => ⟨by omega, fun q => absurd q (by decide), fun _ => (C3 hI h38 h124 (by omega))⟩, fun q => absurd q (by omega)⟩ (by omega) (by omega) h (lv_sub hl [2, 3, 4, 5, 6, 7, 8, 0] rfl)
                      · skip
                        refine i_inc (q := 6) (a := (k : Int)) (lv' := [(5, .int (iI ((k : Int) + 1))), (8, .int (iI (atX (fun k => F (fr + k)) n k))), (0, .ref (a 0)), (1, .ref s), (2, .int (iI (fr : Int))), (3, .int (iI (n : Int))), (4, .int (iI dp)), (6, .int (bI false)), (7, .int (bI true))]) zC hl dX8_look_424 rfl (by decide) rfl (fun ls hl => ?_)
                        refine lv_aload_n zx zb dX8_look_427 rfl (lv_at hl 2 rfl) ?_
                        refine lv_dup zx zb dX8_look_428 rfl ?_
                        refine gf8_111 (v := .int (iI (lv : Int))) zC h 0 rfl rfl dX8_look_429 ?_
                        refine lv_iconst (v := iI (1)) zx zb dX8_look_432 rfl ?_
                        refine i_sub zC (a := (lv : Int)) (b := 1) dX8_look_433 ?_
                        rw [show ((lv : Int) - 1 : Int) = ((lv - 1 : Nat) : Int) from by omega]
                        refine pf8_111 (x := iI ((lv - 1 : Nat) : Int)) zC h 0 (ws' := [(a 0, oM a mth mrw mrg mbd mnw mlc msz man mas mak mkp fa (te : Int) mta ((lv - 1 : Nat) : Int) mct mgr mgo mgg), (s, cI g len F), (a 14, cI g 22 NO), (a 5, cZ g 5 MK)]) rfl rfl (Nat.le_of_ble_eq_true rfl) dX8_look_434 (fun H locs h => ?_)
                        refine lv_iload zx zb dX8_look_437 (lv_at hl 6 rfl) ?_
                        refine lv_iconst (v := iI (1)) zx zb dX8_look_439 rfl ?_
                        refine i_sub zC (a := dp) (b := 1) dX8_look_440 ?_
                        refine lv_aload_n zx zb dX8_look_441 rfl (lv_at hl 2 rfl) ?_
                        refine r_invV (As := []) (rest := [.int (iI (dp - 1))]) (wr := [(s, cI g len F), (a 5, cZ g 5 MK)]) (ws2 := fun u_96 => [(a 0, oM a mth mrw mrg mbd mnw mlc msz man mas mak mkp fa (te : Int) mta ((lv - 1 : Nat) : Int) mct mgr mgo mgg), (s, cI g len F), (a 14, cI g 22 (up NO (lv - 1) 0)), (a 5, cZ g 5 MK)]) 0 0 zC h hl.1 (c_X8_overs l D g a mth mrw mrg mbd mnw mlc msz mas mak mkp fa (te : Int) mta mct mgo man mgr mgg (lv - 1)  NO  (by omega)) (cs8_136 zC ⟨(Nat.le_of_ble_eq_true rfl), (Nat.le_of_ble_eq_true rfl)⟩) (.head _) rfl rfl rfl (Nat.le_of_ble_eq_true rfl) (pm fun cp_q => by simp only [cp_o, List.countP_append, List.countP_nil] <;> omega) (fun u => (pm fun cp_q => by simp only [cp_o, List.countP_append, List.countP_nil] <;> omega)) ⟨(Nat.le_of_ble_eq_true rfl), (Nat.le_of_ble_eq_true rfl)⟩ (Nat.le_of_ble_eq_true rfl) (Nat.le_of_ble_eq_true rfl) dX8_look_442 (fun u_96 H locs hu_96 hz_96 h => ?_)
                        refine i_sub zC (a := dp - 1) (b := NO (lv - 1)) dX8_look_445 ?_
                        refine lv_istore (lv' := [(4, .int (iI (dp - 1 - (NO (lv - 1))))), (5, .int (iI ((k : Int) + 1))), (8, .int (iI (atX (fun k => F (fr + k)) n k))), (0, .ref (a 0)), (1, .ref s), (2, .int (iI (fr : Int))), (3, .int (iI (n : Int))), (6, .int (bI false)), (7, .int (bI true))]) zx zb dX8_look_446 hl (by decide) rfl (fun ls hl => ?_)
                        refine lv_goto (tgt := 454) zx zb dX8_look_448 (by decide) ?_
                        refine lv_goto (tgt := 56) zx zb dX8_look_454 (by decide) ?_
                        exact ih56 false true (k + 1) (dp - 1 - (NO (lv - 1))) fa te (lv - 1) (up NO (lv - 1) 0) _ _ _ (by omega) ⟨by omega, fun _ => ⟨by omega, fun _ => (C2 hI (by omega) (by omega)), fun q => absurd q (by decide)⟩, fun q => absurd q (by omega)⟩ (by omega) (by omega) h (lv_sub hl [3, 4, 5, 6, 0, 1, 7, 8] rfl)
                  · skip
                    refine i_inc (q := 6) (a := (k : Int)) (lv' := [(5, .int (iI ((k : Int) + 1))), (8, .int (iI (atX (fun k => F (fr + k)) n k))), (0, .ref (a 0)), (1, .ref s), (2, .int (iI (fr : Int))), (3, .int (iI (n : Int))), (4, .int (iI dp)), (6, .int (bI false)), (7, .int (bI true))]) zC hl dX8_look_401 rfl (by decide) rfl (fun ls hl => ?_)
                    refine lv_iconst (v := iI (1)) zx zb dX8_look_404 rfl ?_
                    refine lv_istore (lv' := [(6, .int (iI 1)), (5, .int (iI ((k : Int) + 1))), (8, .int (iI (atX (fun k => F (fr + k)) n k))), (0, .ref (a 0)), (1, .ref s), (2, .int (iI (fr : Int))), (3, .int (iI (n : Int))), (4, .int (iI dp)), (7, .int (bI true))]) zx zb dX8_look_405 hl (by decide) rfl (fun ls hl => ?_)
                    refine lv_goto (tgt := 454) zx zb dX8_look_407 (by decide) ?_
                    refine lv_goto (tgt := 56) zx zb dX8_look_454 (by decide) ?_
                    exact ih56 true true (k + 1) dp fa te lv NO _ _ _ (by omega) ⟨by omega, fun _ => ⟨by omega, fun _ => (C1 hI (Or.inr c_93)), fun q => absurd q (by decide)⟩, fun q => absurd q (by omega)⟩ (by omega) (by omega) h (lv_sub hl [3, 4, 5, 6, 7, 1, 0, 8] rfl)
              · skip
                subst c_90
                refine lv_iload zx zb dX8_look_83 (lv_at hl 0 rfl) ?_
                refine lv_bipush (v := iI (33)) zx zb dX8_look_85 rfl ?_
                refine i_ceq (a := atX (fun k => F (fr + k)) n k) (b := 33) (tgt := 97) zC dX8_look_87 (by decide) (by omega) (fun c_97 => ?_) (fun c_97 => ?_)
                · skip
                  have hc := c_97
                  refine lv_aload_n zx zb dX8_look_97 rfl (lv_at hl 1 rfl) ?_
                  refine lv_iload zx zb dX8_look_98 (lv_at hl 5 rfl) ?_
                  refine lv_bipush (v := iI (20)) zx zb dX8_look_100 rfl ?_
                  refine i_cne (a := dp) (b := 20) (tgt := 110) zC dX8_look_102 (by decide) (by omega) (fun c_98 => ?_) (fun c_98 => ?_)
                  · skip
                    refine lv_iconst (v := iI (-1)) zx zb dX8_look_110 rfl ?_
                    refine pf8_114 (x := iI (-1)) zC h 0 (ws' := [(a 0, oM a mth mrw mrg mbd mnw mlc msz man mas mak mkp (-1) (te : Int) mta (lv : Int) mct mgr mgo mgg), (s, cI g len F), (a 14, cI g 22 NO), (a 5, cZ g 5 MK)]) rfl rfl (Nat.le_of_ble_eq_true rfl) dX8_look_111 (fun H locs h => ?_)
                    refine i_inc (q := 5) (a := dp) (lv' := [(4, .int (iI (dp + 1))), (8, .int (iI (atX (fun k => F (fr + k)) n k))), (0, .ref (a 0)), (1, .ref s), (2, .int (iI (fr : Int))), (3, .int (iI (n : Int))), (5, .int (iI (k : Int))), (6, .int (bI true)), (7, .int (bI true))]) zC hl dX8_look_114 rfl (by decide) rfl (fun ls hl => ?_)
                    refine lv_iload zx zb dX8_look_117 (lv_at hl 1 rfl) ?_
                    refine lv_bipush (v := iI (33)) zx zb dX8_look_119 rfl ?_
                    refine i_cne (a := atX (fun k => F (fr + k)) n k) (b := 33) (tgt := 140) zC dX8_look_121 (by decide) (by omega) (fun c_99 => absurd c_99 (by omega)) (fun c_99 => ?_)
                    refine lv_aload_n zx zb dX8_look_124 rfl (lv_at hl 2 rfl) ?_
                    refine gf8_57 (v := .ref (a 14)) zC h 0 rfl rfl dX8_look_125 ?_
                    refine lv_aload_n zx zb dX8_look_128 rfl (lv_at hl 2 rfl) ?_
                    refine gf8_111 (v := .int (iI (lv : Int))) zC h 0 rfl rfl dX8_look_129 ?_
                    refine lv_dup2_11 zx zb dX8_look_132 rfl rfl ?_
                    refine a_ild zC h 2 rfl (z := (lv : Int)) lv rfl (by omega) (by decide) dX8_look_133 ?_
                    refine lv_iconst (v := iI (1)) zx zb dX8_look_134 rfl ?_
                    refine i_add zC (a := NO lv) (b := 1) dX8_look_135 ?_
                    refine a_ist (x := NO lv + 1) zC h 2 (ws' := [(a 0, oM a mth mrw mrg mbd mnw mlc msz man mas mak mkp (-1) (te : Int) mta (lv : Int) mct mgr mgo mgg), (s, cI g len F), (a 14, cI g 22 (up NO lv (NO lv + 1))), (a 5, cZ g 5 MK)]) rfl (z := (lv : Int)) lv rfl rfl (by omega) (by decide) dX8_look_136 (fun H locs h => ?_)
                    refine lv_goto (tgt := 179) zx zb dX8_look_137 (by decide) ?_
                    refine i_inc (q := 6) (a := (k : Int)) (lv' := [(5, .int (iI ((k : Int) + 1))), (4, .int (iI (dp + 1))), (8, .int (iI (atX (fun k => F (fr + k)) n k))), (0, .ref (a 0)), (1, .ref s), (2, .int (iI (fr : Int))), (3, .int (iI (n : Int))), (6, .int (bI true)), (7, .int (bI true))]) zC hl dX8_look_179 rfl (by decide) rfl (fun ls hl => ?_)
                    refine lv_goto (tgt := 454) zx zb dX8_look_182 (by decide) ?_
                    refine lv_goto (tgt := 56) zx zb dX8_look_454 (by decide) ?_
                    exact ih56 true true (k + 1) (dp + 1) (-1) te lv (up NO lv (NO lv + 1)) _ _ _ (by omega) ⟨by omega, fun _ => ⟨by omega, fun _ => (A_t hI hc (by omega)), fun q => absurd q (by decide)⟩, fun q => absurd q (by omega)⟩ (by omega) (by omega) h (lv_sub hl [3, 4, 5, 6, 1, 0, 7, 8] rfl)
                  · skip
                    refine lv_iload zx zb dX8_look_105 (lv_at hl 6 rfl) ?_
                    refine lv_goto (tgt := 111) zx zb dX8_look_107 (by decide) ?_
                    refine pf8_114 (x := iI (k : Int)) zC h 0 (ws' := [(a 0, oM a mth mrw mrg mbd mnw mlc msz man mas mak mkp (k : Int) (te : Int) mta (lv : Int) mct mgr mgo mgg), (s, cI g len F), (a 14, cI g 22 NO), (a 5, cZ g 5 MK)]) rfl rfl (Nat.le_of_ble_eq_true rfl) dX8_look_111 (fun H locs h => ?_)
                    refine i_inc (q := 5) (a := dp) (lv' := [(4, .int (iI (dp + 1))), (8, .int (iI (atX (fun k => F (fr + k)) n k))), (0, .ref (a 0)), (1, .ref s), (2, .int (iI (fr : Int))), (3, .int (iI (n : Int))), (5, .int (iI (k : Int))), (6, .int (bI true)), (7, .int (bI true))]) zC hl dX8_look_114 rfl (by decide) rfl (fun ls hl => ?_)
                    refine lv_iload zx zb dX8_look_117 (lv_at hl 1 rfl) ?_
                    refine lv_bipush (v := iI (33)) zx zb dX8_look_119 rfl ?_
                    refine i_cne (a := atX (fun k => F (fr + k)) n k) (b := 33) (tgt := 140) zC dX8_look_121 (by decide) (by omega) (fun c_100 => absurd c_100 (by omega)) (fun c_100 => ?_)
                    refine lv_aload_n zx zb dX8_look_124 rfl (lv_at hl 2 rfl) ?_
                    refine gf8_57 (v := .ref (a 14)) zC h 0 rfl rfl dX8_look_125 ?_
                    refine lv_aload_n zx zb dX8_look_128 rfl (lv_at hl 2 rfl) ?_
                    refine gf8_111 (v := .int (iI (lv : Int))) zC h 0 rfl rfl dX8_look_129 ?_
                    refine lv_dup2_11 zx zb dX8_look_132 rfl rfl ?_
                    refine a_ild zC h 2 rfl (z := (lv : Int)) lv rfl (by omega) (by decide) dX8_look_133 ?_
                    refine lv_iconst (v := iI (1)) zx zb dX8_look_134 rfl ?_
                    refine i_add zC (a := NO lv) (b := 1) dX8_look_135 ?_
                    refine a_ist (x := NO lv + 1) zC h 2 (ws' := [(a 0, oM a mth mrw mrg mbd mnw mlc msz man mas mak mkp (k : Int) (te : Int) mta (lv : Int) mct mgr mgo mgg), (s, cI g len F), (a 14, cI g 22 (up NO lv (NO lv + 1))), (a 5, cZ g 5 MK)]) rfl (z := (lv : Int)) lv rfl rfl (by omega) (by decide) dX8_look_136 (fun H locs h => ?_)
                    refine lv_goto (tgt := 179) zx zb dX8_look_137 (by decide) ?_
                    refine i_inc (q := 6) (a := (k : Int)) (lv' := [(5, .int (iI ((k : Int) + 1))), (4, .int (iI (dp + 1))), (8, .int (iI (atX (fun k => F (fr + k)) n k))), (0, .ref (a 0)), (1, .ref s), (2, .int (iI (fr : Int))), (3, .int (iI (n : Int))), (6, .int (bI true)), (7, .int (bI true))]) zC hl dX8_look_179 rfl (by decide) rfl (fun ls hl => ?_)
                    refine lv_goto (tgt := 454) zx zb dX8_look_182 (by decide) ?_
                    refine lv_goto (tgt := 56) zx zb dX8_look_454 (by decide) ?_
                    exact ih56 true true (k + 1) (dp + 1) (k : Int) te lv (up NO lv (NO lv + 1)) _ _ _ (by omega) ⟨by omega, fun q => absurd q (by omega), fun _ => (A_f hI (by omega) (by omega))⟩ (by omega) (by omega) h (lv_sub hl [3, 4, 5, 6, 1, 0, 7, 8] rfl)
                · skip
                  have h33 := c_97
                  refine lv_iload zx zb dX8_look_90 (lv_at hl 0 rfl) ?_
                  refine lv_bipush (v := iI (40)) zx zb dX8_look_92 rfl ?_
                  refine i_cne (a := atX (fun k => F (fr + k)) n k) (b := 40) (tgt := 185) zC dX8_look_94 (by decide) (by omega) (fun c_101 => ?_) (fun c_101 => ?_)
                  · skip
                    have h40 := c_101
                    refine lv_iload zx zb dX8_look_185 (lv_at hl 7 rfl) ?_
                    refine b_zeq (b := true) (tgt := 387) zC dX8_look_187 (by decide) (fun c_102 => absurd c_102 (by decide)) (fun c_102 => ?_)
                    have J286_103 : ∀ (f1 : Int) (H : Heap) (locs : List Loc) (ls : Array Slot), ((f1 < 0 → f1 = -1 ∧ LD MK (fun k => F (fr + k)) n (rBegin r) k (k + 2) lv dp te NO) ∧ (0 ≤ f1 → LF MK (fun k => F (fr + k)) n (rBegin r) f1)) → (-1 ≤ f1 ∧ f1 ≤ (n : Int) + 7) → Hx D g sT aA sT.heap ([(a 0, oM a mth mrw mrg mbd mnw mlc msz man mas mak mkp f1 (te : Int) mta (lv : Int) mct mgr mgo mgg), (s, cI g len F), (a 14, cI g 22 NO), (a 5, cZ g 5 MK)]) H locs → lv_has ls 12 [(0, .ref (a 0)), (1, .ref s), (2, .int (iI (fr : Int))), (3, .int (iI (n : Int))), (4, .int (iI dp)), (5, .int (iI (k : Int))), (6, .int (bI true)), (7, .int (bI true))] → W pg l evn rmX8_look sT mI ar bl mtd cd H locs 0 0 qQ (F0 mI 286 ls []) := by
                      intro f1 H locs ls hJ hf1 h hl
                      refine lv_iload zx zb dX8_look_286 (lv_at hl 5 rfl) ?_
                      refine lv_iconst (v := iI (2)) zx zb dX8_look_288 rfl ?_
                      refine i_add zC (a := (k : Int)) (b := 2) dX8_look_289 ?_
                      refine lv_istore (lv' := [(11, .int (iI ((k : Int) + 2))), (0, .ref (a 0)), (1, .ref s), (2, .int (iI (fr : Int))), (3, .int (iI (n : Int))), (4, .int (iI dp)), (5, .int (iI (k : Int))), (6, .int (bI true)), (7, .int (bI true))]) zx zb dX8_look_290 hl (by decide) rfl (fun ls hl => ?_)
                      have L292_104 : ∀ (fuel : Nat) (e : Nat) (H : Heap) (locs : List Loc) (ls : Array Slot), k + 8 - e < fuel → (k + 2 ≤ e ∧ e ≤ k + 7) → (f1 < 0 → LD MK (fun k => F (fr + k)) n (rBegin r) k e lv dp te NO) → Hx D g sT aA sT.heap ([(a 0, oM a mth mrw mrg mbd mnw mlc msz man mas mak mkp f1 (te : Int) mta (lv : Int) mct mgr mgo mgg), (s, cI g len F), (a 14, cI g 22 NO), (a 5, cZ g 5 MK)]) H locs → lv_has ls 12 [(0, .ref (a 0)), (1, .ref s), (2, .int (iI (fr : Int))), (3, .int (iI (n : Int))), (4, .int (iI dp)), (5, .int (iI (k : Int))), (6, .int (bI true)), (7, .int (bI true)), (11, .int (iI (e : Int)))] → W pg l evn rmX8_look sT mI ar bl mtd cd H locs 0 0 qQ (F0 mI 292 ls []) := by
                        intro fuel
                        induction fuel with
                        | zero => intro e H locs ls hm; exact absurd hm (Nat.not_lt_zero _)
                        | succ fuel ih292 =>
                          intro e H locs ls hm he hDe h hl
                          refine lv_iload zx zb dX8_look_292 (lv_at hl 8 rfl) ?_
                          refine lv_iload zx zb dX8_look_294 (lv_at hl 5 rfl) ?_
                          refine lv_bipush (v := iI (7)) zx zb dX8_look_296 rfl ?_
                          refine i_add zC (a := (k : Int)) (b := 7) dX8_look_298 ?_
                          refine i_cge (a := (e : Int)) (b := (k : Int) + 7) (tgt := 329) zC dX8_look_299 (by decide) (by omega) (fun c_105 => ?_) (fun c_105 => ?_)
                          · skip
                            have hX : k + 7 ≤ e ∨ ¬ (48 ≤ atX (fun k => F (fr + k)) n e ∧ atX (fun k => F (fr + k)) n e ≤ 57) := Or.inl (by omega)
                            refine lv_aload_n zx zb dX8_look_329 rfl (lv_at hl 0 rfl) ?_
                            refine lv_aload_n zx zb dX8_look_330 rfl (lv_at hl 0 rfl) ?_
                            refine gf8_114 (v := .int (iI f1)) zC h 0 rfl rfl dX8_look_331 ?_
                            refine i_zge (a := f1) (tgt := 351) zC dX8_look_334 (by decide) (by omega) (fun c_106 => ?_) (fun c_106 => ?_)
                            · skip
                              refine lv_aload_n zx zb dX8_look_351 rfl (lv_at hl 0 rfl) ?_
                              refine gf8_114 (v := .int (iI f1)) zC h 0 rfl rfl dX8_look_352 ?_
                              refine pf8_114 (x := iI f1) zC h 0 (ws' := [(a 0, oM a mth mrw mrg mbd mnw mlc msz man mas mak mkp f1 (te : Int) mta (lv : Int) mct mgr mgo mgg), (s, cI g len F), (a 14, cI g 22 NO), (a 5, cZ g 5 MK)]) rfl rfl (Nat.le_of_ble_eq_true rfl) dX8_look_355 (fun H locs h => ?_)
                              refine lv_iload zx zb dX8_look_358 (lv_at hl 8 rfl) ?_
                              refine lv_istore (lv' := [(5, .int (iI (e : Int))), (0, .ref (a 0)), (1, .ref s), (2, .int (iI (fr : Int))), (3, .int (iI (n : Int))), (4, .int (iI dp)), (6, .int (bI true)), (7, .int (bI true)), (11, .int (iI (e : Int)))]) zx zb dX8_look_360 hl (by decide) rfl (fun ls hl => ?_)
                              refine lv_aload_n zx zb dX8_look_362 rfl (lv_at hl 1 rfl) ?_
                              refine lv_dup zx zb dX8_look_363 rfl ?_
                              refine gf8_117 (v := .int (iI (te : Int))) zC h 0 rfl rfl dX8_look_364 ?_
                              refine lv_iconst (v := iI (1)) zx zb dX8_look_367 rfl ?_
                              refine i_add zC (a := (te : Int)) (b := 1) dX8_look_368 ?_
                              rw [show ((te : Int) + 1 : Int) = ((te + 1 : Nat) : Int) from by omega]
                              refine pf8_117 (x := iI ((te + 1 : Nat) : Int)) zC h 0 (ws' := [(a 0, oM a mth mrw mrg mbd mnw mlc msz man mas mak mkp f1 ((te + 1 : Nat) : Int) mta (lv : Int) mct mgr mgo mgg), (s, cI g len F), (a 14, cI g 22 NO), (a 5, cZ g 5 MK)]) rfl rfl (Nat.le_of_ble_eq_true rfl) dX8_look_369 (fun H locs h => ?_)
                              refine lv_iload zx zb dX8_look_372 (lv_at hl 5 rfl) ?_
                              refine lv_aload_n zx zb dX8_look_374 rfl (lv_at hl 1 rfl) ?_
                              refine r_invV (As := []) (rest := [.int (iI dp)]) (wr := [(s, cI g len F), (a 5, cZ g 5 MK)]) (ws2 := fun u_107 => [(a 0, oM a mth mrw mrg mbd mnw mlc msz man mas mak mkp f1 ((te + 1 : Nat) : Int) mta (lv : Int) mct mgr mgo mgg), (s, cI g len F), (a 14, cI g 22 (up NO lv 0)), (a 5, cZ g 5 MK)]) 0 0 zC h hl.1 (c_X8_overs l D g a mth mrw mrg mbd mnw mlc msz mas mak mkp f1 ((te + 1 : Nat) : Int) mta mct mgo man mgr mgg lv  NO  (by omega)) (cs8_136 zC ⟨(Nat.le_of_ble_eq_true rfl), (Nat.le_of_ble_eq_true rfl)⟩) (.head _) rfl rfl rfl (Nat.le_of_ble_eq_true rfl) (pm fun cp_q => by simp only [cp_o, List.countP_append, List.countP_nil] <;> omega) (fun u => (pm fun cp_q => by simp only [cp_o, List.countP_append, List.countP_nil] <;> omega)) ⟨(Nat.le_of_ble_eq_true rfl), (Nat.le_of_ble_eq_true rfl)⟩ (Nat.le_of_ble_eq_true rfl) (Nat.le_of_ble_eq_true rfl) dX8_look_375 (fun u_107 H locs hu_107 hz_107 h => ?_)
                              refine i_sub zC (a := dp) (b := NO lv) dX8_look_378 ?_
                              refine lv_istore (lv' := [(4, .int (iI (dp - (NO lv)))), (5, .int (iI (e : Int))), (0, .ref (a 0)), (1, .ref s), (2, .int (iI (fr : Int))), (3, .int (iI (n : Int))), (6, .int (bI true)), (7, .int (bI true)), (11, .int (iI (e : Int)))]) zx zb dX8_look_379 hl (by decide) rfl (fun ls hl => ?_)
                              refine lv_iconst (v := iI (0)) zx zb dX8_look_381 rfl ?_
                              refine lv_istore (lv' := [(6, .int (iI 0)), (4, .int (iI (dp - (NO lv)))), (5, .int (iI (e : Int))), (0, .ref (a 0)), (1, .ref s), (2, .int (iI (fr : Int))), (3, .int (iI (n : Int))), (7, .int (bI true)), (11, .int (iI (e : Int)))]) zx zb dX8_look_382 hl (by decide) rfl (fun ls hl => ?_)
                              refine lv_goto (tgt := 454) zx zb dX8_look_384 (by decide) ?_
                              refine lv_goto (tgt := 56) zx zb dX8_look_454 (by decide) ?_
                              exact ih56 false true e (dp - (NO lv)) f1 (te + 1) lv (up NO lv 0) _ _ _ (by omega) ⟨by omega, fun q => absurd q (by omega), fun _ => (hJ.2 (by omega))⟩ (by omega) (by omega) h (lv_sub hl [3, 4, 5, 6, 1, 2, 0, 7] rfl)
                            · skip
                              refine lv_iload zx zb dX8_look_337 (lv_at hl 8 rfl) ?_
                              refine lv_iload zx zb dX8_look_339 (lv_at hl 5 rfl) ?_
                              refine lv_iconst (v := iI (2)) zx zb dX8_look_341 rfl ?_
                              refine i_add zC (a := (k : Int)) (b := 2) dX8_look_342 ?_
                              refine i_cne (a := (e : Int)) (b := (k : Int) + 2) (tgt := 351) zC dX8_look_343 (by decide) (by omega) (fun c_108 => ?_) (fun c_108 => ?_)
                              · skip
                                refine lv_aload_n zx zb dX8_look_351 rfl (lv_at hl 0 rfl) ?_
                                refine gf8_114 (v := .int (iI f1)) zC h 0 rfl rfl dX8_look_352 ?_
                                refine pf8_114 (x := iI f1) zC h 0 (ws' := [(a 0, oM a mth mrw mrg mbd mnw mlc msz man mas mak mkp f1 (te : Int) mta (lv : Int) mct mgr mgo mgg), (s, cI g len F), (a 14, cI g 22 NO), (a 5, cZ g 5 MK)]) rfl rfl (Nat.le_of_ble_eq_true rfl) dX8_look_355 (fun H locs h => ?_)
                                refine lv_iload zx zb dX8_look_358 (lv_at hl 8 rfl) ?_
                                refine lv_istore (lv' := [(5, .int (iI (e : Int))), (0, .ref (a 0)), (1, .ref s), (2, .int (iI (fr : Int))), (3, .int (iI (n : Int))), (4, .int (iI dp)), (6, .int (bI true)), (7, .int (bI true)), (11, .int (iI (e : Int)))]) zx zb dX8_look_360 hl (by decide) rfl (fun ls hl => ?_)
                                refine lv_aload_n zx zb dX8_look_362 rfl (lv_at hl 1 rfl) ?_
                                refine lv_dup zx zb dX8_look_363 rfl ?_
                                refine gf8_117 (v := .int (iI (te : Int))) zC h 0 rfl rfl dX8_look_364 ?_
                                refine lv_iconst (v := iI (1)) zx zb dX8_look_367 rfl ?_
                                refine i_add zC (a := (te : Int)) (b := 1) dX8_look_368 ?_
                                rw [show ((te : Int) + 1 : Int) = ((te + 1 : Nat) : Int) from by omega]
                                refine pf8_117 (x := iI ((te + 1 : Nat) : Int)) zC h 0 (ws' := [(a 0, oM a mth mrw mrg mbd mnw mlc msz man mas mak mkp f1 ((te + 1 : Nat) : Int) mta (lv : Int) mct mgr mgo mgg), (s, cI g len F), (a 14, cI g 22 NO), (a 5, cZ g 5 MK)]) rfl rfl (Nat.le_of_ble_eq_true rfl) dX8_look_369 (fun H locs h => ?_)
                                refine lv_iload zx zb dX8_look_372 (lv_at hl 5 rfl) ?_
                                refine lv_aload_n zx zb dX8_look_374 rfl (lv_at hl 1 rfl) ?_
                                refine r_invV (As := []) (rest := [.int (iI dp)]) (wr := [(s, cI g len F), (a 5, cZ g 5 MK)]) (ws2 := fun u_109 => [(a 0, oM a mth mrw mrg mbd mnw mlc msz man mas mak mkp f1 ((te + 1 : Nat) : Int) mta (lv : Int) mct mgr mgo mgg), (s, cI g len F), (a 14, cI g 22 (up NO lv 0)), (a 5, cZ g 5 MK)]) 0 0 zC h hl.1 (c_X8_overs l D g a mth mrw mrg mbd mnw mlc msz mas mak mkp f1 ((te + 1 : Nat) : Int) mta mct mgo man mgr mgg lv  NO  (by omega)) (cs8_136 zC ⟨(Nat.le_of_ble_eq_true rfl), (Nat.le_of_ble_eq_true rfl)⟩) (.head _) rfl rfl rfl (Nat.le_of_ble_eq_true rfl) (pm fun cp_q => by simp only [cp_o, List.countP_append, List.countP_nil] <;> omega) (fun u => (pm fun cp_q => by simp only [cp_o, List.countP_append, List.countP_nil] <;> omega)) ⟨(Nat.le_of_ble_eq_true rfl), (Nat.le_of_ble_eq_true rfl)⟩ (Nat.le_of_ble_eq_true rfl) (Nat.le_of_ble_eq_true rfl) dX8_look_375 (fun u_109 H locs hu_109 hz_109 h => ?_)
                                refine i_sub zC (a := dp) (b := NO lv) dX8_look_378 ?_
                                refine lv_istore (lv' := [(4, .int (iI (dp - (NO lv)))), (5, .int (iI (e : Int))), (0, .ref (a 0)), (1, .ref s), (2, .int (iI (fr : Int))), (3, .int (iI (n : Int))), (6, .int (bI true)), (7, .int (bI true)), (11, .int (iI (e : Int)))]) zx zb dX8_look_379 hl (by decide) rfl (fun ls hl => ?_)
                                refine lv_iconst (v := iI (0)) zx zb dX8_look_381 rfl ?_
                                refine lv_istore (lv' := [(6, .int (iI 0)), (4, .int (iI (dp - (NO lv)))), (5, .int (iI (e : Int))), (0, .ref (a 0)), (1, .ref s), (2, .int (iI (fr : Int))), (3, .int (iI (n : Int))), (7, .int (bI true)), (11, .int (iI (e : Int)))]) zx zb dX8_look_382 hl (by decide) rfl (fun ls hl => ?_)
                                refine lv_goto (tgt := 454) zx zb dX8_look_384 (by decide) ?_
                                refine lv_goto (tgt := 56) zx zb dX8_look_454 (by decide) ?_
                                exact ih56 false true e (dp - (NO lv)) f1 (te + 1) lv (up NO lv 0) _ _ _ (by omega) ⟨by omega, fun _ => ⟨by omega, fun _ => (B6 (hDe (by omega)) (by omega) hX), fun q => absurd q (by decide)⟩, fun q => absurd q (by omega)⟩ (by omega) (by omega) h (lv_sub hl [3, 4, 5, 6, 1, 2, 0, 7] rfl)
                              · skip
                                refine lv_iload zx zb dX8_look_346 (lv_at hl 8 rfl) ?_
                                refine lv_goto (tgt := 355) zx zb dX8_look_348 (by decide) ?_
                                refine pf8_114 (x := iI (e : Int)) zC h 0 (ws' := [(a 0, oM a mth mrw mrg mbd mnw mlc msz man mas mak mkp (e : Int) (te : Int) mta (lv : Int) mct mgr mgo mgg), (s, cI g len F), (a 14, cI g 22 NO), (a 5, cZ g 5 MK)]) rfl rfl (Nat.le_of_ble_eq_true rfl) dX8_look_355 (fun H locs h => ?_)
                                refine lv_iload zx zb dX8_look_358 (lv_at hl 8 rfl) ?_
                                refine lv_istore (lv' := [(5, .int (iI (e : Int))), (0, .ref (a 0)), (1, .ref s), (2, .int (iI (fr : Int))), (3, .int (iI (n : Int))), (4, .int (iI dp)), (6, .int (bI true)), (7, .int (bI true)), (11, .int (iI (e : Int)))]) zx zb dX8_look_360 hl (by decide) rfl (fun ls hl => ?_)
                                refine lv_aload_n zx zb dX8_look_362 rfl (lv_at hl 1 rfl) ?_
                                refine lv_dup zx zb dX8_look_363 rfl ?_
                                refine gf8_117 (v := .int (iI (te : Int))) zC h 0 rfl rfl dX8_look_364 ?_
                                refine lv_iconst (v := iI (1)) zx zb dX8_look_367 rfl ?_
                                refine i_add zC (a := (te : Int)) (b := 1) dX8_look_368 ?_
                                rw [show ((te : Int) + 1 : Int) = ((te + 1 : Nat) : Int) from by omega]
                                refine pf8_117 (x := iI ((te + 1 : Nat) : Int)) zC h 0 (ws' := [(a 0, oM a mth mrw mrg mbd mnw mlc msz man mas mak mkp (e : Int) ((te + 1 : Nat) : Int) mta (lv : Int) mct mgr mgo mgg), (s, cI g len F), (a 14, cI g 22 NO), (a 5, cZ g 5 MK)]) rfl rfl (Nat.le_of_ble_eq_true rfl) dX8_look_369 (fun H locs h => ?_)
                                refine lv_iload zx zb dX8_look_372 (lv_at hl 5 rfl) ?_
                                refine lv_aload_n zx zb dX8_look_374 rfl (lv_at hl 1 rfl) ?_
                                refine r_invV (As := []) (rest := [.int (iI dp)]) (wr := [(s, cI g len F), (a 5, cZ g 5 MK)]) (ws2 := fun u_110 => [(a 0, oM a mth mrw mrg mbd mnw mlc msz man mas mak mkp (e : Int) ((te + 1 : Nat) : Int) mta (lv : Int) mct mgr mgo mgg), (s, cI g len F), (a 14, cI g 22 (up NO lv 0)), (a 5, cZ g 5 MK)]) 0 0 zC h hl.1 (c_X8_overs l D g a mth mrw mrg mbd mnw mlc msz mas mak mkp (e : Int) ((te + 1 : Nat) : Int) mta mct mgo man mgr mgg lv  NO  (by omega)) (cs8_136 zC ⟨(Nat.le_of_ble_eq_true rfl), (Nat.le_of_ble_eq_true rfl)⟩) (.head _) rfl rfl rfl (Nat.le_of_ble_eq_true rfl) (pm fun cp_q => by simp only [cp_o, List.countP_append, List.countP_nil] <;> omega) (fun u => (pm fun cp_q => by simp only [cp_o, List.countP_append, List.countP_nil] <;> omega)) ⟨(Nat.le_of_ble_eq_true rfl), (Nat.le_of_ble_eq_true rfl)⟩ (Nat.le_of_ble_eq_true rfl) (Nat.le_of_ble_eq_true rfl) dX8_look_375 (fun u_110 H locs hu_110 hz_110 h => ?_)
                                refine i_sub zC (a := dp) (b := NO lv) dX8_look_378 ?_
                                refine lv_istore (lv' := [(4, .int (iI (dp - (NO lv)))), (5, .int (iI (e : Int))), (0, .ref (a 0)), (1, .ref s), (2, .int (iI (fr : Int))), (3, .int (iI (n : Int))), (6, .int (bI true)), (7, .int (bI true)), (11, .int (iI (e : Int)))]) zx zb dX8_look_379 hl (by decide) rfl (fun ls hl => ?_)
                                refine lv_iconst (v := iI (0)) zx zb dX8_look_381 rfl ?_
                                refine lv_istore (lv' := [(6, .int (iI 0)), (4, .int (iI (dp - (NO lv)))), (5, .int (iI (e : Int))), (0, .ref (a 0)), (1, .ref s), (2, .int (iI (fr : Int))), (3, .int (iI (n : Int))), (7, .int (bI true)), (11, .int (iI (e : Int)))]) zx zb dX8_look_382 hl (by decide) rfl (fun ls hl => ?_)
                                refine lv_goto (tgt := 454) zx zb dX8_look_384 (by decide) ?_
                                refine lv_goto (tgt := 56) zx zb dX8_look_454 (by decide) ?_
                                exact ih56 false true e (dp - (NO lv)) (e : Int) (te + 1) lv (up NO lv 0) _ _ _ (by omega) ⟨by omega, fun q => absurd q (by omega), fun _ => (B5 (hDe (by omega)) (by omega) (by rcases hX with q | q; omega; exact q))⟩ (by omega) (by omega) h (lv_sub hl [3, 4, 5, 6, 1, 2, 0, 7] rfl)
                          · skip
                            refine lv_aload_n zx zb dX8_look_302 rfl (lv_at hl 1 rfl) ?_
                            refine lv_iload_n zx zb dX8_look_303 rfl (lv_at hl 2 rfl) ?_
                            refine lv_iload_n zx zb dX8_look_304 rfl (lv_at hl 3 rfl) ?_
                            refine lv_iload zx zb dX8_look_305 (lv_at hl 8 rfl) ?_
                            refine r_invS (As := [.ref s, .int (iI (fr : Int)), .int (iI (n : Int)), .int (iI (e : Int))]) (rest := []) (wr := [(a 0, oM a mth mrw mrg mbd mnw mlc msz man mas mak mkp f1 (te : Int) mta (lv : Int) mct mgr mgo mgg), (a 14, cI g 22 NO), (a 5, cZ g 5 MK)]) (ws2 := fun u_111 => [(a 0, oM a mth mrw mrg mbd mnw mlc msz man mas mak mkp f1 (te : Int) mta (lv : Int) mct mgr mgo mgg), (s, cI g len F), (a 14, cI g 22 NO), (a 5, cZ g 5 MK)]) 0 0 zC h hl.1 (c_X8_at l D g s len F fr n e hfn hlen (by omega)) (cs8_120 zC ⟨(Nat.le_of_ble_eq_true rfl), (Nat.le_of_ble_eq_true rfl)⟩) rfl rfl (Nat.le_of_ble_eq_true rfl) (pm fun cp_q => by simp only [cp_o, List.countP_append, List.countP_nil] <;> omega) (fun u => (pm fun cp_q => by simp only [cp_o, List.countP_append, List.countP_nil] <;> omega)) ⟨(Nat.le_of_ble_eq_true rfl), (Nat.le_of_ble_eq_true rfl)⟩ (Nat.le_of_ble_eq_true rfl) (Nat.le_of_ble_eq_true rfl) dX8_look_307 (fun u_111 H locs hu_111 hz_111 h => ?_)
                            rw [atX_T]
                            have hxR_110 := atX_R (k := e) hR
                            refine i_i2l zC (a := atX (fun k => F (fr + k)) n e) dX8_look_310 (by omega) ?_
                            refine kl8_132 zC dX8_look_311 ?_
                            refine kl8_134 zC dX8_look_314 ?_
                            refine r_invS (As := [.long (lI (atX (fun k => F (fr + k)) n e)), .long (lI 48), .long (lI 57)]) (rest := []) (wr := [(a 0, oM a mth mrw mrg mbd mnw mlc msz man mas mak mkp f1 (te : Int) mta (lv : Int) mct mgr mgo mgg), (s, cI g len F), (a 14, cI g 22 NO), (a 5, cZ g 5 MK)]) (ws2 := fun u_112 => [(a 0, oM a mth mrw mrg mbd mnw mlc msz man mas mak mkp f1 (te : Int) mta (lv : Int) mct mgr mgo mgg), (s, cI g len F), (a 14, cI g 22 NO), (a 5, cZ g 5 MK)]) 0 0 zC h hl.1 (c_X8_within l D g (atX (fun k => F (fr + k)) n e) 48 57 (by omega) (by omega) (by omega)) (cs8_90 zC ⟨(Nat.le_of_ble_eq_true rfl), (Nat.le_of_ble_eq_true rfl)⟩) rfl rfl (Nat.le_of_ble_eq_true rfl) (List.Perm.refl _) (fun u => List.Perm.refl _) ⟨(Nat.le_of_ble_eq_true rfl), (Nat.le_of_ble_eq_true rfl)⟩ (Nat.le_of_ble_eq_true rfl) (Nat.le_of_ble_eq_true rfl) dX8_look_317 (fun u_112 H locs hu_112 hz_112 h => ?_)
                            refine b_zeq (b := decide (48 ≤ atX (fun k => F (fr + k)) n e ∧ atX (fun k => F (fr + k)) n e ≤ 57)) (tgt := 329) zC dX8_look_320 (by decide) (fun c_113 => ?_) (fun c_113 => ?_)
                            · skip
                              simp only [decide_eq_true_eq, decide_eq_false_iff_not] at c_113
                              have hX : k + 7 ≤ e ∨ ¬ (48 ≤ atX (fun k => F (fr + k)) n e ∧ atX (fun k => F (fr + k)) n e ≤ 57) := Or.inr c_113
                              refine lv_aload_n zx zb dX8_look_329 rfl (lv_at hl 0 rfl) ?_
                              refine lv_aload_n zx zb dX8_look_330 rfl (lv_at hl 0 rfl) ?_
                              refine gf8_114 (v := .int (iI f1)) zC h 0 rfl rfl dX8_look_331 ?_
                              refine i_zge (a := f1) (tgt := 351) zC dX8_look_334 (by decide) (by omega) (fun c_114 => ?_) (fun c_114 => ?_)
                              · skip
                                refine lv_aload_n zx zb dX8_look_351 rfl (lv_at hl 0 rfl) ?_
                                refine gf8_114 (v := .int (iI f1)) zC h 0 rfl rfl dX8_look_352 ?_
                                refine pf8_114 (x := iI f1) zC h 0 (ws' := [(a 0, oM a mth mrw mrg mbd mnw mlc msz man mas mak mkp f1 (te : Int) mta (lv : Int) mct mgr mgo mgg), (s, cI g len F), (a 14, cI g 22 NO), (a 5, cZ g 5 MK)]) rfl rfl (Nat.le_of_ble_eq_true rfl) dX8_look_355 (fun H locs h => ?_)
                                refine lv_iload zx zb dX8_look_358 (lv_at hl 8 rfl) ?_
                                refine lv_istore (lv' := [(5, .int (iI (e : Int))), (0, .ref (a 0)), (1, .ref s), (2, .int (iI (fr : Int))), (3, .int (iI (n : Int))), (4, .int (iI dp)), (6, .int (bI true)), (7, .int (bI true)), (11, .int (iI (e : Int)))]) zx zb dX8_look_360 hl (by decide) rfl (fun ls hl => ?_)
                                refine lv_aload_n zx zb dX8_look_362 rfl (lv_at hl 1 rfl) ?_
                                refine lv_dup zx zb dX8_look_363 rfl ?_
                                refine gf8_117 (v := .int (iI (te : Int))) zC h 0 rfl rfl dX8_look_364 ?_
                                refine lv_iconst (v := iI (1)) zx zb dX8_look_367 rfl ?_
                                refine i_add zC (a := (te : Int)) (b := 1) dX8_look_368 ?_
                                rw [show ((te : Int) + 1 : Int) = ((te + 1 : Nat) : Int) from by omega]
                                refine pf8_117 (x := iI ((te + 1 : Nat) : Int)) zC h 0 (ws' := [(a 0, oM a mth mrw mrg mbd mnw mlc msz man mas mak mkp f1 ((te + 1 : Nat) : Int) mta (lv : Int) mct mgr mgo mgg), (s, cI g len F), (a 14, cI g 22 NO), (a 5, cZ g 5 MK)]) rfl rfl (Nat.le_of_ble_eq_true rfl) dX8_look_369 (fun H locs h => ?_)
                                refine lv_iload zx zb dX8_look_372 (lv_at hl 5 rfl) ?_
                                refine lv_aload_n zx zb dX8_look_374 rfl (lv_at hl 1 rfl) ?_
                                refine r_invV (As := []) (rest := [.int (iI dp)]) (wr := [(s, cI g len F), (a 5, cZ g 5 MK)]) (ws2 := fun u_115 => [(a 0, oM a mth mrw mrg mbd mnw mlc msz man mas mak mkp f1 ((te + 1 : Nat) : Int) mta (lv : Int) mct mgr mgo mgg), (s, cI g len F), (a 14, cI g 22 (up NO lv 0)), (a 5, cZ g 5 MK)]) 0 0 zC h hl.1 (c_X8_overs l D g a mth mrw mrg mbd mnw mlc msz mas mak mkp f1 ((te + 1 : Nat) : Int) mta mct mgo man mgr mgg lv  NO  (by omega)) (cs8_136 zC ⟨(Nat.le_of_ble_eq_true rfl), (Nat.le_of_ble_eq_true rfl)⟩) (.head _) rfl rfl rfl (Nat.le_of_ble_eq_true rfl) (pm fun cp_q => by simp only [cp_o, List.countP_append, List.countP_nil] <;> omega) (fun u => (pm fun cp_q => by simp only [cp_o, List.countP_append, List.countP_nil] <;> omega)) ⟨(Nat.le_of_ble_eq_true rfl), (Nat.le_of_ble_eq_true rfl)⟩ (Nat.le_of_ble_eq_true rfl) (Nat.le_of_ble_eq_true rfl) dX8_look_375 (fun u_115 H locs hu_115 hz_115 h => ?_)
                                refine i_sub zC (a := dp) (b := NO lv) dX8_look_378 ?_
                                refine lv_istore (lv' := [(4, .int (iI (dp - (NO lv)))), (5, .int (iI (e : Int))), (0, .ref (a 0)), (1, .ref s), (2, .int (iI (fr : Int))), (3, .int (iI (n : Int))), (6, .int (bI true)), (7, .int (bI true)), (11, .int (iI (e : Int)))]) zx zb dX8_look_379 hl (by decide) rfl (fun ls hl => ?_)
                                refine lv_iconst (v := iI (0)) zx zb dX8_look_381 rfl ?_
                                refine lv_istore (lv' := [(6, .int (iI 0)), (4, .int (iI (dp - (NO lv)))), (5, .int (iI (e : Int))), (0, .ref (a 0)), (1, .ref s), (2, .int (iI (fr : Int))), (3, .int (iI (n : Int))), (7, .int (bI true)), (11, .int (iI (e : Int)))]) zx zb dX8_look_382 hl (by decide) rfl (fun ls hl => ?_)
                                refine lv_goto (tgt := 454) zx zb dX8_look_384 (by decide) ?_
                                refine lv_goto (tgt := 56) zx zb dX8_look_454 (by decide) ?_
                                exact ih56 false true e (dp - (NO lv)) f1 (te + 1) lv (up NO lv 0) _ _ _ (by omega) ⟨by omega, fun q => absurd q (by omega), fun _ => (hJ.2 (by omega))⟩ (by omega) (by omega) h (lv_sub hl [3, 4, 5, 6, 1, 2, 0, 7] rfl)
                              · skip
                                refine lv_iload zx zb dX8_look_337 (lv_at hl 8 rfl) ?_
                                refine lv_iload zx zb dX8_look_339 (lv_at hl 5 rfl) ?_
                                refine lv_iconst (v := iI (2)) zx zb dX8_look_341 rfl ?_
                                refine i_add zC (a := (k : Int)) (b := 2) dX8_look_342 ?_
                                refine i_cne (a := (e : Int)) (b := (k : Int) + 2) (tgt := 351) zC dX8_look_343 (by decide) (by omega) (fun c_116 => ?_) (fun c_116 => ?_)
                                · skip
                                  refine lv_aload_n zx zb dX8_look_351 rfl (lv_at hl 0 rfl) ?_
                                  refine gf8_114 (v := .int (iI f1)) zC h 0 rfl rfl dX8_look_352 ?_
                                  refine pf8_114 (x := iI f1) zC h 0 (ws' := [(a 0, oM a mth mrw mrg mbd mnw mlc msz man mas mak mkp f1 (te : Int) mta (lv : Int) mct mgr mgo mgg), (s, cI g len F), (a 14, cI g 22 NO), (a 5, cZ g 5 MK)]) rfl rfl (Nat.le_of_ble_eq_true rfl) dX8_look_355 (fun H locs h => ?_)
                                  refine lv_iload zx zb dX8_look_358 (lv_at hl 8 rfl) ?_
                                  refine lv_istore (lv' := [(5, .int (iI (e : Int))), (0, .ref (a 0)), (1, .ref s), (2, .int (iI (fr : Int))), (3, .int (iI (n : Int))), (4, .int (iI dp)), (6, .int (bI true)), (7, .int (bI true)), (11, .int (iI (e : Int)))]) zx zb dX8_look_360 hl (by decide) rfl (fun ls hl => ?_)
                                  refine lv_aload_n zx zb dX8_look_362 rfl (lv_at hl 1 rfl) ?_
                                  refine lv_dup zx zb dX8_look_363 rfl ?_
                                  refine gf8_117 (v := .int (iI (te : Int))) zC h 0 rfl rfl dX8_look_364 ?_
                                  refine lv_iconst (v := iI (1)) zx zb dX8_look_367 rfl ?_
                                  refine i_add zC (a := (te : Int)) (b := 1) dX8_look_368 ?_
                                  rw [show ((te : Int) + 1 : Int) = ((te + 1 : Nat) : Int) from by omega]
                                  refine pf8_117 (x := iI ((te + 1 : Nat) : Int)) zC h 0 (ws' := [(a 0, oM a mth mrw mrg mbd mnw mlc msz man mas mak mkp f1 ((te + 1 : Nat) : Int) mta (lv : Int) mct mgr mgo mgg), (s, cI g len F), (a 14, cI g 22 NO), (a 5, cZ g 5 MK)]) rfl rfl (Nat.le_of_ble_eq_true rfl) dX8_look_369 (fun H locs h => ?_)
                                  refine lv_iload zx zb dX8_look_372 (lv_at hl 5 rfl) ?_
                                  refine lv_aload_n zx zb dX8_look_374 rfl (lv_at hl 1 rfl) ?_
                                  refine r_invV (As := []) (rest := [.int (iI dp)]) (wr := [(s, cI g len F), (a 5, cZ g 5 MK)]) (ws2 := fun u_117 => [(a 0, oM a mth mrw mrg mbd mnw mlc msz man mas mak mkp f1 ((te + 1 : Nat) : Int) mta (lv : Int) mct mgr mgo mgg), (s, cI g len F), (a 14, cI g 22 (up NO lv 0)), (a 5, cZ g 5 MK)]) 0 0 zC h hl.1 (c_X8_overs l D g a mth mrw mrg mbd mnw mlc msz mas mak mkp f1 ((te + 1 : Nat) : Int) mta mct mgo man mgr mgg lv  NO  (by omega)) (cs8_136 zC ⟨(Nat.le_of_ble_eq_true rfl), (Nat.le_of_ble_eq_true rfl)⟩) (.head _) rfl rfl rfl (Nat.le_of_ble_eq_true rfl) (pm fun cp_q => by simp only [cp_o, List.countP_append, List.countP_nil] <;> omega) (fun u => (pm fun cp_q => by simp only [cp_o, List.countP_append, List.countP_nil] <;> omega)) ⟨(Nat.le_of_ble_eq_true rfl), (Nat.le_of_ble_eq_true rfl)⟩ (Nat.le_of_ble_eq_true rfl) (Nat.le_of_ble_eq_true rfl) dX8_look_375 (fun u_117 H locs hu_117 hz_117 h => ?_)
                                  refine i_sub zC (a := dp) (b := NO lv) dX8_look_378 ?_
                                  refine lv_istore (lv' := [(4, .int (iI (dp - (NO lv)))), (5, .int (iI (e : Int))), (0, .ref (a 0)), (1, .ref s), (2, .int (iI (fr : Int))), (3, .int (iI (n : Int))), (6, .int (bI true)), (7, .int (bI true)), (11, .int (iI (e : Int)))]) zx zb dX8_look_379 hl (by decide) rfl (fun ls hl => ?_)
                                  refine lv_iconst (v := iI (0)) zx zb dX8_look_381 rfl ?_
                                  refine lv_istore (lv' := [(6, .int (iI 0)), (4, .int (iI (dp - (NO lv)))), (5, .int (iI (e : Int))), (0, .ref (a 0)), (1, .ref s), (2, .int (iI (fr : Int))), (3, .int (iI (n : Int))), (7, .int (bI true)), (11, .int (iI (e : Int)))]) zx zb dX8_look_382 hl (by decide) rfl (fun ls hl => ?_)
                                  refine lv_goto (tgt := 454) zx zb dX8_look_384 (by decide) ?_
                                  refine lv_goto (tgt := 56) zx zb dX8_look_454 (by decide) ?_
                                  exact ih56 false true e (dp - (NO lv)) f1 (te + 1) lv (up NO lv 0) _ _ _ (by omega) ⟨by omega, fun _ => ⟨by omega, fun _ => (B6 (hDe (by omega)) (by omega) hX), fun q => absurd q (by decide)⟩, fun q => absurd q (by omega)⟩ (by omega) (by omega) h (lv_sub hl [3, 4, 5, 6, 1, 2, 0, 7] rfl)
                                · skip
                                  refine lv_iload zx zb dX8_look_346 (lv_at hl 8 rfl) ?_
                                  refine lv_goto (tgt := 355) zx zb dX8_look_348 (by decide) ?_
                                  refine pf8_114 (x := iI (e : Int)) zC h 0 (ws' := [(a 0, oM a mth mrw mrg mbd mnw mlc msz man mas mak mkp (e : Int) (te : Int) mta (lv : Int) mct mgr mgo mgg), (s, cI g len F), (a 14, cI g 22 NO), (a 5, cZ g 5 MK)]) rfl rfl (Nat.le_of_ble_eq_true rfl) dX8_look_355 (fun H locs h => ?_)
                                  refine lv_iload zx zb dX8_look_358 (lv_at hl 8 rfl) ?_
                                  refine lv_istore (lv' := [(5, .int (iI (e : Int))), (0, .ref (a 0)), (1, .ref s), (2, .int (iI (fr : Int))), (3, .int (iI (n : Int))), (4, .int (iI dp)), (6, .int (bI true)), (7, .int (bI true)), (11, .int (iI (e : Int)))]) zx zb dX8_look_360 hl (by decide) rfl (fun ls hl => ?_)
                                  refine lv_aload_n zx zb dX8_look_362 rfl (lv_at hl 1 rfl) ?_
                                  refine lv_dup zx zb dX8_look_363 rfl ?_
                                  refine gf8_117 (v := .int (iI (te : Int))) zC h 0 rfl rfl dX8_look_364 ?_
                                  refine lv_iconst (v := iI (1)) zx zb dX8_look_367 rfl ?_
                                  refine i_add zC (a := (te : Int)) (b := 1) dX8_look_368 ?_
                                  rw [show ((te : Int) + 1 : Int) = ((te + 1 : Nat) : Int) from by omega]
                                  refine pf8_117 (x := iI ((te + 1 : Nat) : Int)) zC h 0 (ws' := [(a 0, oM a mth mrw mrg mbd mnw mlc msz man mas mak mkp (e : Int) ((te + 1 : Nat) : Int) mta (lv : Int) mct mgr mgo mgg), (s, cI g len F), (a 14, cI g 22 NO), (a 5, cZ g 5 MK)]) rfl rfl (Nat.le_of_ble_eq_true rfl) dX8_look_369 (fun H locs h => ?_)
                                  refine lv_iload zx zb dX8_look_372 (lv_at hl 5 rfl) ?_
                                  refine lv_aload_n zx zb dX8_look_374 rfl (lv_at hl 1 rfl) ?_
                                  refine r_invV (As := []) (rest := [.int (iI dp)]) (wr := [(s, cI g len F), (a 5, cZ g 5 MK)]) (ws2 := fun u_118 => [(a 0, oM a mth mrw mrg mbd mnw mlc msz man mas mak mkp (e : Int) ((te + 1 : Nat) : Int) mta (lv : Int) mct mgr mgo mgg), (s, cI g len F), (a 14, cI g 22 (up NO lv 0)), (a 5, cZ g 5 MK)]) 0 0 zC h hl.1 (c_X8_overs l D g a mth mrw mrg mbd mnw mlc msz mas mak mkp (e : Int) ((te + 1 : Nat) : Int) mta mct mgo man mgr mgg lv  NO  (by omega)) (cs8_136 zC ⟨(Nat.le_of_ble_eq_true rfl), (Nat.le_of_ble_eq_true rfl)⟩) (.head _) rfl rfl rfl (Nat.le_of_ble_eq_true rfl) (pm fun cp_q => by simp only [cp_o, List.countP_append, List.countP_nil] <;> omega) (fun u => (pm fun cp_q => by simp only [cp_o, List.countP_append, List.countP_nil] <;> omega)) ⟨(Nat.le_of_ble_eq_true rfl), (Nat.le_of_ble_eq_true rfl)⟩ (Nat.le_of_ble_eq_true rfl) (Nat.le_of_ble_eq_true rfl) dX8_look_375 (fun u_118 H locs hu_118 hz_118 h => ?_)
                                  refine i_sub zC (a := dp) (b := NO lv) dX8_look_378 ?_
                                  refine lv_istore (lv' := [(4, .int (iI (dp - (NO lv)))), (5, .int (iI (e : Int))), (0, .ref (a 0)), (1, .ref s), (2, .int (iI (fr : Int))), (3, .int (iI (n : Int))), (6, .int (bI true)), (7, .int (bI true)), (11, .int (iI (e : Int)))]) zx zb dX8_look_379 hl (by decide) rfl (fun ls hl => ?_)
                                  refine lv_iconst (v := iI (0)) zx zb dX8_look_381 rfl ?_
                                  refine lv_istore (lv' := [(6, .int (iI 0)), (4, .int (iI (dp - (NO lv)))), (5, .int (iI (e : Int))), (0, .ref (a 0)), (1, .ref s), (2, .int (iI (fr : Int))), (3, .int (iI (n : Int))), (7, .int (bI true)), (11, .int (iI (e : Int)))]) zx zb dX8_look_382 hl (by decide) rfl (fun ls hl => ?_)
                                  refine lv_goto (tgt := 454) zx zb dX8_look_384 (by decide) ?_
                                  refine lv_goto (tgt := 56) zx zb dX8_look_454 (by decide) ?_
                                  exact ih56 false true e (dp - (NO lv)) (e : Int) (te + 1) lv (up NO lv 0) _ _ _ (by omega) ⟨by omega, fun q => absurd q (by omega), fun _ => (B5 (hDe (by omega)) (by omega) (by rcases hX with q | q; omega; exact q))⟩ (by omega) (by omega) h (lv_sub hl [3, 4, 5, 6, 1, 2, 0, 7] rfl)
                            · skip
                              simp only [decide_eq_true_eq, decide_eq_false_iff_not] at c_113
                              refine i_inc (q := 8) (a := (e : Int)) (lv' := [(11, .int (iI ((e : Int) + 1))), (0, .ref (a 0)), (1, .ref s), (2, .int (iI (fr : Int))), (3, .int (iI (n : Int))), (4, .int (iI dp)), (5, .int (iI (k : Int))), (6, .int (bI true)), (7, .int (bI true))]) zC hl dX8_look_323 rfl (by decide) rfl (fun ls hl => ?_)
                              refine lv_goto (tgt := 292) zx zb dX8_look_326 (by decide) ?_
                              exact ih292 (e + 1) _ _ _ (by omega) (by omega) (fun q => B4 (hDe q) (by omega) (by omega) (by omega)) h (lv_sub hl [1, 2, 3, 4, 5, 6, 7, 8, 0] rfl)
                      exact L292_104 _ (k + 2) _ _ _ (Nat.lt_succ_self _) (by omega) (fun q => (hJ.1 q).2) h (lv_sub hl [1, 2, 3, 4, 5, 6, 7, 8, 0] rfl)
                    refine lv_iload zx zb dX8_look_190 (lv_at hl 0 rfl) ?_
                    refine r_invS (As := [.int (iI (atX (fun k => F (fr + k)) n k))]) (rest := []) (wr := [(a 0, oM a mth mrw mrg mbd mnw mlc msz man mas mak mkp fa (te : Int) mta (lv : Int) mct mgr mgo mgg), (s, cI g len F), (a 14, cI g 22 NO), (a 5, cZ g 5 MK)]) (ws2 := fun u_119 => [(a 0, oM a mth mrw mrg mbd mnw mlc msz man mas mak mkp fa (te : Int) mta (lv : Int) mct mgr mgo mgg), (s, cI g len F), (a 14, cI g 22 NO), (a 5, cZ g 5 MK)]) 0 0 zC h hl.1 (c_X8_fieldOf l D g (atX (fun k => F (fr + k)) n k) (by omega)) (cs8_128 zC ⟨(Nat.le_of_ble_eq_true rfl), (Nat.le_of_ble_eq_true rfl)⟩) rfl rfl (Nat.le_of_ble_eq_true rfl) (List.Perm.refl _) (fun u => List.Perm.refl _) ⟨(Nat.le_of_ble_eq_true rfl), (Nat.le_of_ble_eq_true rfl)⟩ (Nat.le_of_ble_eq_true rfl) (Nat.le_of_ble_eq_true rfl) dX8_look_192 (fun u_119 H locs hu_119 hz_119 h => ?_)
                    have hfR_119 := fOf_R (atX (fun k => F (fr + k)) n k)
                    refine lv_istore (lv' := [(9, .int (iI (fOf (atX (fun k => F (fr + k)) n k)))), (8, .int (iI (atX (fun k => F (fr + k)) n k))), (0, .ref (a 0)), (1, .ref s), (2, .int (iI (fr : Int))), (3, .int (iI (n : Int))), (4, .int (iI dp)), (5, .int (iI (k : Int))), (6, .int (bI true)), (7, .int (bI true))]) zx zb dX8_look_195 hl (by decide) rfl (fun ls hl => ?_)
                    refine lv_aload_n zx zb dX8_look_197 rfl (lv_at hl 2 rfl) ?_
                    refine lv_iload zx zb dX8_look_198 (lv_at hl 0 rfl) ?_
                    refine i_zlt (a := fOf (atX (fun k => F (fr + k)) n k)) (tgt := 222) zC dX8_look_200 (by decide) (by omega) (fun c_120 => ?_) (fun c_120 => ?_)
                    · skip
                      have hF : LF MK (fun k => F (fr + k)) n (rBegin r) (k : Int) := B1 hI h33 h40 (Or.inl c_120)
                      refine lv_iload zx zb dX8_look_222 (lv_at hl 7 rfl) ?_
                      refine lv_goto (tgt := 228) zx zb dX8_look_224 (by decide) ?_
                      refine pf8_114 (x := iI (k : Int)) zC h 0 (ws' := [(a 0, oM a mth mrw mrg mbd mnw mlc msz man mas mak mkp (k : Int) (te : Int) mta (lv : Int) mct mgr mgo mgg), (s, cI g len F), (a 14, cI g 22 NO), (a 5, cZ g 5 MK)]) rfl rfl (Nat.le_of_ble_eq_true rfl) dX8_look_228 (fun H locs h => ?_)
                      refine lv_aload_n zx zb dX8_look_231 rfl (lv_at hl 3 rfl) ?_
                      refine lv_iload_n zx zb dX8_look_232 rfl (lv_at hl 4 rfl) ?_
                      refine lv_iload_n zx zb dX8_look_233 rfl (lv_at hl 5 rfl) ?_
                      refine lv_iload zx zb dX8_look_234 (lv_at hl 7 rfl) ?_
                      refine lv_iconst (v := iI (1)) zx zb dX8_look_236 rfl ?_
                      refine i_add zC (a := (k : Int)) (b := 1) dX8_look_237 ?_
                      rw [show ((k : Int) + 1 : Int) = ((k + 1 : Nat) : Int) from by omega]
                      refine r_invS (As := [.ref s, .int (iI (fr : Int)), .int (iI (n : Int)), .int (iI ((k + 1 : Nat) : Int))]) (rest := []) (wr := [(a 0, oM a mth mrw mrg mbd mnw mlc msz man mas mak mkp (k : Int) (te : Int) mta (lv : Int) mct mgr mgo mgg), (a 14, cI g 22 NO), (a 5, cZ g 5 MK)]) (ws2 := fun u_121 => [(a 0, oM a mth mrw mrg mbd mnw mlc msz man mas mak mkp (k : Int) (te : Int) mta (lv : Int) mct mgr mgo mgg), (s, cI g len F), (a 14, cI g 22 NO), (a 5, cZ g 5 MK)]) 0 0 zC h hl.1 (c_X8_at l D g s len F fr n (k + 1) hfn hlen (by omega)) (cs8_120 zC ⟨(Nat.le_of_ble_eq_true rfl), (Nat.le_of_ble_eq_true rfl)⟩) rfl rfl (Nat.le_of_ble_eq_true rfl) (pm fun cp_q => by simp only [cp_o, List.countP_append, List.countP_nil] <;> omega) (fun u => (pm fun cp_q => by simp only [cp_o, List.countP_append, List.countP_nil] <;> omega)) ⟨(Nat.le_of_ble_eq_true rfl), (Nat.le_of_ble_eq_true rfl)⟩ (Nat.le_of_ble_eq_true rfl) (Nat.le_of_ble_eq_true rfl) dX8_look_238 (fun u_121 H locs hu_121 hz_121 h => ?_)
                      rw [atX_T]
                      have hxR_120 := atX_R (k := (k + 1)) hR
                      refine lv_istore (lv' := [(10, .int (iI (atX (fun k => F (fr + k)) n (k + 1)))), (9, .int (iI (fOf (atX (fun k => F (fr + k)) n k)))), (8, .int (iI (atX (fun k => F (fr + k)) n k))), (0, .ref (a 0)), (1, .ref s), (2, .int (iI (fr : Int))), (3, .int (iI (n : Int))), (4, .int (iI dp)), (5, .int (iI (k : Int))), (6, .int (bI true)), (7, .int (bI true))]) zx zb dX8_look_241 hl (by decide) rfl (fun ls hl => ?_)
                      refine lv_aload_n zx zb dX8_look_243 rfl (lv_at hl 3 rfl) ?_
                      refine lv_aload_n zx zb dX8_look_244 rfl (lv_at hl 3 rfl) ?_
                      refine gf8_114 (v := .int (iI (k : Int))) zC h 0 rfl rfl dX8_look_245 ?_
                      refine i_zge (a := (k : Int)) (tgt := 279) zC dX8_look_248 (by decide) (by omega) (fun c_122 => ?_) (fun c_122 => absurd c_122 (by omega))
                      refine lv_aload_n zx zb dX8_look_279 rfl (lv_at hl 3 rfl) ?_
                      refine gf8_114 (v := .int (iI (k : Int))) zC h 0 rfl rfl dX8_look_280 ?_
                      refine pf8_114 (x := iI (k : Int)) zC h 0 (ws' := [(a 0, oM a mth mrw mrg mbd mnw mlc msz man mas mak mkp (k : Int) (te : Int) mta (lv : Int) mct mgr mgo mgg), (s, cI g len F), (a 14, cI g 22 NO), (a 5, cZ g 5 MK)]) rfl rfl (Nat.le_of_ble_eq_true rfl) dX8_look_283 (fun H locs h => ?_)
                      exact J286_103 (k : Int) _ _ _ ⟨fun q => absurd q (by omega), fun _ => hF⟩ (by omega) h (lv_sub hl [3, 4, 5, 6, 7, 8, 9, 10] rfl)
                    · skip
                      have hf := c_120
                      refine lv_aload_n zx zb dX8_look_203 rfl (lv_at hl 2 rfl) ?_
                      refine gf8_22 (v := .ref (a 5)) zC h 0 rfl rfl dX8_look_204 ?_
                      refine lv_iload zx zb dX8_look_207 (lv_at hl 0 rfl) ?_
                      refine a_zld zC h 3 rfl (z := fOf (atX (fun k => F (fr + k)) n k)) ((fOf (atX (fun k => F (fr + k)) n k)).toNat) (by omega) (by omega) (by decide) dX8_look_209 ?_
                      refine b_zne (b := MK ((fOf (atX (fun k => F (fr + k)) n k)).toNat)) (tgt := 222) zC dX8_look_210 (by decide) (fun c_123 => ?_) (fun c_123 => ?_)
                      · skip
                        have hF : LF MK (fun k => F (fr + k)) n (rBegin r) (k : Int) := B1 hI h33 h40 (Or.inr (Or.inl c_123))
                        refine lv_iload zx zb dX8_look_222 (lv_at hl 7 rfl) ?_
                        refine lv_goto (tgt := 228) zx zb dX8_look_224 (by decide) ?_
                        refine pf8_114 (x := iI (k : Int)) zC h 0 (ws' := [(a 0, oM a mth mrw mrg mbd mnw mlc msz man mas mak mkp (k : Int) (te : Int) mta (lv : Int) mct mgr mgo mgg), (s, cI g len F), (a 14, cI g 22 NO), (a 5, cZ g 5 MK)]) rfl rfl (Nat.le_of_ble_eq_true rfl) dX8_look_228 (fun H locs h => ?_)
                        refine lv_aload_n zx zb dX8_look_231 rfl (lv_at hl 3 rfl) ?_
                        refine lv_iload_n zx zb dX8_look_232 rfl (lv_at hl 4 rfl) ?_
                        refine lv_iload_n zx zb dX8_look_233 rfl (lv_at hl 5 rfl) ?_
                        refine lv_iload zx zb dX8_look_234 (lv_at hl 7 rfl) ?_
                        refine lv_iconst (v := iI (1)) zx zb dX8_look_236 rfl ?_
                        refine i_add zC (a := (k : Int)) (b := 1) dX8_look_237 ?_
                        rw [show ((k : Int) + 1 : Int) = ((k + 1 : Nat) : Int) from by omega]
                        refine r_invS (As := [.ref s, .int (iI (fr : Int)), .int (iI (n : Int)), .int (iI ((k + 1 : Nat) : Int))]) (rest := []) (wr := [(a 0, oM a mth mrw mrg mbd mnw mlc msz man mas mak mkp (k : Int) (te : Int) mta (lv : Int) mct mgr mgo mgg), (a 14, cI g 22 NO), (a 5, cZ g 5 MK)]) (ws2 := fun u_124 => [(a 0, oM a mth mrw mrg mbd mnw mlc msz man mas mak mkp (k : Int) (te : Int) mta (lv : Int) mct mgr mgo mgg), (s, cI g len F), (a 14, cI g 22 NO), (a 5, cZ g 5 MK)]) 0 0 zC h hl.1 (c_X8_at l D g s len F fr n (k + 1) hfn hlen (by omega)) (cs8_120 zC ⟨(Nat.le_of_ble_eq_true rfl), (Nat.le_of_ble_eq_true rfl)⟩) rfl rfl (Nat.le_of_ble_eq_true rfl) (pm fun cp_q => by simp only [cp_o, List.countP_append, List.countP_nil] <;> omega) (fun u => (pm fun cp_q => by simp only [cp_o, List.countP_append, List.countP_nil] <;> omega)) ⟨(Nat.le_of_ble_eq_true rfl), (Nat.le_of_ble_eq_true rfl)⟩ (Nat.le_of_ble_eq_true rfl) (Nat.le_of_ble_eq_true rfl) dX8_look_238 (fun u_124 H locs hu_124 hz_124 h => ?_)
                        rw [atX_T]
                        have hxR_123 := atX_R (k := (k + 1)) hR
                        refine lv_istore (lv' := [(10, .int (iI (atX (fun k => F (fr + k)) n (k + 1)))), (9, .int (iI (fOf (atX (fun k => F (fr + k)) n k)))), (8, .int (iI (atX (fun k => F (fr + k)) n k))), (0, .ref (a 0)), (1, .ref s), (2, .int (iI (fr : Int))), (3, .int (iI (n : Int))), (4, .int (iI dp)), (5, .int (iI (k : Int))), (6, .int (bI true)), (7, .int (bI true))]) zx zb dX8_look_241 hl (by decide) rfl (fun ls hl => ?_)
                        refine lv_aload_n zx zb dX8_look_243 rfl (lv_at hl 3 rfl) ?_
                        refine lv_aload_n zx zb dX8_look_244 rfl (lv_at hl 3 rfl) ?_
                        refine gf8_114 (v := .int (iI (k : Int))) zC h 0 rfl rfl dX8_look_245 ?_
                        refine i_zge (a := (k : Int)) (tgt := 279) zC dX8_look_248 (by decide) (by omega) (fun c_125 => ?_) (fun c_125 => absurd c_125 (by omega))
                        refine lv_aload_n zx zb dX8_look_279 rfl (lv_at hl 3 rfl) ?_
                        refine gf8_114 (v := .int (iI (k : Int))) zC h 0 rfl rfl dX8_look_280 ?_
                        refine pf8_114 (x := iI (k : Int)) zC h 0 (ws' := [(a 0, oM a mth mrw mrg mbd mnw mlc msz man mas mak mkp (k : Int) (te : Int) mta (lv : Int) mct mgr mgo mgg), (s, cI g len F), (a 14, cI g 22 NO), (a 5, cZ g 5 MK)]) rfl rfl (Nat.le_of_ble_eq_true rfl) dX8_look_283 (fun H locs h => ?_)
                        exact J286_103 (k : Int) _ _ _ ⟨fun q => absurd q (by omega), fun _ => hF⟩ (by omega) h (lv_sub hl [3, 4, 5, 6, 7, 8, 9, 10] rfl)
                      · skip
                        have hm := c_123
                        refine lv_aload_n zx zb dX8_look_213 rfl (lv_at hl 2 rfl) ?_
                        refine gf8_117 (v := .int (iI (te : Int))) zC h 0 rfl rfl dX8_look_214 ?_
                        refine lv_bipush (v := iI (40)) zx zb dX8_look_217 rfl ?_
                        refine i_cne (a := (te : Int)) (b := 40) (tgt := 227) zC dX8_look_219 (by decide) (by omega) (fun c_126 => ?_) (fun c_126 => ?_)
                        · skip
                          have ht : te ≠ 40 := by omega
                          refine lv_iconst (v := iI (-1)) zx zb dX8_look_227 rfl ?_
                          refine pf8_114 (x := iI (-1)) zC h 0 (ws' := [(a 0, oM a mth mrw mrg mbd mnw mlc msz man mas mak mkp (-1) (te : Int) mta (lv : Int) mct mgr mgo mgg), (s, cI g len F), (a 14, cI g 22 NO), (a 5, cZ g 5 MK)]) rfl rfl (Nat.le_of_ble_eq_true rfl) dX8_look_228 (fun H locs h => ?_)
                          refine lv_aload_n zx zb dX8_look_231 rfl (lv_at hl 3 rfl) ?_
                          refine lv_iload_n zx zb dX8_look_232 rfl (lv_at hl 4 rfl) ?_
                          refine lv_iload_n zx zb dX8_look_233 rfl (lv_at hl 5 rfl) ?_
                          refine lv_iload zx zb dX8_look_234 (lv_at hl 7 rfl) ?_
                          refine lv_iconst (v := iI (1)) zx zb dX8_look_236 rfl ?_
                          refine i_add zC (a := (k : Int)) (b := 1) dX8_look_237 ?_
                          rw [show ((k : Int) + 1 : Int) = ((k + 1 : Nat) : Int) from by omega]
                          refine r_invS (As := [.ref s, .int (iI (fr : Int)), .int (iI (n : Int)), .int (iI ((k + 1 : Nat) : Int))]) (rest := []) (wr := [(a 0, oM a mth mrw mrg mbd mnw mlc msz man mas mak mkp (-1) (te : Int) mta (lv : Int) mct mgr mgo mgg), (a 14, cI g 22 NO), (a 5, cZ g 5 MK)]) (ws2 := fun u_127 => [(a 0, oM a mth mrw mrg mbd mnw mlc msz man mas mak mkp (-1) (te : Int) mta (lv : Int) mct mgr mgo mgg), (s, cI g len F), (a 14, cI g 22 NO), (a 5, cZ g 5 MK)]) 0 0 zC h hl.1 (c_X8_at l D g s len F fr n (k + 1) hfn hlen (by omega)) (cs8_120 zC ⟨(Nat.le_of_ble_eq_true rfl), (Nat.le_of_ble_eq_true rfl)⟩) rfl rfl (Nat.le_of_ble_eq_true rfl) (pm fun cp_q => by simp only [cp_o, List.countP_append, List.countP_nil] <;> omega) (fun u => (pm fun cp_q => by simp only [cp_o, List.countP_append, List.countP_nil] <;> omega)) ⟨(Nat.le_of_ble_eq_true rfl), (Nat.le_of_ble_eq_true rfl)⟩ (Nat.le_of_ble_eq_true rfl) (Nat.le_of_ble_eq_true rfl) dX8_look_238 (fun u_127 H locs hu_127 hz_127 h => ?_)
                          rw [atX_T]
                          have hxR_126 := atX_R (k := (k + 1)) hR
                          refine lv_istore (lv' := [(10, .int (iI (atX (fun k => F (fr + k)) n (k + 1)))), (9, .int (iI (fOf (atX (fun k => F (fr + k)) n k)))), (8, .int (iI (atX (fun k => F (fr + k)) n k))), (0, .ref (a 0)), (1, .ref s), (2, .int (iI (fr : Int))), (3, .int (iI (n : Int))), (4, .int (iI dp)), (5, .int (iI (k : Int))), (6, .int (bI true)), (7, .int (bI true))]) zx zb dX8_look_241 hl (by decide) rfl (fun ls hl => ?_)
                          refine lv_aload_n zx zb dX8_look_243 rfl (lv_at hl 3 rfl) ?_
                          refine lv_aload_n zx zb dX8_look_244 rfl (lv_at hl 3 rfl) ?_
                          refine gf8_114 (v := .int (iI (-1))) zC h 0 rfl rfl dX8_look_245 ?_
                          refine i_zge (a := -1) (tgt := 279) zC dX8_look_248 (by decide) (by omega) (fun c_128 => absurd c_128 (by omega)) (fun c_128 => ?_)
                          refine lv_iload zx zb dX8_look_251 (lv_at hl 0 rfl) ?_
                          refine lv_bipush (v := iI (61)) zx zb dX8_look_253 rfl ?_
                          refine i_ceq (a := atX (fun k => F (fr + k)) n (k + 1)) (b := 61) (tgt := 279) zC dX8_look_255 (by decide) (by omega) (fun c_129 => ?_) (fun c_129 => ?_)
                          · skip
                            have hD := B3 hI h33 h40 hf hm ht (Or.inl c_129)
                            refine lv_aload_n zx zb dX8_look_279 rfl (lv_at hl 3 rfl) ?_
                            refine gf8_114 (v := .int (iI (-1))) zC h 0 rfl rfl dX8_look_280 ?_
                            refine pf8_114 (x := iI (-1)) zC h 0 (ws' := [(a 0, oM a mth mrw mrg mbd mnw mlc msz man mas mak mkp (-1) (te : Int) mta (lv : Int) mct mgr mgo mgg), (s, cI g len F), (a 14, cI g 22 NO), (a 5, cZ g 5 MK)]) rfl rfl (Nat.le_of_ble_eq_true rfl) dX8_look_283 (fun H locs h => ?_)
                            exact J286_103 (-1) _ _ _ ⟨fun _ => ⟨by omega, hD⟩, fun q => absurd q (by omega)⟩ (by omega) h (lv_sub hl [3, 4, 5, 6, 7, 8, 9, 10] rfl)
                          · skip
                            have ho1 := c_129
                            refine lv_iload zx zb dX8_look_258 (lv_at hl 0 rfl) ?_
                            refine lv_bipush (v := iI (60)) zx zb dX8_look_260 rfl ?_
                            refine i_ceq (a := atX (fun k => F (fr + k)) n (k + 1)) (b := 60) (tgt := 279) zC dX8_look_262 (by decide) (by omega) (fun c_130 => ?_) (fun c_130 => ?_)
                            · skip
                              have hD := B3 hI h33 h40 hf hm ht (Or.inr (Or.inl c_130))
                              refine lv_aload_n zx zb dX8_look_279 rfl (lv_at hl 3 rfl) ?_
                              refine gf8_114 (v := .int (iI (-1))) zC h 0 rfl rfl dX8_look_280 ?_
                              refine pf8_114 (x := iI (-1)) zC h 0 (ws' := [(a 0, oM a mth mrw mrg mbd mnw mlc msz man mas mak mkp (-1) (te : Int) mta (lv : Int) mct mgr mgo mgg), (s, cI g len F), (a 14, cI g 22 NO), (a 5, cZ g 5 MK)]) rfl rfl (Nat.le_of_ble_eq_true rfl) dX8_look_283 (fun H locs h => ?_)
                              exact J286_103 (-1) _ _ _ ⟨fun _ => ⟨by omega, hD⟩, fun q => absurd q (by omega)⟩ (by omega) h (lv_sub hl [3, 4, 5, 6, 7, 8, 9, 10] rfl)
                            · skip
                              have ho2 := c_130
                              refine lv_iload zx zb dX8_look_265 (lv_at hl 0 rfl) ?_
                              refine lv_bipush (v := iI (62)) zx zb dX8_look_267 rfl ?_
                              refine i_ceq (a := atX (fun k => F (fr + k)) n (k + 1)) (b := 62) (tgt := 279) zC dX8_look_269 (by decide) (by omega) (fun c_131 => ?_) (fun c_131 => ?_)
                              · skip
                                have hD := B3 hI h33 h40 hf hm ht (Or.inr (Or.inr c_131))
                                refine lv_aload_n zx zb dX8_look_279 rfl (lv_at hl 3 rfl) ?_
                                refine gf8_114 (v := .int (iI (-1))) zC h 0 rfl rfl dX8_look_280 ?_
                                refine pf8_114 (x := iI (-1)) zC h 0 (ws' := [(a 0, oM a mth mrw mrg mbd mnw mlc msz man mas mak mkp (-1) (te : Int) mta (lv : Int) mct mgr mgo mgg), (s, cI g len F), (a 14, cI g 22 NO), (a 5, cZ g 5 MK)]) rfl rfl (Nat.le_of_ble_eq_true rfl) dX8_look_283 (fun H locs h => ?_)
                                exact J286_103 (-1) _ _ _ ⟨fun _ => ⟨by omega, hD⟩, fun q => absurd q (by omega)⟩ (by omega) h (lv_sub hl [3, 4, 5, 6, 7, 8, 9, 10] rfl)
                              · skip
                                have hF : LF MK (fun k => F (fr + k)) n (rBegin r) ((k : Int) + 1) := B2 hI h33 h40 hf hm ht ho1 ho2 c_131
                                refine lv_iload zx zb dX8_look_272 (lv_at hl 8 rfl) ?_
                                refine lv_iconst (v := iI (1)) zx zb dX8_look_274 rfl ?_
                                refine i_add zC (a := (k : Int)) (b := 1) dX8_look_275 ?_
                                refine lv_goto (tgt := 283) zx zb dX8_look_276 (by decide) ?_
                                refine pf8_114 (x := iI ((k : Int) + 1)) zC h 0 (ws' := [(a 0, oM a mth mrw mrg mbd mnw mlc msz man mas mak mkp ((k : Int) + 1) (te : Int) mta (lv : Int) mct mgr mgo mgg), (s, cI g len F), (a 14, cI g 22 NO), (a 5, cZ g 5 MK)]) rfl rfl (Nat.le_of_ble_eq_true rfl) dX8_look_283 (fun H locs h => ?_)
                                exact J286_103 ((k : Int) + 1) _ _ _ ⟨fun q => absurd q (by omega), fun _ => hF⟩ (by omega) h (lv_sub hl [3, 4, 5, 6, 7, 8, 9, 10] rfl)
                        · skip
                          have hF : LF MK (fun k => F (fr + k)) n (rBegin r) (k : Int) := B1 hI h33 h40 (Or.inr (Or.inr (by omega)))
                          refine lv_iload zx zb dX8_look_222 (lv_at hl 7 rfl) ?_
                          refine lv_goto (tgt := 228) zx zb dX8_look_224 (by decide) ?_
                          refine pf8_114 (x := iI (k : Int)) zC h 0 (ws' := [(a 0, oM a mth mrw mrg mbd mnw mlc msz man mas mak mkp (k : Int) (te : Int) mta (lv : Int) mct mgr mgo mgg), (s, cI g len F), (a 14, cI g 22 NO), (a 5, cZ g 5 MK)]) rfl rfl (Nat.le_of_ble_eq_true rfl) dX8_look_228 (fun H locs h => ?_)
                          refine lv_aload_n zx zb dX8_look_231 rfl (lv_at hl 3 rfl) ?_
                          refine lv_iload_n zx zb dX8_look_232 rfl (lv_at hl 4 rfl) ?_
                          refine lv_iload_n zx zb dX8_look_233 rfl (lv_at hl 5 rfl) ?_
                          refine lv_iload zx zb dX8_look_234 (lv_at hl 7 rfl) ?_
                          refine lv_iconst (v := iI (1)) zx zb dX8_look_236 rfl ?_
                          refine i_add zC (a := (k : Int)) (b := 1) dX8_look_237 ?_
                          rw [show ((k : Int) + 1 : Int) = ((k + 1 : Nat) : Int) from by omega]
                          refine r_invS (As := [.ref s, .int (iI (fr : Int)), .int (iI (n : Int)), .int (iI ((k + 1 : Nat) : Int))]) (rest := []) (wr := [(a 0, oM a mth mrw mrg mbd mnw mlc msz man mas mak mkp (k : Int) (te : Int) mta (lv : Int) mct mgr mgo mgg), (a 14, cI g 22 NO), (a 5, cZ g 5 MK)]) (ws2 := fun u_132 => [(a 0, oM a mth mrw mrg mbd mnw mlc msz man mas mak mkp (k : Int) (te : Int) mta (lv : Int) mct mgr mgo mgg), (s, cI g len F), (a 14, cI g 22 NO), (a 5, cZ g 5 MK)]) 0 0 zC h hl.1 (c_X8_at l D g s len F fr n (k + 1) hfn hlen (by omega)) (cs8_120 zC ⟨(Nat.le_of_ble_eq_true rfl), (Nat.le_of_ble_eq_true rfl)⟩) rfl rfl (Nat.le_of_ble_eq_true rfl) (pm fun cp_q => by simp only [cp_o, List.countP_append, List.countP_nil] <;> omega) (fun u => (pm fun cp_q => by simp only [cp_o, List.countP_append, List.countP_nil] <;> omega)) ⟨(Nat.le_of_ble_eq_true rfl), (Nat.le_of_ble_eq_true rfl)⟩ (Nat.le_of_ble_eq_true rfl) (Nat.le_of_ble_eq_true rfl) dX8_look_238 (fun u_132 H locs hu_132 hz_132 h => ?_)
                          rw [atX_T]
                          have hxR_131 := atX_R (k := (k + 1)) hR
                          refine lv_istore (lv' := [(10, .int (iI (atX (fun k => F (fr + k)) n (k + 1)))), (9, .int (iI (fOf (atX (fun k => F (fr + k)) n k)))), (8, .int (iI (atX (fun k => F (fr + k)) n k))), (0, .ref (a 0)), (1, .ref s), (2, .int (iI (fr : Int))), (3, .int (iI (n : Int))), (4, .int (iI dp)), (5, .int (iI (k : Int))), (6, .int (bI true)), (7, .int (bI true))]) zx zb dX8_look_241 hl (by decide) rfl (fun ls hl => ?_)
                          refine lv_aload_n zx zb dX8_look_243 rfl (lv_at hl 3 rfl) ?_
                          refine lv_aload_n zx zb dX8_look_244 rfl (lv_at hl 3 rfl) ?_
                          refine gf8_114 (v := .int (iI (k : Int))) zC h 0 rfl rfl dX8_look_245 ?_
                          refine i_zge (a := (k : Int)) (tgt := 279) zC dX8_look_248 (by decide) (by omega) (fun c_133 => ?_) (fun c_133 => absurd c_133 (by omega))
                          refine lv_aload_n zx zb dX8_look_279 rfl (lv_at hl 3 rfl) ?_
                          refine gf8_114 (v := .int (iI (k : Int))) zC h 0 rfl rfl dX8_look_280 ?_
                          refine pf8_114 (x := iI (k : Int)) zC h 0 (ws' := [(a 0, oM a mth mrw mrg mbd mnw mlc msz man mas mak mkp (k : Int) (te : Int) mta (lv : Int) mct mgr mgo mgg), (s, cI g len F), (a 14, cI g 22 NO), (a 5, cZ g 5 MK)]) rfl rfl (Nat.le_of_ble_eq_true rfl) dX8_look_283 (fun H locs h => ?_)
                          exact J286_103 (k : Int) _ _ _ ⟨fun q => absurd q (by omega), fun _ => hF⟩ (by omega) h (lv_sub hl [3, 4, 5, 6, 7, 8, 9, 10] rfl)
                  · skip
                    have hc := c_101
                    refine lv_aload_n zx zb dX8_look_97 rfl (lv_at hl 1 rfl) ?_
                    refine lv_iload zx zb dX8_look_98 (lv_at hl 5 rfl) ?_
                    refine lv_bipush (v := iI (20)) zx zb dX8_look_100 rfl ?_
                    refine i_cne (a := dp) (b := 20) (tgt := 110) zC dX8_look_102 (by decide) (by omega) (fun c_134 => ?_) (fun c_134 => ?_)
                    · skip
                      refine lv_iconst (v := iI (-1)) zx zb dX8_look_110 rfl ?_
                      refine pf8_114 (x := iI (-1)) zC h 0 (ws' := [(a 0, oM a mth mrw mrg mbd mnw mlc msz man mas mak mkp (-1) (te : Int) mta (lv : Int) mct mgr mgo mgg), (s, cI g len F), (a 14, cI g 22 NO), (a 5, cZ g 5 MK)]) rfl rfl (Nat.le_of_ble_eq_true rfl) dX8_look_111 (fun H locs h => ?_)
                      refine i_inc (q := 5) (a := dp) (lv' := [(4, .int (iI (dp + 1))), (8, .int (iI (atX (fun k => F (fr + k)) n k))), (0, .ref (a 0)), (1, .ref s), (2, .int (iI (fr : Int))), (3, .int (iI (n : Int))), (5, .int (iI (k : Int))), (6, .int (bI true)), (7, .int (bI true))]) zC hl dX8_look_114 rfl (by decide) rfl (fun ls hl => ?_)
                      refine lv_iload zx zb dX8_look_117 (lv_at hl 1 rfl) ?_
                      refine lv_bipush (v := iI (33)) zx zb dX8_look_119 rfl ?_
                      refine i_cne (a := atX (fun k => F (fr + k)) n k) (b := 33) (tgt := 140) zC dX8_look_121 (by decide) (by omega) (fun c_135 => ?_) (fun c_135 => absurd c_135 (by omega))
                      refine lv_aload_n zx zb dX8_look_140 rfl (lv_at hl 2 rfl) ?_
                      refine lv_dup zx zb dX8_look_141 rfl ?_
                      refine gf8_111 (v := .int (iI (lv : Int))) zC h 0 rfl rfl dX8_look_142 ?_
                      refine lv_iconst (v := iI (1)) zx zb dX8_look_145 rfl ?_
                      refine i_add zC (a := (lv : Int)) (b := 1) dX8_look_146 ?_
                      rw [show ((lv : Int) + 1 : Int) = ((lv + 1 : Nat) : Int) from by omega]
                      refine pf8_111 (x := iI ((lv + 1 : Nat) : Int)) zC h 0 (ws' := [(a 0, oM a mth mrw mrg mbd mnw mlc msz man mas mak mkp (-1) (te : Int) mta ((lv + 1 : Nat) : Int) mct mgr mgo mgg), (s, cI g len F), (a 14, cI g 22 NO), (a 5, cZ g 5 MK)]) rfl rfl (Nat.le_of_ble_eq_true rfl) dX8_look_147 (fun H locs h => ?_)
                      refine lv_aload_n zx zb dX8_look_150 rfl (lv_at hl 2 rfl) ?_
                      refine gf8_57 (v := .ref (a 14)) zC h 0 rfl rfl dX8_look_151 ?_
                      refine lv_aload_n zx zb dX8_look_154 rfl (lv_at hl 2 rfl) ?_
                      refine gf8_111 (v := .int (iI ((lv + 1 : Nat) : Int))) zC h 0 rfl rfl dX8_look_155 ?_
                      refine lv_aload_n zx zb dX8_look_158 rfl (lv_at hl 2 rfl) ?_
                      refine gf8_114 (v := .int (iI (-1))) zC h 0 rfl rfl dX8_look_159 ?_
                      refine i_zge (a := -1) (tgt := 169) zC dX8_look_162 (by decide) (by omega) (fun c_136 => absurd c_136 (by omega)) (fun c_136 => ?_)
                      refine lv_iconst (v := iI (0)) zx zb dX8_look_165 rfl ?_
                      refine lv_goto (tgt := 178) zx zb dX8_look_166 (by decide) ?_
                      refine a_ist (x := 0) zC h 2 (ws' := [(a 0, oM a mth mrw mrg mbd mnw mlc msz man mas mak mkp (-1) (te : Int) mta ((lv + 1 : Nat) : Int) mct mgr mgo mgg), (s, cI g len F), (a 14, cI g 22 (up NO (lv + 1) 0)), (a 5, cZ g 5 MK)]) rfl (z := ((lv + 1 : Nat) : Int)) (lv + 1) rfl rfl (by omega) (by decide) dX8_look_178 (fun H locs h => ?_)
                      refine i_inc (q := 6) (a := (k : Int)) (lv' := [(5, .int (iI ((k : Int) + 1))), (4, .int (iI (dp + 1))), (8, .int (iI (atX (fun k => F (fr + k)) n k))), (0, .ref (a 0)), (1, .ref s), (2, .int (iI (fr : Int))), (3, .int (iI (n : Int))), (6, .int (bI true)), (7, .int (bI true))]) zC hl dX8_look_179 rfl (by decide) rfl (fun ls hl => ?_)
                      refine lv_goto (tgt := 454) zx zb dX8_look_182 (by decide) ?_
                      refine lv_goto (tgt := 56) zx zb dX8_look_454 (by decide) ?_
                      exact ih56 true true (k + 1) (dp + 1) (-1) te (lv + 1) (up NO (lv + 1) 0) _ _ _ (by omega) ⟨by omega, fun _ => ⟨by omega, fun _ => (A_o hI hc (by omega)), fun q => absurd q (by decide)⟩, fun q => absurd q (by omega)⟩ (by omega) (by omega) h (lv_sub hl [3, 4, 5, 6, 1, 0, 7, 8] rfl)
                    · skip
                      refine lv_iload zx zb dX8_look_105 (lv_at hl 6 rfl) ?_
                      refine lv_goto (tgt := 111) zx zb dX8_look_107 (by decide) ?_
                      refine pf8_114 (x := iI (k : Int)) zC h 0 (ws' := [(a 0, oM a mth mrw mrg mbd mnw mlc msz man mas mak mkp (k : Int) (te : Int) mta (lv : Int) mct mgr mgo mgg), (s, cI g len F), (a 14, cI g 22 NO), (a 5, cZ g 5 MK)]) rfl rfl (Nat.le_of_ble_eq_true rfl) dX8_look_111 (fun H locs h => ?_)
                      refine i_inc (q := 5) (a := dp) (lv' := [(4, .int (iI (dp + 1))), (8, .int (iI (atX (fun k => F (fr + k)) n k))), (0, .ref (a 0)), (1, .ref s), (2, .int (iI (fr : Int))), (3, .int (iI (n : Int))), (5, .int (iI (k : Int))), (6, .int (bI true)), (7, .int (bI true))]) zC hl dX8_look_114 rfl (by decide) rfl (fun ls hl => ?_)
                      refine lv_iload zx zb dX8_look_117 (lv_at hl 1 rfl) ?_
                      refine lv_bipush (v := iI (33)) zx zb dX8_look_119 rfl ?_
                      refine i_cne (a := atX (fun k => F (fr + k)) n k) (b := 33) (tgt := 140) zC dX8_look_121 (by decide) (by omega) (fun c_137 => ?_) (fun c_137 => absurd c_137 (by omega))
                      refine lv_aload_n zx zb dX8_look_140 rfl (lv_at hl 2 rfl) ?_
                      refine lv_dup zx zb dX8_look_141 rfl ?_
                      refine gf8_111 (v := .int (iI (lv : Int))) zC h 0 rfl rfl dX8_look_142 ?_
                      refine lv_iconst (v := iI (1)) zx zb dX8_look_145 rfl ?_
                      refine i_add zC (a := (lv : Int)) (b := 1) dX8_look_146 ?_
                      rw [show ((lv : Int) + 1 : Int) = ((lv + 1 : Nat) : Int) from by omega]
                      refine pf8_111 (x := iI ((lv + 1 : Nat) : Int)) zC h 0 (ws' := [(a 0, oM a mth mrw mrg mbd mnw mlc msz man mas mak mkp (k : Int) (te : Int) mta ((lv + 1 : Nat) : Int) mct mgr mgo mgg), (s, cI g len F), (a 14, cI g 22 NO), (a 5, cZ g 5 MK)]) rfl rfl (Nat.le_of_ble_eq_true rfl) dX8_look_147 (fun H locs h => ?_)
                      refine lv_aload_n zx zb dX8_look_150 rfl (lv_at hl 2 rfl) ?_
                      refine gf8_57 (v := .ref (a 14)) zC h 0 rfl rfl dX8_look_151 ?_
                      refine lv_aload_n zx zb dX8_look_154 rfl (lv_at hl 2 rfl) ?_
                      refine gf8_111 (v := .int (iI ((lv + 1 : Nat) : Int))) zC h 0 rfl rfl dX8_look_155 ?_
                      refine lv_aload_n zx zb dX8_look_158 rfl (lv_at hl 2 rfl) ?_
                      refine gf8_114 (v := .int (iI (k : Int))) zC h 0 rfl rfl dX8_look_159 ?_
                      refine i_zge (a := (k : Int)) (tgt := 169) zC dX8_look_162 (by decide) (by omega) (fun c_138 => ?_) (fun c_138 => absurd c_138 (by omega))
                      refine lv_aload_n zx zb dX8_look_169 rfl (lv_at hl 2 rfl) ?_
                      refine gf8_57 (v := .ref (a 14)) zC h 0 rfl rfl dX8_look_170 ?_
                      refine lv_aload_n zx zb dX8_look_173 rfl (lv_at hl 2 rfl) ?_
                      refine gf8_111 (v := .int (iI ((lv + 1 : Nat) : Int))) zC h 0 rfl rfl dX8_look_174 ?_
                      refine a_ild zC h 2 rfl (z := ((lv + 1 : Nat) : Int)) (lv + 1) rfl (by omega) (by decide) dX8_look_177 ?_
                      refine a_ist (x := NO (lv + 1)) zC h 2 (ws' := [(a 0, oM a mth mrw mrg mbd mnw mlc msz man mas mak mkp (k : Int) (te : Int) mta ((lv + 1 : Nat) : Int) mct mgr mgo mgg), (s, cI g len F), (a 14, cI g 22 (up NO (lv + 1) (NO (lv + 1)))), (a 5, cZ g 5 MK)]) rfl (z := ((lv + 1 : Nat) : Int)) (lv + 1) rfl rfl (by omega) (by decide) dX8_look_178 (fun H locs h => ?_)
                      refine i_inc (q := 6) (a := (k : Int)) (lv' := [(5, .int (iI ((k : Int) + 1))), (4, .int (iI (dp + 1))), (8, .int (iI (atX (fun k => F (fr + k)) n k))), (0, .ref (a 0)), (1, .ref s), (2, .int (iI (fr : Int))), (3, .int (iI (n : Int))), (6, .int (bI true)), (7, .int (bI true))]) zC hl dX8_look_179 rfl (by decide) rfl (fun ls hl => ?_)
                      refine lv_goto (tgt := 454) zx zb dX8_look_182 (by decide) ?_
                      refine lv_goto (tgt := 56) zx zb dX8_look_454 (by decide) ?_
                      exact ih56 true true (k + 1) (dp + 1) (k : Int) te (lv + 1) (up NO (lv + 1) (NO (lv + 1))) _ _ _ (by omega) ⟨by omega, fun q => absurd q (by omega), fun _ => (A_f hI (by omega) (by omega))⟩ (by omega) (by omega) h (lv_sub hl [3, 4, 5, 6, 1, 0, 7, 8] rfl)
      exact L56_72 _ false false 0 0 (-1) 0 0 (up NO 0 0) _ _ _ (Nat.lt_succ_self _) ⟨by omega, fun _ => ⟨rfl, fun q => absurd q (by decide), fun _ => LE_0 (Or.inr c_71)⟩, fun q => absurd q (by decide)⟩ (by omega) (by omega) h (lv_sub hl [4, 5, 6, 7, 3, 2, 1, 0] rfl)
    · skip
      simp only [decide_eq_true_eq, decide_eq_false_iff_not] at c_71
      refine lv_iconst (v := iI (1)) zx zb dX8_look_45 rfl ?_
      refine lv_goto (tgt := 50) zx zb dX8_look_46 (by decide) ?_
      refine lv_istore (lv' := [(6, .int (iI 1)), (5, .int (iI 0)), (4, .int (iI 0)), (0, .ref (a 0)), (1, .ref s), (2, .int (iI (fr : Int))), (3, .int (iI (n : Int)))]) zx zb dX8_look_50 hl (by decide) rfl (fun ls hl => ?_)
      refine lv_iload zx zb dX8_look_52 (lv_at hl 0 rfl) ?_
      refine lv_istore (lv' := [(7, .int (iI 1)), (6, .int (iI 1)), (5, .int (iI 0)), (4, .int (iI 0)), (0, .ref (a 0)), (1, .ref s), (2, .int (iI (fr : Int))), (3, .int (iI (n : Int)))]) zx zb dX8_look_54 hl (by decide) rfl (fun ls hl => ?_)
      have L56_139 : ∀ (fuel : Nat) (wa : Bool) (mo : Bool) (k : Nat) (dp : Int) (fa : Int) (te : Nat) (lv : Nat) (NO : Nat → Int) (H : Heap) (locs : List Loc) (ls : Array Slot), (n + 8 - k) + mz mo < fuel → (LH MK (fun k => F (fr + k)) n (rBegin r) wa mo k dp fa te lv NO) → (-1 ≤ fa ∧ fa ≤ (n : Int) + 7) → (lv ≤ 21) → Hx D g sT aA sT.heap ([(a 0, oM a mth mrw mrg mbd mnw mlc msz man mas mak mkp fa (te : Int) mta (lv : Int) mct mgr mgo mgg), (s, cI g len F), (a 14, cI g 22 NO), (a 5, cZ g 5 MK)]) H locs → lv_has ls 12 [(0, .ref (a 0)), (1, .ref s), (2, .int (iI (fr : Int))), (3, .int (iI (n : Int))), (4, .int (iI dp)), (5, .int (iI (k : Int))), (6, .int (bI wa)), (7, .int (bI mo))] → W pg l evn rmX8_look sT mI ar bl mtd cd H locs 0 0 qQ (F0 mI 56 ls []) := by
        intro fuel
        induction fuel with
        | zero => intro wa mo k dp fa te lv NO H locs ls hm; exact absurd hm (Nat.not_lt_zero _)
        | succ fuel ih56 =>
          intro wa mo k dp fa te lv NO H locs ls hm hH hfr hlv h hl
          refine lv_iload zx zb dX8_look_56 (lv_at hl 7 rfl) ?_
          refine b_zeq (b := mo) (tgt := 457) zC dX8_look_58 (by decide) (fun c_140 => ?_) (fun c_140 => ?_)
          · skip
            subst c_140
            refine lv_aload_n zx zb dX8_look_457 rfl (lv_at hl 0 rfl) ?_
            refine lv_iload zx zb dX8_look_458 (lv_at hl 5 rfl) ?_
            refine pf8_140 (x := iI (k : Int)) zC h 0 (ws' := [(a 0, oM a mth mrw mrg mbd mnw mlc msz man mas mak mkp fa (te : Int) (k : Int) (lv : Int) mct mgr mgo mgg), (s, cI g len F), (a 14, cI g 22 NO), (a 5, cZ g 5 MK)]) rfl rfl (Nat.le_of_ble_eq_true rfl) dX8_look_460 (fun H locs h => ?_)
            refine lv_aload_n zx zb dX8_look_463 rfl (lv_at hl 0 rfl) ?_
            refine gf8_114 (v := .int (iI fa)) zC h 0 rfl rfl dX8_look_464 ?_
            refine i_zge (a := fa) (tgt := 483) zC dX8_look_467 (by decide) (by omega) (fun c_141 => ?_) (fun c_141 => ?_)
            · skip
              have hF := hH.2.2 c_141
              have hle := LF_R hF
              refine lv_aload_n zx zb dX8_look_483 rfl (lv_at hl 0 rfl) ?_
              refine gf8_114 (v := .int (iI fa)) zC h 0 rfl rfl dX8_look_484 ?_
              refine i_zge (a := fa) (tgt := 503) zC dX8_look_487 (by decide) (by omega) (fun c_142 => ?_) (fun c_142 => absurd c_142 (by omega))
              refine lv_aload_n zx zb dX8_look_503 rfl (lv_at hl 0 rfl) ?_
              refine lv_aload_n zx zb dX8_look_504 rfl (lv_at hl 0 rfl) ?_
              refine gf8_114 (v := .int (iI fa)) zC h 0 rfl rfl dX8_look_505 ?_
              refine lv_iload_n zx zb dX8_look_508 rfl (lv_at hl 3 rfl) ?_
              refine i_cle (a := fa) (b := (n : Int)) (tgt := 516) zC dX8_look_509 (by decide) (by omega) (fun c_143 => ?_) (fun c_143 => absurd c_143 (by omega))
              refine lv_aload_n zx zb dX8_look_516 rfl (lv_at hl 0 rfl) ?_
              refine gf8_114 (v := .int (iI fa)) zC h 0 rfl rfl dX8_look_517 ?_
              refine pf8_114 (x := iI fa) zC h 0 (ws' := [(a 0, oM a mth mrw mrg mbd mnw mlc msz man mas mak mkp fa (te : Int) (k : Int) (lv : Int) mct mgr mgo mgg), (s, cI g len F), (a 14, cI g 22 NO), (a 5, cZ g 5 MK)]) rfl rfl (Nat.le_of_ble_eq_true rfl) dX8_look_520 (fun H locs h => ?_)
              exact r_vret zC zQ zr zk h dX8_look_523 (u := (fa, te, k, lv, NO)) rfl (List.Perm.refl _) (LF_Q hF (by omega)) (Nat.le_of_ble_eq_true rfl) (Nat.le_of_ble_eq_true rfl)
            · skip
              have hE := (hH.2.1 c_141).2.2 rfl
              have hfa := (hH.2.1 c_141).1
              have hkn := hE.1
              refine lv_aload_n zx zb dX8_look_470 rfl (lv_at hl 0 rfl) ?_
              refine gf8_111 (v := .int (iI (lv : Int))) zC h 0 rfl rfl dX8_look_471 ?_
              refine i_zle (a := (lv : Int)) (tgt := 483) zC dX8_look_474 (by decide) (by omega) (fun c_144 => ?_) (fun c_144 => ?_)
              · skip
                have hE0 : LE MK (fun k => F (fr + k)) n (rBegin r) k 0 te := by rw [show (0 : Nat) = lv from by omega]; exact hE
                refine lv_aload_n zx zb dX8_look_483 rfl (lv_at hl 0 rfl) ?_
                refine gf8_114 (v := .int (iI fa)) zC h 0 rfl rfl dX8_look_484 ?_
                refine i_zge (a := fa) (tgt := 503) zC dX8_look_487 (by decide) (by omega) (fun c_145 => absurd c_145 (by omega)) (fun c_145 => ?_)
                refine lv_iload zx zb dX8_look_490 (lv_at hl 5 rfl) ?_
                refine lv_iload_n zx zb dX8_look_492 rfl (lv_at hl 3 rfl) ?_
                refine i_cge (a := (k : Int)) (b := (n : Int)) (tgt := 503) zC dX8_look_493 (by decide) (by omega) (fun c_146 => ?_) (fun c_146 => ?_)
                · skip
                  refine lv_aload_n zx zb dX8_look_503 rfl (lv_at hl 0 rfl) ?_
                  refine lv_aload_n zx zb dX8_look_504 rfl (lv_at hl 0 rfl) ?_
                  refine gf8_114 (v := .int (iI fa)) zC h 0 rfl rfl dX8_look_505 ?_
                  refine lv_iload_n zx zb dX8_look_508 rfl (lv_at hl 3 rfl) ?_
                  refine i_cle (a := fa) (b := (n : Int)) (tgt := 516) zC dX8_look_509 (by decide) (by omega) (fun c_147 => ?_) (fun c_147 => absurd c_147 (by omega))
                  refine lv_aload_n zx zb dX8_look_516 rfl (lv_at hl 0 rfl) ?_
                  refine gf8_114 (v := .int (iI fa)) zC h 0 rfl rfl dX8_look_517 ?_
                  refine pf8_114 (x := iI fa) zC h 0 (ws' := [(a 0, oM a mth mrw mrg mbd mnw mlc msz man mas mak mkp fa (te : Int) (k : Int) (lv : Int) mct mgr mgo mgg), (s, cI g len F), (a 14, cI g 22 NO), (a 5, cZ g 5 MK)]) rfl rfl (Nat.le_of_ble_eq_true rfl) dX8_look_520 (fun H locs h => ?_)
                  exact r_vret zC zQ zr zk h dX8_look_523 (u := (fa, te, k, lv, NO)) rfl (List.Perm.refl _) (by rw [hfa]; exact LE_n hE0 (show n ≤ k by omega)) (Nat.le_of_ble_eq_true rfl) (Nat.le_of_ble_eq_true rfl)
                · skip
                  refine lv_aload_n zx zb dX8_look_496 rfl (lv_at hl 0 rfl) ?_
                  refine lv_aload_n zx zb dX8_look_497 rfl (lv_at hl 1 rfl) ?_
                  refine lv_iload_n zx zb dX8_look_498 rfl (lv_at hl 2 rfl) ?_
                  refine lv_iload_n zx zb dX8_look_499 rfl (lv_at hl 3 rfl) ?_
                  refine r_invV (As := [.ref s, .int (iI (fr : Int)), .int (iI (n : Int))]) (rest := []) (wr := [(a 14, cI g 22 NO)]) (ws2 := fun u_148 => [(a 0, oM a mth mrw mrg mbd mnw mlc msz man mas mak mkp u_148 (te : Int) (k : Int) (lv : Int) mct mgr mgo mgg), (s, cI g len F), (a 14, cI g 22 NO), (a 5, cZ g 5 MK)]) 0 0 zC h hl.1 (c_X8_lookAtTail l D g a mth mrw mrg mbd mnw mlc msz mas mak mkp fa (te : Int) (lv : Int) mct mgo man mgr mgg k s len F MK fr n te r hfn hlen hR hE0 (by omega)) (cs8_143 zC ⟨(Nat.le_of_ble_eq_true rfl), (Nat.le_of_ble_eq_true rfl)⟩) (.head _) rfl rfl rfl (Nat.le_of_ble_eq_true rfl) (pm fun cp_q => by simp only [cp_o, List.countP_append, List.countP_nil] <;> omega) (fun u => (pm fun cp_q => by simp only [cp_o, List.countP_append, List.countP_nil] <;> omega)) ⟨(Nat.le_of_ble_eq_true rfl), (Nat.le_of_ble_eq_true rfl)⟩ (Nat.le_of_ble_eq_true rfl) (Nat.le_of_ble_eq_true rfl) dX8_look_500 (fun u_148 H locs hu_148 hz_148 h => ?_)
                  have hle := LQ_R hu_148
                  refine lv_aload_n zx zb dX8_look_503 rfl (lv_at hl 0 rfl) ?_
                  refine lv_aload_n zx zb dX8_look_504 rfl (lv_at hl 0 rfl) ?_
                  refine gf8_114 (v := .int (iI u_148)) zC h 0 rfl rfl dX8_look_505 ?_
                  refine lv_iload_n zx zb dX8_look_508 rfl (lv_at hl 3 rfl) ?_
                  refine i_cle (a := u_148) (b := (n : Int)) (tgt := 516) zC dX8_look_509 (by decide) (by omega) (fun c_149 => ?_) (fun c_149 => absurd c_149 (by omega))
                  refine lv_aload_n zx zb dX8_look_516 rfl (lv_at hl 0 rfl) ?_
                  refine gf8_114 (v := .int (iI u_148)) zC h 0 rfl rfl dX8_look_517 ?_
                  refine pf8_114 (x := iI u_148) zC h 0 (ws' := [(a 0, oM a mth mrw mrg mbd mnw mlc msz man mas mak mkp u_148 (te : Int) (k : Int) (lv : Int) mct mgr mgo mgg), (s, cI g len F), (a 14, cI g 22 NO), (a 5, cZ g 5 MK)]) rfl rfl (Nat.le_of_ble_eq_true rfl) dX8_look_520 (fun H locs h => ?_)
                  exact r_vret zC zQ zr zk h dX8_look_523 (u := (u_148, te, k, lv, NO)) rfl (List.Perm.refl _) hu_148 (Nat.le_of_ble_eq_true rfl) (Nat.le_of_ble_eq_true rfl)
              · skip
                have hF := LE_lv hE (by omega)
                refine lv_aload_n zx zb dX8_look_477 rfl (lv_at hl 0 rfl) ?_
                refine lv_iload zx zb dX8_look_478 (lv_at hl 5 rfl) ?_
                refine pf8_114 (x := iI (k : Int)) zC h 0 (ws' := [(a 0, oM a mth mrw mrg mbd mnw mlc msz man mas mak mkp (k : Int) (te : Int) (k : Int) (lv : Int) mct mgr mgo mgg), (s, cI g len F), (a 14, cI g 22 NO), (a 5, cZ g 5 MK)]) rfl rfl (Nat.le_of_ble_eq_true rfl) dX8_look_480 (fun H locs h => ?_)
                refine lv_aload_n zx zb dX8_look_483 rfl (lv_at hl 0 rfl) ?_
                refine gf8_114 (v := .int (iI (k : Int))) zC h 0 rfl rfl dX8_look_484 ?_
                refine i_zge (a := (k : Int)) (tgt := 503) zC dX8_look_487 (by decide) (by omega) (fun c_150 => ?_) (fun c_150 => absurd c_150 (by omega))
                refine lv_aload_n zx zb dX8_look_503 rfl (lv_at hl 0 rfl) ?_
                refine lv_aload_n zx zb dX8_look_504 rfl (lv_at hl 0 rfl) ?_
                refine gf8_114 (v := .int (iI (k : Int))) zC h 0 rfl rfl dX8_look_505 ?_
                refine lv_iload_n zx zb dX8_look_508 rfl (lv_at hl 3 rfl) ?_
                refine i_cle (a := (k : Int)) (b := (n : Int)) (tgt := 516) zC dX8_look_509 (by decide) (by omega) (fun c_151 => ?_) (fun c_151 => absurd c_151 (by omega))
                refine lv_aload_n zx zb dX8_look_516 rfl (lv_at hl 0 rfl) ?_
                refine gf8_114 (v := .int (iI (k : Int))) zC h 0 rfl rfl dX8_look_517 ?_
                refine pf8_114 (x := iI (k : Int)) zC h 0 (ws' := [(a 0, oM a mth mrw mrg mbd mnw mlc msz man mas mak mkp (k : Int) (te : Int) (k : Int) (lv : Int) mct mgr mgo mgg), (s, cI g len F), (a 14, cI g 22 NO), (a 5, cZ g 5 MK)]) rfl rfl (Nat.le_of_ble_eq_true rfl) dX8_look_520 (fun H locs h => ?_)
                exact r_vret zC zQ zr zk h dX8_look_523 (u := ((k : Int), te, k, lv, NO)) rfl (List.Perm.refl _) (LF_Q hF (by omega)) (Nat.le_of_ble_eq_true rfl) (Nat.le_of_ble_eq_true rfl)
          · skip
            subst c_140
            refine lv_aload_n zx zb dX8_look_61 rfl (lv_at hl 0 rfl) ?_
            refine gf8_114 (v := .int (iI fa)) zC h 0 rfl rfl dX8_look_62 ?_
            refine i_zge (a := fa) (tgt := 457) zC dX8_look_65 (by decide) (by omega) (fun c_152 => ?_) (fun c_152 => ?_)
            · skip
              refine lv_aload_n zx zb dX8_look_457 rfl (lv_at hl 0 rfl) ?_
              refine lv_iload zx zb dX8_look_458 (lv_at hl 5 rfl) ?_
              refine pf8_140 (x := iI (k : Int)) zC h 0 (ws' := [(a 0, oM a mth mrw mrg mbd mnw mlc msz man mas mak mkp fa (te : Int) (k : Int) (lv : Int) mct mgr mgo mgg), (s, cI g len F), (a 14, cI g 22 NO), (a 5, cZ g 5 MK)]) rfl rfl (Nat.le_of_ble_eq_true rfl) dX8_look_460 (fun H locs h => ?_)
              refine lv_aload_n zx zb dX8_look_463 rfl (lv_at hl 0 rfl) ?_
              refine gf8_114 (v := .int (iI fa)) zC h 0 rfl rfl dX8_look_464 ?_
              refine i_zge (a := fa) (tgt := 483) zC dX8_look_467 (by decide) (by omega) (fun c_153 => ?_) (fun c_153 => absurd c_153 (by omega))
              have hF := hH.2.2 c_153
              have hle := LF_R hF
              refine lv_aload_n zx zb dX8_look_483 rfl (lv_at hl 0 rfl) ?_
              refine gf8_114 (v := .int (iI fa)) zC h 0 rfl rfl dX8_look_484 ?_
              refine i_zge (a := fa) (tgt := 503) zC dX8_look_487 (by decide) (by omega) (fun c_154 => ?_) (fun c_154 => absurd c_154 (by omega))
              refine lv_aload_n zx zb dX8_look_503 rfl (lv_at hl 0 rfl) ?_
              refine lv_aload_n zx zb dX8_look_504 rfl (lv_at hl 0 rfl) ?_
              refine gf8_114 (v := .int (iI fa)) zC h 0 rfl rfl dX8_look_505 ?_
              refine lv_iload_n zx zb dX8_look_508 rfl (lv_at hl 3 rfl) ?_
              refine i_cle (a := fa) (b := (n : Int)) (tgt := 516) zC dX8_look_509 (by decide) (by omega) (fun c_155 => ?_) (fun c_155 => absurd c_155 (by omega))
              refine lv_aload_n zx zb dX8_look_516 rfl (lv_at hl 0 rfl) ?_
              refine gf8_114 (v := .int (iI fa)) zC h 0 rfl rfl dX8_look_517 ?_
              refine pf8_114 (x := iI fa) zC h 0 (ws' := [(a 0, oM a mth mrw mrg mbd mnw mlc msz man mas mak mkp fa (te : Int) (k : Int) (lv : Int) mct mgr mgo mgg), (s, cI g len F), (a 14, cI g 22 NO), (a 5, cZ g 5 MK)]) rfl rfl (Nat.le_of_ble_eq_true rfl) dX8_look_520 (fun H locs h => ?_)
              exact r_vret zC zQ zr zk h dX8_look_523 (u := (fa, te, k, lv, NO)) rfl (List.Perm.refl _) (LF_Q hF (by omega)) (Nat.le_of_ble_eq_true rfl) (Nat.le_of_ble_eq_true rfl)
            · skip
              have hI := (hH.2.1 c_152).2.1 rfl
              have hfa := (hH.2.1 c_152).1
              have hB := LI_lv hI
              refine lv_aload_n zx zb dX8_look_68 rfl (lv_at hl 1 rfl) ?_
              refine lv_iload_n zx zb dX8_look_69 rfl (lv_at hl 2 rfl) ?_
              refine lv_iload_n zx zb dX8_look_70 rfl (lv_at hl 3 rfl) ?_
              refine lv_iload zx zb dX8_look_71 (lv_at hl 5 rfl) ?_
              refine r_invS (As := [.ref s, .int (iI (fr : Int)), .int (iI (n : Int)), .int (iI (k : Int))]) (rest := []) (wr := [(a 0, oM a mth mrw mrg mbd mnw mlc msz man mas mak mkp fa (te : Int) mta (lv : Int) mct mgr mgo mgg), (a 14, cI g 22 NO), (a 5, cZ g 5 MK)]) (ws2 := fun u_156 => [(a 0, oM a mth mrw mrg mbd mnw mlc msz man mas mak mkp fa (te : Int) mta (lv : Int) mct mgr mgo mgg), (s, cI g len F), (a 14, cI g 22 NO), (a 5, cZ g 5 MK)]) 0 0 zC h hl.1 (c_X8_at l D g s len F fr n k hfn hlen (by omega)) (cs8_120 zC ⟨(Nat.le_of_ble_eq_true rfl), (Nat.le_of_ble_eq_true rfl)⟩) rfl rfl (Nat.le_of_ble_eq_true rfl) (pm fun cp_q => by simp only [cp_o, List.countP_append, List.countP_nil] <;> omega) (fun u => (pm fun cp_q => by simp only [cp_o, List.countP_append, List.countP_nil] <;> omega)) ⟨(Nat.le_of_ble_eq_true rfl), (Nat.le_of_ble_eq_true rfl)⟩ (Nat.le_of_ble_eq_true rfl) (Nat.le_of_ble_eq_true rfl) dX8_look_73 (fun u_156 H locs hu_156 hz_156 h => ?_)
              rw [atX_T]
              have hxR_155 := atX_R (k := k) hR
              refine lv_istore (lv' := [(8, .int (iI (atX (fun k => F (fr + k)) n k))), (0, .ref (a 0)), (1, .ref s), (2, .int (iI (fr : Int))), (3, .int (iI (n : Int))), (4, .int (iI dp)), (5, .int (iI (k : Int))), (6, .int (bI wa)), (7, .int (bI true))]) zx zb dX8_look_76 hl (by decide) rfl (fun ls hl => ?_)
              refine lv_iload zx zb dX8_look_78 (lv_at hl 7 rfl) ?_
              refine b_zeq (b := wa) (tgt := 185) zC dX8_look_80 (by decide) (fun c_157 => ?_) (fun c_157 => ?_)
              · skip
                subst c_157
                refine lv_iload zx zb dX8_look_185 (lv_at hl 7 rfl) ?_
                refine b_zeq (b := false) (tgt := 387) zC dX8_look_187 (by decide) (fun c_158 => ?_) (fun c_158 => absurd c_158 (by decide))
                refine lv_iload zx zb dX8_look_387 (lv_at hl 0 rfl) ?_
                refine lv_bipush (v := iI (38)) zx zb dX8_look_389 rfl ?_
                refine i_ceq (a := atX (fun k => F (fr + k)) n k) (b := 38) (tgt := 401) zC dX8_look_391 (by decide) (by omega) (fun c_159 => ?_) (fun c_159 => ?_)
                · skip
                  refine i_inc (q := 6) (a := (k : Int)) (lv' := [(5, .int (iI ((k : Int) + 1))), (8, .int (iI (atX (fun k => F (fr + k)) n k))), (0, .ref (a 0)), (1, .ref s), (2, .int (iI (fr : Int))), (3, .int (iI (n : Int))), (4, .int (iI dp)), (6, .int (bI false)), (7, .int (bI true))]) zC hl dX8_look_401 rfl (by decide) rfl (fun ls hl => ?_)
                  refine lv_iconst (v := iI (1)) zx zb dX8_look_404 rfl ?_
                  refine lv_istore (lv' := [(6, .int (iI 1)), (5, .int (iI ((k : Int) + 1))), (8, .int (iI (atX (fun k => F (fr + k)) n k))), (0, .ref (a 0)), (1, .ref s), (2, .int (iI (fr : Int))), (3, .int (iI (n : Int))), (4, .int (iI dp)), (7, .int (bI true))]) zx zb dX8_look_405 hl (by decide) rfl (fun ls hl => ?_)
                  refine lv_goto (tgt := 454) zx zb dX8_look_407 (by decide) ?_
                  refine lv_goto (tgt := 56) zx zb dX8_look_454 (by decide) ?_
                  exact ih56 true true (k + 1) dp fa te lv NO _ _ _ (by omega) ⟨by omega, fun _ => ⟨by omega, fun _ => (C1 hI (Or.inl c_159)), fun q => absurd q (by decide)⟩, fun q => absurd q (by omega)⟩ (by omega) (by omega) h (lv_sub hl [3, 4, 5, 6, 7, 1, 0, 8] rfl)
                · skip
                  have h38 := c_159
                  refine lv_iload zx zb dX8_look_394 (lv_at hl 0 rfl) ?_
                  refine lv_bipush (v := iI (124)) zx zb dX8_look_396 rfl ?_
                  refine i_cne (a := atX (fun k => F (fr + k)) n k) (b := 124) (tgt := 410) zC dX8_look_398 (by decide) (by omega) (fun c_160 => ?_) (fun c_160 => ?_)
                  · skip
                    have h124 := c_160
                    refine lv_iload zx zb dX8_look_410 (lv_at hl 0 rfl) ?_
                    refine lv_bipush (v := iI (41)) zx zb dX8_look_412 rfl ?_
                    refine i_cne (a := atX (fun k => F (fr + k)) n k) (b := 41) (tgt := 451) zC dX8_look_414 (by decide) (by omega) (fun c_161 => ?_) (fun c_161 => ?_)
                    · skip
                      refine lv_iconst (v := iI (0)) zx zb dX8_look_451 rfl ?_
                      refine lv_istore (lv' := [(7, .int (iI 0)), (8, .int (iI (atX (fun k => F (fr + k)) n k))), (0, .ref (a 0)), (1, .ref s), (2, .int (iI (fr : Int))), (3, .int (iI (n : Int))), (4, .int (iI dp)), (5, .int (iI (k : Int))), (6, .int (bI false))]) zx zb dX8_look_452 hl (by decide) rfl (fun ls hl => ?_)
                      refine lv_goto (tgt := 56) zx zb dX8_look_454 (by decide) ?_
                      exact ih56 false false k dp fa te lv NO _ _ _ (by omega) ⟨by omega, fun _ => ⟨by omega, fun q => absurd q (by decide), fun _ => (C3 hI h38 h124 (by omega))⟩, fun q => absurd q (by omega)⟩ (by omega) (by omega) h (lv_sub hl [2, 3, 4, 5, 6, 7, 8, 0] rfl)
                    · skip
                      refine lv_aload_n zx zb dX8_look_417 rfl (lv_at hl 1 rfl) ?_
                      refine gf8_111 (v := .int (iI (lv : Int))) zC h 0 rfl rfl dX8_look_418 ?_
                      refine i_zle (a := (lv : Int)) (tgt := 451) zC dX8_look_421 (by decide) (by omega) (fun c_162 => ?_) (fun c_162 => ?_)
                      · skip
                        refine lv_iconst (v := iI (0)) zx zb dX8_look_451 rfl ?_
                        refine lv_istore (lv' := [(7, .int (iI 0)), (8, .int (iI (atX (fun k => F (fr + k)) n k))), (0, .ref (a 0)), (1, .ref s), (2, .int (iI (fr : Int))), (3, .int (iI (n : Int))), (4, .int (iI dp)), (5, .int (iI (k : Int))), (6, .int (bI false))]) zx zb dX8_look_452 hl (by decide) rfl (fun ls hl => ?_)
                        refine lv_goto (tgt := 56) zx zb dX8_look_454 (by decide) ?_
                        exact ih56 false false k dp fa te lv NO _ _ _ (by omega) ⟨by omega, fun _ => ⟨by omega, fun q => absurd q (by decide), fun _ => (C3 hI h38 h124 (by omega))⟩, fun q => absurd q (by omega)⟩ (by omega) (by omega) h (lv_sub hl [2, 3, 4, 5, 6, 7, 8, 0] rfl)
                      · skip
                        refine i_inc (q := 6) (a := (k : Int)) (lv' := [(5, .int (iI ((k : Int) + 1))), (8, .int (iI (atX (fun k => F (fr + k)) n k))), (0, .ref (a 0)), (1, .ref s), (2, .int (iI (fr : Int))), (3, .int (iI (n : Int))), (4, .int (iI dp)), (6, .int (bI false)), (7, .int (bI true))]) zC hl dX8_look_424 rfl (by decide) rfl (fun ls hl => ?_)
                        refine lv_aload_n zx zb dX8_look_427 rfl (lv_at hl 2 rfl) ?_
                        refine lv_dup zx zb dX8_look_428 rfl ?_
                        refine gf8_111 (v := .int (iI (lv : Int))) zC h 0 rfl rfl dX8_look_429 ?_
                        refine lv_iconst (v := iI (1)) zx zb dX8_look_432 rfl ?_
                        refine i_sub zC (a := (lv : Int)) (b := 1) dX8_look_433 ?_
                        rw [show ((lv : Int) - 1 : Int) = ((lv - 1 : Nat) : Int) from by omega]
                        refine pf8_111 (x := iI ((lv - 1 : Nat) : Int)) zC h 0 (ws' := [(a 0, oM a mth mrw mrg mbd mnw mlc msz man mas mak mkp fa (te : Int) mta ((lv - 1 : Nat) : Int) mct mgr mgo mgg), (s, cI g len F), (a 14, cI g 22 NO), (a 5, cZ g 5 MK)]) rfl rfl (Nat.le_of_ble_eq_true rfl) dX8_look_434 (fun H locs h => ?_)
                        refine lv_iload zx zb dX8_look_437 (lv_at hl 6 rfl) ?_
                        refine lv_iconst (v := iI (1)) zx zb dX8_look_439 rfl ?_
                        refine i_sub zC (a := dp) (b := 1) dX8_look_440 ?_
                        refine lv_aload_n zx zb dX8_look_441 rfl (lv_at hl 2 rfl) ?_
                        refine r_invV (As := []) (rest := [.int (iI (dp - 1))]) (wr := [(s, cI g len F), (a 5, cZ g 5 MK)]) (ws2 := fun u_163 => [(a 0, oM a mth mrw mrg mbd mnw mlc msz man mas mak mkp fa (te : Int) mta ((lv - 1 : Nat) : Int) mct mgr mgo mgg), (s, cI g len F), (a 14, cI g 22 (up NO (lv - 1) 0)), (a 5, cZ g 5 MK)]) 0 0 zC h hl.1 (c_X8_overs l D g a mth mrw mrg mbd mnw mlc msz mas mak mkp fa (te : Int) mta mct mgo man mgr mgg (lv - 1)  NO  (by omega)) (cs8_136 zC ⟨(Nat.le_of_ble_eq_true rfl), (Nat.le_of_ble_eq_true rfl)⟩) (.head _) rfl rfl rfl (Nat.le_of_ble_eq_true rfl) (pm fun cp_q => by simp only [cp_o, List.countP_append, List.countP_nil] <;> omega) (fun u => (pm fun cp_q => by simp only [cp_o, List.countP_append, List.countP_nil] <;> omega)) ⟨(Nat.le_of_ble_eq_true rfl), (Nat.le_of_ble_eq_true rfl)⟩ (Nat.le_of_ble_eq_true rfl) (Nat.le_of_ble_eq_true rfl) dX8_look_442 (fun u_163 H locs hu_163 hz_163 h => ?_)
                        refine i_sub zC (a := dp - 1) (b := NO (lv - 1)) dX8_look_445 ?_
                        refine lv_istore (lv' := [(4, .int (iI (dp - 1 - (NO (lv - 1))))), (5, .int (iI ((k : Int) + 1))), (8, .int (iI (atX (fun k => F (fr + k)) n k))), (0, .ref (a 0)), (1, .ref s), (2, .int (iI (fr : Int))), (3, .int (iI (n : Int))), (6, .int (bI false)), (7, .int (bI true))]) zx zb dX8_look_446 hl (by decide) rfl (fun ls hl => ?_)
                        refine lv_goto (tgt := 454) zx zb dX8_look_448 (by decide) ?_
                        refine lv_goto (tgt := 56) zx zb dX8_look_454 (by decide) ?_
                        exact ih56 false true (k + 1) (dp - 1 - (NO (lv - 1))) fa te (lv - 1) (up NO (lv - 1) 0) _ _ _ (by omega) ⟨by omega, fun _ => ⟨by omega, fun _ => (C2 hI (by omega) (by omega)), fun q => absurd q (by decide)⟩, fun q => absurd q (by omega)⟩ (by omega) (by omega) h (lv_sub hl [3, 4, 5, 6, 0, 1, 7, 8] rfl)
                  · skip
                    refine i_inc (q := 6) (a := (k : Int)) (lv' := [(5, .int (iI ((k : Int) + 1))), (8, .int (iI (atX (fun k => F (fr + k)) n k))), (0, .ref (a 0)), (1, .ref s), (2, .int (iI (fr : Int))), (3, .int (iI (n : Int))), (4, .int (iI dp)), (6, .int (bI false)), (7, .int (bI true))]) zC hl dX8_look_401 rfl (by decide) rfl (fun ls hl => ?_)
                    refine lv_iconst (v := iI (1)) zx zb dX8_look_404 rfl ?_
                    refine lv_istore (lv' := [(6, .int (iI 1)), (5, .int (iI ((k : Int) + 1))), (8, .int (iI (atX (fun k => F (fr + k)) n k))), (0, .ref (a 0)), (1, .ref s), (2, .int (iI (fr : Int))), (3, .int (iI (n : Int))), (4, .int (iI dp)), (7, .int (bI true))]) zx zb dX8_look_405 hl (by decide) rfl (fun ls hl => ?_)
                    refine lv_goto (tgt := 454) zx zb dX8_look_407 (by decide) ?_
                    refine lv_goto (tgt := 56) zx zb dX8_look_454 (by decide) ?_
                    exact ih56 true true (k + 1) dp fa te lv NO _ _ _ (by omega) ⟨by omega, fun _ => ⟨by omega, fun _ => (C1 hI (Or.inr c_160)), fun q => absurd q (by decide)⟩, fun q => absurd q (by omega)⟩ (by omega) (by omega) h (lv_sub hl [3, 4, 5, 6, 7, 1, 0, 8] rfl)
              · skip
                subst c_157
                refine lv_iload zx zb dX8_look_83 (lv_at hl 0 rfl) ?_
                refine lv_bipush (v := iI (33)) zx zb dX8_look_85 rfl ?_
                refine i_ceq (a := atX (fun k => F (fr + k)) n k) (b := 33) (tgt := 97) zC dX8_look_87 (by decide) (by omega) (fun c_164 => ?_) (fun c_164 => ?_)
                · skip
                  have hc := c_164
                  refine lv_aload_n zx zb dX8_look_97 rfl (lv_at hl 1 rfl) ?_
                  refine lv_iload zx zb dX8_look_98 (lv_at hl 5 rfl) ?_
                  refine lv_bipush (v := iI (20)) zx zb dX8_look_100 rfl ?_
                  refine i_cne (a := dp) (b := 20) (tgt := 110) zC dX8_look_102 (by decide) (by omega) (fun c_165 => ?_) (fun c_165 => ?_)
                  · skip
                    refine lv_iconst (v := iI (-1)) zx zb dX8_look_110 rfl ?_
                    refine pf8_114 (x := iI (-1)) zC h 0 (ws' := [(a 0, oM a mth mrw mrg mbd mnw mlc msz man mas mak mkp (-1) (te : Int) mta (lv : Int) mct mgr mgo mgg), (s, cI g len F), (a 14, cI g 22 NO), (a 5, cZ g 5 MK)]) rfl rfl (Nat.le_of_ble_eq_true rfl) dX8_look_111 (fun H locs h => ?_)
                    refine i_inc (q := 5) (a := dp) (lv' := [(4, .int (iI (dp + 1))), (8, .int (iI (atX (fun k => F (fr + k)) n k))), (0, .ref (a 0)), (1, .ref s), (2, .int (iI (fr : Int))), (3, .int (iI (n : Int))), (5, .int (iI (k : Int))), (6, .int (bI true)), (7, .int (bI true))]) zC hl dX8_look_114 rfl (by decide) rfl (fun ls hl => ?_)
                    refine lv_iload zx zb dX8_look_117 (lv_at hl 1 rfl) ?_
                    refine lv_bipush (v := iI (33)) zx zb dX8_look_119 rfl ?_
                    refine i_cne (a := atX (fun k => F (fr + k)) n k) (b := 33) (tgt := 140) zC dX8_look_121 (by decide) (by omega) (fun c_166 => absurd c_166 (by omega)) (fun c_166 => ?_)
                    refine lv_aload_n zx zb dX8_look_124 rfl (lv_at hl 2 rfl) ?_
                    refine gf8_57 (v := .ref (a 14)) zC h 0 rfl rfl dX8_look_125 ?_
                    refine lv_aload_n zx zb dX8_look_128 rfl (lv_at hl 2 rfl) ?_
                    refine gf8_111 (v := .int (iI (lv : Int))) zC h 0 rfl rfl dX8_look_129 ?_
                    refine lv_dup2_11 zx zb dX8_look_132 rfl rfl ?_
                    refine a_ild zC h 2 rfl (z := (lv : Int)) lv rfl (by omega) (by decide) dX8_look_133 ?_
                    refine lv_iconst (v := iI (1)) zx zb dX8_look_134 rfl ?_
                    refine i_add zC (a := NO lv) (b := 1) dX8_look_135 ?_
                    refine a_ist (x := NO lv + 1) zC h 2 (ws' := [(a 0, oM a mth mrw mrg mbd mnw mlc msz man mas mak mkp (-1) (te : Int) mta (lv : Int) mct mgr mgo mgg), (s, cI g len F), (a 14, cI g 22 (up NO lv (NO lv + 1))), (a 5, cZ g 5 MK)]) rfl (z := (lv : Int)) lv rfl rfl (by omega) (by decide) dX8_look_136 (fun H locs h => ?_)
                    refine lv_goto (tgt := 179) zx zb dX8_look_137 (by decide) ?_
                    refine i_inc (q := 6) (a := (k : Int)) (lv' := [(5, .int (iI ((k : Int) + 1))), (4, .int (iI (dp + 1))), (8, .int (iI (atX (fun k => F (fr + k)) n k))), (0, .ref (a 0)), (1, .ref s), (2, .int (iI (fr : Int))), (3, .int (iI (n : Int))), (6, .int (bI true)), (7, .int (bI true))]) zC hl dX8_look_179 rfl (by decide) rfl (fun ls hl => ?_)
                    refine lv_goto (tgt := 454) zx zb dX8_look_182 (by decide) ?_
                    refine lv_goto (tgt := 56) zx zb dX8_look_454 (by decide) ?_
                    exact ih56 true true (k + 1) (dp + 1) (-1) te lv (up NO lv (NO lv + 1)) _ _ _ (by omega) ⟨by omega, fun _ => ⟨by omega, fun _ => (A_t hI hc (by omega)), fun q => absurd q (by decide)⟩, fun q => absurd q (by omega)⟩ (by omega) (by omega) h (lv_sub hl [3, 4, 5, 6, 1, 0, 7, 8] rfl)
                  · skip
                    refine lv_iload zx zb dX8_look_105 (lv_at hl 6 rfl) ?_
                    refine lv_goto (tgt := 111) zx zb dX8_look_107 (by decide) ?_
                    refine pf8_114 (x := iI (k : Int)) zC h 0 (ws' := [(a 0, oM a mth mrw mrg mbd mnw mlc msz man mas mak mkp (k : Int) (te : Int) mta (lv : Int) mct mgr mgo mgg), (s, cI g len F), (a 14, cI g 22 NO), (a 5, cZ g 5 MK)]) rfl rfl (Nat.le_of_ble_eq_true rfl) dX8_look_111 (fun H locs h => ?_)
                    refine i_inc (q := 5) (a := dp) (lv' := [(4, .int (iI (dp + 1))), (8, .int (iI (atX (fun k => F (fr + k)) n k))), (0, .ref (a 0)), (1, .ref s), (2, .int (iI (fr : Int))), (3, .int (iI (n : Int))), (5, .int (iI (k : Int))), (6, .int (bI true)), (7, .int (bI true))]) zC hl dX8_look_114 rfl (by decide) rfl (fun ls hl => ?_)
                    refine lv_iload zx zb dX8_look_117 (lv_at hl 1 rfl) ?_
                    refine lv_bipush (v := iI (33)) zx zb dX8_look_119 rfl ?_
                    refine i_cne (a := atX (fun k => F (fr + k)) n k) (b := 33) (tgt := 140) zC dX8_look_121 (by decide) (by omega) (fun c_167 => absurd c_167 (by omega)) (fun c_167 => ?_)
                    refine lv_aload_n zx zb dX8_look_124 rfl (lv_at hl 2 rfl) ?_
                    refine gf8_57 (v := .ref (a 14)) zC h 0 rfl rfl dX8_look_125 ?_
                    refine lv_aload_n zx zb dX8_look_128 rfl (lv_at hl 2 rfl) ?_
                    refine gf8_111 (v := .int (iI (lv : Int))) zC h 0 rfl rfl dX8_look_129 ?_
                    refine lv_dup2_11 zx zb dX8_look_132 rfl rfl ?_
                    refine a_ild zC h 2 rfl (z := (lv : Int)) lv rfl (by omega) (by decide) dX8_look_133 ?_
                    refine lv_iconst (v := iI (1)) zx zb dX8_look_134 rfl ?_
                    refine i_add zC (a := NO lv) (b := 1) dX8_look_135 ?_
                    refine a_ist (x := NO lv + 1) zC h 2 (ws' := [(a 0, oM a mth mrw mrg mbd mnw mlc msz man mas mak mkp (k : Int) (te : Int) mta (lv : Int) mct mgr mgo mgg), (s, cI g len F), (a 14, cI g 22 (up NO lv (NO lv + 1))), (a 5, cZ g 5 MK)]) rfl (z := (lv : Int)) lv rfl rfl (by omega) (by decide) dX8_look_136 (fun H locs h => ?_)
                    refine lv_goto (tgt := 179) zx zb dX8_look_137 (by decide) ?_
                    refine i_inc (q := 6) (a := (k : Int)) (lv' := [(5, .int (iI ((k : Int) + 1))), (4, .int (iI (dp + 1))), (8, .int (iI (atX (fun k => F (fr + k)) n k))), (0, .ref (a 0)), (1, .ref s), (2, .int (iI (fr : Int))), (3, .int (iI (n : Int))), (6, .int (bI true)), (7, .int (bI true))]) zC hl dX8_look_179 rfl (by decide) rfl (fun ls hl => ?_)
                    refine lv_goto (tgt := 454) zx zb dX8_look_182 (by decide) ?_
                    refine lv_goto (tgt := 56) zx zb dX8_look_454 (by decide) ?_
                    exact ih56 true true (k + 1) (dp + 1) (k : Int) te lv (up NO lv (NO lv + 1)) _ _ _ (by omega) ⟨by omega, fun q => absurd q (by omega), fun _ => (A_f hI (by omega) (by omega))⟩ (by omega) (by omega) h (lv_sub hl [3, 4, 5, 6, 1, 0, 7, 8] rfl)
                · skip
                  have h33 := c_164
                  refine lv_iload zx zb dX8_look_90 (lv_at hl 0 rfl) ?_
                  refine lv_bipush (v := iI (40)) zx zb dX8_look_92 rfl ?_
                  refine i_cne (a := atX (fun k => F (fr + k)) n k) (b := 40) (tgt := 185) zC dX8_look_94 (by decide) (by omega) (fun c_168 => ?_) (fun c_168 => ?_)
                  · skip
                    have h40 := c_168
                    refine lv_iload zx zb dX8_look_185 (lv_at hl 7 rfl) ?_
                    refine b_zeq (b := true) (tgt := 387) zC dX8_look_187 (by decide) (fun c_169 => absurd c_169 (by decide)) (fun c_169 => ?_)
                    have J286_170 : ∀ (f1 : Int) (H : Heap) (locs : List Loc) (ls : Array Slot), ((f1 < 0 → f1 = -1 ∧ LD MK (fun k => F (fr + k)) n (rBegin r) k (k + 2) lv dp te NO) ∧ (0 ≤ f1 → LF MK (fun k => F (fr + k)) n (rBegin r) f1)) → (-1 ≤ f1 ∧ f1 ≤ (n : Int) + 7) → Hx D g sT aA sT.heap ([(a 0, oM a mth mrw mrg mbd mnw mlc msz man mas mak mkp f1 (te : Int) mta (lv : Int) mct mgr mgo mgg), (s, cI g len F), (a 14, cI g 22 NO), (a 5, cZ g 5 MK)]) H locs → lv_has ls 12 [(0, .ref (a 0)), (1, .ref s), (2, .int (iI (fr : Int))), (3, .int (iI (n : Int))), (4, .int (iI dp)), (5, .int (iI (k : Int))), (6, .int (bI true)), (7, .int (bI true))] → W pg l evn rmX8_look sT mI ar bl mtd cd H locs 0 0 qQ (F0 mI 286 ls []) := by
                      intro f1 H locs ls hJ hf1 h hl
                      refine lv_iload zx zb dX8_look_286 (lv_at hl 5 rfl) ?_
                      refine lv_iconst (v := iI (2)) zx zb dX8_look_288 rfl ?_
                      refine i_add zC (a := (k : Int)) (b := 2) dX8_look_289 ?_
                      refine lv_istore (lv' := [(11, .int (iI ((k : Int) + 2))), (0, .ref (a 0)), (1, .ref s), (2, .int (iI (fr : Int))), (3, .int (iI (n : Int))), (4, .int (iI dp)), (5, .int (iI (k : Int))), (6, .int (bI true)), (7, .int (bI true))]) zx zb dX8_look_290 hl (by decide) rfl (fun ls hl => ?_)
                      have L292_171 : ∀ (fuel : Nat) (e : Nat) (H : Heap) (locs : List Loc) (ls : Array Slot), k + 8 - e < fuel → (k + 2 ≤ e ∧ e ≤ k + 7) → (f1 < 0 → LD MK (fun k => F (fr + k)) n (rBegin r) k e lv dp te NO) → Hx D g sT aA sT.heap ([(a 0, oM a mth mrw mrg mbd mnw mlc msz man mas mak mkp f1 (te : Int) mta (lv : Int) mct mgr mgo mgg), (s, cI g len F), (a 14, cI g 22 NO), (a 5, cZ g 5 MK)]) H locs → lv_has ls 12 [(0, .ref (a 0)), (1, .ref s), (2, .int (iI (fr : Int))), (3, .int (iI (n : Int))), (4, .int (iI dp)), (5, .int (iI (k : Int))), (6, .int (bI true)), (7, .int (bI true)), (11, .int (iI (e : Int)))] → W pg l evn rmX8_look sT mI ar bl mtd cd H locs 0 0 qQ (F0 mI 292 ls []) := by
                        intro fuel
                        induction fuel with
                        | zero => intro e H locs ls hm; exact absurd hm (Nat.not_lt_zero _)
                        | succ fuel ih292 =>
                          intro e H locs ls hm he hDe h hl
                          refine lv_iload zx zb dX8_look_292 (lv_at hl 8 rfl) ?_
                          refine lv_iload zx zb dX8_look_294 (lv_at hl 5 rfl) ?_
                          refine lv_bipush (v := iI (7)) zx zb dX8_look_296 rfl ?_
                          refine i_add zC (a := (k : Int)) (b := 7) dX8_look_298 ?_
                          refine i_cge (a := (e : Int)) (b := (k : Int) + 7) (tgt := 329) zC dX8_look_299 (by decide) (by omega) (fun c_172 => ?_) (fun c_172 => ?_)
                          · skip
                            have hX : k + 7 ≤ e ∨ ¬ (48 ≤ atX (fun k => F (fr + k)) n e ∧ atX (fun k => F (fr + k)) n e ≤ 57) := Or.inl (by omega)
                            refine lv_aload_n zx zb dX8_look_329 rfl (lv_at hl 0 rfl) ?_
                            refine lv_aload_n zx zb dX8_look_330 rfl (lv_at hl 0 rfl) ?_
                            refine gf8_114 (v := .int (iI f1)) zC h 0 rfl rfl dX8_look_331 ?_
                            refine i_zge (a := f1) (tgt := 351) zC dX8_look_334 (by decide) (by omega) (fun c_173 => ?_) (fun c_173 => ?_)
                            · skip
                              refine lv_aload_n zx zb dX8_look_351 rfl (lv_at hl 0 rfl) ?_
                              refine gf8_114 (v := .int (iI f1)) zC h 0 rfl rfl dX8_look_352 ?_
                              refine pf8_114 (x := iI f1) zC h 0 (ws' := [(a 0, oM a mth mrw mrg mbd mnw mlc msz man mas mak mkp f1 (te : Int) mta (lv : Int) mct mgr mgo mgg), (s, cI g len F), (a 14, cI g 22 NO), (a 5, cZ g 5 MK)]) rfl rfl (Nat.le_of_ble_eq_true rfl) dX8_look_355 (fun H locs h => ?_)
                              refine lv_iload zx zb dX8_look_358 (lv_at hl 8 rfl) ?_
                              refine lv_istore (lv' := [(5, .int (iI (e : Int))), (0, .ref (a 0)), (1, .ref s), (2, .int (iI (fr : Int))), (3, .int (iI (n : Int))), (4, .int (iI dp)), (6, .int (bI true)), (7, .int (bI true)), (11, .int (iI (e : Int)))]) zx zb dX8_look_360 hl (by decide) rfl (fun ls hl => ?_)
                              refine lv_aload_n zx zb dX8_look_362 rfl (lv_at hl 1 rfl) ?_
                              refine lv_dup zx zb dX8_look_363 rfl ?_
                              refine gf8_117 (v := .int (iI (te : Int))) zC h 0 rfl rfl dX8_look_364 ?_
                              refine lv_iconst (v := iI (1)) zx zb dX8_look_367 rfl ?_
                              refine i_add zC (a := (te : Int)) (b := 1) dX8_look_368 ?_
                              rw [show ((te : Int) + 1 : Int) = ((te + 1 : Nat) : Int) from by omega]
                              refine pf8_117 (x := iI ((te + 1 : Nat) : Int)) zC h 0 (ws' := [(a 0, oM a mth mrw mrg mbd mnw mlc msz man mas mak mkp f1 ((te + 1 : Nat) : Int) mta (lv : Int) mct mgr mgo mgg), (s, cI g len F), (a 14, cI g 22 NO), (a 5, cZ g 5 MK)]) rfl rfl (Nat.le_of_ble_eq_true rfl) dX8_look_369 (fun H locs h => ?_)
                              refine lv_iload zx zb dX8_look_372 (lv_at hl 5 rfl) ?_
                              refine lv_aload_n zx zb dX8_look_374 rfl (lv_at hl 1 rfl) ?_
                              refine r_invV (As := []) (rest := [.int (iI dp)]) (wr := [(s, cI g len F), (a 5, cZ g 5 MK)]) (ws2 := fun u_174 => [(a 0, oM a mth mrw mrg mbd mnw mlc msz man mas mak mkp f1 ((te + 1 : Nat) : Int) mta (lv : Int) mct mgr mgo mgg), (s, cI g len F), (a 14, cI g 22 (up NO lv 0)), (a 5, cZ g 5 MK)]) 0 0 zC h hl.1 (c_X8_overs l D g a mth mrw mrg mbd mnw mlc msz mas mak mkp f1 ((te + 1 : Nat) : Int) mta mct mgo man mgr mgg lv  NO  (by omega)) (cs8_136 zC ⟨(Nat.le_of_ble_eq_true rfl), (Nat.le_of_ble_eq_true rfl)⟩) (.head _) rfl rfl rfl (Nat.le_of_ble_eq_true rfl) (pm fun cp_q => by simp only [cp_o, List.countP_append, List.countP_nil] <;> omega) (fun u => (pm fun cp_q => by simp only [cp_o, List.countP_append, List.countP_nil] <;> omega)) ⟨(Nat.le_of_ble_eq_true rfl), (Nat.le_of_ble_eq_true rfl)⟩ (Nat.le_of_ble_eq_true rfl) (Nat.le_of_ble_eq_true rfl) dX8_look_375 (fun u_174 H locs hu_174 hz_174 h => ?_)
                              refine i_sub zC (a := dp) (b := NO lv) dX8_look_378 ?_
                              refine lv_istore (lv' := [(4, .int (iI (dp - (NO lv)))), (5, .int (iI (e : Int))), (0, .ref (a 0)), (1, .ref s), (2, .int (iI (fr : Int))), (3, .int (iI (n : Int))), (6, .int (bI true)), (7, .int (bI true)), (11, .int (iI (e : Int)))]) zx zb dX8_look_379 hl (by decide) rfl (fun ls hl => ?_)
                              refine lv_iconst (v := iI (0)) zx zb dX8_look_381 rfl ?_
                              refine lv_istore (lv' := [(6, .int (iI 0)), (4, .int (iI (dp - (NO lv)))), (5, .int (iI (e : Int))), (0, .ref (a 0)), (1, .ref s), (2, .int (iI (fr : Int))), (3, .int (iI (n : Int))), (7, .int (bI true)), (11, .int (iI (e : Int)))]) zx zb dX8_look_382 hl (by decide) rfl (fun ls hl => ?_)
                              refine lv_goto (tgt := 454) zx zb dX8_look_384 (by decide) ?_
                              refine lv_goto (tgt := 56) zx zb dX8_look_454 (by decide) ?_
                              exact ih56 false true e (dp - (NO lv)) f1 (te + 1) lv (up NO lv 0) _ _ _ (by omega) ⟨by omega, fun q => absurd q (by omega), fun _ => (hJ.2 (by omega))⟩ (by omega) (by omega) h (lv_sub hl [3, 4, 5, 6, 1, 2, 0, 7] rfl)
                            · skip
                              refine lv_iload zx zb dX8_look_337 (lv_at hl 8 rfl) ?_
                              refine lv_iload zx zb dX8_look_339 (lv_at hl 5 rfl) ?_
                              refine lv_iconst (v := iI (2)) zx zb dX8_look_341 rfl ?_
                              refine i_add zC (a := (k : Int)) (b := 2) dX8_look_342 ?_
                              refine i_cne (a := (e : Int)) (b := (k : Int) + 2) (tgt := 351) zC dX8_look_343 (by decide) (by omega) (fun c_175 => ?_) (fun c_175 => ?_)
                              · skip
                                refine lv_aload_n zx zb dX8_look_351 rfl (lv_at hl 0 rfl) ?_
                                refine gf8_114 (v := .int (iI f1)) zC h 0 rfl rfl dX8_look_352 ?_
                                refine pf8_114 (x := iI f1) zC h 0 (ws' := [(a 0, oM a mth mrw mrg mbd mnw mlc msz man mas mak mkp f1 (te : Int) mta (lv : Int) mct mgr mgo mgg), (s, cI g len F), (a 14, cI g 22 NO), (a 5, cZ g 5 MK)]) rfl rfl (Nat.le_of_ble_eq_true rfl) dX8_look_355 (fun H locs h => ?_)
                                refine lv_iload zx zb dX8_look_358 (lv_at hl 8 rfl) ?_
                                refine lv_istore (lv' := [(5, .int (iI (e : Int))), (0, .ref (a 0)), (1, .ref s), (2, .int (iI (fr : Int))), (3, .int (iI (n : Int))), (4, .int (iI dp)), (6, .int (bI true)), (7, .int (bI true)), (11, .int (iI (e : Int)))]) zx zb dX8_look_360 hl (by decide) rfl (fun ls hl => ?_)
                                refine lv_aload_n zx zb dX8_look_362 rfl (lv_at hl 1 rfl) ?_
                                refine lv_dup zx zb dX8_look_363 rfl ?_
                                refine gf8_117 (v := .int (iI (te : Int))) zC h 0 rfl rfl dX8_look_364 ?_
                                refine lv_iconst (v := iI (1)) zx zb dX8_look_367 rfl ?_
                                refine i_add zC (a := (te : Int)) (b := 1) dX8_look_368 ?_
                                rw [show ((te : Int) + 1 : Int) = ((te + 1 : Nat) : Int) from by omega]
                                refine pf8_117 (x := iI ((te + 1 : Nat) : Int)) zC h 0 (ws' := [(a 0, oM a mth mrw mrg mbd mnw mlc msz man mas mak mkp f1 ((te + 1 : Nat) : Int) mta (lv : Int) mct mgr mgo mgg), (s, cI g len F), (a 14, cI g 22 NO), (a 5, cZ g 5 MK)]) rfl rfl (Nat.le_of_ble_eq_true rfl) dX8_look_369 (fun H locs h => ?_)
                                refine lv_iload zx zb dX8_look_372 (lv_at hl 5 rfl) ?_
                                refine lv_aload_n zx zb dX8_look_374 rfl (lv_at hl 1 rfl) ?_
                                refine r_invV (As := []) (rest := [.int (iI dp)]) (wr := [(s, cI g len F), (a 5, cZ g 5 MK)]) (ws2 := fun u_176 => [(a 0, oM a mth mrw mrg mbd mnw mlc msz man mas mak mkp f1 ((te + 1 : Nat) : Int) mta (lv : Int) mct mgr mgo mgg), (s, cI g len F), (a 14, cI g 22 (up NO lv 0)), (a 5, cZ g 5 MK)]) 0 0 zC h hl.1 (c_X8_overs l D g a mth mrw mrg mbd mnw mlc msz mas mak mkp f1 ((te + 1 : Nat) : Int) mta mct mgo man mgr mgg lv  NO  (by omega)) (cs8_136 zC ⟨(Nat.le_of_ble_eq_true rfl), (Nat.le_of_ble_eq_true rfl)⟩) (.head _) rfl rfl rfl (Nat.le_of_ble_eq_true rfl) (pm fun cp_q => by simp only [cp_o, List.countP_append, List.countP_nil] <;> omega) (fun u => (pm fun cp_q => by simp only [cp_o, List.countP_append, List.countP_nil] <;> omega)) ⟨(Nat.le_of_ble_eq_true rfl), (Nat.le_of_ble_eq_true rfl)⟩ (Nat.le_of_ble_eq_true rfl) (Nat.le_of_ble_eq_true rfl) dX8_look_375 (fun u_176 H locs hu_176 hz_176 h => ?_)
                                refine i_sub zC (a := dp) (b := NO lv) dX8_look_378 ?_
                                refine lv_istore (lv' := [(4, .int (iI (dp - (NO lv)))), (5, .int (iI (e : Int))), (0, .ref (a 0)), (1, .ref s), (2, .int (iI (fr : Int))), (3, .int (iI (n : Int))), (6, .int (bI true)), (7, .int (bI true)), (11, .int (iI (e : Int)))]) zx zb dX8_look_379 hl (by decide) rfl (fun ls hl => ?_)
                                refine lv_iconst (v := iI (0)) zx zb dX8_look_381 rfl ?_
                                refine lv_istore (lv' := [(6, .int (iI 0)), (4, .int (iI (dp - (NO lv)))), (5, .int (iI (e : Int))), (0, .ref (a 0)), (1, .ref s), (2, .int (iI (fr : Int))), (3, .int (iI (n : Int))), (7, .int (bI true)), (11, .int (iI (e : Int)))]) zx zb dX8_look_382 hl (by decide) rfl (fun ls hl => ?_)
                                refine lv_goto (tgt := 454) zx zb dX8_look_384 (by decide) ?_
                                refine lv_goto (tgt := 56) zx zb dX8_look_454 (by decide) ?_
                                exact ih56 false true e (dp - (NO lv)) f1 (te + 1) lv (up NO lv 0) _ _ _ (by omega) ⟨by omega, fun _ => ⟨by omega, fun _ => (B6 (hDe (by omega)) (by omega) hX), fun q => absurd q (by decide)⟩, fun q => absurd q (by omega)⟩ (by omega) (by omega) h (lv_sub hl [3, 4, 5, 6, 1, 2, 0, 7] rfl)
                              · skip
                                refine lv_iload zx zb dX8_look_346 (lv_at hl 8 rfl) ?_
                                refine lv_goto (tgt := 355) zx zb dX8_look_348 (by decide) ?_
                                refine pf8_114 (x := iI (e : Int)) zC h 0 (ws' := [(a 0, oM a mth mrw mrg mbd mnw mlc msz man mas mak mkp (e : Int) (te : Int) mta (lv : Int) mct mgr mgo mgg), (s, cI g len F), (a 14, cI g 22 NO), (a 5, cZ g 5 MK)]) rfl rfl (Nat.le_of_ble_eq_true rfl) dX8_look_355 (fun H locs h => ?_)
                                refine lv_iload zx zb dX8_look_358 (lv_at hl 8 rfl) ?_
                                refine lv_istore (lv' := [(5, .int (iI (e : Int))), (0, .ref (a 0)), (1, .ref s), (2, .int (iI (fr : Int))), (3, .int (iI (n : Int))), (4, .int (iI dp)), (6, .int (bI true)), (7, .int (bI true)), (11, .int (iI (e : Int)))]) zx zb dX8_look_360 hl (by decide) rfl (fun ls hl => ?_)
                                refine lv_aload_n zx zb dX8_look_362 rfl (lv_at hl 1 rfl) ?_
                                refine lv_dup zx zb dX8_look_363 rfl ?_
                                refine gf8_117 (v := .int (iI (te : Int))) zC h 0 rfl rfl dX8_look_364 ?_
                                refine lv_iconst (v := iI (1)) zx zb dX8_look_367 rfl ?_
                                refine i_add zC (a := (te : Int)) (b := 1) dX8_look_368 ?_
                                rw [show ((te : Int) + 1 : Int) = ((te + 1 : Nat) : Int) from by omega]
                                refine pf8_117 (x := iI ((te + 1 : Nat) : Int)) zC h 0 (ws' := [(a 0, oM a mth mrw mrg mbd mnw mlc msz man mas mak mkp (e : Int) ((te + 1 : Nat) : Int) mta (lv : Int) mct mgr mgo mgg), (s, cI g len F), (a 14, cI g 22 NO), (a 5, cZ g 5 MK)]) rfl rfl (Nat.le_of_ble_eq_true rfl) dX8_look_369 (fun H locs h => ?_)
                                refine lv_iload zx zb dX8_look_372 (lv_at hl 5 rfl) ?_
                                refine lv_aload_n zx zb dX8_look_374 rfl (lv_at hl 1 rfl) ?_
                                refine r_invV (As := []) (rest := [.int (iI dp)]) (wr := [(s, cI g len F), (a 5, cZ g 5 MK)]) (ws2 := fun u_177 => [(a 0, oM a mth mrw mrg mbd mnw mlc msz man mas mak mkp (e : Int) ((te + 1 : Nat) : Int) mta (lv : Int) mct mgr mgo mgg), (s, cI g len F), (a 14, cI g 22 (up NO lv 0)), (a 5, cZ g 5 MK)]) 0 0 zC h hl.1 (c_X8_overs l D g a mth mrw mrg mbd mnw mlc msz mas mak mkp (e : Int) ((te + 1 : Nat) : Int) mta mct mgo man mgr mgg lv  NO  (by omega)) (cs8_136 zC ⟨(Nat.le_of_ble_eq_true rfl), (Nat.le_of_ble_eq_true rfl)⟩) (.head _) rfl rfl rfl (Nat.le_of_ble_eq_true rfl) (pm fun cp_q => by simp only [cp_o, List.countP_append, List.countP_nil] <;> omega) (fun u => (pm fun cp_q => by simp only [cp_o, List.countP_append, List.countP_nil] <;> omega)) ⟨(Nat.le_of_ble_eq_true rfl), (Nat.le_of_ble_eq_true rfl)⟩ (Nat.le_of_ble_eq_true rfl) (Nat.le_of_ble_eq_true rfl) dX8_look_375 (fun u_177 H locs hu_177 hz_177 h => ?_)
                                refine i_sub zC (a := dp) (b := NO lv) dX8_look_378 ?_
                                refine lv_istore (lv' := [(4, .int (iI (dp - (NO lv)))), (5, .int (iI (e : Int))), (0, .ref (a 0)), (1, .ref s), (2, .int (iI (fr : Int))), (3, .int (iI (n : Int))), (6, .int (bI true)), (7, .int (bI true)), (11, .int (iI (e : Int)))]) zx zb dX8_look_379 hl (by decide) rfl (fun ls hl => ?_)
                                refine lv_iconst (v := iI (0)) zx zb dX8_look_381 rfl ?_
                                refine lv_istore (lv' := [(6, .int (iI 0)), (4, .int (iI (dp - (NO lv)))), (5, .int (iI (e : Int))), (0, .ref (a 0)), (1, .ref s), (2, .int (iI (fr : Int))), (3, .int (iI (n : Int))), (7, .int (bI true)), (11, .int (iI (e : Int)))]) zx zb dX8_look_382 hl (by decide) rfl (fun ls hl => ?_)
                                refine lv_goto (tgt := 454) zx zb dX8_look_384 (by decide) ?_
                                refine lv_goto (tgt := 56) zx zb dX8_look_454 (by decide) ?_
                                exact ih56 false true e (dp - (NO lv)) (e : Int) (te + 1) lv (up NO lv 0) _ _ _ (by omega) ⟨by omega, fun q => absurd q (by omega), fun _ => (B5 (hDe (by omega)) (by omega) (by rcases hX with q | q; omega; exact q))⟩ (by omega) (by omega) h (lv_sub hl [3, 4, 5, 6, 1, 2, 0, 7] rfl)
                          · skip
                            refine lv_aload_n zx zb dX8_look_302 rfl (lv_at hl 1 rfl) ?_
                            refine lv_iload_n zx zb dX8_look_303 rfl (lv_at hl 2 rfl) ?_
                            refine lv_iload_n zx zb dX8_look_304 rfl (lv_at hl 3 rfl) ?_
                            refine lv_iload zx zb dX8_look_305 (lv_at hl 8 rfl) ?_
                            refine r_invS (As := [.ref s, .int (iI (fr : Int)), .int (iI (n : Int)), .int (iI (e : Int))]) (rest := []) (wr := [(a 0, oM a mth mrw mrg mbd mnw mlc msz man mas mak mkp f1 (te : Int) mta (lv : Int) mct mgr mgo mgg), (a 14, cI g 22 NO), (a 5, cZ g 5 MK)]) (ws2 := fun u_178 => [(a 0, oM a mth mrw mrg mbd mnw mlc msz man mas mak mkp f1 (te : Int) mta (lv : Int) mct mgr mgo mgg), (s, cI g len F), (a 14, cI g 22 NO), (a 5, cZ g 5 MK)]) 0 0 zC h hl.1 (c_X8_at l D g s len F fr n e hfn hlen (by omega)) (cs8_120 zC ⟨(Nat.le_of_ble_eq_true rfl), (Nat.le_of_ble_eq_true rfl)⟩) rfl rfl (Nat.le_of_ble_eq_true rfl) (pm fun cp_q => by simp only [cp_o, List.countP_append, List.countP_nil] <;> omega) (fun u => (pm fun cp_q => by simp only [cp_o, List.countP_append, List.countP_nil] <;> omega)) ⟨(Nat.le_of_ble_eq_true rfl), (Nat.le_of_ble_eq_true rfl)⟩ (Nat.le_of_ble_eq_true rfl) (Nat.le_of_ble_eq_true rfl) dX8_look_307 (fun u_178 H locs hu_178 hz_178 h => ?_)
                            rw [atX_T]
                            have hxR_177 := atX_R (k := e) hR
                            refine i_i2l zC (a := atX (fun k => F (fr + k)) n e) dX8_look_310 (by omega) ?_
                            refine kl8_132 zC dX8_look_311 ?_
                            refine kl8_134 zC dX8_look_314 ?_
                            refine r_invS (As := [.long (lI (atX (fun k => F (fr + k)) n e)), .long (lI 48), .long (lI 57)]) (rest := []) (wr := [(a 0, oM a mth mrw mrg mbd mnw mlc msz man mas mak mkp f1 (te : Int) mta (lv : Int) mct mgr mgo mgg), (s, cI g len F), (a 14, cI g 22 NO), (a 5, cZ g 5 MK)]) (ws2 := fun u_179 => [(a 0, oM a mth mrw mrg mbd mnw mlc msz man mas mak mkp f1 (te : Int) mta (lv : Int) mct mgr mgo mgg), (s, cI g len F), (a 14, cI g 22 NO), (a 5, cZ g 5 MK)]) 0 0 zC h hl.1 (c_X8_within l D g (atX (fun k => F (fr + k)) n e) 48 57 (by omega) (by omega) (by omega)) (cs8_90 zC ⟨(Nat.le_of_ble_eq_true rfl), (Nat.le_of_ble_eq_true rfl)⟩) rfl rfl (Nat.le_of_ble_eq_true rfl) (List.Perm.refl _) (fun u => List.Perm.refl _) ⟨(Nat.le_of_ble_eq_true rfl), (Nat.le_of_ble_eq_true rfl)⟩ (Nat.le_of_ble_eq_true rfl) (Nat.le_of_ble_eq_true rfl) dX8_look_317 (fun u_179 H locs hu_179 hz_179 h => ?_)
                            refine b_zeq (b := decide (48 ≤ atX (fun k => F (fr + k)) n e ∧ atX (fun k => F (fr + k)) n e ≤ 57)) (tgt := 329) zC dX8_look_320 (by decide) (fun c_180 => ?_) (fun c_180 => ?_)
                            · skip
                              simp only [decide_eq_true_eq, decide_eq_false_iff_not] at c_180
                              have hX : k + 7 ≤ e ∨ ¬ (48 ≤ atX (fun k => F (fr + k)) n e ∧ atX (fun k => F (fr + k)) n e ≤ 57) := Or.inr c_180
                              refine lv_aload_n zx zb dX8_look_329 rfl (lv_at hl 0 rfl) ?_
                              refine lv_aload_n zx zb dX8_look_330 rfl (lv_at hl 0 rfl) ?_
                              refine gf8_114 (v := .int (iI f1)) zC h 0 rfl rfl dX8_look_331 ?_
                              refine i_zge (a := f1) (tgt := 351) zC dX8_look_334 (by decide) (by omega) (fun c_181 => ?_) (fun c_181 => ?_)
                              · skip
                                refine lv_aload_n zx zb dX8_look_351 rfl (lv_at hl 0 rfl) ?_
                                refine gf8_114 (v := .int (iI f1)) zC h 0 rfl rfl dX8_look_352 ?_
                                refine pf8_114 (x := iI f1) zC h 0 (ws' := [(a 0, oM a mth mrw mrg mbd mnw mlc msz man mas mak mkp f1 (te : Int) mta (lv : Int) mct mgr mgo mgg), (s, cI g len F), (a 14, cI g 22 NO), (a 5, cZ g 5 MK)]) rfl rfl (Nat.le_of_ble_eq_true rfl) dX8_look_355 (fun H locs h => ?_)
                                refine lv_iload zx zb dX8_look_358 (lv_at hl 8 rfl) ?_
                                refine lv_istore (lv' := [(5, .int (iI (e : Int))), (0, .ref (a 0)), (1, .ref s), (2, .int (iI (fr : Int))), (3, .int (iI (n : Int))), (4, .int (iI dp)), (6, .int (bI true)), (7, .int (bI true)), (11, .int (iI (e : Int)))]) zx zb dX8_look_360 hl (by decide) rfl (fun ls hl => ?_)
                                refine lv_aload_n zx zb dX8_look_362 rfl (lv_at hl 1 rfl) ?_
                                refine lv_dup zx zb dX8_look_363 rfl ?_
                                refine gf8_117 (v := .int (iI (te : Int))) zC h 0 rfl rfl dX8_look_364 ?_
                                refine lv_iconst (v := iI (1)) zx zb dX8_look_367 rfl ?_
                                refine i_add zC (a := (te : Int)) (b := 1) dX8_look_368 ?_
                                rw [show ((te : Int) + 1 : Int) = ((te + 1 : Nat) : Int) from by omega]
                                refine pf8_117 (x := iI ((te + 1 : Nat) : Int)) zC h 0 (ws' := [(a 0, oM a mth mrw mrg mbd mnw mlc msz man mas mak mkp f1 ((te + 1 : Nat) : Int) mta (lv : Int) mct mgr mgo mgg), (s, cI g len F), (a 14, cI g 22 NO), (a 5, cZ g 5 MK)]) rfl rfl (Nat.le_of_ble_eq_true rfl) dX8_look_369 (fun H locs h => ?_)
                                refine lv_iload zx zb dX8_look_372 (lv_at hl 5 rfl) ?_
                                refine lv_aload_n zx zb dX8_look_374 rfl (lv_at hl 1 rfl) ?_
                                refine r_invV (As := []) (rest := [.int (iI dp)]) (wr := [(s, cI g len F), (a 5, cZ g 5 MK)]) (ws2 := fun u_182 => [(a 0, oM a mth mrw mrg mbd mnw mlc msz man mas mak mkp f1 ((te + 1 : Nat) : Int) mta (lv : Int) mct mgr mgo mgg), (s, cI g len F), (a 14, cI g 22 (up NO lv 0)), (a 5, cZ g 5 MK)]) 0 0 zC h hl.1 (c_X8_overs l D g a mth mrw mrg mbd mnw mlc msz mas mak mkp f1 ((te + 1 : Nat) : Int) mta mct mgo man mgr mgg lv  NO  (by omega)) (cs8_136 zC ⟨(Nat.le_of_ble_eq_true rfl), (Nat.le_of_ble_eq_true rfl)⟩) (.head _) rfl rfl rfl (Nat.le_of_ble_eq_true rfl) (pm fun cp_q => by simp only [cp_o, List.countP_append, List.countP_nil] <;> omega) (fun u => (pm fun cp_q => by simp only [cp_o, List.countP_append, List.countP_nil] <;> omega)) ⟨(Nat.le_of_ble_eq_true rfl), (Nat.le_of_ble_eq_true rfl)⟩ (Nat.le_of_ble_eq_true rfl) (Nat.le_of_ble_eq_true rfl) dX8_look_375 (fun u_182 H locs hu_182 hz_182 h => ?_)
                                refine i_sub zC (a := dp) (b := NO lv) dX8_look_378 ?_
                                refine lv_istore (lv' := [(4, .int (iI (dp - (NO lv)))), (5, .int (iI (e : Int))), (0, .ref (a 0)), (1, .ref s), (2, .int (iI (fr : Int))), (3, .int (iI (n : Int))), (6, .int (bI true)), (7, .int (bI true)), (11, .int (iI (e : Int)))]) zx zb dX8_look_379 hl (by decide) rfl (fun ls hl => ?_)
                                refine lv_iconst (v := iI (0)) zx zb dX8_look_381 rfl ?_
                                refine lv_istore (lv' := [(6, .int (iI 0)), (4, .int (iI (dp - (NO lv)))), (5, .int (iI (e : Int))), (0, .ref (a 0)), (1, .ref s), (2, .int (iI (fr : Int))), (3, .int (iI (n : Int))), (7, .int (bI true)), (11, .int (iI (e : Int)))]) zx zb dX8_look_382 hl (by decide) rfl (fun ls hl => ?_)
                                refine lv_goto (tgt := 454) zx zb dX8_look_384 (by decide) ?_
                                refine lv_goto (tgt := 56) zx zb dX8_look_454 (by decide) ?_
                                exact ih56 false true e (dp - (NO lv)) f1 (te + 1) lv (up NO lv 0) _ _ _ (by omega) ⟨by omega, fun q => absurd q (by omega), fun _ => (hJ.2 (by omega))⟩ (by omega) (by omega) h (lv_sub hl [3, 4, 5, 6, 1, 2, 0, 7] rfl)
                              · skip
                                refine lv_iload zx zb dX8_look_337 (lv_at hl 8 rfl) ?_
                                refine lv_iload zx zb dX8_look_339 (lv_at hl 5 rfl) ?_
                                refine lv_iconst (v := iI (2)) zx zb dX8_look_341 rfl ?_
                                refine i_add zC (a := (k : Int)) (b := 2) dX8_look_342 ?_
                                refine i_cne (a := (e : Int)) (b := (k : Int) + 2) (tgt := 351) zC dX8_look_343 (by decide) (by omega) (fun c_183 => ?_) (fun c_183 => ?_)
                                · skip
                                  refine lv_aload_n zx zb dX8_look_351 rfl (lv_at hl 0 rfl) ?_
                                  refine gf8_114 (v := .int (iI f1)) zC h 0 rfl rfl dX8_look_352 ?_
                                  refine pf8_114 (x := iI f1) zC h 0 (ws' := [(a 0, oM a mth mrw mrg mbd mnw mlc msz man mas mak mkp f1 (te : Int) mta (lv : Int) mct mgr mgo mgg), (s, cI g len F), (a 14, cI g 22 NO), (a 5, cZ g 5 MK)]) rfl rfl (Nat.le_of_ble_eq_true rfl) dX8_look_355 (fun H locs h => ?_)
                                  refine lv_iload zx zb dX8_look_358 (lv_at hl 8 rfl) ?_
                                  refine lv_istore (lv' := [(5, .int (iI (e : Int))), (0, .ref (a 0)), (1, .ref s), (2, .int (iI (fr : Int))), (3, .int (iI (n : Int))), (4, .int (iI dp)), (6, .int (bI true)), (7, .int (bI true)), (11, .int (iI (e : Int)))]) zx zb dX8_look_360 hl (by decide) rfl (fun ls hl => ?_)
                                  refine lv_aload_n zx zb dX8_look_362 rfl (lv_at hl 1 rfl) ?_
                                  refine lv_dup zx zb dX8_look_363 rfl ?_
                                  refine gf8_117 (v := .int (iI (te : Int))) zC h 0 rfl rfl dX8_look_364 ?_
                                  refine lv_iconst (v := iI (1)) zx zb dX8_look_367 rfl ?_
                                  refine i_add zC (a := (te : Int)) (b := 1) dX8_look_368 ?_
                                  rw [show ((te : Int) + 1 : Int) = ((te + 1 : Nat) : Int) from by omega]
                                  refine pf8_117 (x := iI ((te + 1 : Nat) : Int)) zC h 0 (ws' := [(a 0, oM a mth mrw mrg mbd mnw mlc msz man mas mak mkp f1 ((te + 1 : Nat) : Int) mta (lv : Int) mct mgr mgo mgg), (s, cI g len F), (a 14, cI g 22 NO), (a 5, cZ g 5 MK)]) rfl rfl (Nat.le_of_ble_eq_true rfl) dX8_look_369 (fun H locs h => ?_)
                                  refine lv_iload zx zb dX8_look_372 (lv_at hl 5 rfl) ?_
                                  refine lv_aload_n zx zb dX8_look_374 rfl (lv_at hl 1 rfl) ?_
                                  refine r_invV (As := []) (rest := [.int (iI dp)]) (wr := [(s, cI g len F), (a 5, cZ g 5 MK)]) (ws2 := fun u_184 => [(a 0, oM a mth mrw mrg mbd mnw mlc msz man mas mak mkp f1 ((te + 1 : Nat) : Int) mta (lv : Int) mct mgr mgo mgg), (s, cI g len F), (a 14, cI g 22 (up NO lv 0)), (a 5, cZ g 5 MK)]) 0 0 zC h hl.1 (c_X8_overs l D g a mth mrw mrg mbd mnw mlc msz mas mak mkp f1 ((te + 1 : Nat) : Int) mta mct mgo man mgr mgg lv  NO  (by omega)) (cs8_136 zC ⟨(Nat.le_of_ble_eq_true rfl), (Nat.le_of_ble_eq_true rfl)⟩) (.head _) rfl rfl rfl (Nat.le_of_ble_eq_true rfl) (pm fun cp_q => by simp only [cp_o, List.countP_append, List.countP_nil] <;> omega) (fun u => (pm fun cp_q => by simp only [cp_o, List.countP_append, List.countP_nil] <;> omega)) ⟨(Nat.le_of_ble_eq_true rfl), (Nat.le_of_ble_eq_true rfl)⟩ (Nat.le_of_ble_eq_true rfl) (Nat.le_of_ble_eq_true rfl) dX8_look_375 (fun u_184 H locs hu_184 hz_184 h => ?_)
                                  refine i_sub zC (a := dp) (b := NO lv) dX8_look_378 ?_
                                  refine lv_istore (lv' := [(4, .int (iI (dp - (NO lv)))), (5, .int (iI (e : Int))), (0, .ref (a 0)), (1, .ref s), (2, .int (iI (fr : Int))), (3, .int (iI (n : Int))), (6, .int (bI true)), (7, .int (bI true)), (11, .int (iI (e : Int)))]) zx zb dX8_look_379 hl (by decide) rfl (fun ls hl => ?_)
                                  refine lv_iconst (v := iI (0)) zx zb dX8_look_381 rfl ?_
                                  refine lv_istore (lv' := [(6, .int (iI 0)), (4, .int (iI (dp - (NO lv)))), (5, .int (iI (e : Int))), (0, .ref (a 0)), (1, .ref s), (2, .int (iI (fr : Int))), (3, .int (iI (n : Int))), (7, .int (bI true)), (11, .int (iI (e : Int)))]) zx zb dX8_look_382 hl (by decide) rfl (fun ls hl => ?_)
                                  refine lv_goto (tgt := 454) zx zb dX8_look_384 (by decide) ?_
                                  refine lv_goto (tgt := 56) zx zb dX8_look_454 (by decide) ?_
                                  exact ih56 false true e (dp - (NO lv)) f1 (te + 1) lv (up NO lv 0) _ _ _ (by omega) ⟨by omega, fun _ => ⟨by omega, fun _ => (B6 (hDe (by omega)) (by omega) hX), fun q => absurd q (by decide)⟩, fun q => absurd q (by omega)⟩ (by omega) (by omega) h (lv_sub hl [3, 4, 5, 6, 1, 2, 0, 7] rfl)
                                · skip
                                  refine lv_iload zx zb dX8_look_346 (lv_at hl 8 rfl) ?_
                                  refine lv_goto (tgt := 355) zx zb dX8_look_348 (by decide) ?_
                                  refine pf8_114 (x := iI (e : Int)) zC h 0 (ws' := [(a 0, oM a mth mrw mrg mbd mnw mlc msz man mas mak mkp (e : Int) (te : Int) mta (lv : Int) mct mgr mgo mgg), (s, cI g len F), (a 14, cI g 22 NO), (a 5, cZ g 5 MK)]) rfl rfl (Nat.le_of_ble_eq_true rfl) dX8_look_355 (fun H locs h => ?_)
                                  refine lv_iload zx zb dX8_look_358 (lv_at hl 8 rfl) ?_
                                  refine lv_istore (lv' := [(5, .int (iI (e : Int))), (0, .ref (a 0)), (1, .ref s), (2, .int (iI (fr : Int))), (3, .int (iI (n : Int))), (4, .int (iI dp)), (6, .int (bI true)), (7, .int (bI true)), (11, .int (iI (e : Int)))]) zx zb dX8_look_360 hl (by decide) rfl (fun ls hl => ?_)
                                  refine lv_aload_n zx zb dX8_look_362 rfl (lv_at hl 1 rfl) ?_
                                  refine lv_dup zx zb dX8_look_363 rfl ?_
                                  refine gf8_117 (v := .int (iI (te : Int))) zC h 0 rfl rfl dX8_look_364 ?_
                                  refine lv_iconst (v := iI (1)) zx zb dX8_look_367 rfl ?_
                                  refine i_add zC (a := (te : Int)) (b := 1) dX8_look_368 ?_
                                  rw [show ((te : Int) + 1 : Int) = ((te + 1 : Nat) : Int) from by omega]
                                  refine pf8_117 (x := iI ((te + 1 : Nat) : Int)) zC h 0 (ws' := [(a 0, oM a mth mrw mrg mbd mnw mlc msz man mas mak mkp (e : Int) ((te + 1 : Nat) : Int) mta (lv : Int) mct mgr mgo mgg), (s, cI g len F), (a 14, cI g 22 NO), (a 5, cZ g 5 MK)]) rfl rfl (Nat.le_of_ble_eq_true rfl) dX8_look_369 (fun H locs h => ?_)
                                  refine lv_iload zx zb dX8_look_372 (lv_at hl 5 rfl) ?_
                                  refine lv_aload_n zx zb dX8_look_374 rfl (lv_at hl 1 rfl) ?_
                                  refine r_invV (As := []) (rest := [.int (iI dp)]) (wr := [(s, cI g len F), (a 5, cZ g 5 MK)]) (ws2 := fun u_185 => [(a 0, oM a mth mrw mrg mbd mnw mlc msz man mas mak mkp (e : Int) ((te + 1 : Nat) : Int) mta (lv : Int) mct mgr mgo mgg), (s, cI g len F), (a 14, cI g 22 (up NO lv 0)), (a 5, cZ g 5 MK)]) 0 0 zC h hl.1 (c_X8_overs l D g a mth mrw mrg mbd mnw mlc msz mas mak mkp (e : Int) ((te + 1 : Nat) : Int) mta mct mgo man mgr mgg lv  NO  (by omega)) (cs8_136 zC ⟨(Nat.le_of_ble_eq_true rfl), (Nat.le_of_ble_eq_true rfl)⟩) (.head _) rfl rfl rfl (Nat.le_of_ble_eq_true rfl) (pm fun cp_q => by simp only [cp_o, List.countP_append, List.countP_nil] <;> omega) (fun u => (pm fun cp_q => by simp only [cp_o, List.countP_append, List.countP_nil] <;> omega)) ⟨(Nat.le_of_ble_eq_true rfl), (Nat.le_of_ble_eq_true rfl)⟩ (Nat.le_of_ble_eq_true rfl) (Nat.le_of_ble_eq_true rfl) dX8_look_375 (fun u_185 H locs hu_185 hz_185 h => ?_)
                                  refine i_sub zC (a := dp) (b := NO lv) dX8_look_378 ?_
                                  refine lv_istore (lv' := [(4, .int (iI (dp - (NO lv)))), (5, .int (iI (e : Int))), (0, .ref (a 0)), (1, .ref s), (2, .int (iI (fr : Int))), (3, .int (iI (n : Int))), (6, .int (bI true)), (7, .int (bI true)), (11, .int (iI (e : Int)))]) zx zb dX8_look_379 hl (by decide) rfl (fun ls hl => ?_)
                                  refine lv_iconst (v := iI (0)) zx zb dX8_look_381 rfl ?_
                                  refine lv_istore (lv' := [(6, .int (iI 0)), (4, .int (iI (dp - (NO lv)))), (5, .int (iI (e : Int))), (0, .ref (a 0)), (1, .ref s), (2, .int (iI (fr : Int))), (3, .int (iI (n : Int))), (7, .int (bI true)), (11, .int (iI (e : Int)))]) zx zb dX8_look_382 hl (by decide) rfl (fun ls hl => ?_)
                                  refine lv_goto (tgt := 454) zx zb dX8_look_384 (by decide) ?_
                                  refine lv_goto (tgt := 56) zx zb dX8_look_454 (by decide) ?_
                                  exact ih56 false true e (dp - (NO lv)) (e : Int) (te + 1) lv (up NO lv 0) _ _ _ (by omega) ⟨by omega, fun q => absurd q (by omega), fun _ => (B5 (hDe (by omega)) (by omega) (by rcases hX with q | q; omega; exact q))⟩ (by omega) (by omega) h (lv_sub hl [3, 4, 5, 6, 1, 2, 0, 7] rfl)
                            · skip
                              simp only [decide_eq_true_eq, decide_eq_false_iff_not] at c_180
                              refine i_inc (q := 8) (a := (e : Int)) (lv' := [(11, .int (iI ((e : Int) + 1))), (0, .ref (a 0)), (1, .ref s), (2, .int (iI (fr : Int))), (3, .int (iI (n : Int))), (4, .int (iI dp)), (5, .int (iI (k : Int))), (6, .int (bI true)), (7, .int (bI true))]) zC hl dX8_look_323 rfl (by decide) rfl (fun ls hl => ?_)
                              refine lv_goto (tgt := 292) zx zb dX8_look_326 (by decide) ?_
                              exact ih292 (e + 1) _ _ _ (by omega) (by omega) (fun q => B4 (hDe q) (by omega) (by omega) (by omega)) h (lv_sub hl [1, 2, 3, 4, 5, 6, 7, 8, 0] rfl)
                      exact L292_171 _ (k + 2) _ _ _ (Nat.lt_succ_self _) (by omega) (fun q => (hJ.1 q).2) h (lv_sub hl [1, 2, 3, 4, 5, 6, 7, 8, 0] rfl)
                    refine lv_iload zx zb dX8_look_190 (lv_at hl 0 rfl) ?_
                    refine r_invS (As := [.int (iI (atX (fun k => F (fr + k)) n k))]) (rest := []) (wr := [(a 0, oM a mth mrw mrg mbd mnw mlc msz man mas mak mkp fa (te : Int) mta (lv : Int) mct mgr mgo mgg), (s, cI g len F), (a 14, cI g 22 NO), (a 5, cZ g 5 MK)]) (ws2 := fun u_186 => [(a 0, oM a mth mrw mrg mbd mnw mlc msz man mas mak mkp fa (te : Int) mta (lv : Int) mct mgr mgo mgg), (s, cI g len F), (a 14, cI g 22 NO), (a 5, cZ g 5 MK)]) 0 0 zC h hl.1 (c_X8_fieldOf l D g (atX (fun k => F (fr + k)) n k) (by omega)) (cs8_128 zC ⟨(Nat.le_of_ble_eq_true rfl), (Nat.le_of_ble_eq_true rfl)⟩) rfl rfl (Nat.le_of_ble_eq_true rfl) (List.Perm.refl _) (fun u => List.Perm.refl _) ⟨(Nat.le_of_ble_eq_true rfl), (Nat.le_of_ble_eq_true rfl)⟩ (Nat.le_of_ble_eq_true rfl) (Nat.le_of_ble_eq_true rfl) dX8_look_192 (fun u_186 H locs hu_186 hz_186 h => ?_)
                    have hfR_186 := fOf_R (atX (fun k => F (fr + k)) n k)
                    refine lv_istore (lv' := [(9, .int (iI (fOf (atX (fun k => F (fr + k)) n k)))), (8, .int (iI (atX (fun k => F (fr + k)) n k))), (0, .ref (a 0)), (1, .ref s), (2, .int (iI (fr : Int))), (3, .int (iI (n : Int))), (4, .int (iI dp)), (5, .int (iI (k : Int))), (6, .int (bI true)), (7, .int (bI true))]) zx zb dX8_look_195 hl (by decide) rfl (fun ls hl => ?_)
                    refine lv_aload_n zx zb dX8_look_197 rfl (lv_at hl 2 rfl) ?_
                    refine lv_iload zx zb dX8_look_198 (lv_at hl 0 rfl) ?_
                    refine i_zlt (a := fOf (atX (fun k => F (fr + k)) n k)) (tgt := 222) zC dX8_look_200 (by decide) (by omega) (fun c_187 => ?_) (fun c_187 => ?_)
                    · skip
                      have hF : LF MK (fun k => F (fr + k)) n (rBegin r) (k : Int) := B1 hI h33 h40 (Or.inl c_187)
                      refine lv_iload zx zb dX8_look_222 (lv_at hl 7 rfl) ?_
                      refine lv_goto (tgt := 228) zx zb dX8_look_224 (by decide) ?_
                      refine pf8_114 (x := iI (k : Int)) zC h 0 (ws' := [(a 0, oM a mth mrw mrg mbd mnw mlc msz man mas mak mkp (k : Int) (te : Int) mta (lv : Int) mct mgr mgo mgg), (s, cI g len F), (a 14, cI g 22 NO), (a 5, cZ g 5 MK)]) rfl rfl (Nat.le_of_ble_eq_true rfl) dX8_look_228 (fun H locs h => ?_)
                      refine lv_aload_n zx zb dX8_look_231 rfl (lv_at hl 3 rfl) ?_
                      refine lv_iload_n zx zb dX8_look_232 rfl (lv_at hl 4 rfl) ?_
                      refine lv_iload_n zx zb dX8_look_233 rfl (lv_at hl 5 rfl) ?_
                      refine lv_iload zx zb dX8_look_234 (lv_at hl 7 rfl) ?_
                      refine lv_iconst (v := iI (1)) zx zb dX8_look_236 rfl ?_
                      refine i_add zC (a := (k : Int)) (b := 1) dX8_look_237 ?_
                      rw [show ((k : Int) + 1 : Int) = ((k + 1 : Nat) : Int) from by omega]
                      refine r_invS (As := [.ref s, .int (iI (fr : Int)), .int (iI (n : Int)), .int (iI ((k + 1 : Nat) : Int))]) (rest := []) (wr := [(a 0, oM a mth mrw mrg mbd mnw mlc msz man mas mak mkp (k : Int) (te : Int) mta (lv : Int) mct mgr mgo mgg), (a 14, cI g 22 NO), (a 5, cZ g 5 MK)]) (ws2 := fun u_188 => [(a 0, oM a mth mrw mrg mbd mnw mlc msz man mas mak mkp (k : Int) (te : Int) mta (lv : Int) mct mgr mgo mgg), (s, cI g len F), (a 14, cI g 22 NO), (a 5, cZ g 5 MK)]) 0 0 zC h hl.1 (c_X8_at l D g s len F fr n (k + 1) hfn hlen (by omega)) (cs8_120 zC ⟨(Nat.le_of_ble_eq_true rfl), (Nat.le_of_ble_eq_true rfl)⟩) rfl rfl (Nat.le_of_ble_eq_true rfl) (pm fun cp_q => by simp only [cp_o, List.countP_append, List.countP_nil] <;> omega) (fun u => (pm fun cp_q => by simp only [cp_o, List.countP_append, List.countP_nil] <;> omega)) ⟨(Nat.le_of_ble_eq_true rfl), (Nat.le_of_ble_eq_true rfl)⟩ (Nat.le_of_ble_eq_true rfl) (Nat.le_of_ble_eq_true rfl) dX8_look_238 (fun u_188 H locs hu_188 hz_188 h => ?_)
                      rw [atX_T]
                      have hxR_187 := atX_R (k := (k + 1)) hR
                      refine lv_istore (lv' := [(10, .int (iI (atX (fun k => F (fr + k)) n (k + 1)))), (9, .int (iI (fOf (atX (fun k => F (fr + k)) n k)))), (8, .int (iI (atX (fun k => F (fr + k)) n k))), (0, .ref (a 0)), (1, .ref s), (2, .int (iI (fr : Int))), (3, .int (iI (n : Int))), (4, .int (iI dp)), (5, .int (iI (k : Int))), (6, .int (bI true)), (7, .int (bI true))]) zx zb dX8_look_241 hl (by decide) rfl (fun ls hl => ?_)
                      refine lv_aload_n zx zb dX8_look_243 rfl (lv_at hl 3 rfl) ?_
                      refine lv_aload_n zx zb dX8_look_244 rfl (lv_at hl 3 rfl) ?_
                      refine gf8_114 (v := .int (iI (k : Int))) zC h 0 rfl rfl dX8_look_245 ?_
                      refine i_zge (a := (k : Int)) (tgt := 279) zC dX8_look_248 (by decide) (by omega) (fun c_189 => ?_) (fun c_189 => absurd c_189 (by omega))
                      refine lv_aload_n zx zb dX8_look_279 rfl (lv_at hl 3 rfl) ?_
                      refine gf8_114 (v := .int (iI (k : Int))) zC h 0 rfl rfl dX8_look_280 ?_
                      refine pf8_114 (x := iI (k : Int)) zC h 0 (ws' := [(a 0, oM a mth mrw mrg mbd mnw mlc msz man mas mak mkp (k : Int) (te : Int) mta (lv : Int) mct mgr mgo mgg), (s, cI g len F), (a 14, cI g 22 NO), (a 5, cZ g 5 MK)]) rfl rfl (Nat.le_of_ble_eq_true rfl) dX8_look_283 (fun H locs h => ?_)
                      exact J286_170 (k : Int) _ _ _ ⟨fun q => absurd q (by omega), fun _ => hF⟩ (by omega) h (lv_sub hl [3, 4, 5, 6, 7, 8, 9, 10] rfl)
                    · skip
                      have hf := c_187
                      refine lv_aload_n zx zb dX8_look_203 rfl (lv_at hl 2 rfl) ?_
                      refine gf8_22 (v := .ref (a 5)) zC h 0 rfl rfl dX8_look_204 ?_
                      refine lv_iload zx zb dX8_look_207 (lv_at hl 0 rfl) ?_
                      refine a_zld zC h 3 rfl (z := fOf (atX (fun k => F (fr + k)) n k)) ((fOf (atX (fun k => F (fr + k)) n k)).toNat) (by omega) (by omega) (by decide) dX8_look_209 ?_
                      refine b_zne (b := MK ((fOf (atX (fun k => F (fr + k)) n k)).toNat)) (tgt := 222) zC dX8_look_210 (by decide) (fun c_190 => ?_) (fun c_190 => ?_)
                      · skip
                        have hF : LF MK (fun k => F (fr + k)) n (rBegin r) (k : Int) := B1 hI h33 h40 (Or.inr (Or.inl c_190))
                        refine lv_iload zx zb dX8_look_222 (lv_at hl 7 rfl) ?_
                        refine lv_goto (tgt := 228) zx zb dX8_look_224 (by decide) ?_
                        refine pf8_114 (x := iI (k : Int)) zC h 0 (ws' := [(a 0, oM a mth mrw mrg mbd mnw mlc msz man mas mak mkp (k : Int) (te : Int) mta (lv : Int) mct mgr mgo mgg), (s, cI g len F), (a 14, cI g 22 NO), (a 5, cZ g 5 MK)]) rfl rfl (Nat.le_of_ble_eq_true rfl) dX8_look_228 (fun H locs h => ?_)
                        refine lv_aload_n zx zb dX8_look_231 rfl (lv_at hl 3 rfl) ?_
                        refine lv_iload_n zx zb dX8_look_232 rfl (lv_at hl 4 rfl) ?_
                        refine lv_iload_n zx zb dX8_look_233 rfl (lv_at hl 5 rfl) ?_
                        refine lv_iload zx zb dX8_look_234 (lv_at hl 7 rfl) ?_
                        refine lv_iconst (v := iI (1)) zx zb dX8_look_236 rfl ?_
                        refine i_add zC (a := (k : Int)) (b := 1) dX8_look_237 ?_
                        rw [show ((k : Int) + 1 : Int) = ((k + 1 : Nat) : Int) from by omega]
                        refine r_invS (As := [.ref s, .int (iI (fr : Int)), .int (iI (n : Int)), .int (iI ((k + 1 : Nat) : Int))]) (rest := []) (wr := [(a 0, oM a mth mrw mrg mbd mnw mlc msz man mas mak mkp (k : Int) (te : Int) mta (lv : Int) mct mgr mgo mgg), (a 14, cI g 22 NO), (a 5, cZ g 5 MK)]) (ws2 := fun u_191 => [(a 0, oM a mth mrw mrg mbd mnw mlc msz man mas mak mkp (k : Int) (te : Int) mta (lv : Int) mct mgr mgo mgg), (s, cI g len F), (a 14, cI g 22 NO), (a 5, cZ g 5 MK)]) 0 0 zC h hl.1 (c_X8_at l D g s len F fr n (k + 1) hfn hlen (by omega)) (cs8_120 zC ⟨(Nat.le_of_ble_eq_true rfl), (Nat.le_of_ble_eq_true rfl)⟩) rfl rfl (Nat.le_of_ble_eq_true rfl) (pm fun cp_q => by simp only [cp_o, List.countP_append, List.countP_nil] <;> omega) (fun u => (pm fun cp_q => by simp only [cp_o, List.countP_append, List.countP_nil] <;> omega)) ⟨(Nat.le_of_ble_eq_true rfl), (Nat.le_of_ble_eq_true rfl)⟩ (Nat.le_of_ble_eq_true rfl) (Nat.le_of_ble_eq_true rfl) dX8_look_238 (fun u_191 H locs hu_191 hz_191 h => ?_)
                        rw [atX_T]
                        have hxR_190 := atX_R (k := (k + 1)) hR
                        refine lv_istore (lv' := [(10, .int (iI (atX (fun k => F (fr + k)) n (k + 1)))), (9, .int (iI (fOf (atX (fun k => F (fr + k)) n k)))), (8, .int (iI (atX (fun k => F (fr + k)) n k))), (0, .ref (a 0)), (1, .ref s), (2, .int (iI (fr : Int))), (3, .int (iI (n : Int))), (4, .int (iI dp)), (5, .int (iI (k : Int))), (6, .int (bI true)), (7, .int (bI true))]) zx zb dX8_look_241 hl (by decide) rfl (fun ls hl => ?_)
                        refine lv_aload_n zx zb dX8_look_243 rfl (lv_at hl 3 rfl) ?_
                        refine lv_aload_n zx zb dX8_look_244 rfl (lv_at hl 3 rfl) ?_
                        refine gf8_114 (v := .int (iI (k : Int))) zC h 0 rfl rfl dX8_look_245 ?_
                        refine i_zge (a := (k : Int)) (tgt := 279) zC dX8_look_248 (by decide) (by omega) (fun c_192 => ?_) (fun c_192 => absurd c_192 (by omega))
                        refine lv_aload_n zx zb dX8_look_279 rfl (lv_at hl 3 rfl) ?_
                        refine gf8_114 (v := .int (iI (k : Int))) zC h 0 rfl rfl dX8_look_280 ?_
                        refine pf8_114 (x := iI (k : Int)) zC h 0 (ws' := [(a 0, oM a mth mrw mrg mbd mnw mlc msz man mas mak mkp (k : Int) (te : Int) mta (lv : Int) mct mgr mgo mgg), (s, cI g len F), (a 14, cI g 22 NO), (a 5, cZ g 5 MK)]) rfl rfl (Nat.le_of_ble_eq_true rfl) dX8_look_283 (fun H locs h => ?_)
                        exact J286_170 (k : Int) _ _ _ ⟨fun q => absurd q (by omega), fun _ => hF⟩ (by omega) h (lv_sub hl [3, 4, 5, 6, 7, 8, 9, 10] rfl)
                      · skip
                        have hm := c_190
                        refine lv_aload_n zx zb dX8_look_213 rfl (lv_at hl 2 rfl) ?_
                        refine gf8_117 (v := .int (iI (te : Int))) zC h 0 rfl rfl dX8_look_214 ?_
                        refine lv_bipush (v := iI (40)) zx zb dX8_look_217 rfl ?_
                        refine i_cne (a := (te : Int)) (b := 40) (tgt := 227) zC dX8_look_219 (by decide) (by omega) (fun c_193 => ?_) (fun c_193 => ?_)
                        · skip
                          have ht : te ≠ 40 := by omega
                          refine lv_iconst (v := iI (-1)) zx zb dX8_look_227 rfl ?_
                          refine pf8_114 (x := iI (-1)) zC h 0 (ws' := [(a 0, oM a mth mrw mrg mbd mnw mlc msz man mas mak mkp (-1) (te : Int) mta (lv : Int) mct mgr mgo mgg), (s, cI g len F), (a 14, cI g 22 NO), (a 5, cZ g 5 MK)]) rfl rfl (Nat.le_of_ble_eq_true rfl) dX8_look_228 (fun H locs h => ?_)
                          refine lv_aload_n zx zb dX8_look_231 rfl (lv_at hl 3 rfl) ?_
                          refine lv_iload_n zx zb dX8_look_232 rfl (lv_at hl 4 rfl) ?_
                          refine lv_iload_n zx zb dX8_look_233 rfl (lv_at hl 5 rfl) ?_
                          refine lv_iload zx zb dX8_look_234 (lv_at hl 7 rfl) ?_
                          refine lv_iconst (v := iI (1)) zx zb dX8_look_236 rfl ?_
                          refine i_add zC (a := (k : Int)) (b := 1) dX8_look_237 ?_
                          rw [show ((k : Int) + 1 : Int) = ((k + 1 : Nat) : Int) from by omega]
                          refine r_invS (As := [.ref s, .int (iI (fr : Int)), .int (iI (n : Int)), .int (iI ((k + 1 : Nat) : Int))]) (rest := []) (wr := [(a 0, oM a mth mrw mrg mbd mnw mlc msz man mas mak mkp (-1) (te : Int) mta (lv : Int) mct mgr mgo mgg), (a 14, cI g 22 NO), (a 5, cZ g 5 MK)]) (ws2 := fun u_194 => [(a 0, oM a mth mrw mrg mbd mnw mlc msz man mas mak mkp (-1) (te : Int) mta (lv : Int) mct mgr mgo mgg), (s, cI g len F), (a 14, cI g 22 NO), (a 5, cZ g 5 MK)]) 0 0 zC h hl.1 (c_X8_at l D g s len F fr n (k + 1) hfn hlen (by omega)) (cs8_120 zC ⟨(Nat.le_of_ble_eq_true rfl), (Nat.le_of_ble_eq_true rfl)⟩) rfl rfl (Nat.le_of_ble_eq_true rfl) (pm fun cp_q => by simp only [cp_o, List.countP_append, List.countP_nil] <;> omega) (fun u => (pm fun cp_q => by simp only [cp_o, List.countP_append, List.countP_nil] <;> omega)) ⟨(Nat.le_of_ble_eq_true rfl), (Nat.le_of_ble_eq_true rfl)⟩ (Nat.le_of_ble_eq_true rfl) (Nat.le_of_ble_eq_true rfl) dX8_look_238 (fun u_194 H locs hu_194 hz_194 h => ?_)
                          rw [atX_T]
                          have hxR_193 := atX_R (k := (k + 1)) hR
                          refine lv_istore (lv' := [(10, .int (iI (atX (fun k => F (fr + k)) n (k + 1)))), (9, .int (iI (fOf (atX (fun k => F (fr + k)) n k)))), (8, .int (iI (atX (fun k => F (fr + k)) n k))), (0, .ref (a 0)), (1, .ref s), (2, .int (iI (fr : Int))), (3, .int (iI (n : Int))), (4, .int (iI dp)), (5, .int (iI (k : Int))), (6, .int (bI true)), (7, .int (bI true))]) zx zb dX8_look_241 hl (by decide) rfl (fun ls hl => ?_)
                          refine lv_aload_n zx zb dX8_look_243 rfl (lv_at hl 3 rfl) ?_
                          refine lv_aload_n zx zb dX8_look_244 rfl (lv_at hl 3 rfl) ?_
                          refine gf8_114 (v := .int (iI (-1))) zC h 0 rfl rfl dX8_look_245 ?_
                          refine i_zge (a := -1) (tgt := 279) zC dX8_look_248 (by decide) (by omega) (fun c_195 => absurd c_195 (by omega)) (fun c_195 => ?_)
                          refine lv_iload zx zb dX8_look_251 (lv_at hl 0 rfl) ?_
                          refine lv_bipush (v := iI (61)) zx zb dX8_look_253 rfl ?_
                          refine i_ceq (a := atX (fun k => F (fr + k)) n (k + 1)) (b := 61) (tgt := 279) zC dX8_look_255 (by decide) (by omega) (fun c_196 => ?_) (fun c_196 => ?_)
                          · skip
                            have hD := B3 hI h33 h40 hf hm ht (Or.inl c_196)
                            refine lv_aload_n zx zb dX8_look_279 rfl (lv_at hl 3 rfl) ?_
                            refine gf8_114 (v := .int (iI (-1))) zC h 0 rfl rfl dX8_look_280 ?_
                            refine pf8_114 (x := iI (-1)) zC h 0 (ws' := [(a 0, oM a mth mrw mrg mbd mnw mlc msz man mas mak mkp (-1) (te : Int) mta (lv : Int) mct mgr mgo mgg), (s, cI g len F), (a 14, cI g 22 NO), (a 5, cZ g 5 MK)]) rfl rfl (Nat.le_of_ble_eq_true rfl) dX8_look_283 (fun H locs h => ?_)
                            exact J286_170 (-1) _ _ _ ⟨fun _ => ⟨by omega, hD⟩, fun q => absurd q (by omega)⟩ (by omega) h (lv_sub hl [3, 4, 5, 6, 7, 8, 9, 10] rfl)
                          · skip
                            have ho1 := c_196
                            refine lv_iload zx zb dX8_look_258 (lv_at hl 0 rfl) ?_
                            refine lv_bipush (v := iI (60)) zx zb dX8_look_260 rfl ?_
                            refine i_ceq (a := atX (fun k => F (fr + k)) n (k + 1)) (b := 60) (tgt := 279) zC dX8_look_262 (by decide) (by omega) (fun c_197 => ?_) (fun c_197 => ?_)
                            · skip
                              have hD := B3 hI h33 h40 hf hm ht (Or.inr (Or.inl c_197))
                              refine lv_aload_n zx zb dX8_look_279 rfl (lv_at hl 3 rfl) ?_
                              refine gf8_114 (v := .int (iI (-1))) zC h 0 rfl rfl dX8_look_280 ?_
                              refine pf8_114 (x := iI (-1)) zC h 0 (ws' := [(a 0, oM a mth mrw mrg mbd mnw mlc msz man mas mak mkp (-1) (te : Int) mta (lv : Int) mct mgr mgo mgg), (s, cI g len F), (a 14, cI g 22 NO), (a 5, cZ g 5 MK)]) rfl rfl (Nat.le_of_ble_eq_true rfl) dX8_look_283 (fun H locs h => ?_)
                              exact J286_170 (-1) _ _ _ ⟨fun _ => ⟨by omega, hD⟩, fun q => absurd q (by omega)⟩ (by omega) h (lv_sub hl [3, 4, 5, 6, 7, 8, 9, 10] rfl)
                            · skip
                              have ho2 := c_197
                              refine lv_iload zx zb dX8_look_265 (lv_at hl 0 rfl) ?_
                              refine lv_bipush (v := iI (62)) zx zb dX8_look_267 rfl ?_
                              refine i_ceq (a := atX (fun k => F (fr + k)) n (k + 1)) (b := 62) (tgt := 279) zC dX8_look_269 (by decide) (by omega) (fun c_198 => ?_) (fun c_198 => ?_)
                              · skip
                                have hD := B3 hI h33 h40 hf hm ht (Or.inr (Or.inr c_198))
                                refine lv_aload_n zx zb dX8_look_279 rfl (lv_at hl 3 rfl) ?_
                                refine gf8_114 (v := .int (iI (-1))) zC h 0 rfl rfl dX8_look_280 ?_
                                refine pf8_114 (x := iI (-1)) zC h 0 (ws' := [(a 0, oM a mth mrw mrg mbd mnw mlc msz man mas mak mkp (-1) (te : Int) mta (lv : Int) mct mgr mgo mgg), (s, cI g len F), (a 14, cI g 22 NO), (a 5, cZ g 5 MK)]) rfl rfl (Nat.le_of_ble_eq_true rfl) dX8_look_283 (fun H locs h => ?_)
                                exact J286_170 (-1) _ _ _ ⟨fun _ => ⟨by omega, hD⟩, fun q => absurd q (by omega)⟩ (by omega) h (lv_sub hl [3, 4, 5, 6, 7, 8, 9, 10] rfl)
                              · skip
                                have hF : LF MK (fun k => F (fr + k)) n (rBegin r) ((k : Int) + 1) := B2 hI h33 h40 hf hm ht ho1 ho2 c_198
                                refine lv_iload zx zb dX8_look_272 (lv_at hl 8 rfl) ?_
                                refine lv_iconst (v := iI (1)) zx zb dX8_look_274 rfl ?_
                                refine i_add zC (a := (k : Int)) (b := 1) dX8_look_275 ?_
                                refine lv_goto (tgt := 283) zx zb dX8_look_276 (by decide) ?_
                                refine pf8_114 (x := iI ((k : Int) + 1)) zC h 0 (ws' := [(a 0, oM a mth mrw mrg mbd mnw mlc msz man mas mak mkp ((k : Int) + 1) (te : Int) mta (lv : Int) mct mgr mgo mgg), (s, cI g len F), (a 14, cI g 22 NO), (a 5, cZ g 5 MK)]) rfl rfl (Nat.le_of_ble_eq_true rfl) dX8_look_283 (fun H locs h => ?_)
                                exact J286_170 ((k : Int) + 1) _ _ _ ⟨fun q => absurd q (by omega), fun _ => hF⟩ (by omega) h (lv_sub hl [3, 4, 5, 6, 7, 8, 9, 10] rfl)
                        · skip
                          have hF : LF MK (fun k => F (fr + k)) n (rBegin r) (k : Int) := B1 hI h33 h40 (Or.inr (Or.inr (by omega)))
                          refine lv_iload zx zb dX8_look_222 (lv_at hl 7 rfl) ?_
                          refine lv_goto (tgt := 228) zx zb dX8_look_224 (by decide) ?_
                          refine pf8_114 (x := iI (k : Int)) zC h 0 (ws' := [(a 0, oM a mth mrw mrg mbd mnw mlc msz man mas mak mkp (k : Int) (te : Int) mta (lv : Int) mct mgr mgo mgg), (s, cI g len F), (a 14, cI g 22 NO), (a 5, cZ g 5 MK)]) rfl rfl (Nat.le_of_ble_eq_true rfl) dX8_look_228 (fun H locs h => ?_)
                          refine lv_aload_n zx zb dX8_look_231 rfl (lv_at hl 3 rfl) ?_
                          refine lv_iload_n zx zb dX8_look_232 rfl (lv_at hl 4 rfl) ?_
                          refine lv_iload_n zx zb dX8_look_233 rfl (lv_at hl 5 rfl) ?_
                          refine lv_iload zx zb dX8_look_234 (lv_at hl 7 rfl) ?_
                          refine lv_iconst (v := iI (1)) zx zb dX8_look_236 rfl ?_
                          refine i_add zC (a := (k : Int)) (b := 1) dX8_look_237 ?_
                          rw [show ((k : Int) + 1 : Int) = ((k + 1 : Nat) : Int) from by omega]
                          refine r_invS (As := [.ref s, .int (iI (fr : Int)), .int (iI (n : Int)), .int (iI ((k + 1 : Nat) : Int))]) (rest := []) (wr := [(a 0, oM a mth mrw mrg mbd mnw mlc msz man mas mak mkp (k : Int) (te : Int) mta (lv : Int) mct mgr mgo mgg), (a 14, cI g 22 NO), (a 5, cZ g 5 MK)]) (ws2 := fun u_199 => [(a 0, oM a mth mrw mrg mbd mnw mlc msz man mas mak mkp (k : Int) (te : Int) mta (lv : Int) mct mgr mgo mgg), (s, cI g len F), (a 14, cI g 22 NO), (a 5, cZ g 5 MK)]) 0 0 zC h hl.1 (c_X8_at l D g s len F fr n (k + 1) hfn hlen (by omega)) (cs8_120 zC ⟨(Nat.le_of_ble_eq_true rfl), (Nat.le_of_ble_eq_true rfl)⟩) rfl rfl (Nat.le_of_ble_eq_true rfl) (pm fun cp_q => by simp only [cp_o, List.countP_append, List.countP_nil] <;> omega) (fun u => (pm fun cp_q => by simp only [cp_o, List.countP_append, List.countP_nil] <;> omega)) ⟨(Nat.le_of_ble_eq_true rfl), (Nat.le_of_ble_eq_true rfl)⟩ (Nat.le_of_ble_eq_true rfl) (Nat.le_of_ble_eq_true rfl) dX8_look_238 (fun u_199 H locs hu_199 hz_199 h => ?_)
                          rw [atX_T]
                          have hxR_198 := atX_R (k := (k + 1)) hR
                          refine lv_istore (lv' := [(10, .int (iI (atX (fun k => F (fr + k)) n (k + 1)))), (9, .int (iI (fOf (atX (fun k => F (fr + k)) n k)))), (8, .int (iI (atX (fun k => F (fr + k)) n k))), (0, .ref (a 0)), (1, .ref s), (2, .int (iI (fr : Int))), (3, .int (iI (n : Int))), (4, .int (iI dp)), (5, .int (iI (k : Int))), (6, .int (bI true)), (7, .int (bI true))]) zx zb dX8_look_241 hl (by decide) rfl (fun ls hl => ?_)
                          refine lv_aload_n zx zb dX8_look_243 rfl (lv_at hl 3 rfl) ?_
                          refine lv_aload_n zx zb dX8_look_244 rfl (lv_at hl 3 rfl) ?_
                          refine gf8_114 (v := .int (iI (k : Int))) zC h 0 rfl rfl dX8_look_245 ?_
                          refine i_zge (a := (k : Int)) (tgt := 279) zC dX8_look_248 (by decide) (by omega) (fun c_200 => ?_) (fun c_200 => absurd c_200 (by omega))
                          refine lv_aload_n zx zb dX8_look_279 rfl (lv_at hl 3 rfl) ?_
                          refine gf8_114 (v := .int (iI (k : Int))) zC h 0 rfl rfl dX8_look_280 ?_
                          refine pf8_114 (x := iI (k : Int)) zC h 0 (ws' := [(a 0, oM a mth mrw mrg mbd mnw mlc msz man mas mak mkp (k : Int) (te : Int) mta (lv : Int) mct mgr mgo mgg), (s, cI g len F), (a 14, cI g 22 NO), (a 5, cZ g 5 MK)]) rfl rfl (Nat.le_of_ble_eq_true rfl) dX8_look_283 (fun H locs h => ?_)
                          exact J286_170 (k : Int) _ _ _ ⟨fun q => absurd q (by omega), fun _ => hF⟩ (by omega) h (lv_sub hl [3, 4, 5, 6, 7, 8, 9, 10] rfl)
                  · skip
                    have hc := c_168
                    refine lv_aload_n zx zb dX8_look_97 rfl (lv_at hl 1 rfl) ?_
                    refine lv_iload zx zb dX8_look_98 (lv_at hl 5 rfl) ?_
                    refine lv_bipush (v := iI (20)) zx zb dX8_look_100 rfl ?_
                    refine i_cne (a := dp) (b := 20) (tgt := 110) zC dX8_look_102 (by decide) (by omega) (fun c_201 => ?_) (fun c_201 => ?_)
                    · skip
                      refine lv_iconst (v := iI (-1)) zx zb dX8_look_110 rfl ?_
                      refine pf8_114 (x := iI (-1)) zC h 0 (ws' := [(a 0, oM a mth mrw mrg mbd mnw mlc msz man mas mak mkp (-1) (te : Int) mta (lv : Int) mct mgr mgo mgg), (s, cI g len F), (a 14, cI g 22 NO), (a 5, cZ g 5 MK)]) rfl rfl (Nat.le_of_ble_eq_true rfl) dX8_look_111 (fun H locs h => ?_)
                      refine i_inc (q := 5) (a := dp) (lv' := [(4, .int (iI (dp + 1))), (8, .int (iI (atX (fun k => F (fr + k)) n k))), (0, .ref (a 0)), (1, .ref s), (2, .int (iI (fr : Int))), (3, .int (iI (n : Int))), (5, .int (iI (k : Int))), (6, .int (bI true)), (7, .int (bI true))]) zC hl dX8_look_114 rfl (by decide) rfl (fun ls hl => ?_)
                      refine lv_iload zx zb dX8_look_117 (lv_at hl 1 rfl) ?_
                      refine lv_bipush (v := iI (33)) zx zb dX8_look_119 rfl ?_
                      refine i_cne (a := atX (fun k => F (fr + k)) n k) (b := 33) (tgt := 140) zC dX8_look_121 (by decide) (by omega) (fun c_202 => ?_) (fun c_202 => absurd c_202 (by omega))
                      refine lv_aload_n zx zb dX8_look_140 rfl (lv_at hl 2 rfl) ?_
                      refine lv_dup zx zb dX8_look_141 rfl ?_
                      refine gf8_111 (v := .int (iI (lv : Int))) zC h 0 rfl rfl dX8_look_142 ?_
                      refine lv_iconst (v := iI (1)) zx zb dX8_look_145 rfl ?_
                      refine i_add zC (a := (lv : Int)) (b := 1) dX8_look_146 ?_
                      rw [show ((lv : Int) + 1 : Int) = ((lv + 1 : Nat) : Int) from by omega]
                      refine pf8_111 (x := iI ((lv + 1 : Nat) : Int)) zC h 0 (ws' := [(a 0, oM a mth mrw mrg mbd mnw mlc msz man mas mak mkp (-1) (te : Int) mta ((lv + 1 : Nat) : Int) mct mgr mgo mgg), (s, cI g len F), (a 14, cI g 22 NO), (a 5, cZ g 5 MK)]) rfl rfl (Nat.le_of_ble_eq_true rfl) dX8_look_147 (fun H locs h => ?_)
                      refine lv_aload_n zx zb dX8_look_150 rfl (lv_at hl 2 rfl) ?_
                      refine gf8_57 (v := .ref (a 14)) zC h 0 rfl rfl dX8_look_151 ?_
                      refine lv_aload_n zx zb dX8_look_154 rfl (lv_at hl 2 rfl) ?_
                      refine gf8_111 (v := .int (iI ((lv + 1 : Nat) : Int))) zC h 0 rfl rfl dX8_look_155 ?_
                      refine lv_aload_n zx zb dX8_look_158 rfl (lv_at hl 2 rfl) ?_
                      refine gf8_114 (v := .int (iI (-1))) zC h 0 rfl rfl dX8_look_159 ?_
                      refine i_zge (a := -1) (tgt := 169) zC dX8_look_162 (by decide) (by omega) (fun c_203 => absurd c_203 (by omega)) (fun c_203 => ?_)
                      refine lv_iconst (v := iI (0)) zx zb dX8_look_165 rfl ?_
                      refine lv_goto (tgt := 178) zx zb dX8_look_166 (by decide) ?_
                      refine a_ist (x := 0) zC h 2 (ws' := [(a 0, oM a mth mrw mrg mbd mnw mlc msz man mas mak mkp (-1) (te : Int) mta ((lv + 1 : Nat) : Int) mct mgr mgo mgg), (s, cI g len F), (a 14, cI g 22 (up NO (lv + 1) 0)), (a 5, cZ g 5 MK)]) rfl (z := ((lv + 1 : Nat) : Int)) (lv + 1) rfl rfl (by omega) (by decide) dX8_look_178 (fun H locs h => ?_)
                      refine i_inc (q := 6) (a := (k : Int)) (lv' := [(5, .int (iI ((k : Int) + 1))), (4, .int (iI (dp + 1))), (8, .int (iI (atX (fun k => F (fr + k)) n k))), (0, .ref (a 0)), (1, .ref s), (2, .int (iI (fr : Int))), (3, .int (iI (n : Int))), (6, .int (bI true)), (7, .int (bI true))]) zC hl dX8_look_179 rfl (by decide) rfl (fun ls hl => ?_)
                      refine lv_goto (tgt := 454) zx zb dX8_look_182 (by decide) ?_
                      refine lv_goto (tgt := 56) zx zb dX8_look_454 (by decide) ?_
                      exact ih56 true true (k + 1) (dp + 1) (-1) te (lv + 1) (up NO (lv + 1) 0) _ _ _ (by omega) ⟨by omega, fun _ => ⟨by omega, fun _ => (A_o hI hc (by omega)), fun q => absurd q (by decide)⟩, fun q => absurd q (by omega)⟩ (by omega) (by omega) h (lv_sub hl [3, 4, 5, 6, 1, 0, 7, 8] rfl)
                    · skip
                      refine lv_iload zx zb dX8_look_105 (lv_at hl 6 rfl) ?_
                      refine lv_goto (tgt := 111) zx zb dX8_look_107 (by decide) ?_
                      refine pf8_114 (x := iI (k : Int)) zC h 0 (ws' := [(a 0, oM a mth mrw mrg mbd mnw mlc msz man mas mak mkp (k : Int) (te : Int) mta (lv : Int) mct mgr mgo mgg), (s, cI g len F), (a 14, cI g 22 NO), (a 5, cZ g 5 MK)]) rfl rfl (Nat.le_of_ble_eq_true rfl) dX8_look_111 (fun H locs h => ?_)
                      refine i_inc (q := 5) (a := dp) (lv' := [(4, .int (iI (dp + 1))), (8, .int (iI (atX (fun k => F (fr + k)) n k))), (0, .ref (a 0)), (1, .ref s), (2, .int (iI (fr : Int))), (3, .int (iI (n : Int))), (5, .int (iI (k : Int))), (6, .int (bI true)), (7, .int (bI true))]) zC hl dX8_look_114 rfl (by decide) rfl (fun ls hl => ?_)
                      refine lv_iload zx zb dX8_look_117 (lv_at hl 1 rfl) ?_
                      refine lv_bipush (v := iI (33)) zx zb dX8_look_119 rfl ?_
                      refine i_cne (a := atX (fun k => F (fr + k)) n k) (b := 33) (tgt := 140) zC dX8_look_121 (by decide) (by omega) (fun c_204 => ?_) (fun c_204 => absurd c_204 (by omega))
                      refine lv_aload_n zx zb dX8_look_140 rfl (lv_at hl 2 rfl) ?_
                      refine lv_dup zx zb dX8_look_141 rfl ?_
                      refine gf8_111 (v := .int (iI (lv : Int))) zC h 0 rfl rfl dX8_look_142 ?_
                      refine lv_iconst (v := iI (1)) zx zb dX8_look_145 rfl ?_
                      refine i_add zC (a := (lv : Int)) (b := 1) dX8_look_146 ?_
                      rw [show ((lv : Int) + 1 : Int) = ((lv + 1 : Nat) : Int) from by omega]
                      refine pf8_111 (x := iI ((lv + 1 : Nat) : Int)) zC h 0 (ws' := [(a 0, oM a mth mrw mrg mbd mnw mlc msz man mas mak mkp (k : Int) (te : Int) mta ((lv + 1 : Nat) : Int) mct mgr mgo mgg), (s, cI g len F), (a 14, cI g 22 NO), (a 5, cZ g 5 MK)]) rfl rfl (Nat.le_of_ble_eq_true rfl) dX8_look_147 (fun H locs h => ?_)
                      refine lv_aload_n zx zb dX8_look_150 rfl (lv_at hl 2 rfl) ?_
                      refine gf8_57 (v := .ref (a 14)) zC h 0 rfl rfl dX8_look_151 ?_
                      refine lv_aload_n zx zb dX8_look_154 rfl (lv_at hl 2 rfl) ?_
                      refine gf8_111 (v := .int (iI ((lv + 1 : Nat) : Int))) zC h 0 rfl rfl dX8_look_155 ?_
                      refine lv_aload_n zx zb dX8_look_158 rfl (lv_at hl 2 rfl) ?_
                      refine gf8_114 (v := .int (iI (k : Int))) zC h 0 rfl rfl dX8_look_159 ?_
                      refine i_zge (a := (k : Int)) (tgt := 169) zC dX8_look_162 (by decide) (by omega) (fun c_205 => ?_) (fun c_205 => absurd c_205 (by omega))
                      refine lv_aload_n zx zb dX8_look_169 rfl (lv_at hl 2 rfl) ?_
                      refine gf8_57 (v := .ref (a 14)) zC h 0 rfl rfl dX8_look_170 ?_
                      refine lv_aload_n zx zb dX8_look_173 rfl (lv_at hl 2 rfl) ?_
                      refine gf8_111 (v := .int (iI ((lv + 1 : Nat) : Int))) zC h 0 rfl rfl dX8_look_174 ?_
                      refine a_ild zC h 2 rfl (z := ((lv + 1 : Nat) : Int)) (lv + 1) rfl (by omega) (by decide) dX8_look_177 ?_
                      refine a_ist (x := NO (lv + 1)) zC h 2 (ws' := [(a 0, oM a mth mrw mrg mbd mnw mlc msz man mas mak mkp (k : Int) (te : Int) mta ((lv + 1 : Nat) : Int) mct mgr mgo mgg), (s, cI g len F), (a 14, cI g 22 (up NO (lv + 1) (NO (lv + 1)))), (a 5, cZ g 5 MK)]) rfl (z := ((lv + 1 : Nat) : Int)) (lv + 1) rfl rfl (by omega) (by decide) dX8_look_178 (fun H locs h => ?_)
                      refine i_inc (q := 6) (a := (k : Int)) (lv' := [(5, .int (iI ((k : Int) + 1))), (4, .int (iI (dp + 1))), (8, .int (iI (atX (fun k => F (fr + k)) n k))), (0, .ref (a 0)), (1, .ref s), (2, .int (iI (fr : Int))), (3, .int (iI (n : Int))), (6, .int (bI true)), (7, .int (bI true))]) zC hl dX8_look_179 rfl (by decide) rfl (fun ls hl => ?_)
                      refine lv_goto (tgt := 454) zx zb dX8_look_182 (by decide) ?_
                      refine lv_goto (tgt := 56) zx zb dX8_look_454 (by decide) ?_
                      exact ih56 true true (k + 1) (dp + 1) (k : Int) te (lv + 1) (up NO (lv + 1) (NO (lv + 1))) _ _ _ (by omega) ⟨by omega, fun q => absurd q (by omega), fun _ => (A_f hI (by omega) (by omega))⟩ (by omega) (by omega) h (lv_sub hl [3, 4, 5, 6, 1, 0, 7, 8] rfl)
      exact L56_139 _ true true 0 0 (-1) 0 0 (up NO 0 0) _ _ _ (Nat.lt_succ_self _) ⟨by omega, fun _ => ⟨rfl, fun _ => LI_0 (by omega) (by omega), fun q => absurd q (by decide)⟩, fun q => absurd q (by decide)⟩ (by omega) (by omega) h (lv_sub hl [4, 5, 6, 7, 3, 2, 1, 0] rfl)
