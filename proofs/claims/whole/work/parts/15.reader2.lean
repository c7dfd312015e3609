/-! READER, the rest: what joins the leaves -/
def rOK (r : RS) : Prop := 0 ≤ r.st ∧ r.st ≤ 7 ∧ R32 r.ne ∧ R32 (r.ne - r.tu) ∧ R32 r.fg ∧ r.sc < 190 ∧ r.op ≤ 20 ∧ (r.ne < 20 → r.op < 20) ∧ r.tc < 200 ∧ (r.st = 4 → r.fd < 5 ∧ (r.rl = 60 ∨ r.rl = 61 ∨ r.rl = 62) ∧ r.tc < 40)
theorem rTail_f {c : Int} {r : RS} (h : (rTail c r).1 = false) : (rTail c r).2 = r := by
  obtain ⟨st, ne, tu, nu, fg, rl, fd, op, TB, ST, TF, TR, TN, sc, tc, fl, tl, tf⟩ := r
  unfold rTail at h ⊢
  simp only [] at h ⊢
  split at h
  · next e => rw [if_pos e]
  · simp at h
theorem rFigure_f {c : Int} {r : RS} (h : (rFigure c r).1 = false) : (rFigure c r).2 = r := by
  obtain ⟨st, ne, tu, nu, fg, rl, fd, op, TB, ST, TF, TR, TN, sc, tc, fl, tl, tf⟩ := r
  unfold rFigure at h ⊢
  simp only [] at h ⊢
  split at h
  · simp at h
  · next e => rw [if_neg e]
theorem rEndFT_ne {r : RS} : (rEndFT r).ne = r.ne - r.tu := rfl
theorem rEndFT_sc {r : RS} : (rEndFT r).sc = r.sc + 1 := rfl
theorem rEndFT_op {r : RS} : (rEndFT r).op = r.op := rfl
theorem rEndFT_st {r : RS} : (rEndFT r).st = 5 := rfl

set_option maxHeartbeats 4000000 in
set_option maxRecDepth 100000 in
theorem c_X4_takesTest (l : Launch) (D : va_G) (g : Nat → ClassId) (a q : Nat → Nat) (mk : Nat → Bool) (r : RS) (aw : Nat) (c : Int) (hc : R32 c) (h1 : R32 r.ne) (hs : r.sc < 200) (ho : r.ne < 20 → r.op < 20) (ht : r.tc < 200) : Ct (S := Bool × RS) l D g yX4_takesTest cX4_takesTest 2 (some .boolean) rmX4_takesTest [.ref (a 0), .int (iI c)] (wRd g a q mk r aw) (fun u => some (.int (bI u.1))) (fun u => u = rTest mk c r) (fun u => wRd g a q mk u.2 aw) := by
  refine Ct.of RX4 rfl (by decide +kernel) [(0, .ref (a 0)), (1, .int (iI c))] rfl (Nat.le_of_ble_eq_true rfl) ?_
  intro pg evn sT mI bl mtd cd aA ls ar qQ zC zr zk zi zQ h hl
  have zx := zC.1
  have zb := zC.2.1
  skip
  refine lv_iload_n zx zb dX4_takesTest_0 rfl (lv_at hl 1 rfl) ?_
  refine lv_bipush (v := iI (33)) zx zb dX4_takesTest_1 rfl ?_
  refine i_cne (a := c) (b := 33) (tgt := 11) zC dX4_takesTest_3 (by decide) (by omega) (fun c_1 => ?_) (fun c_1 => ?_)
  · skip
    refine lv_iload_n zx zb dX4_takesTest_11 rfl (lv_at hl 1 rfl) ?_
    refine lv_bipush (v := iI (40)) zx zb dX4_takesTest_12 rfl ?_
    refine i_cne (a := c) (b := 40) (tgt := 24) zC dX4_takesTest_14 (by decide) (by omega) (fun c_2 => ?_) (fun c_2 => ?_)
    · skip
      refine lv_aload_n zx zb dX4_takesTest_24 rfl (lv_at hl 0 rfl) ?_
      refine lv_iload_n zx zb dX4_takesTest_25 rfl (lv_at hl 1 rfl) ?_
      refine r_invV (As := [.int (iI c)]) (rest := []) (wr := []) (ws2 := fun u_3 => wRd g a q mk u_3.2 aw) 0 0 zC h hl.1 (c_X4_takesTestField l D g a q mk r aw c hc ht) (cs4_93 zC ⟨(Nat.le_of_ble_eq_true rfl), (Nat.le_of_ble_eq_true rfl)⟩) wRd_mem rfl rfl rfl (Nat.le_of_ble_eq_true rfl) (List.Perm.of_eq (List.append_nil _).symm) (fun u => List.Perm.of_eq (List.append_nil _)) ⟨(Nat.le_of_ble_eq_true rfl), (Nat.le_of_ble_eq_true rfl)⟩ (Nat.le_of_ble_eq_true rfl) (Nat.le_of_ble_eq_true rfl) dX4_takesTest_26 (fun u_3 H locs hu_3 hz_3 h => ?_)
      exact r_zret (b := u_3.1) zC zQ zr zk h dX4_takesTest_29 rfl (u := u_3) rfl (List.Perm.refl _) (by rw [hu_3]; unfold rTest; rw [if_neg (by omega)]; first | rw [if_pos (by omega)] | rw [if_neg (by omega)]) (Nat.le_of_ble_eq_true rfl) (Nat.le_of_ble_eq_true rfl)
    · skip
      refine lv_aload_n zx zb dX4_takesTest_17 rfl (lv_at hl 0 rfl) ?_
      refine r_invV (As := []) (rest := []) (wr := []) (ws2 := fun u_4 => wRd g a q mk u_4.2 aw) 0 0 zC h hl.1 (c_X4_takesOpen l D g a q mk r aw h1 hs ho) (cs4_90 zC ⟨(Nat.le_of_ble_eq_true rfl), (Nat.le_of_ble_eq_true rfl)⟩) wRd_mem rfl rfl rfl (Nat.le_of_ble_eq_true rfl) (List.Perm.of_eq (List.append_nil _).symm) (fun u => List.Perm.of_eq (List.append_nil _)) ⟨(Nat.le_of_ble_eq_true rfl), (Nat.le_of_ble_eq_true rfl)⟩ (Nat.le_of_ble_eq_true rfl) (Nat.le_of_ble_eq_true rfl) dX4_takesTest_18 (fun u_4 H locs hu_4 hz_4 h => ?_)
      refine lv_goto (tgt := 29) zx zb dX4_takesTest_21 (by decide) ?_
      exact r_zret (b := u_4.1) zC zQ zr zk h dX4_takesTest_29 rfl (u := u_4) rfl (List.Perm.refl _) (by rw [hu_4]; unfold rTest; rw [if_neg (by omega)]; first | rw [if_pos (by omega)] | rw [if_neg (by omega)]) (Nat.le_of_ble_eq_true rfl) (Nat.le_of_ble_eq_true rfl)
  · skip
    refine lv_aload_n zx zb dX4_takesTest_6 rfl (lv_at hl 0 rfl) ?_
    refine r_invV (As := []) (rest := []) (wr := []) (ws2 := fun u_5 => wRd g a q mk u_5.2 aw) 0 0 zC h hl.1 (c_X4_takesTurn l D g a q mk r aw h1 hs) (cs4_87 zC ⟨(Nat.le_of_ble_eq_true rfl), (Nat.le_of_ble_eq_true rfl)⟩) wRd_mem rfl rfl rfl (Nat.le_of_ble_eq_true rfl) (List.Perm.of_eq (List.append_nil _).symm) (fun u => List.Perm.of_eq (List.append_nil _)) ⟨(Nat.le_of_ble_eq_true rfl), (Nat.le_of_ble_eq_true rfl)⟩ (Nat.le_of_ble_eq_true rfl) (Nat.le_of_ble_eq_true rfl) dX4_takesTest_7 (fun u_5 H locs hu_5 hz_5 h => ?_)
    exact r_zret (b := u_5.1) zC zQ zr zk h dX4_takesTest_10 rfl (u := u_5) rfl (List.Perm.refl _) (by rw [hu_5]; unfold rTest; rw [if_pos (by omega)]) (Nat.le_of_ble_eq_true rfl) (Nat.le_of_ble_eq_true rfl)

set_option maxHeartbeats 4000000 in
set_option maxRecDepth 100000 in
theorem c_X4_takesBehindTest (l : Launch) (D : va_G) (g : Nat → ClassId) (a q : Nat → Nat) (mk : Nat → Bool) (r : RS) (aw : Nat) (c : Int) (hc : R32 c) (h1 : R32 r.ne) (hs : r.sc < 200) (ho : r.op ≤ 20) : Ct (S := Bool × RS) l D g yX4_takesBehindTest cX4_takesBehindTest 2 (some .boolean) rmX4_takesBehindTest [.ref (a 0), .int (iI c)] (wRd g a q mk r aw) (fun u => some (.int (bI u.1))) (fun u => u = rBehind c r) (fun u => wRd g a q mk u.2 aw) := by
  obtain ⟨st, ne, tu, nu, fg, rl, fd, op, TB, ST, TF, TR, TN, sc, tc, fl, tl, tf⟩ := r
  try dsimp only [RS.st, RS.ne, RS.tu, RS.nu, RS.fg, RS.rl, RS.fd, RS.op, RS.TB, RS.sc, RS.tc, RS.tl, RS.tf] at *
  refine Ct.of RX4 rfl (by decide +kernel) [(0, .ref (a 0)), (1, .int (iI c))] rfl (Nat.le_of_ble_eq_true rfl) ?_
  intro pg evn sT mI bl mtd cd aA ls ar qQ zC zr zk zi zQ h hl
  have zx := zC.1
  have zb := zC.2.1
  have h : Hx D g sT aA sT.heap ([(a 0, .inr (4, [.ref (q 0), .int (iI (bZ mk)), .int (iI st), .int (iI (fd : Int)), .int (iI rl), .int (iI nu), .int (iI fg), .int (iI ne), .int (iI tu), .ref (a 1), .int (iI (op : Int))])), (a 1, cI g 20 TB), (q 0, .inr (3, [.ref (q 1), .ref (q 2), .ref (q 3), .ref (q 4), .int (iI (sc : Int)), .int (iI (tc : Int)), .int (iI (bZ fl)), .int (iI (tl : Int)), .int (iI (tf : Int)), .int (iI (aw : Int))])), (q 1, cI g 200 ST), (q 2, cI g 40 TF), (q 3, cC g 40 TR), (q 4, cI g 40 TN)]) sT.heap [] := h
  skip
  refine lv_iload_n zx zb dX4_takesBehindTest_0 rfl (lv_at hl 1 rfl) ?_
  refine lv_bipush (v := iI (41)) zx zb dX4_takesBehindTest_1 rfl ?_
  refine i_cne (a := c) (b := 41) (tgt := 11) zC dX4_takesBehindTest_3 (by decide) (by omega) (fun c_1 => ?_) (fun c_1 => ?_)
  · skip
    refine lv_iload_n zx zb dX4_takesBehindTest_11 rfl (lv_at hl 1 rfl) ?_
    refine lv_bipush (v := iI (38)) zx zb dX4_takesBehindTest_12 rfl ?_
    refine i_ceq (a := c) (b := 38) (tgt := 23) zC dX4_takesBehindTest_14 (by decide) (by omega) (fun c_2 => ?_) (fun c_2 => ?_)
    · skip
      refine lv_iload_n zx zb dX4_takesBehindTest_23 rfl (lv_at hl 1 rfl) ?_
      refine lv_bipush (v := iI (124)) zx zb dX4_takesBehindTest_24 rfl ?_
      refine i_cne (a := c) (b := 124) (tgt := 37) zC dX4_takesBehindTest_26 (by decide) (by omega) (fun c_3 => ?_) (fun c_3 => ?_)
      · skip
        refine lv_aload_n zx zb dX4_takesBehindTest_37 rfl (lv_at hl 0 rfl) ?_
        refine lv_iconst (v := iI (1)) zx zb dX4_takesBehindTest_38 rfl ?_
        refine pf4_22 (x := iI 1) zC h 0 (ws' := [(a 0, .inr (4, [.ref (q 0), .int (iI (bZ mk)), .int (iI 1), .int (iI (fd : Int)), .int (iI rl), .int (iI nu), .int (iI fg), .int (iI ne), .int (iI tu), .ref (a 1), .int (iI (op : Int))])), (a 1, cI g 20 TB), (q 0, .inr (3, [.ref (q 1), .ref (q 2), .ref (q 3), .ref (q 4), .int (iI (sc : Int)), .int (iI (tc : Int)), .int (iI (bZ fl)), .int (iI (tl : Int)), .int (iI (tf : Int)), .int (iI (aw : Int))])), (q 1, cI g 200 ST), (q 2, cI g 40 TF), (q 3, cC g 40 TR), (q 4, cI g 40 TN)]) rfl rfl (Nat.le_of_ble_eq_true rfl) dX4_takesBehindTest_39 (fun H locs h => ?_)
        refine lv_iconst (v := iI (1)) zx zb dX4_takesBehindTest_42 rfl ?_
        exact r_zret (b := true) zC zQ zr zk h dX4_takesBehindTest_43 rfl (u := (true, (1, ne, tu, nu, fg, rl, fd, op, TB, ST, TF, TR, TN, sc, tc, fl, tl, tf))) rfl (List.Perm.refl _) (by unfold rBehind rNext; rw [if_neg (by omega), if_pos (by omega)]; simp only []; rw [if_neg (by omega)]) (Nat.le_of_ble_eq_true rfl) (Nat.le_of_ble_eq_true rfl)
      · skip
        refine lv_aload_n zx zb dX4_takesBehindTest_29 rfl (lv_at hl 0 rfl) ?_
        refine gf4_12 (v := .ref (q 0)) zC h 0 rfl rfl dX4_takesBehindTest_30 ?_
        refine lv_iconst (v := iI (4)) zx zb dX4_takesBehindTest_33 rfl ?_
        refine r_invV (As := [.int (iI 4)]) (rest := []) (wr := [(a 0, .inr (4, [.ref (q 0), .int (iI (bZ mk)), .int (iI st), .int (iI (fd : Int)), .int (iI rl), .int (iI nu), .int (iI fg), .int (iI ne), .int (iI tu), .ref (a 1), .int (iI (op : Int))])), (a 1, cI g 20 TB)]) (ws2 := fun u_4 => [(a 0, .inr (4, [.ref (q 0), .int (iI (bZ mk)), .int (iI st), .int (iI (fd : Int)), .int (iI rl), .int (iI nu), .int (iI fg), .int (iI ne), .int (iI tu), .ref (a 1), .int (iI (op : Int))])), (a 1, cI g 20 TB), (q 0, .inr (3, [.ref (q 1), .ref (q 2), .ref (q 3), .ref (q 4), .int (iI ((sc + 1 : Nat) : Int)), .int (iI (tc : Int)), .int (iI (bZ fl)), .int (iI (tl : Int)), .int (iI (tf : Int)), .int (iI (aw : Int))])), (q 1, cI g 200 (up ST sc 4)), (q 2, cI g 40 TF), (q 3, cC g 40 TR), (q 4, cI g 40 TN)]) 0 0 zC h hl.1 (c_X3_addStep l D g q ST TF TR TN sc tc fl tl tf aw 4 (by omega)) (cs4_96 zC ⟨(Nat.le_of_ble_eq_true rfl), (Nat.le_of_ble_eq_true rfl)⟩) (.tail _ (.tail _ (.head _))) rfl rfl rfl (Nat.le_of_ble_eq_true rfl) (pm fun cp_q => by simp only [cp_o, List.countP_append, List.countP_nil, wQ] <;> omega) (fun u => (pm fun cp_q => by simp only [cp_o, List.countP_append, List.countP_nil, wQ] <;> omega)) ⟨(Nat.le_of_ble_eq_true rfl), (Nat.le_of_ble_eq_true rfl)⟩ (Nat.le_of_ble_eq_true rfl) (Nat.le_of_ble_eq_true rfl) dX4_takesBehindTest_34 (fun u_4 H locs hu_4 hz_4 h => ?_)
        refine lv_aload_n zx zb dX4_takesBehindTest_37 rfl (lv_at hl 0 rfl) ?_
        refine lv_iconst (v := iI (1)) zx zb dX4_takesBehindTest_38 rfl ?_
        refine pf4_22 (x := iI 1) zC h 0 (ws' := [(a 0, .inr (4, [.ref (q 0), .int (iI (bZ mk)), .int (iI 1), .int (iI (fd : Int)), .int (iI rl), .int (iI nu), .int (iI fg), .int (iI ne), .int (iI tu), .ref (a 1), .int (iI (op : Int))])), (a 1, cI g 20 TB), (q 0, .inr (3, [.ref (q 1), .ref (q 2), .ref (q 3), .ref (q 4), .int (iI ((sc + 1 : Nat) : Int)), .int (iI (tc : Int)), .int (iI (bZ fl)), .int (iI (tl : Int)), .int (iI (tf : Int)), .int (iI (aw : Int))])), (q 1, cI g 200 (up ST sc 4)), (q 2, cI g 40 TF), (q 3, cC g 40 TR), (q 4, cI g 40 TN)]) rfl rfl (Nat.le_of_ble_eq_true rfl) dX4_takesBehindTest_39 (fun H locs h => ?_)
        refine lv_iconst (v := iI (1)) zx zb dX4_takesBehindTest_42 rfl ?_
        exact r_zret (b := true) zC zQ zr zk h dX4_takesBehindTest_43 rfl (u := (true, (1, ne, tu, nu, fg, rl, fd, op, TB, up ST sc 4, TF, TR, TN, sc + 1, tc, fl, tl, tf))) rfl (List.Perm.refl _) (by unfold rBehind rNext; rw [if_neg (by omega), if_pos (by omega)]; simp only []; rw [if_pos (by omega)]) (Nat.le_of_ble_eq_true rfl) (Nat.le_of_ble_eq_true rfl)
    · skip
      refine lv_iload_n zx zb dX4_takesBehindTest_17 rfl (lv_at hl 1 rfl) ?_
      refine lv_bipush (v := iI (124)) zx zb dX4_takesBehindTest_18 rfl ?_
      refine i_cne (a := c) (b := 124) (tgt := 44) zC dX4_takesBehindTest_20 (by decide) (by omega) (fun c_5 => ?_) (fun c_5 => ?_)
      · skip
        refine lv_aload_n zx zb dX4_takesBehindTest_44 rfl (lv_at hl 0 rfl) ?_
        refine gf4_38 (v := .int (iI ne)) zC h 0 rfl rfl dX4_takesBehindTest_45 ?_
        refine i_zne (a := ne) (tgt := 63) zC dX4_takesBehindTest_48 (by decide) (by omega) (fun c_6 => ?_) (fun c_6 => ?_)
        · skip
          refine lv_iconst (v := iI (0)) zx zb dX4_takesBehindTest_63 rfl ?_
          exact r_zret (b := false) zC zQ zr zk h dX4_takesBehindTest_64 rfl (u := (false, (st, ne, tu, nu, fg, rl, fd, op, TB, ST, TF, TR, TN, sc, tc, fl, tl, tf))) rfl (List.Perm.refl _) (by unfold rBehind; rw [if_neg (by omega), if_neg (by omega)]; dsimp only [RS.ne]; rw [if_neg (by omega)]) (Nat.le_of_ble_eq_true rfl) (Nat.le_of_ble_eq_true rfl)
        · skip
          refine lv_aload_n zx zb dX4_takesBehindTest_51 rfl (lv_at hl 0 rfl) ?_
          refine lv_iload_n zx zb dX4_takesBehindTest_52 rfl (lv_at hl 1 rfl) ?_
          refine r_invV (As := [.int (iI c)]) (rest := []) (wr := []) (ws2 := fun u_7 => wRd g a q mk u_7.2 aw) 0 0 zC h hl.1 (c_X4_takesTail l D g a q mk (st, ne, tu, nu, fg, rl, fd, op, TB, ST, TF, TR, TN, sc, tc, fl, tl, tf) aw c hc) (cs4_66 zC ⟨(Nat.le_of_ble_eq_true rfl), (Nat.le_of_ble_eq_true rfl)⟩) (.head _) rfl rfl rfl (Nat.le_of_ble_eq_true rfl) (List.Perm.of_eq (List.append_nil _).symm) (fun u => List.Perm.of_eq (List.append_nil _)) ⟨(Nat.le_of_ble_eq_true rfl), (Nat.le_of_ble_eq_true rfl)⟩ (Nat.le_of_ble_eq_true rfl) (Nat.le_of_ble_eq_true rfl) dX4_takesBehindTest_53 (fun u_7 H locs hu_7 hz_7 h => ?_)
          refine b_zeq (b := u_7.1) (tgt := 63) zC dX4_takesBehindTest_56 (by decide) (fun c_8 => ?_) (fun c_8 => ?_)
          · skip
            refine lv_iconst (v := iI (0)) zx zb dX4_takesBehindTest_63 rfl ?_
            exact r_zret (b := false) zC zQ zr zk h dX4_takesBehindTest_64 rfl (u := (false, u_7.2)) rfl (List.Perm.refl _) (by have e1 : u_7.1 = false := (by simpa using c_8); rw [← e1]; rw [hu_7]; unfold rBehind; rw [if_neg (by omega), if_neg (by omega)]; dsimp only [RS.ne]; rw [if_pos (by omega)]) (Nat.le_of_ble_eq_true rfl) (Nat.le_of_ble_eq_true rfl)
          · skip
            refine lv_iconst (v := iI (1)) zx zb dX4_takesBehindTest_59 rfl ?_
            refine lv_goto (tgt := 64) zx zb dX4_takesBehindTest_60 (by decide) ?_
            exact r_zret (b := true) zC zQ zr zk h dX4_takesBehindTest_64 rfl (u := (true, u_7.2)) rfl (List.Perm.refl _) (by have e1 : u_7.1 = true := (by simpa using c_8); rw [← e1]; rw [hu_7]; unfold rBehind; rw [if_neg (by omega), if_neg (by omega)]; dsimp only [RS.ne]; rw [if_pos (by omega)]) (Nat.le_of_ble_eq_true rfl) (Nat.le_of_ble_eq_true rfl)
      · skip
        refine lv_iload_n zx zb dX4_takesBehindTest_23 rfl (lv_at hl 1 rfl) ?_
        refine lv_bipush (v := iI (124)) zx zb dX4_takesBehindTest_24 rfl ?_
        refine i_cne (a := c) (b := 124) (tgt := 37) zC dX4_takesBehindTest_26 (by decide) (by omega) (fun c_9 => ?_) (fun c_9 => ?_)
        · skip
          refine lv_aload_n zx zb dX4_takesBehindTest_37 rfl (lv_at hl 0 rfl) ?_
          refine lv_iconst (v := iI (1)) zx zb dX4_takesBehindTest_38 rfl ?_
          refine pf4_22 (x := iI 1) zC h 0 (ws' := [(a 0, .inr (4, [.ref (q 0), .int (iI (bZ mk)), .int (iI 1), .int (iI (fd : Int)), .int (iI rl), .int (iI nu), .int (iI fg), .int (iI ne), .int (iI tu), .ref (a 1), .int (iI (op : Int))])), (a 1, cI g 20 TB), (q 0, .inr (3, [.ref (q 1), .ref (q 2), .ref (q 3), .ref (q 4), .int (iI (sc : Int)), .int (iI (tc : Int)), .int (iI (bZ fl)), .int (iI (tl : Int)), .int (iI (tf : Int)), .int (iI (aw : Int))])), (q 1, cI g 200 ST), (q 2, cI g 40 TF), (q 3, cC g 40 TR), (q 4, cI g 40 TN)]) rfl rfl (Nat.le_of_ble_eq_true rfl) dX4_takesBehindTest_39 (fun H locs h => ?_)
          refine lv_iconst (v := iI (1)) zx zb dX4_takesBehindTest_42 rfl ?_
          exact r_zret (b := true) zC zQ zr zk h dX4_takesBehindTest_43 rfl (u := (true, (1, ne, tu, nu, fg, rl, fd, op, TB, ST, TF, TR, TN, sc, tc, fl, tl, tf))) rfl (List.Perm.refl _) (by unfold rBehind rNext; rw [if_neg (by omega), if_pos (by omega)]; simp only []; rw [if_neg (by omega)]) (Nat.le_of_ble_eq_true rfl) (Nat.le_of_ble_eq_true rfl)
        · skip
          refine lv_aload_n zx zb dX4_takesBehindTest_29 rfl (lv_at hl 0 rfl) ?_
          refine gf4_12 (v := .ref (q 0)) zC h 0 rfl rfl dX4_takesBehindTest_30 ?_
          refine lv_iconst (v := iI (4)) zx zb dX4_takesBehindTest_33 rfl ?_
          refine r_invV (As := [.int (iI 4)]) (rest := []) (wr := [(a 0, .inr (4, [.ref (q 0), .int (iI (bZ mk)), .int (iI st), .int (iI (fd : Int)), .int (iI rl), .int (iI nu), .int (iI fg), .int (iI ne), .int (iI tu), .ref (a 1), .int (iI (op : Int))])), (a 1, cI g 20 TB)]) (ws2 := fun u_10 => [(a 0, .inr (4, [.ref (q 0), .int (iI (bZ mk)), .int (iI st), .int (iI (fd : Int)), .int (iI rl), .int (iI nu), .int (iI fg), .int (iI ne), .int (iI tu), .ref (a 1), .int (iI (op : Int))])), (a 1, cI g 20 TB), (q 0, .inr (3, [.ref (q 1), .ref (q 2), .ref (q 3), .ref (q 4), .int (iI ((sc + 1 : Nat) : Int)), .int (iI (tc : Int)), .int (iI (bZ fl)), .int (iI (tl : Int)), .int (iI (tf : Int)), .int (iI (aw : Int))])), (q 1, cI g 200 (up ST sc 4)), (q 2, cI g 40 TF), (q 3, cC g 40 TR), (q 4, cI g 40 TN)]) 0 0 zC h hl.1 (c_X3_addStep l D g q ST TF TR TN sc tc fl tl tf aw 4 (by omega)) (cs4_96 zC ⟨(Nat.le_of_ble_eq_true rfl), (Nat.le_of_ble_eq_true rfl)⟩) (.tail _ (.tail _ (.head _))) rfl rfl rfl (Nat.le_of_ble_eq_true rfl) (pm fun cp_q => by simp only [cp_o, List.countP_append, List.countP_nil, wQ] <;> omega) (fun u => (pm fun cp_q => by simp only [cp_o, List.countP_append, List.countP_nil, wQ] <;> omega)) ⟨(Nat.le_of_ble_eq_true rfl), (Nat.le_of_ble_eq_true rfl)⟩ (Nat.le_of_ble_eq_true rfl) (Nat.le_of_ble_eq_true rfl) dX4_takesBehindTest_34 (fun u_10 H locs hu_10 hz_10 h => ?_)
          refine lv_aload_n zx zb dX4_takesBehindTest_37 rfl (lv_at hl 0 rfl) ?_
          refine lv_iconst (v := iI (1)) zx zb dX4_takesBehindTest_38 rfl ?_
          refine pf4_22 (x := iI 1) zC h 0 (ws' := [(a 0, .inr (4, [.ref (q 0), .int (iI (bZ mk)), .int (iI 1), .int (iI (fd : Int)), .int (iI rl), .int (iI nu), .int (iI fg), .int (iI ne), .int (iI tu), .ref (a 1), .int (iI (op : Int))])), (a 1, cI g 20 TB), (q 0, .inr (3, [.ref (q 1), .ref (q 2), .ref (q 3), .ref (q 4), .int (iI ((sc + 1 : Nat) : Int)), .int (iI (tc : Int)), .int (iI (bZ fl)), .int (iI (tl : Int)), .int (iI (tf : Int)), .int (iI (aw : Int))])), (q 1, cI g 200 (up ST sc 4)), (q 2, cI g 40 TF), (q 3, cC g 40 TR), (q 4, cI g 40 TN)]) rfl rfl (Nat.le_of_ble_eq_true rfl) dX4_takesBehindTest_39 (fun H locs h => ?_)
          refine lv_iconst (v := iI (1)) zx zb dX4_takesBehindTest_42 rfl ?_
          exact r_zret (b := true) zC zQ zr zk h dX4_takesBehindTest_43 rfl (u := (true, (1, ne, tu, nu, fg, rl, fd, op, TB, up ST sc 4, TF, TR, TN, sc + 1, tc, fl, tl, tf))) rfl (List.Perm.refl _) (by unfold rBehind rNext; rw [if_neg (by omega), if_pos (by omega)]; simp only []; rw [if_pos (by omega)]) (Nat.le_of_ble_eq_true rfl) (Nat.le_of_ble_eq_true rfl)
  · skip
    refine lv_aload_n zx zb dX4_takesBehindTest_6 rfl (lv_at hl 0 rfl) ?_
    refine r_invV (As := []) (rest := []) (wr := []) (ws2 := fun u_11 => wRd g a q mk u_11.2 aw) 0 0 zC h hl.1 (c_X4_takesClose l D g a q mk (st, ne, tu, nu, fg, rl, fd, op, TB, ST, TF, TR, TN, sc, tc, fl, tl, tf) aw h1 hs ho) (cs4_114 zC ⟨(Nat.le_of_ble_eq_true rfl), (Nat.le_of_ble_eq_true rfl)⟩) (.head _) rfl rfl rfl (Nat.le_of_ble_eq_true rfl) (List.Perm.of_eq (List.append_nil _).symm) (fun u => List.Perm.of_eq (List.append_nil _)) ⟨(Nat.le_of_ble_eq_true rfl), (Nat.le_of_ble_eq_true rfl)⟩ (Nat.le_of_ble_eq_true rfl) (Nat.le_of_ble_eq_true rfl) dX4_takesBehindTest_7 (fun u_11 H locs hu_11 hz_11 h => ?_)
    exact r_zret (b := u_11.1) zC zQ zr zk h dX4_takesBehindTest_10 rfl (u := u_11) rfl (List.Perm.refl _) (by rw [hu_11]; unfold rBehind; rw [if_pos (by omega)]) (Nat.le_of_ble_eq_true rfl) (Nat.le_of_ble_eq_true rfl)

set_option maxHeartbeats 4000000 in
set_option maxRecDepth 100000 in
theorem c_X4_takes (l : Launch) (D : va_G) (g : Nat → ClassId) (a q : Nat → Nat) (mk : Nat → Bool) (r : RS) (aw : Nat) (c : Int) (hc : R32 c) (hr0 : rOK r) : Ct (S := Bool × RS) l D g yX4_takes cX4_takes 2 (some .boolean) rmX4_takes [.ref (a 0), .int (iI c)] (wRd g a q mk r aw) (fun u => some (.int (bI u.1))) (fun u => u = rTakes mk c r) (fun u => wRd g a q mk u.2 aw) := by
  refine Ct.of RX4 rfl (by decide +kernel) [(0, .ref (a 0)), (1, .int (iI c))] rfl (Nat.le_of_ble_eq_true rfl) ?_
  intro pg evn sT mI bl mtd cd aA ls ar qQ zC zr zk zi zQ h hl
  have zx := zC.1
  have zb := zC.2.1
  obtain ⟨h1, h2, h3, h4, h5, h6, h7, h8, h9, h10⟩ := hr0
  skip
  refine lv_aload_n zx zb dX4_takes_0 rfl (lv_at hl 0 rfl) ?_
  refine gf4_22 (v := .int (iI r.st)) zC h 0 rfl rfl dX4_takes_1 ?_
  rcases (show r.st = 0 ∨ r.st = 1 ∨ r.st = 2 ∨ r.st = 3 ∨ r.st = 4 ∨ r.st = 5 ∨ r.st = 6 ∨ r.st = 7 by omega) with e_s | e_s | e_s | e_s | e_s | e_s | e_s | e_s
  · rw [e_s]
    refine lv_tableIn (off := 44) (tgt := 48) zx zb dX4_takes_4 (by decide) (by decide) (by decide) (by decide) ?_
    refine lv_aload_n zx zb dX4_takes_48 rfl (lv_at hl 0 rfl) ?_
    refine lv_iload_n zx zb dX4_takes_49 rfl (lv_at hl 1 rfl) ?_
    refine r_invV (As := [.int (iI c)]) (rest := []) (wr := []) (ws2 := fun u_1 => wRd g a q mk u_1.2 aw) 0 0 zC h hl.1 (c_X4_takesTail l D g a q mk r aw c hc) (cs4_66 zC ⟨(Nat.le_of_ble_eq_true rfl), (Nat.le_of_ble_eq_true rfl)⟩) wRd_mem rfl rfl rfl (Nat.le_of_ble_eq_true rfl) (List.Perm.of_eq (List.append_nil _).symm) (fun u => List.Perm.of_eq (List.append_nil _)) ⟨(Nat.le_of_ble_eq_true rfl), (Nat.le_of_ble_eq_true rfl)⟩ (Nat.le_of_ble_eq_true rfl) (Nat.le_of_ble_eq_true rfl) dX4_takes_50 (fun u_1 H locs hu_1 hz_1 h => ?_)
    refine b_zne (b := u_1.1) (tgt := 64) zC dX4_takes_53 (by decide) (fun c_2 => ?_) (fun c_2 => ?_)
    · skip
      refine lv_iconst (v := iI (1)) zx zb dX4_takes_64 rfl ?_
      refine lv_goto (tgt := 69) zx zb dX4_takes_65 (by decide) ?_
      exact r_zret (b := true) zC zQ zr zk h dX4_takes_69 rfl (u := (true, u_1.2)) rfl (List.Perm.refl _) (by rw [hu_1] at c_2 ⊢; simp [rTakes, e_s, c_2]) (Nat.le_of_ble_eq_true rfl) (Nat.le_of_ble_eq_true rfl)
    · skip
      have hr_b : u_1.2 = r := by rw [hu_1] at c_2 ⊢; exact rTail_f c_2
      rw [hr_b] at h
      refine lv_aload_n zx zb dX4_takes_56 rfl (lv_at hl 0 rfl) ?_
      refine lv_iload_n zx zb dX4_takes_57 rfl (lv_at hl 1 rfl) ?_
      refine r_invV (As := [.int (iI c)]) (rest := []) (wr := []) (ws2 := fun u_3 => wRd g a q mk u_3.2 aw) 0 0 zC h hl.1 (c_X4_takesTest l D g a q mk r aw c hc h3 (by omega) h8 h9) (cs4_69 zC ⟨(Nat.le_of_ble_eq_true rfl), (Nat.le_of_ble_eq_true rfl)⟩) wRd_mem rfl rfl rfl (Nat.le_of_ble_eq_true rfl) (List.Perm.of_eq (List.append_nil _).symm) (fun u => List.Perm.of_eq (List.append_nil _)) ⟨(Nat.le_of_ble_eq_true rfl), (Nat.le_of_ble_eq_true rfl)⟩ (Nat.le_of_ble_eq_true rfl) (Nat.le_of_ble_eq_true rfl) dX4_takes_58 (fun u_3 H locs hu_3 hz_3 h => ?_)
      refine b_zeq (b := u_3.1) (tgt := 68) zC dX4_takes_61 (by decide) (fun c_4 => ?_) (fun c_4 => ?_)
      · skip
        refine lv_iconst (v := iI (0)) zx zb dX4_takes_68 rfl ?_
        exact r_zret (b := false) zC zQ zr zk h dX4_takes_69 rfl (u := (false, u_3.2)) rfl (List.Perm.refl _) (by have e1 : u_3.1 = false := (by simpa using c_4); rw [← e1, hu_3]; have e2 : (rTail c r).1 = false := (by rw [← hu_1]; assumption); simp [rTakes, e_s, e2, rTail_f e2]) (Nat.le_of_ble_eq_true rfl) (Nat.le_of_ble_eq_true rfl)
      · skip
        refine lv_iconst (v := iI (1)) zx zb dX4_takes_64 rfl ?_
        refine lv_goto (tgt := 69) zx zb dX4_takes_65 (by decide) ?_
        exact r_zret (b := true) zC zQ zr zk h dX4_takes_69 rfl (u := (true, u_3.2)) rfl (List.Perm.refl _) (by have e1 : u_3.1 = true := (by simpa using c_4); rw [← e1, hu_3]; have e2 : (rTail c r).1 = false := (by rw [← hu_1]; assumption); simp [rTakes, e_s, e2, rTail_f e2]) (Nat.le_of_ble_eq_true rfl) (Nat.le_of_ble_eq_true rfl)
  · rw [e_s]
    refine lv_tableIn (off := 66) (tgt := 70) zx zb dX4_takes_4 (by decide) (by decide) (by decide) (by decide) ?_
    refine lv_aload_n zx zb dX4_takes_70 rfl (lv_at hl 0 rfl) ?_
    refine lv_iload_n zx zb dX4_takes_71 rfl (lv_at hl 1 rfl) ?_
    refine r_invV (As := [.int (iI c)]) (rest := []) (wr := []) (ws2 := fun u_5 => wRd g a q mk u_5.2 aw) 0 0 zC h hl.1 (c_X4_takesTest l D g a q mk r aw c hc h3 (by omega) h8 h9) (cs4_69 zC ⟨(Nat.le_of_ble_eq_true rfl), (Nat.le_of_ble_eq_true rfl)⟩) wRd_mem rfl rfl rfl (Nat.le_of_ble_eq_true rfl) (List.Perm.of_eq (List.append_nil _).symm) (fun u => List.Perm.of_eq (List.append_nil _)) ⟨(Nat.le_of_ble_eq_true rfl), (Nat.le_of_ble_eq_true rfl)⟩ (Nat.le_of_ble_eq_true rfl) (Nat.le_of_ble_eq_true rfl) dX4_takes_72 (fun u_5 H locs hu_5 hz_5 h => ?_)
    exact r_zret (b := u_5.1) zC zQ zr zk h dX4_takes_75 rfl (u := u_5) rfl (List.Perm.refl _) (by rw [hu_5]; simp [rTakes, e_s]) (Nat.le_of_ble_eq_true rfl) (Nat.le_of_ble_eq_true rfl)
  · rw [e_s]
    refine lv_tableIn (off := 72) (tgt := 76) zx zb dX4_takes_4 (by decide) (by decide) (by decide) (by decide) ?_
    refine lv_aload_n zx zb dX4_takes_76 rfl (lv_at hl 0 rfl) ?_
    refine lv_iload_n zx zb dX4_takes_77 rfl (lv_at hl 1 rfl) ?_
    refine r_invV (As := [.int (iI c)]) (rest := []) (wr := []) (ws2 := fun u_6 => wRd g a q mk u_6.2 aw) 0 0 zC h hl.1 (c_X4_takesRelation l D g a q mk r aw c hc) (cs4_72 zC ⟨(Nat.le_of_ble_eq_true rfl), (Nat.le_of_ble_eq_true rfl)⟩) wRd_mem rfl rfl rfl (Nat.le_of_ble_eq_true rfl) (List.Perm.of_eq (List.append_nil _).symm) (fun u => List.Perm.of_eq (List.append_nil _)) ⟨(Nat.le_of_ble_eq_true rfl), (Nat.le_of_ble_eq_true rfl)⟩ (Nat.le_of_ble_eq_true rfl) (Nat.le_of_ble_eq_true rfl) dX4_takes_78 (fun u_6 H locs hu_6 hz_6 h => ?_)
    exact r_zret (b := u_6.1) zC zQ zr zk h dX4_takes_81 rfl (u := u_6) rfl (List.Perm.refl _) (by rw [hu_6]; simp [rTakes, e_s]) (Nat.le_of_ble_eq_true rfl) (Nat.le_of_ble_eq_true rfl)
  · rw [e_s]
    refine lv_tableIn (off := 78) (tgt := 82) zx zb dX4_takes_4 (by decide) (by decide) (by decide) (by decide) ?_
    refine lv_aload_n zx zb dX4_takes_82 rfl (lv_at hl 0 rfl) ?_
    refine lv_iload_n zx zb dX4_takes_83 rfl (lv_at hl 1 rfl) ?_
    refine r_invV (As := [.int (iI c)]) (rest := []) (wr := []) (ws2 := fun u_7 => wRd g a q mk u_7.2 aw) 0 0 zC h hl.1 (c_X4_takesFigure l D g a q mk r aw c hc h5) (cs4_75 zC ⟨(Nat.le_of_ble_eq_true rfl), (Nat.le_of_ble_eq_true rfl)⟩) wRd_mem rfl rfl rfl (Nat.le_of_ble_eq_true rfl) (List.Perm.of_eq (List.append_nil _).symm) (fun u => List.Perm.of_eq (List.append_nil _)) ⟨(Nat.le_of_ble_eq_true rfl), (Nat.le_of_ble_eq_true rfl)⟩ (Nat.le_of_ble_eq_true rfl) (Nat.le_of_ble_eq_true rfl) dX4_takes_84 (fun u_7 H locs hu_7 hz_7 h => ?_)
    exact r_zret (b := u_7.1) zC zQ zr zk h dX4_takes_87 rfl (u := u_7) rfl (List.Perm.refl _) (by rw [hu_7]; simp [rTakes, e_s]) (Nat.le_of_ble_eq_true rfl) (Nat.le_of_ble_eq_true rfl)
  · rw [e_s]
    refine lv_tableIn (off := 84) (tgt := 88) zx zb dX4_takes_4 (by decide) (by decide) (by decide) (by decide) ?_
    refine lv_aload_n zx zb dX4_takes_88 rfl (lv_at hl 0 rfl) ?_
    refine lv_iload_n zx zb dX4_takes_89 rfl (lv_at hl 1 rfl) ?_
    refine r_invV (As := [.int (iI c)]) (rest := []) (wr := []) (ws2 := fun u_8 => wRd g a q mk u_8.2 aw) 0 0 zC h hl.1 (c_X4_takesFigure l D g a q mk r aw c hc h5) (cs4_75 zC ⟨(Nat.le_of_ble_eq_true rfl), (Nat.le_of_ble_eq_true rfl)⟩) wRd_mem rfl rfl rfl (Nat.le_of_ble_eq_true rfl) (List.Perm.of_eq (List.append_nil _).symm) (fun u => List.Perm.of_eq (List.append_nil _)) ⟨(Nat.le_of_ble_eq_true rfl), (Nat.le_of_ble_eq_true rfl)⟩ (Nat.le_of_ble_eq_true rfl) (Nat.le_of_ble_eq_true rfl) dX4_takes_90 (fun u_8 H locs hu_8 hz_8 h => ?_)
    refine b_zeq (b := u_8.1) (tgt := 98) zC dX4_takes_93 (by decide) (fun c_9 => ?_) (fun c_9 => ?_)
    · skip
      have hr_b : u_8.2 = r := by rw [hu_8] at c_9 ⊢; exact rFigure_f c_9
      rw [hr_b] at h
      refine lv_aload_n zx zb dX4_takes_98 rfl (lv_at hl 0 rfl) ?_
      refine r_invV (As := []) (rest := []) (wr := []) (ws2 := fun u_10 => wRd g a q mk (rEndFT r) aw) 0 0 zC h hl.1 (c_X4_endFieldTest l D g a q mk r aw (h10 e_s).1 (h10 e_s).2.1 (by omega) (h10 e_s).2.2) (cs4_78 zC ⟨(Nat.le_of_ble_eq_true rfl), (Nat.le_of_ble_eq_true rfl)⟩) wRd_mem rfl rfl rfl (Nat.le_of_ble_eq_true rfl) (List.Perm.of_eq (List.append_nil _).symm) (fun u => List.Perm.of_eq (List.append_nil _)) ⟨(Nat.le_of_ble_eq_true rfl), (Nat.le_of_ble_eq_true rfl)⟩ (Nat.le_of_ble_eq_true rfl) (Nat.le_of_ble_eq_true rfl) dX4_takes_99 (fun u_10 H locs hu_10 hz_10 h => ?_)
      refine lv_aload_n zx zb dX4_takes_102 rfl (lv_at hl 0 rfl) ?_
      refine lv_iload_n zx zb dX4_takes_103 rfl (lv_at hl 1 rfl) ?_
      refine r_invV (As := [.int (iI c)]) (rest := []) (wr := []) (ws2 := fun u_11 => wRd g a q mk u_11.2 aw) 0 0 zC h hl.1 (c_X4_takesBehindTest l D g a q mk (rEndFT r) aw c hc (by first | (rw [rEndFT_ne]; omega) | omega) (by first | (rw [rEndFT_sc]; omega) | omega) (by first | (rw [rEndFT_op]; omega) | omega)) (cs4_81 zC ⟨(Nat.le_of_ble_eq_true rfl), (Nat.le_of_ble_eq_true rfl)⟩) wRd_mem rfl rfl rfl (Nat.le_of_ble_eq_true rfl) (List.Perm.of_eq (List.append_nil _).symm) (fun u => List.Perm.of_eq (List.append_nil _)) ⟨(Nat.le_of_ble_eq_true rfl), (Nat.le_of_ble_eq_true rfl)⟩ (Nat.le_of_ble_eq_true rfl) (Nat.le_of_ble_eq_true rfl) dX4_takes_104 (fun u_11 H locs hu_11 hz_11 h => ?_)
      exact r_zret (b := u_11.1) zC zQ zr zk h dX4_takes_107 rfl (u := u_11) rfl (List.Perm.refl _) (by rw [hu_11]; have e2 : (rFigure c r).1 = false := (by rw [← hu_8]; assumption); simp [rTakes, e_s, e2, rFigure_f e2]) (Nat.le_of_ble_eq_true rfl) (Nat.le_of_ble_eq_true rfl)
    · skip
      refine lv_iconst (v := iI (1)) zx zb dX4_takes_96 rfl ?_
      exact r_zret (b := true) zC zQ zr zk h dX4_takes_97 rfl (u := (true, u_8.2)) rfl (List.Perm.refl _) (by rw [hu_8] at c_9 ⊢; simp [rTakes, e_s, c_9]) (Nat.le_of_ble_eq_true rfl) (Nat.le_of_ble_eq_true rfl)
  · rw [e_s]
    refine lv_tableIn (off := 104) (tgt := 108) zx zb dX4_takes_4 (by decide) (by decide) (by decide) (by decide) ?_
    refine lv_aload_n zx zb dX4_takes_108 rfl (lv_at hl 0 rfl) ?_
    refine lv_iload_n zx zb dX4_takes_109 rfl (lv_at hl 1 rfl) ?_
    refine r_invV (As := [.int (iI c)]) (rest := []) (wr := []) (ws2 := fun u_12 => wRd g a q mk u_12.2 aw) 0 0 zC h hl.1 (c_X4_takesBehindTest l D g a q mk r aw c hc (by first | (rw [rEndFT_ne]; omega) | omega) (by first | (rw [rEndFT_sc]; omega) | omega) (by first | (rw [rEndFT_op]; omega) | omega)) (cs4_81 zC ⟨(Nat.le_of_ble_eq_true rfl), (Nat.le_of_ble_eq_true rfl)⟩) wRd_mem rfl rfl rfl (Nat.le_of_ble_eq_true rfl) (List.Perm.of_eq (List.append_nil _).symm) (fun u => List.Perm.of_eq (List.append_nil _)) ⟨(Nat.le_of_ble_eq_true rfl), (Nat.le_of_ble_eq_true rfl)⟩ (Nat.le_of_ble_eq_true rfl) (Nat.le_of_ble_eq_true rfl) dX4_takes_110 (fun u_12 H locs hu_12 hz_12 h => ?_)
    exact r_zret (b := u_12.1) zC zQ zr zk h dX4_takes_113 rfl (u := u_12) rfl (List.Perm.refl _) (by rw [hu_12]; simp [rTakes, e_s]) (Nat.le_of_ble_eq_true rfl) (Nat.le_of_ble_eq_true rfl)
  · rw [e_s]
    refine lv_tableIn (off := 110) (tgt := 114) zx zb dX4_takes_4 (by decide) (by decide) (by decide) (by decide) ?_
    refine lv_aload_n zx zb dX4_takes_114 rfl (lv_at hl 0 rfl) ?_
    refine lv_iload_n zx zb dX4_takes_115 rfl (lv_at hl 1 rfl) ?_
    refine r_invV (As := [.int (iI c)]) (rest := []) (wr := []) (ws2 := fun u_13 => wRd g a q mk u_13.2 aw) 0 0 zC h hl.1 (c_X4_takesTailField l D g a q mk r aw c hc) (cs4_84 zC ⟨(Nat.le_of_ble_eq_true rfl), (Nat.le_of_ble_eq_true rfl)⟩) wRd_mem rfl rfl rfl (Nat.le_of_ble_eq_true rfl) (List.Perm.of_eq (List.append_nil _).symm) (fun u => List.Perm.of_eq (List.append_nil _)) ⟨(Nat.le_of_ble_eq_true rfl), (Nat.le_of_ble_eq_true rfl)⟩ (Nat.le_of_ble_eq_true rfl) (Nat.le_of_ble_eq_true rfl) dX4_takes_116 (fun u_13 H locs hu_13 hz_13 h => ?_)
    exact r_zret (b := u_13.1) zC zQ zr zk h dX4_takes_119 rfl (u := u_13) rfl (List.Perm.refl _) (by rw [hu_13]; simp [rTakes, e_s]) (Nat.le_of_ble_eq_true rfl) (Nat.le_of_ble_eq_true rfl)
  · rw [e_s]
    refine lv_tableOut (tgt := 120) zx zb dX4_takes_4 (by decide) (by decide) ?_
    refine lv_iconst (v := iI (0)) zx zb dX4_takes_120 rfl ?_
    exact r_zret (b := false) zC zQ zr zk h dX4_takes_121 rfl (u := (false, r)) rfl (List.Perm.refl _) (by simp [rTakes, e_s]) (Nat.le_of_ble_eq_true rfl) (Nat.le_of_ble_eq_true rfl)

set_option maxHeartbeats 4000000 in
set_option maxRecDepth 100000 in
theorem c_X4_takesEnd (l : Launch) (D : va_G) (g : Nat → ClassId) (a q : Nat → Nat) (mk : Nat → Bool) (r : RS) (aw : Nat) (hr0 : rOK r) : Ct (S := Bool × RS) l D g yX4_takesEnd cX4_takesEnd 1 (some .boolean) rmX4_takesEnd [.ref (a 0)] (wRd g a q mk r aw) (fun u => some (.int (bI u.1))) (fun u => u = (rEndB r, rEndS r)) (fun u => wRd g a q mk u.2 aw) := by
  refine Ct.of RX4 rfl (by decide +kernel) [(0, .ref (a 0))] rfl (Nat.le_of_ble_eq_true rfl) ?_
  intro pg evn sT mI bl mtd cd aA ls ar qQ zC zr zk zi zQ h hl
  have zx := zC.1
  have zb := zC.2.1
  obtain ⟨h1, h2, h3, h4, h5, h6, h7, h8, h9, h10⟩ := hr0
  skip
  refine lv_aload_n zx zb dX4_takesEnd_0 rfl (lv_at hl 0 rfl) ?_
  refine gf4_22 (v := .int (iI r.st)) zC h 0 rfl rfl dX4_takesEnd_1 ?_
  refine lv_iconst (v := iI (4)) zx zb dX4_takesEnd_4 rfl ?_
  refine i_cne (a := r.st) (b := 4) (tgt := 12) zC dX4_takesEnd_5 (by decide) (by omega) (fun c_1 => ?_) (fun c_1 => ?_)
  · skip
    have e_4 : ¬ r.st = 4 := c_1
    refine lv_aload_n zx zb dX4_takesEnd_12 rfl (lv_at hl 0 rfl) ?_
    refine gf4_22 (v := .int (iI r.st)) zC h 0 rfl rfl dX4_takesEnd_13 ?_
    refine i_zeq (a := r.st) (tgt := 43) zC dX4_takesEnd_16 (by decide) (by omega) (fun c_2 => ?_) (fun c_2 => ?_)
    · skip
      refine lv_iconst (v := iI (1)) zx zb dX4_takesEnd_43 rfl ?_
      refine lv_goto (tgt := 48) zx zb dX4_takesEnd_44 (by decide) ?_
      exact r_zret (b := true) zC zQ zr zk h dX4_takesEnd_48 rfl (u := (true, r)) rfl (List.Perm.refl _) (by have e5 : rEndS r = r := (by unfold rEndS; rw [if_neg e_4]); have e6 : rEndB r = true := (by unfold rEndB; rw [e5]; first | (apply decide_eq_true; omega) | (apply decide_eq_false; omega)); rw [e5, e6]) (Nat.le_of_ble_eq_true rfl) (Nat.le_of_ble_eq_true rfl)
    · skip
      refine lv_aload_n zx zb dX4_takesEnd_19 rfl (lv_at hl 0 rfl) ?_
      refine gf4_22 (v := .int (iI r.st)) zC h 0 rfl rfl dX4_takesEnd_20 ?_
      refine lv_bipush (v := iI (7)) zx zb dX4_takesEnd_23 rfl ?_
      refine i_ceq (a := r.st) (b := 7) (tgt := 43) zC dX4_takesEnd_25 (by decide) (by omega) (fun c_3 => ?_) (fun c_3 => ?_)
      · skip
        refine lv_iconst (v := iI (1)) zx zb dX4_takesEnd_43 rfl ?_
        refine lv_goto (tgt := 48) zx zb dX4_takesEnd_44 (by decide) ?_
        exact r_zret (b := true) zC zQ zr zk h dX4_takesEnd_48 rfl (u := (true, r)) rfl (List.Perm.refl _) (by have e5 : rEndS r = r := (by unfold rEndS; rw [if_neg e_4]); have e6 : rEndB r = true := (by unfold rEndB; rw [e5]; first | (apply decide_eq_true; omega) | (apply decide_eq_false; omega)); rw [e5, e6]) (Nat.le_of_ble_eq_true rfl) (Nat.le_of_ble_eq_true rfl)
      · skip
        refine lv_aload_n zx zb dX4_takesEnd_28 rfl (lv_at hl 0 rfl) ?_
        refine gf4_22 (v := .int (iI r.st)) zC h 0 rfl rfl dX4_takesEnd_29 ?_
        refine lv_iconst (v := iI (5)) zx zb dX4_takesEnd_32 rfl ?_
        refine i_cne (a := r.st) (b := 5) (tgt := 47) zC dX4_takesEnd_33 (by decide) (by omega) (fun c_4 => ?_) (fun c_4 => ?_)
        · skip
          refine lv_iconst (v := iI (0)) zx zb dX4_takesEnd_47 rfl ?_
          exact r_zret (b := false) zC zQ zr zk h dX4_takesEnd_48 rfl (u := (false, r)) rfl (List.Perm.refl _) (by have e5 : rEndS r = r := (by unfold rEndS; rw [if_neg e_4]); have e6 : rEndB r = false := (by unfold rEndB; rw [e5]; first | (apply decide_eq_true; omega) | (apply decide_eq_false; omega)); rw [e5, e6]) (Nat.le_of_ble_eq_true rfl) (Nat.le_of_ble_eq_true rfl)
        · skip
          refine lv_aload_n zx zb dX4_takesEnd_36 rfl (lv_at hl 0 rfl) ?_
          refine gf4_38 (v := .int (iI r.ne)) zC h 0 rfl rfl dX4_takesEnd_37 ?_
          refine i_zne (a := r.ne) (tgt := 47) zC dX4_takesEnd_40 (by decide) (by omega) (fun c_5 => ?_) (fun c_5 => ?_)
          · skip
            refine lv_iconst (v := iI (0)) zx zb dX4_takesEnd_47 rfl ?_
            exact r_zret (b := false) zC zQ zr zk h dX4_takesEnd_48 rfl (u := (false, r)) rfl (List.Perm.refl _) (by have e5 : rEndS r = r := (by unfold rEndS; rw [if_neg e_4]); have e6 : rEndB r = false := (by unfold rEndB; rw [e5]; first | (apply decide_eq_true; omega) | (apply decide_eq_false; omega)); rw [e5, e6]) (Nat.le_of_ble_eq_true rfl) (Nat.le_of_ble_eq_true rfl)
          · skip
            refine lv_iconst (v := iI (1)) zx zb dX4_takesEnd_43 rfl ?_
            refine lv_goto (tgt := 48) zx zb dX4_takesEnd_44 (by decide) ?_
            exact r_zret (b := true) zC zQ zr zk h dX4_takesEnd_48 rfl (u := (true, r)) rfl (List.Perm.refl _) (by have e5 : rEndS r = r := (by unfold rEndS; rw [if_neg e_4]); have e6 : rEndB r = true := (by unfold rEndB; rw [e5]; first | (apply decide_eq_true; omega) | (apply decide_eq_false; omega)); rw [e5, e6]) (Nat.le_of_ble_eq_true rfl) (Nat.le_of_ble_eq_true rfl)
  · skip
    have e_4 : r.st = 4 := c_1
    have e_s := e_4
    refine lv_aload_n zx zb dX4_takesEnd_8 rfl (lv_at hl 0 rfl) ?_
    refine r_invV (As := []) (rest := []) (wr := []) (ws2 := fun u_6 => wRd g a q mk (rEndFT r) aw) 0 0 zC h hl.1 (c_X4_endFieldTest l D g a q mk r aw (h10 e_s).1 (h10 e_s).2.1 (by omega) (h10 e_s).2.2) (cs4_78 zC ⟨(Nat.le_of_ble_eq_true rfl), (Nat.le_of_ble_eq_true rfl)⟩) wRd_mem rfl rfl rfl (Nat.le_of_ble_eq_true rfl) (List.Perm.of_eq (List.append_nil _).symm) (fun u => List.Perm.of_eq (List.append_nil _)) ⟨(Nat.le_of_ble_eq_true rfl), (Nat.le_of_ble_eq_true rfl)⟩ (Nat.le_of_ble_eq_true rfl) (Nat.le_of_ble_eq_true rfl) dX4_takesEnd_9 (fun u_6 H locs hu_6 hz_6 h => ?_)
    refine lv_aload_n zx zb dX4_takesEnd_12 rfl (lv_at hl 0 rfl) ?_
    refine gf4_22 (v := .int (iI 5)) zC h 0 rfl rfl dX4_takesEnd_13 ?_
    refine i_zeq (a := 5) (tgt := 43) zC dX4_takesEnd_16 (by decide) (by omega) (fun c_7 => ?_) (fun c_7 => ?_)
    · skip
      refine lv_iconst (v := iI (1)) zx zb dX4_takesEnd_43 rfl ?_
      refine lv_goto (tgt := 48) zx zb dX4_takesEnd_44 (by decide) ?_
      exact r_zret (b := true) zC zQ zr zk h dX4_takesEnd_48 rfl (u := (true, rEndFT r)) rfl (List.Perm.refl _) (by have e5 : rEndS r = rEndFT r := (by unfold rEndS; rw [if_pos e_4]); have e6 : rEndB r = true := (by unfold rEndB; rw [e5]; first | (apply decide_eq_true; rw [rEndFT_st, rEndFT_ne]; omega) | (apply decide_eq_false; rw [rEndFT_st, rEndFT_ne]; omega)); rw [e5, e6]) (Nat.le_of_ble_eq_true rfl) (Nat.le_of_ble_eq_true rfl)
    · skip
      refine lv_aload_n zx zb dX4_takesEnd_19 rfl (lv_at hl 0 rfl) ?_
      refine gf4_22 (v := .int (iI 5)) zC h 0 rfl rfl dX4_takesEnd_20 ?_
      refine lv_bipush (v := iI (7)) zx zb dX4_takesEnd_23 rfl ?_
      refine i_ceq (a := 5) (b := 7) (tgt := 43) zC dX4_takesEnd_25 (by decide) (by omega) (fun c_8 => ?_) (fun c_8 => ?_)
      · skip
        refine lv_iconst (v := iI (1)) zx zb dX4_takesEnd_43 rfl ?_
        refine lv_goto (tgt := 48) zx zb dX4_takesEnd_44 (by decide) ?_
        exact r_zret (b := true) zC zQ zr zk h dX4_takesEnd_48 rfl (u := (true, rEndFT r)) rfl (List.Perm.refl _) (by have e5 : rEndS r = rEndFT r := (by unfold rEndS; rw [if_pos e_4]); have e6 : rEndB r = true := (by unfold rEndB; rw [e5]; first | (apply decide_eq_true; rw [rEndFT_st, rEndFT_ne]; omega) | (apply decide_eq_false; rw [rEndFT_st, rEndFT_ne]; omega)); rw [e5, e6]) (Nat.le_of_ble_eq_true rfl) (Nat.le_of_ble_eq_true rfl)
      · skip
        refine lv_aload_n zx zb dX4_takesEnd_28 rfl (lv_at hl 0 rfl) ?_
        refine gf4_22 (v := .int (iI 5)) zC h 0 rfl rfl dX4_takesEnd_29 ?_
        refine lv_iconst (v := iI (5)) zx zb dX4_takesEnd_32 rfl ?_
        refine i_cne (a := 5) (b := 5) (tgt := 47) zC dX4_takesEnd_33 (by decide) (by omega) (fun c_9 => ?_) (fun c_9 => ?_)
        · skip
          refine lv_iconst (v := iI (0)) zx zb dX4_takesEnd_47 rfl ?_
          exact r_zret (b := false) zC zQ zr zk h dX4_takesEnd_48 rfl (u := (false, rEndFT r)) rfl (List.Perm.refl _) (by have e5 : rEndS r = rEndFT r := (by unfold rEndS; rw [if_pos e_4]); have e6 : rEndB r = false := (by unfold rEndB; rw [e5]; first | (apply decide_eq_true; rw [rEndFT_st, rEndFT_ne]; omega) | (apply decide_eq_false; rw [rEndFT_st, rEndFT_ne]; omega)); rw [e5, e6]) (Nat.le_of_ble_eq_true rfl) (Nat.le_of_ble_eq_true rfl)
        · skip
          refine lv_aload_n zx zb dX4_takesEnd_36 rfl (lv_at hl 0 rfl) ?_
          refine gf4_38 (v := .int (iI (r.ne - r.tu))) zC h 0 rfl rfl dX4_takesEnd_37 ?_
          refine i_zne (a := r.ne - r.tu) (tgt := 47) zC dX4_takesEnd_40 (by decide) (by omega) (fun c_10 => ?_) (fun c_10 => ?_)
          · skip
            refine lv_iconst (v := iI (0)) zx zb dX4_takesEnd_47 rfl ?_
            exact r_zret (b := false) zC zQ zr zk h dX4_takesEnd_48 rfl (u := (false, rEndFT r)) rfl (List.Perm.refl _) (by have e5 : rEndS r = rEndFT r := (by unfold rEndS; rw [if_pos e_4]); have e6 : rEndB r = false := (by unfold rEndB; rw [e5]; first | (apply decide_eq_true; rw [rEndFT_st, rEndFT_ne]; omega) | (apply decide_eq_false; rw [rEndFT_st, rEndFT_ne]; omega)); rw [e5, e6]) (Nat.le_of_ble_eq_true rfl) (Nat.le_of_ble_eq_true rfl)
          · skip
            refine lv_iconst (v := iI (1)) zx zb dX4_takesEnd_43 rfl ?_
            refine lv_goto (tgt := 48) zx zb dX4_takesEnd_44 (by decide) ?_
            exact r_zret (b := true) zC zQ zr zk h dX4_takesEnd_48 rfl (u := (true, rEndFT r)) rfl (List.Perm.refl _) (by have e5 : rEndS r = rEndFT r := (by unfold rEndS; rw [if_pos e_4]); have e6 : rEndB r = true := (by unfold rEndB; rw [e5]; first | (apply decide_eq_true; rw [rEndFT_st, rEndFT_ne]; omega) | (apply decide_eq_false; rw [rEndFT_st, rEndFT_ne]; omega)); rw [e5, e6]) (Nat.le_of_ble_eq_true rfl) (Nat.le_of_ble_eq_true rfl)

def rBegin : RS → RS
  | (st, ne, tu, nu, fg, rl, fd, op, TB, ST, TF, TR, TN, sc, tc, fl, tl, tf) => (0, 0, 0, nu, fg, rl, fd, 0, TB, ST, TF, TR, TN, 0, 0, (fun _ => false), 0, 0)

/-- the state behind the first k signs -/
def rGo (mk : Nat → Bool) (tx : Nat → Int) (r0 : RS) : Nat → RS
  | 0 => r0
  | k + 1 => (rTakes mk (tx k) (rGo mk tx r0 k)).2
/-- all of the first k signs are taken -/
def rAll (mk : Nat → Bool) (tx : Nat → Int) (r0 : RS) (k : Nat) : Prop := ∀ j, j < k → (rTakes mk (tx j) (rGo mk tx r0 j)).1 = true
/-- the first fault's place (or -1), and the state behind it -/
def rFF (mk : Nat → Bool) (tx : Nat → Int) (n : Nat) (r0 : RS) (u : Int × RS) : Prop :=
  (∃ k, k < n ∧ rAll mk tx r0 k ∧ (rTakes mk (tx k) (rGo mk tx r0 k)).1 = false ∧ u = ((k : Int), rGo mk tx r0 (k + 1))) ∨
  (rAll mk tx r0 n ∧ u = (if rEndB (rGo mk tx r0 n) = true then -1 else (n : Int), rEndS (rGo mk tx r0 n)))

set_option maxHeartbeats 4000000 in
set_option maxRecDepth 100000 in
theorem c_X4_draft (l : Launch) (D : va_G) (g : Nat → ClassId) (a q : Nat → Nat) (mk : Nat → Bool) (r : RS) (aw : Nat) : Ct (S := Unit) l D g yX4_draft cX4_draft 1 (some (.object "TraceQuestions$Question")) rmX4_draft [.ref (a 0)] (wRd g a q mk r aw) (fun u => some (.ref (q 0))) (fun _ => True) (fun u => wRd g a q mk r aw) := by
  refine Ct.of RX4 rfl (by decide +kernel) [(0, .ref (a 0))] rfl (Nat.le_of_ble_eq_true rfl) ?_
  intro pg evn sT mI bl mtd cd aA ls ar qQ zC zr zk zi zQ h hl
  have zx := zC.1
  have zb := zC.2.1
  skip
  refine lv_aload_n zx zb dX4_draft_0 rfl (lv_at hl 0 rfl) ?_
  refine gf4_12 (v := .ref (q 0)) zC h 0 rfl rfl dX4_draft_1 ?_
  exact r_aret zC zQ zr zk h dX4_draft_4 (u := ()) rfl (List.Perm.refl _) trivial (Nat.le_of_ble_eq_true rfl) (Nat.le_of_ble_eq_true rfl)

set_option maxHeartbeats 4000000 in
set_option maxRecDepth 100000 in
theorem c_X4_begin (l : Launch) (D : va_G) (g : Nat → ClassId) (a q : Nat → Nat) (mk0 mk : Nat → Bool) (r : RS) (aw : Nat) : Ct (S := Unit) l D g yX4_begin cX4_begin 2 none rmX4_begin [.ref (a 0), .int (iI (bZ mk))] (wRd g a q mk0 r aw) (fun u => none) (fun _ => True) (fun u => wRd g a q mk (rBegin r) aw) := by
  obtain ⟨st, ne, tu, nu, fg, rl, fd, op, TB, ST, TF, TR, TN, sc, tc, fl, tl, tf⟩ := r
  refine Ct.of RX4 rfl (by decide +kernel) [(0, .ref (a 0)), (1, .int (iI (bZ mk)))] rfl (Nat.le_of_ble_eq_true rfl) ?_
  intro pg evn sT mI bl mtd cd aA ls ar qQ zC zr zk zi zQ h hl
  have zx := zC.1
  have zb := zC.2.1
  have h : Hx D g sT aA sT.heap ([(a 0, .inr (4, [.ref (q 0), .int (iI (bZ mk0)), .int (iI st), .int (iI (fd : Int)), .int (iI rl), .int (iI nu), .int (iI fg), .int (iI ne), .int (iI tu), .ref (a 1), .int (iI (op : Int))])), (a 1, cI g 20 TB), (q 0, .inr (3, [.ref (q 1), .ref (q 2), .ref (q 3), .ref (q 4), .int (iI (sc : Int)), .int (iI (tc : Int)), .int (iI (bZ fl)), .int (iI (tl : Int)), .int (iI (tf : Int)), .int (iI (aw : Int))])), (q 1, cI g 200 ST), (q 2, cI g 40 TF), (q 3, cC g 40 TR), (q 4, cI g 40 TN)]) sT.heap [] := h
  skip
  refine lv_aload_n zx zb dX4_begin_0 rfl (lv_at hl 0 rfl) ?_
  refine gf4_12 (v := .ref (q 0)) zC h 0 rfl rfl dX4_begin_1 ?_
  refine r_invV (As := []) (rest := []) (wr := [(a 0, .inr (4, [.ref (q 0), .int (iI (bZ mk0)), .int (iI st), .int (iI (fd : Int)), .int (iI rl), .int (iI nu), .int (iI fg), .int (iI ne), .int (iI tu), .ref (a 1), .int (iI (op : Int))])), (a 1, cI g 20 TB)]) (ws2 := fun u_1 => [(a 0, .inr (4, [.ref (q 0), .int (iI (bZ mk0)), .int (iI st), .int (iI (fd : Int)), .int (iI rl), .int (iI nu), .int (iI fg), .int (iI ne), .int (iI tu), .ref (a 1), .int (iI (op : Int))])), (a 1, cI g 20 TB), (q 0, .inr (3, [.ref (q 1), .ref (q 2), .ref (q 3), .ref (q 4), .int (iI ((0 : Nat) : Int)), .int (iI ((0 : Nat) : Int)), .int (iI (bZ (fun _ => false))), .int (iI ((0 : Nat) : Int)), .int (iI ((0 : Nat) : Int)), .int (iI (aw : Int))])), (q 1, cI g 200 ST), (q 2, cI g 40 TF), (q 3, cC g 40 TR), (q 4, cI g 40 TN)]) 0 0 zC h hl.1 (c_X3_clear l D g q ST TF TR TN sc tc fl tl tf aw) (cs4_63 zC ⟨(Nat.le_of_ble_eq_true rfl), (Nat.le_of_ble_eq_true rfl)⟩) (.tail _ (.tail _ (.head _))) rfl rfl rfl (Nat.le_of_ble_eq_true rfl) (pm fun cp_q => by simp only [cp_o, List.countP_append, List.countP_nil, wQ] <;> omega) (fun u => (pm fun cp_q => by simp only [cp_o, List.countP_append, List.countP_nil, wQ] <;> omega)) ⟨(Nat.le_of_ble_eq_true rfl), (Nat.le_of_ble_eq_true rfl)⟩ (Nat.le_of_ble_eq_true rfl) (Nat.le_of_ble_eq_true rfl) dX4_begin_4 (fun u_1 H locs hu_1 hz_1 h => ?_)
  refine lv_aload_n zx zb dX4_begin_7 rfl (lv_at hl 0 rfl) ?_
  refine lv_iload_n zx zb dX4_begin_8 rfl (lv_at hl 1 rfl) ?_
  refine pf4_18 (x := iI (bZ mk)) zC h 0 (ws' := [(a 0, .inr (4, [.ref (q 0), .int (iI (bZ mk)), .int (iI st), .int (iI (fd : Int)), .int (iI rl), .int (iI nu), .int (iI fg), .int (iI ne), .int (iI tu), .ref (a 1), .int (iI (op : Int))])), (a 1, cI g 20 TB), (q 0, .inr (3, [.ref (q 1), .ref (q 2), .ref (q 3), .ref (q 4), .int (iI ((0 : Nat) : Int)), .int (iI ((0 : Nat) : Int)), .int (iI (bZ (fun _ => false))), .int (iI ((0 : Nat) : Int)), .int (iI ((0 : Nat) : Int)), .int (iI (aw : Int))])), (q 1, cI g 200 ST), (q 2, cI g 40 TF), (q 3, cC g 40 TR), (q 4, cI g 40 TN)]) rfl rfl (Nat.le_of_ble_eq_true rfl) dX4_begin_9 (fun H locs h => ?_)
  refine lv_aload_n zx zb dX4_begin_12 rfl (lv_at hl 0 rfl) ?_
  refine lv_iconst (v := iI (0)) zx zb dX4_begin_13 rfl ?_
  refine pf4_22 (x := iI 0) zC h 0 (ws' := [(a 0, .inr (4, [.ref (q 0), .int (iI (bZ mk)), .int (iI 0), .int (iI (fd : Int)), .int (iI rl), .int (iI nu), .int (iI fg), .int (iI ne), .int (iI tu), .ref (a 1), .int (iI (op : Int))])), (a 1, cI g 20 TB), (q 0, .inr (3, [.ref (q 1), .ref (q 2), .ref (q 3), .ref (q 4), .int (iI ((0 : Nat) : Int)), .int (iI ((0 : Nat) : Int)), .int (iI (bZ (fun _ => false))), .int (iI ((0 : Nat) : Int)), .int (iI ((0 : Nat) : Int)), .int (iI (aw : Int))])), (q 1, cI g 200 ST), (q 2, cI g 40 TF), (q 3, cC g 40 TR), (q 4, cI g 40 TN)]) rfl rfl (Nat.le_of_ble_eq_true rfl) dX4_begin_14 (fun H locs h => ?_)
  refine lv_aload_n zx zb dX4_begin_17 rfl (lv_at hl 0 rfl) ?_
  refine lv_iconst (v := iI (0)) zx zb dX4_begin_18 rfl ?_
  refine pf4_38 (x := iI 0) zC h 0 (ws' := [(a 0, .inr (4, [.ref (q 0), .int (iI (bZ mk)), .int (iI 0), .int (iI (fd : Int)), .int (iI rl), .int (iI nu), .int (iI fg), .int (iI 0), .int (iI tu), .ref (a 1), .int (iI (op : Int))])), (a 1, cI g 20 TB), (q 0, .inr (3, [.ref (q 1), .ref (q 2), .ref (q 3), .ref (q 4), .int (iI ((0 : Nat) : Int)), .int (iI ((0 : Nat) : Int)), .int (iI (bZ (fun _ => false))), .int (iI ((0 : Nat) : Int)), .int (iI ((0 : Nat) : Int)), .int (iI (aw : Int))])), (q 1, cI g 200 ST), (q 2, cI g 40 TF), (q 3, cC g 40 TR), (q 4, cI g 40 TN)]) rfl rfl (Nat.le_of_ble_eq_true rfl) dX4_begin_19 (fun H locs h => ?_)
  refine lv_aload_n zx zb dX4_begin_22 rfl (lv_at hl 0 rfl) ?_
  refine lv_iconst (v := iI (0)) zx zb dX4_begin_23 rfl ?_
  refine pf4_41 (x := iI 0) zC h 0 (ws' := [(a 0, .inr (4, [.ref (q 0), .int (iI (bZ mk)), .int (iI 0), .int (iI (fd : Int)), .int (iI rl), .int (iI nu), .int (iI fg), .int (iI 0), .int (iI 0), .ref (a 1), .int (iI (op : Int))])), (a 1, cI g 20 TB), (q 0, .inr (3, [.ref (q 1), .ref (q 2), .ref (q 3), .ref (q 4), .int (iI ((0 : Nat) : Int)), .int (iI ((0 : Nat) : Int)), .int (iI (bZ (fun _ => false))), .int (iI ((0 : Nat) : Int)), .int (iI ((0 : Nat) : Int)), .int (iI (aw : Int))])), (q 1, cI g 200 ST), (q 2, cI g 40 TF), (q 3, cC g 40 TR), (q 4, cI g 40 TN)]) rfl rfl (Nat.le_of_ble_eq_true rfl) dX4_begin_24 (fun H locs h => ?_)
  refine lv_aload_n zx zb dX4_begin_27 rfl (lv_at hl 0 rfl) ?_
  refine lv_iconst (v := iI (0)) zx zb dX4_begin_28 rfl ?_
  refine pf4_48 (x := iI 0) zC h 0 (ws' := [(a 0, .inr (4, [.ref (q 0), .int (iI (bZ mk)), .int (iI 0), .int (iI (fd : Int)), .int (iI rl), .int (iI nu), .int (iI fg), .int (iI 0), .int (iI 0), .ref (a 1), .int (iI 0)])), (a 1, cI g 20 TB), (q 0, .inr (3, [.ref (q 1), .ref (q 2), .ref (q 3), .ref (q 4), .int (iI ((0 : Nat) : Int)), .int (iI ((0 : Nat) : Int)), .int (iI (bZ (fun _ => false))), .int (iI ((0 : Nat) : Int)), .int (iI ((0 : Nat) : Int)), .int (iI (aw : Int))])), (q 1, cI g 200 ST), (q 2, cI g 40 TF), (q 3, cC g 40 TR), (q 4, cI g 40 TN)]) rfl rfl (Nat.le_of_ble_eq_true rfl) dX4_begin_29 (fun H locs h => ?_)
  exact r_vret zC zQ zr zk h dX4_begin_32 (u := ()) rfl (List.Perm.refl _) trivial (Nat.le_of_ble_eq_true rfl) (Nat.le_of_ble_eq_true rfl)

noncomputable def wRh (g : Nat → ClassId) (a q : Nat → Nat) (mk : Nat → Bool) (r : RS) : va_W := [(a 0, .inr (4, rdF a q mk r)), (a 1, cI g 20 r.TB)]
theorem wRd_split {g : Nat → ClassId} {a q : Nat → Nat} {mk : Nat → Bool} {r : RS} {aw : Nat} : wRd g a q mk r aw = wRh g a q mk r ++ wQ g q r.ST r.TF r.TR r.TN r.sc r.tc r.fl r.tl r.tf aw := rfl
theorem wRh_mem {g : Nat → ClassId} {a q : Nat → Nat} {mk : Nat → Bool} {r : RS} : (a 0, .inr (4, rdF a q mk r)) ∈ wRh g a q mk r := .head _

set_option maxHeartbeats 4000000 in
set_option maxRecDepth 100000 in
theorem c_X4_writeNextInto (l : Launch) (D : va_G) (g : Nat → ClassId) (a q q2 : Nat → Nat) (mk : Nat → Bool) (r : RS) : Ct (S := Unit) l D g yX4_writeNextInto cX4_writeNextInto 2 none rmX4_writeNextInto [.ref (a 0), .ref (q2 0)] (wRh g a q mk r) (fun u => none) (fun _ => True) (fun u => wRh g a q2 mk r) := by
  obtain ⟨st, ne, tu, nu, fg, rl, fd, op, TB, ST, TF, TR, TN, sc, tc, fl, tl, tf⟩ := r
  refine Ct.of RX4 rfl (by decide +kernel) [(0, .ref (a 0)), (1, .ref (q2 0))] rfl (Nat.le_of_ble_eq_true rfl) ?_
  intro pg evn sT mI bl mtd cd aA ls ar qQ zC zr zk zi zQ h hl
  have zx := zC.1
  have zb := zC.2.1
  have h : Hx D g sT aA sT.heap ([(a 0, .inr (4, [.ref (q 0), .int (iI (bZ mk)), .int (iI st), .int (iI (fd : Int)), .int (iI rl), .int (iI nu), .int (iI fg), .int (iI ne), .int (iI tu), .ref (a 1), .int (iI (op : Int))])), (a 1, cI g 20 TB)]) sT.heap [] := h
  skip
  refine lv_aload_n zx zb dX4_writeNextInto_0 rfl (lv_at hl 0 rfl) ?_
  refine lv_aload_n zx zb dX4_writeNextInto_1 rfl (lv_at hl 1 rfl) ?_
  refine pf4_12 (x := (q2 0)) zC h 0 (ws' := [(a 0, .inr (4, [.ref (q2 0), .int (iI (bZ mk)), .int (iI st), .int (iI (fd : Int)), .int (iI rl), .int (iI nu), .int (iI fg), .int (iI ne), .int (iI tu), .ref (a 1), .int (iI (op : Int))])), (a 1, cI g 20 TB)]) rfl rfl (Nat.le_of_ble_eq_true rfl) dX4_writeNextInto_2 (fun H locs h => ?_)
  exact r_vret zC zQ zr zk h dX4_writeNextInto_5 (u := ()) rfl (List.Perm.refl _) trivial (Nat.le_of_ble_eq_true rfl) (Nat.le_of_ble_eq_true rfl)

set_option maxHeartbeats 4000000 in
set_option maxRecDepth 100000 in
theorem c_X4_firstFault (l : Launch) (D : va_G) (g : Nat → ClassId) (a q : Nat → Nat) (mk0 mk : Nat → Bool) (r : RS) (aw ta n : Nat) (tx : Nat → Int) (hn : n ≤ 200) (ht : ∀ k, k < n → R32 (tx k)) (hok : ∀ k, k ≤ n → rAll mk tx (rBegin r) k → rOK (rGo mk tx (rBegin r) k)) : Ct (S := Int × RS) l D g yX4_firstFault cX4_firstFault 5 (some .int) rmX4_firstFault [.ref (a 0), .ref ta, .int (iI (n : Int)), .int (iI (bZ mk))] ((ta, cC g 200 tx) :: (wRd g a q mk0 r aw)) (fun u => some (.int (iI u.1))) (rFF mk tx n (rBegin r)) (fun u => (ta, cC g 200 tx) :: (wRd g a q mk u.2 aw)) := by
  refine Ct.of RX4 rfl (by decide +kernel) [(0, .ref (a 0)), (1, .ref ta), (2, .int (iI (n : Int))), (3, .int (iI (bZ mk)))] rfl (Nat.le_of_ble_eq_true rfl) ?_
  intro pg evn sT mI bl mtd cd aA ls ar qQ zC zr zk zi zQ h hl
  have zx := zC.1
  have zb := zC.2.1
  skip
  refine lv_aload_n zx zb dX4_firstFault_0 rfl (lv_at hl 0 rfl) ?_
  refine lv_iload_n zx zb dX4_firstFault_1 rfl (lv_at hl 3 rfl) ?_
  refine r_invV (As := [.int (iI (bZ mk))]) (rest := []) (wr := [(ta, cC g 200 tx)]) (ws2 := fun u_1 => (ta, cC g 200 tx) :: (wRd g a q mk (rBegin r) aw)) 0 0 zC h hl.1 (c_X4_begin l D g a q mk0 mk r aw) (cs4_51 zC ⟨(Nat.le_of_ble_eq_true rfl), (Nat.le_of_ble_eq_true rfl)⟩) (.tail _ wRd_mem) rfl rfl rfl (Nat.le_of_ble_eq_true rfl) (pm fun cp_q => by simp only [cp_o, List.countP_append, List.countP_nil] <;> omega) (fun u => (pm fun cp_q => by simp only [cp_o, List.countP_append, List.countP_nil] <;> omega)) ⟨(Nat.le_of_ble_eq_true rfl), (Nat.le_of_ble_eq_true rfl)⟩ (Nat.le_of_ble_eq_true rfl) (Nat.le_of_ble_eq_true rfl) dX4_firstFault_2 (fun u_1 H locs hu_1 hz_1 h => ?_)
  refine lv_iconst (v := iI (0)) zx zb dX4_firstFault_5 rfl ?_
  refine lv_istore (lv' := [(4, .int (iI 0)), (0, .ref (a 0)), (1, .ref ta), (2, .int (iI (n : Int))), (3, .int (iI (bZ mk)))]) zx zb dX4_firstFault_6 hl (by decide) rfl (fun ls hl => ?_)
  have L8_2 : ∀ (fuel : Nat) (k : Nat) (H : Heap) (locs : List Loc) (ls : Array Slot), n - k < fuel → (k ≤ n) → (rAll mk tx (rBegin r) k) → Hx D g sT aA sT.heap ((ta, cC g 200 tx) :: (wRd g a q mk (rGo mk tx (rBegin r) k) aw)) H locs → lv_has ls 5 [(0, .ref (a 0)), (1, .ref ta), (2, .int (iI (n : Int))), (3, .int (iI (bZ mk))), (4, .int (iI (k : Int)))] → W pg l evn rmX4_firstFault sT mI ar bl mtd cd H locs 0 0 qQ (F0 mI 8 ls []) := by
    intro fuel
    induction fuel with
    | zero => intro k H locs ls hm; exact absurd hm (Nat.not_lt_zero _)
    | succ fuel ih =>
      intro k H locs ls hm hk hall h hl
      refine lv_iload zx zb dX4_firstFault_8 (lv_at hl 4 rfl) ?_
      refine lv_iload_n zx zb dX4_firstFault_10 rfl (lv_at hl 2 rfl) ?_
      refine i_cge (a := (k : Int)) (b := (n : Int)) (tgt := 41) zC dX4_firstFault_11 (by decide) (by omega) (fun c_3 => ?_) (fun c_3 => ?_)
      · skip
        have hkn : k = n := by omega
        rw [hkn] at h hall
        
        refine lv_aload_n zx zb dX4_firstFault_41 rfl (lv_at hl 0 rfl) ?_
        refine r_invV (As := []) (rest := []) (wr := [(ta, cC g 200 tx)]) (ws2 := fun u_4 => (ta, cC g 200 tx) :: (wRd g a q mk u_4.2 aw)) 0 0 zC h hl.1 (c_X4_takesEnd l D g a q mk (rGo mk tx (rBegin r) n) aw (hok n (Nat.le_refl n) hall)) (cs4_59 zC ⟨(Nat.le_of_ble_eq_true rfl), (Nat.le_of_ble_eq_true rfl)⟩) (.tail _ wRd_mem) rfl rfl rfl (Nat.le_of_ble_eq_true rfl) (pm fun cp_q => by simp only [cp_o, List.countP_append, List.countP_nil] <;> omega) (fun u => (pm fun cp_q => by simp only [cp_o, List.countP_append, List.countP_nil] <;> omega)) ⟨(Nat.le_of_ble_eq_true rfl), (Nat.le_of_ble_eq_true rfl)⟩ (Nat.le_of_ble_eq_true rfl) (Nat.le_of_ble_eq_true rfl) dX4_firstFault_42 (fun u_4 H locs hu_4 hz_4 h => ?_)
        refine b_zeq (b := u_4.1) (tgt := 52) zC dX4_firstFault_45 (by decide) (fun c_5 => ?_) (fun c_5 => ?_)
        · skip
          refine lv_iload_n zx zb dX4_firstFault_52 rfl (lv_at hl 2 rfl) ?_
          exact r_iret zC zQ zr zk h dX4_firstFault_53 (u := ((n : Int), u_4.2)) rfl (List.Perm.refl _) (Or.inr ⟨hall, by have e1 : rEndB (rGo mk tx (rBegin r) n) = false := (by have e0 : u_4.1 = false := c_5; rw [hu_4] at e0; exact e0); rw [hu_4]; rw [e1]; rfl⟩) (Nat.le_of_ble_eq_true rfl) (Nat.le_of_ble_eq_true rfl)
        · skip
          refine lv_iconst (v := iI (-1)) zx zb dX4_firstFault_48 rfl ?_
          refine lv_goto (tgt := 53) zx zb dX4_firstFault_49 (by decide) ?_
          exact r_iret zC zQ zr zk h dX4_firstFault_53 (u := (-1, u_4.2)) rfl (List.Perm.refl _) (Or.inr ⟨hall, by have e1 : rEndB (rGo mk tx (rBegin r) n) = true := (by have e0 : u_4.1 = true := c_5; rw [hu_4] at e0; exact e0); rw [hu_4]; rw [e1]; rfl⟩) (Nat.le_of_ble_eq_true rfl) (Nat.le_of_ble_eq_true rfl)
      · skip
        refine lv_iload zx zb dX4_firstFault_14 (lv_at hl 4 rfl) ?_
        refine lv_aload_n zx zb dX4_firstFault_16 rfl (lv_at hl 1 rfl) ?_
        refine a_len zC h 0 1 rfl rfl (200) rfl dX4_firstFault_17 ?_
        refine i_cge (a := (k : Int)) (b := 200) (tgt := 41) zC dX4_firstFault_18 (by decide) (by omega) (fun c_6 => absurd c_6 (by omega)) (fun c_6 => ?_)
        refine lv_aload_n zx zb dX4_firstFault_21 rfl (lv_at hl 0 rfl) ?_
        refine lv_aload_n zx zb dX4_firstFault_22 rfl (lv_at hl 1 rfl) ?_
        refine lv_iload zx zb dX4_firstFault_23 (lv_at hl 4 rfl) ?_
        refine a_cld zC h 0 rfl (z := (k : Int)) k (by omega) (by omega) (by decide) dX4_firstFault_25 ?_
        refine r_invV (As := [.int (iI (tx k))]) (rest := []) (wr := [(ta, cC g 200 tx)]) (ws2 := fun u_7 => (ta, cC g 200 tx) :: (wRd g a q mk u_7.2 aw)) 0 0 zC h hl.1 (c_X4_takes l D g a q mk (rGo mk tx (rBegin r) k) aw (tx k) (ht k (by omega)) (hok k (by omega) hall)) (cs4_55 zC ⟨(Nat.le_of_ble_eq_true rfl), (Nat.le_of_ble_eq_true rfl)⟩) (.tail _ wRd_mem) rfl rfl rfl (Nat.le_of_ble_eq_true rfl) (pm fun cp_q => by simp only [cp_o, List.countP_append, List.countP_nil] <;> omega) (fun u => pm fun cp_q => by simp only [cp_o, List.countP_append, List.countP_nil] <;> omega) ⟨(Nat.le_of_ble_eq_true rfl), (Nat.le_of_ble_eq_true rfl)⟩ (Nat.le_of_ble_eq_true rfl) (Nat.le_of_ble_eq_true rfl) dX4_firstFault_26 (fun u_7 H locs hu_7 hz_7 h => ?_)
        have e_u : u_7.2 = rGo mk tx (rBegin r) (k + 1) := by rw [hu_7]; rfl
        rw [e_u] at h
        have e_b : (rTakes mk (tx k) (rGo mk tx (rBegin r) k)).1 = u_7.1 := by rw [hu_7]
        refine b_zne (b := u_7.1) (tgt := 35) zC dX4_firstFault_29 (by decide) (fun c_8 => ?_) (fun c_8 => ?_)
        · skip
          refine i_inc (q := 4) (a := (k : Int)) (lv' := [(4, .int (iI ((k : Int) + 1))), (0, .ref (a 0)), (1, .ref ta), (2, .int (iI (n : Int))), (3, .int (iI (bZ mk)))]) zC hl dX4_firstFault_35 rfl (by decide) rfl (fun ls hl => ?_)
          refine lv_goto (tgt := 8) zx zb dX4_firstFault_38 (by decide) ?_
          exact ih (k + 1) _ _ _ (by omega) (by omega) (fun j hj => by by_cases e : j = k; (· subst e; rw [e_b]; exact c_8); (· exact hall j (by omega))) h (lv_sub hl [1, 2, 3, 4, 0] rfl)
        · skip
          refine lv_iload zx zb dX4_firstFault_32 (lv_at hl 4 rfl) ?_
          exact r_iret zC zQ zr zk h dX4_firstFault_34 (u := ((k : Int), rGo mk tx (rBegin r) (k + 1))) rfl (List.Perm.refl _) (Or.inl ⟨k, by omega, hall, by rw [e_b]; exact c_8, rfl⟩) (Nat.le_of_ble_eq_true rfl) (Nat.le_of_ble_eq_true rfl)
  exact L8_2 _ 0 _ _ _ (Nat.lt_succ_self _) (by omega) (fun j hj => absurd hj (Nat.not_lt_zero _)) h (lv_sub hl [1, 2, 3, 4, 0] rfl)
