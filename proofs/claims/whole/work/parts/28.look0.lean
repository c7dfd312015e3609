/-! LOOK: the reference's counters held against the reader's state -/
def bal (T : Nat → Int) : Nat → Int
  | 0 => 0
  | k + 1 => bal T k + T k
theorem bal_congr {T T' : Nat → Int} : ∀ {k : Nat}, (∀ i, i < k → T i = T' i) → bal T k = bal T' k
  | 0, _ => rfl
  | k + 1, h => by
    show bal T k + T k = bal T' k + T' k
    rw [bal_congr (k := k) (fun i hi => h i (by omega)), h k (by omega)]
theorem bal_up {T : Nat → Int} {j k : Nat} {x : Int} (h : k ≤ j) : bal (up T j x) k = bal T k := bal_congr fun i hi => up_n (by omega)
theorem bal_0 {T : Nat → Int} : ∀ {k : Nat}, (∀ i, i < k → 0 ≤ T i) → 0 ≤ bal T k
  | 0, _ => Int.le_refl 0
  | k + 1, h => by
    have h1 := bal_0 (k := k) (fun i hi => h i (by omega))
    have h2 := h k (by omega)
    show 0 ≤ bal T k + T k
    omega
def LK (lv : Nat) (dp : Int) (te : Nat) (NO : Nat → Int) (R : RS) : Prop :=
  R.op = lv ∧ R.ne = dp ∧ R.tc = te ∧ R.tu = NO lv ∧ R.tl = 0 ∧ (∀ i, i < lv → R.TB i = NO i) ∧ dp = (lv : Int) + NO lv + bal NO lv ∧ ∀ i, i ≤ lv → 0 ≤ NO i
theorem LK_R {lv te : Nat} {dp : Int} {NO : Nat → Int} {R : RS} (h : LK lv dp te NO R) : (lv : Int) + NO lv ≤ dp ∧ 0 ≤ NO lv := by
  obtain ⟨-, -, -, -, -, -, h7, h8⟩ := h
  have h1 := bal_0 (T := NO) (k := lv) (fun i hi => h8 i (by omega))
  have h2 := h8 lv (Nat.le_refl lv)
  omega
theorem l_turn {lv te : Nat} {dp : Int} {NO : Nat → Int} {R : RS} (h : LK lv dp te NO R) (hd : dp < 20) : (rTurn R).1 = true ∧ (rTurn R).2.st = 1 ∧ LK lv (dp + 1) te (up NO lv (NO lv + 1)) (rTurn R).2 := by
  obtain ⟨st, ne, tu, nu, fg, rl, fd, op, TB, ST, TF, TR, TN, sc, tc, fl, tl, tf⟩ := R
  obtain ⟨h1, h2, h3, h4, h5, h6, h7, h8⟩ := h
  dsimp only [RS.st, RS.ne, RS.tu, RS.nu, RS.fg, RS.rl, RS.fd, RS.op, RS.TB, RS.ST, RS.TF, RS.TR, RS.TN, RS.sc, RS.tc, RS.fl, RS.tl, RS.tf] at *
  unfold rTurn
  dsimp only
  rw [if_neg (by omega)]
  refine ⟨rfl, rfl, h1, ?_, h3, ?_, h5, ?_, ?_, ?_⟩
  · show ne + 1 = dp + 1; omega
  · show tu + 1 = _; rw [up_s]; omega
  · intro i hi; show TB i = _; rw [up_n (by omega)]; exact h6 i hi
  · rw [up_s, bal_up (Nat.le_refl lv)]; omega
  · intro i hi
    by_cases e : i = lv
    · subst e; rw [up_s]; have := h8 i hi; omega
    · rw [up_n e]; exact h8 i hi
theorem l_turnf {lv te : Nat} {dp : Int} {NO : Nat → Int} {R : RS} (h : LK lv dp te NO R) (hd : 20 ≤ dp) : (rTurn R).1 = false := by
  obtain ⟨st, ne, tu, nu, fg, rl, fd, op, TB, ST, TF, TR, TN, sc, tc, fl, tl, tf⟩ := R
  obtain ⟨h1, h2, h3, h4, h5, h6, h7, h8⟩ := h
  dsimp only [RS.st, RS.ne, RS.tu, RS.nu, RS.fg, RS.rl, RS.fd, RS.op, RS.TB, RS.ST, RS.TF, RS.TR, RS.TN, RS.sc, RS.tc, RS.fl, RS.tl, RS.tf] at *
  unfold rTurn
  dsimp only
  rw [if_pos (by omega)]
theorem l_open {lv te : Nat} {dp : Int} {NO : Nat → Int} {R : RS} (h : LK lv dp te NO R) (hd : dp < 20) : (rOpen R).1 = true ∧ (rOpen R).2.st = 1 ∧ LK (lv + 1) (dp + 1) te (up NO (lv + 1) 0) (rOpen R).2 := by
  obtain ⟨st, ne, tu, nu, fg, rl, fd, op, TB, ST, TF, TR, TN, sc, tc, fl, tl, tf⟩ := R
  obtain ⟨h1, h2, h3, h4, h5, h6, h7, h8⟩ := h
  dsimp only [RS.st, RS.ne, RS.tu, RS.nu, RS.fg, RS.rl, RS.fd, RS.op, RS.TB, RS.ST, RS.TF, RS.TR, RS.TN, RS.sc, RS.tc, RS.fl, RS.tl, RS.tf] at *
  unfold rOpen
  dsimp only
  rw [if_neg (by omega)]
  refine ⟨rfl, rfl, ?_, ?_, h3, ?_, h5, ?_, ?_, ?_⟩
  · show op + 1 = lv + 1; omega
  · show ne + 1 = dp + 1; omega
  · show (0 : Int) = _; rw [up_s]
  · intro i hi; show up TB op tu i = _; rw [up_n (show i ≠ lv + 1 by omega), h1]
    by_cases e : i = lv
    · subst e; rw [up_s]; exact h4
    · rw [up_n e]; exact h6 i (by omega)
  · rw [up_s, bal_up (Nat.le_refl (lv + 1))]; show dp + 1 = ((lv + 1 : Nat) : Int) + 0 + (bal NO lv + NO lv); omega
  · intro i hi
    by_cases e : i = lv + 1
    · subst e; rw [up_s]; exact Int.le_refl 0
    · rw [up_n e]; exact h8 i (by omega)
theorem l_openf {lv te : Nat} {dp : Int} {NO : Nat → Int} {R : RS} (h : LK lv dp te NO R) (hd : 20 ≤ dp) : (rOpen R).1 = false := by
  obtain ⟨st, ne, tu, nu, fg, rl, fd, op, TB, ST, TF, TR, TN, sc, tc, fl, tl, tf⟩ := R
  obtain ⟨h1, h2, h3, h4, h5, h6, h7, h8⟩ := h
  dsimp only [RS.st, RS.ne, RS.tu, RS.nu, RS.fg, RS.rl, RS.fd, RS.op, RS.TB, RS.ST, RS.TF, RS.TR, RS.TN, RS.sc, RS.tc, RS.fl, RS.tl, RS.tf] at *
  unfold rOpen
  dsimp only
  rw [if_pos (by omega)]
theorem opn_t {mk : Nat → Bool} {c : Int} : opn mk c = true ↔ 0 ≤ fOf c ∧ mk (fOf c).toNat = false := by
  have := fOf_R c
  unfold opn
  constructor
  · intro q
    simp only [Bool.and_eq_true, decide_eq_true_eq, Bool.not_eq_true'] at q
    exact ⟨by omega, q.2⟩
  · intro q
    simp only [Bool.and_eq_true, decide_eq_true_eq, Bool.not_eq_true']
    exact ⟨by omega, q.2⟩
theorem l_tf {lv te : Nat} {dp : Int} {NO : Nat → Int} {R : RS} {mk : Nat → Bool} {c : Int} (h : LK lv dp te NO R) (ht : te < 40) (ho : opn mk c = true) : (rTestField mk c R).1 = true ∧ (rTestField mk c R).2.st = 2 ∧ LK lv dp te NO (rTestField mk c R).2 := by
  obtain ⟨st, ne, tu, nu, fg, rl, fd, op, TB, ST, TF, TR, TN, sc, tc, fl, tl, tf⟩ := R
  obtain ⟨h1, h2, h3, h4, h5, h6, h7, h8⟩ := h
  dsimp only [RS.st, RS.ne, RS.tu, RS.nu, RS.fg, RS.rl, RS.fd, RS.op, RS.TB, RS.ST, RS.TF, RS.TR, RS.TN, RS.sc, RS.tc, RS.fl, RS.tl, RS.tf] at *
  unfold rTestField
  dsimp only
  rw [if_pos ⟨ho, by omega⟩]
  exact ⟨rfl, rfl, h1, h2, h3, h4, h5, h6, h7, h8⟩
theorem l_tff {lv te : Nat} {dp : Int} {NO : Nat → Int} {R : RS} {mk : Nat → Bool} {c : Int} (h : LK lv dp te NO R) (ho : ¬ (opn mk c = true ∧ te < 40)) : (rTestField mk c R).1 = false := by
  obtain ⟨st, ne, tu, nu, fg, rl, fd, op, TB, ST, TF, TR, TN, sc, tc, fl, tl, tf⟩ := R
  obtain ⟨h1, h2, h3, h4, h5, h6, h7, h8⟩ := h
  dsimp only [RS.st, RS.ne, RS.tu, RS.nu, RS.fg, RS.rl, RS.fd, RS.op, RS.TB, RS.ST, RS.TF, RS.TR, RS.TN, RS.sc, RS.tc, RS.fl, RS.tl, RS.tf] at *
  unfold rTestField
  dsimp only
  rw [if_neg (by rw [h3]; exact ho)]
theorem l_rel {lv te : Nat} {dp : Int} {NO : Nat → Int} {R : RS} {c : Int} (h : LK lv dp te NO R) (ho : c = 61 ∨ c = 60 ∨ c = 62) : (rRelation c R).1 = true ∧ (rRelation c R).2.st = 3 ∧ (rRelation c R).2.fg = 0 ∧ LK lv dp te NO (rRelation c R).2 := by
  obtain ⟨st, ne, tu, nu, fg, rl, fd, op, TB, ST, TF, TR, TN, sc, tc, fl, tl, tf⟩ := R
  obtain ⟨h1, h2, h3, h4, h5, h6, h7, h8⟩ := h
  dsimp only [RS.st, RS.ne, RS.tu, RS.nu, RS.fg, RS.rl, RS.fd, RS.op, RS.TB, RS.ST, RS.TF, RS.TR, RS.TN, RS.sc, RS.tc, RS.fl, RS.tl, RS.tf] at *
  unfold rRelation
  dsimp only
  rw [if_pos ho]
  exact ⟨rfl, rfl, rfl, h1, h2, h3, h4, h5, h6, h7, h8⟩
theorem l_relf {R : RS} {c : Int} (ho : ¬ (c = 61 ∨ c = 60 ∨ c = 62)) : (rRelation c R).1 = false := by
  obtain ⟨st, ne, tu, nu, fg, rl, fd, op, TB, ST, TF, TR, TN, sc, tc, fl, tl, tf⟩ := R
  unfold rRelation
  dsimp only
  rw [if_neg ho]
theorem l_fig {lv te : Nat} {dp : Int} {NO : Nat → Int} {R : RS} {c : Int} (h : LK lv dp te NO R) (ho : 48 ≤ c ∧ c ≤ 57 ∧ R.fg < 5) : (rFigure c R).1 = true ∧ (rFigure c R).2.st = 4 ∧ (rFigure c R).2.fg = R.fg + 1 ∧ LK lv dp te NO (rFigure c R).2 := by
  obtain ⟨st, ne, tu, nu, fg, rl, fd, op, TB, ST, TF, TR, TN, sc, tc, fl, tl, tf⟩ := R
  obtain ⟨h1, h2, h3, h4, h5, h6, h7, h8⟩ := h
  dsimp only [RS.st, RS.ne, RS.tu, RS.nu, RS.fg, RS.rl, RS.fd, RS.op, RS.TB, RS.ST, RS.TF, RS.TR, RS.TN, RS.sc, RS.tc, RS.fl, RS.tl, RS.tf] at *
  unfold rFigure
  dsimp only
  rw [if_pos ho]
  exact ⟨rfl, rfl, rfl, h1, h2, h3, h4, h5, h6, h7, h8⟩
theorem l_figf {R : RS} {c : Int} (ho : ¬ (48 ≤ c ∧ c ≤ 57 ∧ R.fg < 5)) : rFigure c R = (false, R) := by
  obtain ⟨st, ne, tu, nu, fg, rl, fd, op, TB, ST, TF, TR, TN, sc, tc, fl, tl, tf⟩ := R
  unfold rFigure
  dsimp only at *
  rw [if_neg ho]
theorem l_end {lv te : Nat} {dp : Int} {NO : Nat → Int} {R : RS} (h : LK lv dp te NO R) : (rEndFT R).st = 5 ∧ LK lv (dp - NO lv) (te + 1) (up NO lv 0) (rEndFT R) := by
  obtain ⟨st, ne, tu, nu, fg, rl, fd, op, TB, ST, TF, TR, TN, sc, tc, fl, tl, tf⟩ := R
  obtain ⟨h1, h2, h3, h4, h5, h6, h7, h8⟩ := h
  dsimp only [RS.st, RS.ne, RS.tu, RS.nu, RS.fg, RS.rl, RS.fd, RS.op, RS.TB, RS.ST, RS.TF, RS.TR, RS.TN, RS.sc, RS.tc, RS.fl, RS.tl, RS.tf] at *
  unfold rEndFT rEndTest
  dsimp only
  refine ⟨rfl, h1, ?_, ?_, ?_, h5, ?_, ?_, ?_⟩
  · show ne - tu = dp - NO lv; omega
  · show tc + 1 = te + 1; omega
  · show (0 : Int) = _; rw [up_s]
  · intro i hi; show TB i = _; rw [up_n (by omega)]; exact h6 i hi
  · rw [up_s, bal_up (Nat.le_refl lv)]; omega
  · intro i hi
    by_cases e : i = lv
    · subst e; rw [up_s]; exact Int.le_refl 0
    · rw [up_n e]; exact h8 i hi
theorem l_close {lv te : Nat} {dp : Int} {NO : Nat → Int} {R : RS} (h : LK lv dp te NO R) (h0 : 0 < lv) (hz : NO lv = 0) : (rClose R).1 = true ∧ (rClose R).2.st = 5 ∧ LK (lv - 1) (dp - 1 - NO (lv - 1)) te (up NO (lv - 1) 0) (rClose R).2 := by
  obtain ⟨st, ne, tu, nu, fg, rl, fd, op, TB, ST, TF, TR, TN, sc, tc, fl, tl, tf⟩ := R
  obtain ⟨h1, h2, h3, h4, h5, h6, h7, h8⟩ := h
  dsimp only [RS.st, RS.ne, RS.tu, RS.nu, RS.fg, RS.rl, RS.fd, RS.op, RS.TB, RS.ST, RS.TF, RS.TR, RS.TN, RS.sc, RS.tc, RS.fl, RS.tl, RS.tf] at *
  unfold rClose rEndTest
  dsimp only
  rw [if_neg (by omega)]
  have e : bal NO lv = bal NO (lv - 1) + NO (lv - 1) := by
    obtain ⟨k, rfl⟩ := Nat.exists_eq_succ_of_ne_zero (show lv ≠ 0 by omega)
    rfl
  have e2 : TB (op - 1) = NO (lv - 1) := by rw [h1]; exact h6 (lv - 1) (by omega)
  refine ⟨rfl, rfl, ?_, ?_, h3, ?_, h5, ?_, ?_, ?_⟩
  · show op - 1 = lv - 1; omega
  · show ne - 1 - TB (op - 1) = dp - 1 - NO (lv - 1); omega
  · show (0 : Int) = _; rw [up_s]
  · intro i hi; show TB i = _; rw [up_n (by omega)]; exact h6 i (by omega)
  · rw [up_s, bal_up (Nat.le_refl (lv - 1))]; omega
  · intro i hi
    by_cases e : i = lv - 1
    · subst e; rw [up_s]; exact Int.le_refl 0
    · rw [up_n e]; exact h8 i (by omega)
theorem l_closef {R : RS} (h : R.op = 0) : (rClose R).1 = false := by
  obtain ⟨st, ne, tu, nu, fg, rl, fd, op, TB, ST, TF, TR, TN, sc, tc, fl, tl, tf⟩ := R
  dsimp only [RS.op] at h
  unfold rClose
  dsimp only
  rw [if_pos h]
theorem l_next {lv te : Nat} {dp : Int} {NO : Nat → Int} {R : RS} {c : Int} (h : LK lv dp te NO R) : (rNext c R).st = 1 ∧ LK lv dp te NO (rNext c R) := by
  obtain ⟨st, ne, tu, nu, fg, rl, fd, op, TB, ST, TF, TR, TN, sc, tc, fl, tl, tf⟩ := R
  obtain ⟨h1, h2, h3, h4, h5, h6, h7, h8⟩ := h
  dsimp only [RS.st, RS.ne, RS.tu, RS.nu, RS.fg, RS.rl, RS.fd, RS.op, RS.TB, RS.ST, RS.TF, RS.TR, RS.TN, RS.sc, RS.tc, RS.fl, RS.tl, RS.tf] at *
  unfold rNext
  dsimp only
  split
  · exact ⟨rfl, h1, h2, h3, h4, h5, h6, h7, h8⟩
  · exact ⟨rfl, h1, h2, h3, h4, h5, h6, h7, h8⟩
theorem l_tail {R : RS} {c : Int} (h : tOf c ≠ 0) : (rTail c R).1 = true ∧ (rTail c R).2.st = 6 ∧ (rTail c R).2.tl = (tOf c).toNat ∧ (rTail c R).2.tc = R.tc := by
  obtain ⟨st, ne, tu, nu, fg, rl, fd, op, TB, ST, TF, TR, TN, sc, tc, fl, tl, tf⟩ := R
  unfold rTail
  dsimp only
  rw [if_neg h]
  refine ⟨rfl, rfl, ?_, ?_⟩
  · show (tOf c).toNat = (tOf c).toNat; rfl
  · show tc = tc; rfl
theorem l_tailf {R : RS} {c : Int} (h : tOf c = 0) : rTail c R = (false, R) := by
  obtain ⟨st, ne, tu, nu, fg, rl, fd, op, TB, ST, TF, TR, TN, sc, tc, fl, tl, tf⟩ := R
  unfold rTail
  dsimp only
  rw [if_pos h]
theorem l_tailF {R : RS} {c : Int} {mk : Nat → Bool} (h : opn mk c = true) : (rTailField mk c R).1 = true ∧ (rTailField mk c R).2.st = 7 ∧ (rTailField mk c R).2.tl = R.tl ∧ (rTailField mk c R).2.tc = R.tc := by
  obtain ⟨st, ne, tu, nu, fg, rl, fd, op, TB, ST, TF, TR, TN, sc, tc, fl, tl, tf⟩ := R
  unfold rTailField
  dsimp only
  rw [if_pos h]
  refine ⟨rfl, rfl, ?_, ?_⟩
  · show tl = tl; rfl
  · show tc = tc; rfl
theorem l_tailFf {R : RS} {c : Int} {mk : Nat → Bool} (h : ¬ opn mk c = true) : (rTailField mk c R).1 = false := by
  obtain ⟨st, ne, tu, nu, fg, rl, fd, op, TB, ST, TF, TR, TN, sc, tc, fl, tl, tf⟩ := R
  unfold rTailField
  dsimp only
  rw [if_neg h]
/-- the question so far is the same -/
def qE (R R' : RS) : Prop := R.ST = R'.ST ∧ R.TF = R'.TF ∧ R.TR = R'.TR ∧ R.TN = R'.TN ∧ R.sc = R'.sc
theorem qE_tail {R : RS} {c : Int} : qE (rTail c R).2 R := by
  obtain ⟨st, ne, tu, nu, fg, rl, fd, op, TB, ST, TF, TR, TN, sc, tc, fl, tl, tf⟩ := R
  unfold rTail
  dsimp only
  split
  · exact ⟨rfl, rfl, rfl, rfl, rfl⟩
  · refine ⟨?_, ?_, ?_, ?_, ?_⟩
    · show ST = ST; rfl
    · show TF = TF; rfl
    · show TR = TR; rfl
    · show TN = TN; rfl
    · show sc = sc; rfl
theorem qE_tailF {R : RS} {c : Int} {mk : Nat → Bool} : qE (rTailField mk c R).2 R := by
  obtain ⟨st, ne, tu, nu, fg, rl, fd, op, TB, ST, TF, TR, TN, sc, tc, fl, tl, tf⟩ := R
  unfold rTailField
  dsimp only
  split
  · refine ⟨?_, ?_, ?_, ?_, ?_⟩
    · show ST = ST; rfl
    · show TF = TF; rfl
    · show TR = TR; rfl
    · show TN = TN; rfl
    · show sc = sc; rfl
  · exact ⟨rfl, rfl, rfl, rfl, rfl⟩
theorem qE_t {A B C : RS} (h : qE A B) (h2 : qE B C) : qE A C := ⟨h.1.trans h2.1, h.2.1.trans h2.2.1, h.2.2.1.trans h2.2.2.1, h.2.2.2.1.trans h2.2.2.2.1, h.2.2.2.2.trans h2.2.2.2.2⟩
theorem qE_r {A : RS} : qE A A := ⟨rfl, rfl, rfl, rfl, rfl⟩
/-- what is asked of a state, by its number -/
theorem k_want {R : RS} {c : Int} {mk : Nat → Bool} (h : R.st = 1 ∨ (R.st = 0 ∧ tOf c = 0)) : rTakes mk c R = rTest mk c R := by
  unfold rTakes
  rcases h with h | ⟨h, h2⟩
  · rw [if_neg (by rw [h]; decide), if_pos h]
  · rw [if_pos h, l_tailf h2]
    exact if_neg Bool.false_ne_true
theorem k_2 {R : RS} {c : Int} {mk : Nat → Bool} (h : R.st = 2) : rTakes mk c R = rRelation c R := by
  unfold rTakes; rw [if_neg (by rw [h]; decide), if_neg (by rw [h]; decide), if_pos h]
theorem k_3 {R : RS} {c : Int} {mk : Nat → Bool} (h : R.st = 3) : rTakes mk c R = rFigure c R := by
  unfold rTakes; rw [if_neg (by rw [h]; decide), if_neg (by rw [h]; decide), if_neg (by rw [h]; decide), if_pos h]
theorem k_4 {R : RS} {c : Int} {mk : Nat → Bool} (h : R.st = 4) (hf : (rFigure c R).1 = true) : rTakes mk c R = (true, (rFigure c R).2) := by
  unfold rTakes; rw [if_neg (by rw [h]; decide), if_neg (by rw [h]; decide), if_neg (by rw [h]; decide), if_neg (by rw [h]; decide), if_pos h, if_pos hf]
theorem k_beh {R : RS} {c : Int} {mk : Nat → Bool} (h : R.st = 5 ∨ (R.st = 4 ∧ ¬ (48 ≤ c ∧ c ≤ 57 ∧ R.fg < 5))) : rTakes mk c R = rBehind c (rEndS R) := by
  unfold rTakes rEndS
  rcases h with h | ⟨h, h2⟩
  · rw [if_neg (by rw [h]; decide), if_neg (by rw [h]; decide), if_neg (by rw [h]; decide), if_neg (by rw [h]; decide), if_neg (by rw [h]; decide), if_pos h, if_neg (by rw [h]; decide)]
  · rw [if_neg (by rw [h]; decide), if_neg (by rw [h]; decide), if_neg (by rw [h]; decide), if_neg (by rw [h]; decide), if_pos h, if_pos h, l_figf h2]
    exact if_neg Bool.false_ne_true
theorem k_6 {R : RS} {c : Int} {mk : Nat → Bool} (h : R.st = 6) : rTakes mk c R = rTailField mk c R := by
  unfold rTakes; rw [if_neg (by rw [h]; decide), if_neg (by rw [h]; decide), if_neg (by rw [h]; decide), if_neg (by rw [h]; decide), if_neg (by rw [h]; decide), if_neg (by rw [h]; decide), if_pos h]
theorem k_7 {R : RS} {c : Int} {mk : Nat → Bool} (h : R.st = 7) : (rTakes mk c R).1 = false := by
  unfold rTakes; rw [if_neg (by rw [h]; decide), if_neg (by rw [h]; decide), if_neg (by rw [h]; decide), if_neg (by rw [h]; decide), if_neg (by rw [h]; decide), if_neg (by rw [h]; decide), if_neg (by rw [h]; decide)]
theorem e_not4 {R : RS} (h : R.st ≠ 4) : rEndS R = R := by unfold rEndS; rw [if_neg h]
theorem e_4 {R : RS} (h : R.st = 4) : rEndS R = rEndFT R := by unfold rEndS; rw [if_pos h]
