/-! WHETHER A TEXT IS TRUE: what each sign does to the question's steps -/
def pS (R R' : RS) (x : Int) : Prop := R'.ST = up R.ST R.sc x ∧ R'.sc = R.sc + 1 ∧ R'.TF = R.TF ∧ R'.TR = R.TR ∧ R'.TN = R.TN ∧ R'.tc = R.tc
def pQ (R R' : RS) : Prop := R'.ST = R.ST ∧ R'.sc = R.sc ∧ R'.TF = R.TF ∧ R'.TR = R.TR ∧ R'.TN = R.TN ∧ R'.tc = R.tc
theorem pS_j {Vv : Nat → Nat → Int} {row : Nat} {R R' : RS} {x : Int} (h : pS R R' x) (hq : QI R) (hx : x = 1 ∨ x = 2 ∨ x = 3 ∨ x = 4) : QI R' ∧ ∃ b, jL Vv row R' = jstep x b (jL Vv row R) := j_step hq hx h.1 h.2.1 h.2.2.1 h.2.2.2.1 h.2.2.2.2.1 h.2.2.2.2.2
theorem pQ_j {Vv : Nat → Nat → Int} {row : Nat} {R R' : RS} (h : pQ R R') (hq : QI R) : QI R' ∧ jL Vv row R' = jL Vv row R := by
  obtain ⟨h1, h2, h3, h4, h5, h6⟩ := h
  unfold QI jL
  rw [h1, h2, h3, h4, h5, h6]
  exact ⟨hq, rfl⟩
theorem pQ_t {A B C : RS} (h : pQ A B) (h2 : pQ B C) : pQ A C := ⟨h2.1.trans h.1, h2.2.1.trans h.2.1, h2.2.2.1.trans h.2.2.1, h2.2.2.2.1.trans h.2.2.2.1, h2.2.2.2.2.1.trans h.2.2.2.2.1, h2.2.2.2.2.2.trans h.2.2.2.2.2⟩
theorem p_turn {R : RS} (h : ¬ 20 ≤ R.ne) : pS R (rTurn R).2 1 := by
  obtain ⟨st, ne, tu, nu, fg, rl, fd, op, TB, ST, TF, TR, TN, sc, tc, fl, tl, tf⟩ := R
  try dsimp only [RS.st, RS.ne, RS.tu, RS.nu, RS.fg, RS.rl, RS.fd, RS.op, RS.TB, RS.ST, RS.TF, RS.TR, RS.TN, RS.sc, RS.tc, RS.fl, RS.tl, RS.tf] at *
  unfold rTurn
  dsimp only
  rw [if_neg h]
  refine ⟨?_, ?_, ?_, ?_, ?_, ?_⟩
  · show up ST sc 1 = up ST sc 1; rfl
  · show sc + 1 = sc + 1; rfl
  · show TF = TF; rfl
  · show TR = TR; rfl
  · show TN = TN; rfl
  · show tc = tc; rfl
theorem p_open {R : RS} (h : ¬ 20 ≤ R.ne) : pS R (rOpen R).2 2 := by
  obtain ⟨st, ne, tu, nu, fg, rl, fd, op, TB, ST, TF, TR, TN, sc, tc, fl, tl, tf⟩ := R
  try dsimp only [RS.st, RS.ne, RS.tu, RS.nu, RS.fg, RS.rl, RS.fd, RS.op, RS.TB, RS.ST, RS.TF, RS.TR, RS.TN, RS.sc, RS.tc, RS.fl, RS.tl, RS.tf] at *
  unfold rOpen
  dsimp only
  rw [if_neg h]
  refine ⟨?_, ?_, ?_, ?_, ?_, ?_⟩
  · show up ST sc 2 = up ST sc 2; rfl
  · show sc + 1 = sc + 1; rfl
  · show TF = TF; rfl
  · show TR = TR; rfl
  · show TN = TN; rfl
  · show tc = tc; rfl
theorem p_close {R : RS} (h : ¬ R.op = 0) : pS R (rClose R).2 3 := by
  obtain ⟨st, ne, tu, nu, fg, rl, fd, op, TB, ST, TF, TR, TN, sc, tc, fl, tl, tf⟩ := R
  try dsimp only [RS.st, RS.ne, RS.tu, RS.nu, RS.fg, RS.rl, RS.fd, RS.op, RS.TB, RS.ST, RS.TF, RS.TR, RS.TN, RS.sc, RS.tc, RS.fl, RS.tl, RS.tf] at *
  unfold rClose rEndTest
  dsimp only
  rw [if_neg h]
  refine ⟨?_, ?_, ?_, ?_, ?_, ?_⟩
  · show up ST sc 3 = up ST sc 3; rfl
  · show sc + 1 = sc + 1; rfl
  · show TF = TF; rfl
  · show TR = TR; rfl
  · show TN = TN; rfl
  · show tc = tc; rfl
theorem p_bar {R : RS} {c : Int} (h : c = 124) : pS R (rNext c R) 4 := by
  obtain ⟨st, ne, tu, nu, fg, rl, fd, op, TB, ST, TF, TR, TN, sc, tc, fl, tl, tf⟩ := R
  try dsimp only [RS.st, RS.ne, RS.tu, RS.nu, RS.fg, RS.rl, RS.fd, RS.op, RS.TB, RS.ST, RS.TF, RS.TR, RS.TN, RS.sc, RS.tc, RS.fl, RS.tl, RS.tf] at *
  unfold rNext
  dsimp only
  rw [if_pos h]
  refine ⟨?_, ?_, ?_, ?_, ?_, ?_⟩
  · show up ST sc 4 = up ST sc 4; rfl
  · show sc + 1 = sc + 1; rfl
  · show TF = TF; rfl
  · show TR = TR; rfl
  · show TN = TN; rfl
  · show tc = tc; rfl
theorem p_and {R : RS} {c : Int} (h : ¬ c = 124) : pQ R (rNext c R) := by
  obtain ⟨st, ne, tu, nu, fg, rl, fd, op, TB, ST, TF, TR, TN, sc, tc, fl, tl, tf⟩ := R
  try dsimp only [RS.st, RS.ne, RS.tu, RS.nu, RS.fg, RS.rl, RS.fd, RS.op, RS.TB, RS.ST, RS.TF, RS.TR, RS.TN, RS.sc, RS.tc, RS.fl, RS.tl, RS.tf] at *
  unfold rNext
  dsimp only
  rw [if_neg h]
  refine ⟨?_, ?_, ?_, ?_, ?_, ?_⟩
  · show ST = ST; rfl
  · show sc = sc; rfl
  · show TF = TF; rfl
  · show TR = TR; rfl
  · show TN = TN; rfl
  · show tc = tc; rfl
theorem p_tf {R : RS} {mk : Nat → Bool} {c : Int} (h : opn mk c = true ∧ R.tc < 40) : pQ R (rTestField mk c R).2 := by
  obtain ⟨st, ne, tu, nu, fg, rl, fd, op, TB, ST, TF, TR, TN, sc, tc, fl, tl, tf⟩ := R
  try dsimp only [RS.st, RS.ne, RS.tu, RS.nu, RS.fg, RS.rl, RS.fd, RS.op, RS.TB, RS.ST, RS.TF, RS.TR, RS.TN, RS.sc, RS.tc, RS.fl, RS.tl, RS.tf] at *
  unfold rTestField
  dsimp only
  rw [if_pos h]
  refine ⟨?_, ?_, ?_, ?_, ?_, ?_⟩
  · show ST = ST; rfl
  · show sc = sc; rfl
  · show TF = TF; rfl
  · show TR = TR; rfl
  · show TN = TN; rfl
  · show tc = tc; rfl
theorem p_rel {R : RS} {c : Int} (h : c = 61 ∨ c = 60 ∨ c = 62) : pQ R (rRelation c R).2 := by
  obtain ⟨st, ne, tu, nu, fg, rl, fd, op, TB, ST, TF, TR, TN, sc, tc, fl, tl, tf⟩ := R
  try dsimp only [RS.st, RS.ne, RS.tu, RS.nu, RS.fg, RS.rl, RS.fd, RS.op, RS.TB, RS.ST, RS.TF, RS.TR, RS.TN, RS.sc, RS.tc, RS.fl, RS.tl, RS.tf] at *
  unfold rRelation
  dsimp only
  rw [if_pos h]
  refine ⟨?_, ?_, ?_, ?_, ?_, ?_⟩
  · show ST = ST; rfl
  · show sc = sc; rfl
  · show TF = TF; rfl
  · show TR = TR; rfl
  · show TN = TN; rfl
  · show tc = tc; rfl
theorem p_fig {R : RS} {c : Int} (h : 48 ≤ c ∧ c ≤ 57 ∧ R.fg < 5) : pQ R (rFigure c R).2 := by
  obtain ⟨st, ne, tu, nu, fg, rl, fd, op, TB, ST, TF, TR, TN, sc, tc, fl, tl, tf⟩ := R
  try dsimp only [RS.st, RS.ne, RS.tu, RS.nu, RS.fg, RS.rl, RS.fd, RS.op, RS.TB, RS.ST, RS.TF, RS.TR, RS.TN, RS.sc, RS.tc, RS.fl, RS.tl, RS.tf] at *
  unfold rFigure
  dsimp only
  rw [if_pos h]
  refine ⟨?_, ?_, ?_, ?_, ?_, ?_⟩
  · show ST = ST; rfl
  · show sc = sc; rfl
  · show TF = TF; rfl
  · show TR = TR; rfl
  · show TN = TN; rfl
  · show tc = tc; rfl

def pN (R : RS) (fd : Nat) (rl nu : Int) : Prop := R.fd = fd ∧ R.rl = rl ∧ R.nu = nu
theorem n_tf {R : RS} {mk : Nat → Bool} {c : Int} (h : opn mk c = true ∧ R.tc < 40) : (rTestField mk c R).2.fd = (fOf c).toNat := by
  obtain ⟨st, ne, tu, nu, fg, rl, fd, op, TB, ST, TF, TR, TN, sc, tc, fl, tl, tf⟩ := R
  try dsimp only [RS.st, RS.ne, RS.tu, RS.nu, RS.fg, RS.rl, RS.fd, RS.op, RS.TB, RS.ST, RS.TF, RS.TR, RS.TN, RS.sc, RS.tc, RS.fl, RS.tl, RS.tf] at *
  unfold rTestField
  dsimp only
  rw [if_pos h]
theorem n_rel {R : RS} {c : Int} (h : c = 61 ∨ c = 60 ∨ c = 62) : pN (rRelation c R).2 R.fd c 0 := by
  obtain ⟨st, ne, tu, nu, fg, rl, fd, op, TB, ST, TF, TR, TN, sc, tc, fl, tl, tf⟩ := R
  try dsimp only [RS.st, RS.ne, RS.tu, RS.nu, RS.fg, RS.rl, RS.fd, RS.op, RS.TB, RS.ST, RS.TF, RS.TR, RS.TN, RS.sc, RS.tc, RS.fl, RS.tl, RS.tf] at *
  unfold rRelation
  dsimp only
  rw [if_pos h]
  refine ⟨?_, ?_, ?_⟩
  · show fd = fd; rfl
  · show c = c; rfl
  · show (0 : Int) = 0; rfl
theorem n_fig {R : RS} {c : Int} (h : 48 ≤ c ∧ c ≤ 57 ∧ R.fg < 5) : pN (rFigure c R).2 R.fd R.rl (R.nu * 10 + (c - 48)) := by
  obtain ⟨st, ne, tu, nu, fg, rl, fd, op, TB, ST, TF, TR, TN, sc, tc, fl, tl, tf⟩ := R
  try dsimp only [RS.st, RS.ne, RS.tu, RS.nu, RS.fg, RS.rl, RS.fd, RS.op, RS.TB, RS.ST, RS.TF, RS.TR, RS.TN, RS.sc, RS.tc, RS.fl, RS.tl, RS.tf] at *
  unfold rFigure
  dsimp only
  rw [if_pos h]
  refine ⟨?_, ?_, ?_⟩
  · show fd = fd; rfl
  · show rl = rl; rfl
  · show nu * 10 + (c - 48) = nu * 10 + (c - 48); rfl
theorem j_end {Vv : Nat → Nat → Int} {row : Nat} {R : RS} (hq : QI R) : QI (rEndFT R) ∧ jL Vv row (rEndFT R) = jstep 5 (tstV R.rl (Vv R.fd row) R.nu) (jL Vv row R) := by
  have := j_test (Vv := Vv) (row := row) (R := R) (R' := rEndFT R) (fd := (R.fd : Int)) (rl := R.rl) (nu := R.nu) hq
  obtain ⟨st, ne, tu, nu, fg, rl, fd, op, TB, ST, TF, TR, TN, sc, tc, fl, tl, tf⟩ := R
  try dsimp only [RS.st, RS.ne, RS.tu, RS.nu, RS.fg, RS.rl, RS.fd, RS.op, RS.TB, RS.ST, RS.TF, RS.TR, RS.TN, RS.sc, RS.tc, RS.fl, RS.tl, RS.tf] at *
  exact this (by show up ST sc 5 = up ST sc 5; rfl) (by show sc + 1 = sc + 1; rfl) (by show up TF tc (fd : Int) = up TF tc (fd : Int); rfl) (by show up TR tc rl = up TR tc rl; rfl) (by show up TN tc nu = up TN tc nu; rfl) (by show tc + 1 = tc + 1; rfl)
