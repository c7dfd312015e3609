/-! MASKS, AND THE LETTERS THAT STAND IN A TEXT -/
def noM : Nat → Bool := fun _ => false
def pnd (R : RS) (f : Nat) : Prop := R.fl f = true ∨ ((R.st = 2 ∨ R.st = 3 ∨ R.st = 4) ∧ R.fd = f)
def pk (mk : Nat → Bool) (c : Int) (R R' : RS) : Prop := (∀ f, pnd R f → pnd R' f) ∧ ∀ f, pnd R' f → pnd R f ∨ (opn mk c = true ∧ f = (fOf c).toNat)
section MASK
variable {mk mk' : Nat → Bool} {c : Int} {R R' : RS}
theorem bAdd1_t {fl : Nat → Bool} {k i : Nat} : bAdd1 fl k i = true ↔ fl i = true ∨ k = i := by
  show (fl i || i == k) = true ↔ _
  rw [Bool.or_eq_true, beq_iff_eq]
  constructor
  · rintro (h | h); exact Or.inl h; exact Or.inr h.symm
  · rintro (h | h); exact Or.inl h; exact Or.inr h.symm
theorem pk_same (h1 : R'.fl = R.fl) (h : ¬ (R.st = 2 ∨ R.st = 3 ∨ R.st = 4)) (h' : ¬ (R'.st = 2 ∨ R'.st = 3 ∨ R'.st = 4)) : pk mk c R R' :=
  ⟨fun f hf => Or.inl (by rw [h1]; exact hf.resolve_right (fun q => h q.1)), fun f hf => Or.inl (Or.inl (by rw [← h1]; exact hf.resolve_right (fun q => h' q.1)))⟩
theorem pk_fd (h1 : R'.fl = R.fl) (h2 : R'.fd = R.fd) (h : R.st = 2 ∨ R.st = 3 ∨ R.st = 4) (h' : R'.st = 2 ∨ R'.st = 3 ∨ R'.st = 4) : pk mk c R R' :=
  ⟨fun f hf => by unfold pnd; rw [h1, h2]; exact hf.imp id (fun q => ⟨h', q.2⟩), fun f hf => Or.inl (by unfold pnd at hf; rw [h1, h2] at hf; exact hf.imp id (fun q => ⟨h, q.2⟩))⟩
theorem pk_turn (h : ¬ (R.st = 2 ∨ R.st = 3 ∨ R.st = 4)) (ht : (rTurn R).1 = true) : pk mk c R (rTurn R).2 := by
  obtain ⟨st, ne, tu, nu, fg, rl, fd, op, TB, ST, TF, TR, TN, sc, tc, fl, tl, tf⟩ := R
  unfold rTurn at ht ⊢
  dsimp only at ht ⊢
  by_cases q : 20 ≤ ne
  · rw [if_pos q] at ht; exact absurd ht Bool.false_ne_true
  · rw [if_neg q]; refine pk_same ?_ h ?_; show fl = fl; rfl; show ¬ ((1 : Int) = 2 ∨ (1 : Int) = 3 ∨ (1 : Int) = 4); decide
theorem pk_open (h : ¬ (R.st = 2 ∨ R.st = 3 ∨ R.st = 4)) (ht : (rOpen R).1 = true) : pk mk c R (rOpen R).2 := by
  obtain ⟨st, ne, tu, nu, fg, rl, fd, op, TB, ST, TF, TR, TN, sc, tc, fl, tl, tf⟩ := R
  unfold rOpen at ht ⊢
  dsimp only at ht ⊢
  by_cases q : 20 ≤ ne
  · rw [if_pos q] at ht; exact absurd ht Bool.false_ne_true
  · rw [if_neg q]; refine pk_same ?_ h ?_; show fl = fl; rfl; show ¬ ((1 : Int) = 2 ∨ (1 : Int) = 3 ∨ (1 : Int) = 4); decide
theorem pk_close (h : ¬ (R.st = 2 ∨ R.st = 3 ∨ R.st = 4)) (ht : (rClose R).1 = true) : pk mk c R (rClose R).2 := by
  obtain ⟨st, ne, tu, nu, fg, rl, fd, op, TB, ST, TF, TR, TN, sc, tc, fl, tl, tf⟩ := R
  unfold rClose at ht ⊢
  dsimp only at ht ⊢
  by_cases q : op = 0
  · rw [if_pos q] at ht; exact absurd ht Bool.false_ne_true
  · rw [if_neg q]; refine pk_same ?_ h ?_; show fl = fl; rfl; show ¬ ((5 : Int) = 2 ∨ (5 : Int) = 3 ∨ (5 : Int) = 4); decide
theorem pk_next (h : ¬ (R.st = 2 ∨ R.st = 3 ∨ R.st = 4)) : pk mk c R (rNext c R) := by
  obtain ⟨st, ne, tu, nu, fg, rl, fd, op, TB, ST, TF, TR, TN, sc, tc, fl, tl, tf⟩ := R
  unfold rNext
  dsimp only
  by_cases q : c = 124
  · rw [if_pos q]; refine pk_same ?_ h ?_; show fl = fl; rfl; show ¬ ((1 : Int) = 2 ∨ (1 : Int) = 3 ∨ (1 : Int) = 4); decide
  · rw [if_neg q]; refine pk_same ?_ h ?_; show fl = fl; rfl; show ¬ ((1 : Int) = 2 ∨ (1 : Int) = 3 ∨ (1 : Int) = 4); decide
theorem pk_tail (h : ¬ (R.st = 2 ∨ R.st = 3 ∨ R.st = 4)) (ht : (rTail c R).1 = true) : pk mk c R (rTail c R).2 := by
  obtain ⟨st, ne, tu, nu, fg, rl, fd, op, TB, ST, TF, TR, TN, sc, tc, fl, tl, tf⟩ := R
  unfold rTail at ht ⊢
  dsimp only at ht ⊢
  by_cases q : tOf c = 0
  · rw [if_pos q] at ht; exact absurd ht Bool.false_ne_true
  · rw [if_neg q]; refine pk_same ?_ h ?_; show fl = fl; rfl; show ¬ ((6 : Int) = 2 ∨ (6 : Int) = 3 ∨ (6 : Int) = 4); decide
theorem pk_rel (h : R.st = 2) (ht : (rRelation c R).1 = true) : pk mk c R (rRelation c R).2 := by
  obtain ⟨st, ne, tu, nu, fg, rl, fd, op, TB, ST, TF, TR, TN, sc, tc, fl, tl, tf⟩ := R
  unfold rRelation at ht ⊢
  dsimp only at ht ⊢
  by_cases q : c = 61 ∨ c = 60 ∨ c = 62
  · rw [if_pos q]; refine pk_fd ?_ ?_ (Or.inl h) ?_; show fl = fl; rfl; show fd = fd; rfl; exact Or.inr (Or.inl rfl)
  · rw [if_neg q] at ht; exact absurd ht Bool.false_ne_true
theorem pk_fig (h : R.st = 3 ∨ R.st = 4) (ht : (rFigure c R).1 = true) : pk mk c R (rFigure c R).2 := by
  obtain ⟨st, ne, tu, nu, fg, rl, fd, op, TB, ST, TF, TR, TN, sc, tc, fl, tl, tf⟩ := R
  unfold rFigure at ht ⊢
  dsimp only at ht ⊢
  by_cases q : 48 ≤ c ∧ c ≤ 57 ∧ fg < 5
  · rw [if_pos q]; refine pk_fd ?_ ?_ (Or.inr h) ?_; show fl = fl; rfl; show fd = fd; rfl; exact Or.inr (Or.inr rfl)
  · rw [if_neg q] at ht; exact absurd ht Bool.false_ne_true
theorem pk_testF (h : ¬ (R.st = 2 ∨ R.st = 3 ∨ R.st = 4)) (ht : (rTestField mk c R).1 = true) : pk mk c R (rTestField mk c R).2 ∧ pnd (rTestField mk c R).2 (fOf c).toNat := by
  obtain ⟨st, ne, tu, nu, fg, rl, fd, op, TB, ST, TF, TR, TN, sc, tc, fl, tl, tf⟩ := R
  unfold rTestField at ht ⊢
  dsimp only at ht ⊢
  by_cases q : opn mk c = true ∧ tc < 40
  · rw [if_pos q]
    refine ⟨⟨fun f hf => Or.inl (hf.resolve_right (fun z => h z.1)), fun f hf => ?_⟩, Or.inr ⟨Or.inl rfl, rfl⟩⟩
    rcases hf with w | ⟨-, w⟩
    · exact Or.inl (Or.inl w)
    · exact Or.inr ⟨q.1, w.symm⟩
  · rw [if_neg q] at ht; exact absurd ht Bool.false_ne_true
theorem pk_tailF (h : R.st = 6) (ht : (rTailField mk c R).1 = true) : pk mk c R (rTailField mk c R).2 ∧ pnd (rTailField mk c R).2 (fOf c).toNat ∧ (rTailField mk c R).2.tf = (fOf c).toNat := by
  obtain ⟨st, ne, tu, nu, fg, rl, fd, op, TB, ST, TF, TR, TN, sc, tc, fl, tl, tf⟩ := R
  unfold rTailField at ht ⊢
  dsimp only at ht ⊢
  have h : st = 6 := h
  by_cases q : opn mk c = true
  · rw [if_pos q]
    refine ⟨⟨fun f hf => ?_, fun f hf => ?_⟩, Or.inl (bAdd1_t.mpr (Or.inr rfl)), ?_⟩
    · rcases hf with w | ⟨w, -⟩
      · exact Or.inl (bAdd1_t.mpr (Or.inl w))
      · exfalso; have w2 : st = 2 ∨ st = 3 ∨ st = 4 := w; omega
    · rcases hf with w | ⟨w, -⟩
      · rcases bAdd1_t.mp w with z | z
        · exact Or.inl (Or.inl z)
        · exact Or.inr ⟨q, z.symm⟩
      · exfalso; have w2 : (7 : Int) = 2 ∨ (7 : Int) = 3 ∨ (7 : Int) = 4 := w; omega
    · show (fOf c).toNat = (fOf c).toNat; rfl
  · rw [if_neg q] at ht; exact absurd ht Bool.false_ne_true
theorem pn_endFT (h : R.st = 4) (f : Nat) : pnd (rEndFT R) f ↔ pnd R f := by
  obtain ⟨st, ne, tu, nu, fg, rl, fd, op, TB, ST, TF, TR, TN, sc, tc, fl, tl, tf⟩ := R
  have h : st = 4 := h
  constructor
  · rintro (w | ⟨w, -⟩)
    · rcases bAdd1_t.mp w with z | z
      · exact Or.inl z
      · exact Or.inr ⟨Or.inr (Or.inr h), z⟩
    · exfalso; have w2 : (5 : Int) = 2 ∨ (5 : Int) = 3 ∨ (5 : Int) = 4 := w; omega
  · rintro (w | ⟨-, w⟩)
    · exact Or.inl (bAdd1_t.mpr (Or.inl w))
    · exact Or.inl (bAdd1_t.mpr (Or.inr w))
theorem pk_test (h : ¬ (R.st = 2 ∨ R.st = 3 ∨ R.st = 4)) (ht : (rTest mk c R).1 = true) : pk mk c R (rTest mk c R).2 := by
  unfold rTest at ht ⊢
  by_cases q : c = 33
  · rw [if_pos q] at ht ⊢; exact pk_turn h ht
  · rw [if_neg q] at ht ⊢
    by_cases q2 : c = 40
    · rw [if_pos q2] at ht ⊢; exact pk_open h ht
    · rw [if_neg q2] at ht ⊢; exact (pk_testF h ht).1
theorem pk_behind (h : ¬ (R.st = 2 ∨ R.st = 3 ∨ R.st = 4)) (ht : (rBehind c R).1 = true) : pk mk c R (rBehind c R).2 := by
  unfold rBehind at ht ⊢
  by_cases q : c = 41
  · rw [if_pos q] at ht ⊢; exact pk_close h ht
  · rw [if_neg q] at ht ⊢
    by_cases q2 : c = 38 ∨ c = 124
    · rw [if_pos q2]; exact pk_next h
    · rw [if_neg q2] at ht ⊢
      by_cases q3 : R.ne = 0
      · rw [if_pos q3] at ht ⊢; exact pk_tail h ht
      · rw [if_neg q3] at ht; exact absurd ht Bool.false_ne_true
theorem pk_takes (ht : (rTakes mk c R).1 = true) : pk mk c R (rTakes mk c R).2 := by
  unfold rTakes at ht ⊢
  by_cases q0 : R.st = 0
  · rw [if_pos q0] at ht ⊢
    by_cases t : (rTail c R).1 = true
    · rw [if_pos t]; exact pk_tail (by omega) t
    · rw [if_neg t] at ht ⊢
      rw [rTail_f (by simpa using t)] at ht ⊢
      exact pk_test (by omega) ht
  · rw [if_neg q0] at ht ⊢
    by_cases q1 : R.st = 1
    · rw [if_pos q1] at ht ⊢; exact pk_test (by omega) ht
    · rw [if_neg q1] at ht ⊢
      by_cases q2 : R.st = 2
      · rw [if_pos q2] at ht ⊢; exact pk_rel q2 ht
      · rw [if_neg q2] at ht ⊢
        by_cases q3 : R.st = 3
        · rw [if_pos q3] at ht ⊢; exact pk_fig (Or.inl q3) ht
        · rw [if_neg q3] at ht ⊢
          by_cases q4 : R.st = 4
          · rw [if_pos q4] at ht ⊢
            by_cases t : (rFigure c R).1 = true
            · rw [if_pos t]; exact pk_fig (Or.inr q4) t
            · rw [if_neg t] at ht ⊢
              rw [rFigure_f (by simpa using t)] at ht ⊢
              have hb := pk_behind (mk := mk) (show ¬ ((rEndFT R).st = 2 ∨ (rEndFT R).st = 3 ∨ (rEndFT R).st = 4) by rw [rEndFT_st]; decide) ht
              exact ⟨fun f hf => hb.1 f ((pn_endFT q4 f).mpr hf), fun f hf => (hb.2 f hf).imp (pn_endFT q4 f).mp id⟩
          · rw [if_neg q4] at ht ⊢
            by_cases q5 : R.st = 5
            · rw [if_pos q5] at ht ⊢; exact pk_behind (by omega) ht
            · rw [if_neg q5] at ht ⊢
              by_cases q6 : R.st = 6
              · rw [if_pos q6] at ht ⊢; exact (pk_tailF q6 ht).1
              · rw [if_neg q6] at ht; exact absurd ht Bool.false_ne_true
theorem l_tff2 (h : opn mk c = false) : (rTestField mk c R).1 = false := by
  obtain ⟨st, ne, tu, nu, fg, rl, fd, op, TB, ST, TF, TR, TN, sc, tc, fl, tl, tf⟩ := R
  unfold rTestField
  dsimp only
  rw [if_neg (fun q => by rw [h] at q; exact absurd q.1 Bool.false_ne_true)]
theorem tF_opn (h : opn mk c = opn mk' c) : rTestField mk c R = rTestField mk' c R := by
  obtain ⟨st, ne, tu, nu, fg, rl, fd, op, TB, ST, TF, TR, TN, sc, tc, fl, tl, tf⟩ := R
  unfold rTestField
  dsimp only
  rw [h]
theorem tlF_opn (h : opn mk c = opn mk' c) : rTailField mk c R = rTailField mk' c R := by
  obtain ⟨st, ne, tu, nu, fg, rl, fd, op, TB, ST, TF, TR, TN, sc, tc, fl, tl, tf⟩ := R
  unfold rTailField
  dsimp only
  rw [h]
theorem rTakes_opn (h : opn mk c = opn mk' c) : rTakes mk c R = rTakes mk' c R := by
  unfold rTakes rTest
  simp only [tF_opn h, tlF_opn h]
theorem rTest_f (h0 : opn mk c = false) (ht : (rTest mk c R).1 = true) (mk' : Nat → Bool) : rTest mk' c R = rTest mk c R := by
  unfold rTest at ht ⊢
  by_cases q : c = 33
  · rw [if_pos q, if_pos q]
  · rw [if_neg q] at ht ⊢
    by_cases q2 : c = 40
    · rw [if_pos q2, if_neg q, if_pos q2]
    · rw [if_neg q2] at ht
      rw [l_tff2 h0] at ht; exact absurd ht Bool.false_ne_true
/-- what a mask lets through, stands without masks too -/
theorem mk_none (ht : (rTakes mk c R).1 = true) : rTakes noM c R = rTakes mk c R := by
  by_cases h : opn mk c = true
  · exact rTakes_opn (by rw [h]; exact opn_t.mpr ⟨(opn_t.mp h).1, rfl⟩)
  · have h0 : opn mk c = false := by simpa using h
    unfold rTakes at ht ⊢
    by_cases q0 : R.st = 0
    · rw [if_pos q0] at ht ⊢
      rw [if_pos q0]
      by_cases t : (rTail c R).1 = true
      · rw [if_pos t, if_pos t]
      · rw [if_neg t] at ht ⊢; rw [if_neg t]; exact rTest_f h0 ht _
    · rw [if_neg q0] at ht ⊢
      rw [if_neg q0]
      by_cases q1 : R.st = 1
      · rw [if_pos q1] at ht ⊢; rw [if_pos q1]; exact rTest_f h0 ht _
      · rw [if_neg q1] at ht ⊢
        rw [if_neg q1]
        by_cases q2 : R.st = 2
        · rw [if_pos q2, if_pos q2]
        · rw [if_neg q2] at ht ⊢
          rw [if_neg q2]
          by_cases q3 : R.st = 3
          · rw [if_pos q3, if_pos q3]
          · rw [if_neg q3] at ht ⊢
            rw [if_neg q3]
            by_cases q4 : R.st = 4
            · rw [if_pos q4, if_pos q4]
            · rw [if_neg q4] at ht ⊢
              rw [if_neg q4]
              by_cases q5 : R.st = 5
              · rw [if_pos q5, if_pos q5]
              · rw [if_neg q5] at ht ⊢
                rw [if_neg q5]
                by_cases q6 : R.st = 6
                · rw [if_pos q6] at ht; rw [l_tailFf h] at ht; exact absurd ht Bool.false_ne_true
                · rw [if_neg q6] at ht; exact absurd ht Bool.false_ne_true
theorem bk_test (h : ¬ (R.st = 2 ∨ R.st = 3 ∨ R.st = 4)) (ht : (rTest noM c R).1 = true) : rTest mk c R = rTest noM c R ∨ pnd (rTest noM c R).2 (fOf c).toNat := by
  unfold rTest at ht ⊢
  by_cases q : c = 33
  · rw [if_pos q, if_pos q]; exact Or.inl rfl
  · rw [if_neg q] at ht ⊢
    rw [if_neg q]
    by_cases q2 : c = 40
    · rw [if_pos q2, if_pos q2]; exact Or.inl rfl
    · rw [if_neg q2] at ht; refine Or.inr ?_; rw [if_neg q2]; exact (pk_testF h ht).2
theorem bk_takes (ht : (rTakes noM c R).1 = true) : rTakes mk c R = rTakes noM c R ∨ pnd (rTakes noM c R).2 (fOf c).toNat := by
  unfold rTakes at ht ⊢
  by_cases q0 : R.st = 0
  · rw [if_pos q0] at ht ⊢
    rw [if_pos q0]
    by_cases t : (rTail c R).1 = true
    · rw [if_pos t, if_pos t]; exact Or.inl rfl
    · rw [if_neg t] at ht ⊢; rw [if_neg t]
      rw [rTail_f (by simpa using t)] at ht ⊢
      exact bk_test (by omega) ht
  · rw [if_neg q0] at ht ⊢
    rw [if_neg q0]
    by_cases q1 : R.st = 1
    · rw [if_pos q1] at ht ⊢; rw [if_pos q1]; exact bk_test (by omega) ht
    · rw [if_neg q1] at ht ⊢
      rw [if_neg q1]
      by_cases q2 : R.st = 2
      · rw [if_pos q2, if_pos q2]; exact Or.inl rfl
      · rw [if_neg q2] at ht ⊢
        rw [if_neg q2]
        by_cases q3 : R.st = 3
        · rw [if_pos q3, if_pos q3]; exact Or.inl rfl
        · rw [if_neg q3] at ht ⊢
          rw [if_neg q3]
          by_cases q4 : R.st = 4
          · rw [if_pos q4, if_pos q4]; exact Or.inl rfl
          · rw [if_neg q4] at ht ⊢
            rw [if_neg q4]
            by_cases q5 : R.st = 5
            · rw [if_pos q5, if_pos q5]; exact Or.inl rfl
            · rw [if_neg q5] at ht ⊢
              rw [if_neg q5]
              by_cases q6 : R.st = 6
              · rw [if_pos q6] at ht; refine Or.inr ?_; rw [if_pos q6]; exact (pk_tailF q6 ht).2.1
              · rw [if_neg q6] at ht; exact absurd ht Bool.false_ne_true
theorem pn_endS (f : Nat) : pnd (rEndS R) f ↔ pnd R f := by
  unfold rEndS
  by_cases q : R.st = 4
  · rw [if_pos q]; exact pn_endFT q f
  · rw [if_neg q]
theorem pn_fl (h : rEndB R = true) {f : Nat} (hp : pnd (rEndS R) f) : (rEndS R).fl f = true := by
  unfold rEndB at h
  have h2 := of_decide_eq_true h
  rcases hp with w | ⟨w, -⟩
  · exact w
  · omega
end MASK
section GO
variable {mk : Nat → Bool} {tx : Nat → Int} {r : RS} {n : Nat} {v : RS}
theorem g_none : ∀ {k : Nat}, rAll mk tx r k → rGo noM tx r k = rGo mk tx r k ∧ rAll noM tx r k
  | 0, _ => ⟨rfl, fun j hj => absurd hj (Nat.not_lt_zero j)⟩
  | k + 1, h => by
    have ih := g_none (k := k) (fun j hj => h j (by omega))
    have e := mk_none (h k (by omega))
    refine ⟨?_, fun j hj => ?_⟩
    · show (rTakes noM (tx k) (rGo noM tx r k)).2 = (rTakes mk (tx k) (rGo mk tx r k)).2
      rw [ih.1, e]
    · by_cases q : j = k
      · subst q; rw [ih.1, e]; exact h j (by omega)
      · exact ih.2 j (by omega)
theorem g_pn {f j : Nat} : ∀ {k : Nat}, rAll mk tx r k → j ≤ k → pnd (rGo mk tx r j) f → pnd (rGo mk tx r k) f
  | 0, _, h, hp => by have e : j = 0 := by omega
                      subst e; exact hp
  | k + 1, ha, h, hp => by
    by_cases e : j = k + 1
    · subst e; exact hp
    · exact (pk_takes (ha k (by omega))).1 f (g_pn (k := k) (fun i hi => ha i (by omega)) (by omega) hp)
theorem g_fr : ∀ {k : Nat}, rAll mk tx (rBegin r) k → ∀ f, pnd (rGo mk tx (rBegin r) k) f → f < 5 ∧ mk f = false
  | 0, _, f, hp => by
    obtain ⟨st, ne, tu, nu, fg, rl, fd, op, TB, ST, TF, TR, TN, sc, tc, fl, tl, tf⟩ := r
    rcases hp with w | ⟨w, -⟩
    · exact absurd w Bool.false_ne_true
    · have w2 : (0 : Int) = 2 ∨ (0 : Int) = 3 ∨ (0 : Int) = 4 := w
      omega
  | k + 1, ha, f, hp => by
    rcases (pk_takes (ha k (by omega))).2 f hp with w | ⟨w, e⟩
    · exact g_fr (k := k) (fun i hi => ha i (by omega)) f w
    · have h1 := opn_t.mp w
      have h2 := fOf_R (tx k)
      subst e
      exact ⟨by omega, h1.2⟩
theorem rFF_1 : rFF mk tx n r (-1, v) ↔ rAll mk tx r n ∧ rEndB (rGo mk tx r n) = true ∧ v = rEndS (rGo mk tx r n) := by
  constructor
  · rintro (⟨k, -, -, -, h⟩ | ⟨h1, h2⟩)
    · have h3 : (-1 : Int) = (k : Int) := congrArg Prod.fst h
      omega
    · have h3 : (-1 : Int) = (if rEndB (rGo mk tx r n) = true then -1 else (n : Int)) := congrArg Prod.fst h2
      have h4 : v = rEndS (rGo mk tx r n) := congrArg Prod.snd h2
      refine ⟨h1, ?_, h4⟩
      by_cases q : rEndB (rGo mk tx r n) = true
      · exact q
      · rw [if_neg q] at h3; omega
  · rintro ⟨h1, h2, h3⟩
    exact Or.inr ⟨h1, by rw [h2, h3]; rfl⟩
/-- a text has one first fault -/
theorem rFF_u {u u' : Int × RS} (h : rFF mk tx n r u) (h' : rFF mk tx n r u') : u = u' := by
  rcases h with ⟨k, h1, h2, h3, h4⟩ | ⟨h1, h4⟩
  · rcases h' with ⟨k', g1, g2, g3, g4⟩ | ⟨g1, g4⟩
    · have e : k = k' := by
        rcases Nat.lt_trichotomy k k' with q | q | q
        · exact absurd (g2 k q) (by rw [h3]; exact Bool.false_ne_true)
        · exact q
        · exact absurd (h2 k' q) (by rw [g3]; exact Bool.false_ne_true)
      subst e; rw [h4, g4]
    · exact absurd (g1 k h1) (by rw [h3]; exact Bool.false_ne_true)
  · rcases h' with ⟨k', g1, g2, g3, g4⟩ | ⟨g1, g4⟩
    · exact absurd (h1 k' g1) (by rw [g3]; exact Bool.false_ne_true)
    · rw [h4, g4]
theorem rFF_no (h : rFF mk tx n r (-1, v)) : rFF noM tx n r (-1, v) := by
  obtain ⟨h1, h2, h3⟩ := rFF_1.mp h
  have g := g_none h1
  exact rFF_1.mpr ⟨g.2, by rw [g.1]; exact h2, by rw [g.1]; exact h3⟩
theorem rFF_fl (h : rFF mk tx n (rBegin r) (-1, v)) {f : Nat} (hf : v.fl f = true) : f < 5 ∧ mk f = false := by
  obtain ⟨h1, h2, h3⟩ := rFF_1.mp h
  subst h3
  exact g_fr h1 f ((pn_endS f).mp (Or.inl hf))
theorem rFF_mk (h : rFF noM tx n r (-1, v)) (hm : ∀ f, v.fl f = true → mk f = false) : rFF mk tx n r (-1, v) := by
  obtain ⟨h1, h2, h3⟩ := rFF_1.mp h
  have key : ∀ k, k ≤ n → rGo mk tx r k = rGo noM tx r k ∧ rAll mk tx r k := by
    intro k
    induction k with
    | zero => exact fun _ => ⟨rfl, fun j hj => absurd hj (Nat.not_lt_zero j)⟩
    | succ k ih =>
      intro hk
      have ih := ih (by omega)
      have e : rTakes mk (tx k) (rGo noM tx r k) = rTakes noM (tx k) (rGo noM tx r k) := by
        rcases bk_takes (mk := mk) (h1 k (by omega)) with q | q
        · exact q
        · have p1 : pnd (rGo noM tx r n) (fOf (tx k)).toNat := g_pn (j := k + 1) h1 hk q
          have p2 := hm _ (by rw [h3]; exact pn_fl h2 ((pn_endS _).mpr p1))
          refine rTakes_opn ?_
          unfold opn
          rw [p2]
          rfl
      refine ⟨?_, fun j hj => ?_⟩
      · show (rTakes mk (tx k) (rGo mk tx r k)).2 = (rTakes noM (tx k) (rGo noM tx r k)).2
        rw [ih.1, e]
      · by_cases q : j = k
        · subst q; rw [ih.1, e]; exact h1 j (by omega)
        · exact ih.2 j (by omega)
  have g := key n (Nat.le_refl n)
  exact rFF_1.mpr ⟨g.2, by rw [g.1]; exact h2, by rw [g.1]; exact h3⟩
/-- a text's tail, as the reference looks for it and as the reader has it -/
theorem LQ_tl {te ta : Nat} (h : LQ mk tx n r (-1) te ta) : ∃ v, rFF mk tx n r (-1, v) ∧ v.tc = te ∧ LE mk tx n r ta 0 te ∧ qE v (rEndS (rGo mk tx r ta)) ∧ (v.tl : Int) = tOf (atX tx n ta) ∧
    (v.tl = 0 → atX tx n ta = 0) ∧ (v.tl ≠ 0 → (v.tf : Int) = fOf (atX tx n (ta + 1))) := by
  obtain ⟨v, hF, hq⟩ := h
  obtain ⟨h1, h2, h3, h4, h5⟩ := hq rfl
  obtain ⟨f1, f2, f3⟩ := rFF_1.mp hF
  by_cases q : v.tl = 0
  · rw [if_pos q] at h2
    have e : atX tx n ta = 0 := if_neg (by omega)
    exact ⟨v, hF, h1, h3, h4, by rw [q, e]; rfl, fun _ => e, fun z => absurd q z⟩
  · rw [if_neg q] at h2
    have hta : ta < n := by omega
    have h6 := h5 hta
    have e0 : atX tx n ta = tx ta := if_pos hta
    have e1 : atX tx n (ta + 1) = tx (ta + 1) := if_pos (by omega)
    rw [e0, e1] at h6
    have h7 := (h3.2.2.2.2.2 hta).2 rfl h6.1
    have hl := l_tail (R := rEndS (rGo mk tx r ta)) h6.1
    rw [← h7] at hl
    have hA := f1 (ta + 1) (by omega)
    have e2 : rTakes mk (tx (ta + 1)) (rGo mk tx r (ta + 1)) = rTailField mk (tx (ta + 1)) (rGo mk tx r (ta + 1)) := k_6 hl.2.1
    rw [e2] at hA
    have hP := pk_tailF (R := rGo mk tx r (ta + 1)) hl.2.1 hA
    have ho : opn mk (tx (ta + 1)) = true := by
      by_cases z : opn mk (tx (ta + 1)) = true
      · exact z
      · rw [l_tailFf z] at hA; exact absurd hA Bool.false_ne_true
    have hT := l_tailF (R := rGo mk tx r (ta + 1)) ho
    have e3 : rGo mk tx r n = (rTailField mk (tx (ta + 1)) (rGo mk tx r (ta + 1))).2 := by
      rw [← e2, ← h2]
      rfl
    have e4 : v = rGo mk tx r n := by rw [f3]; exact e_not4 (by rw [e3, hT.2.1]; decide)
    have t1 : v.tl = (tOf (tx ta)).toNat := by rw [e4, e3, hT.2.2.1]; exact hl.2.2.1
    have t2 : v.tf = (fOf (tx (ta + 1))).toNat := by rw [e4, e3]; exact hP.2.2
    have h8 := tOf_R (tx ta)
    rw [e0, e1]
    exact ⟨v, hF, h1, h3, h4, by rw [t1]; omega, fun z => absurd z q, fun _ => by rw [t2]; omega⟩
end GO
