/-! THE READER'S STATES: what holds of each; masks and the letters that stand in a text -/
theorem dJ_congr {ST ST' : Nat → Int} : ∀ {s : Nat}, (∀ i, i < s → ST i = ST' i) → dJ ST s = dJ ST' s
  | 0, _ => rfl
  | s + 1, h => by
    show (if ST s = 2 then dJ ST s + 1 else if ST s = 3 then dJ ST s - 1 else dJ ST s) = (if ST' s = 2 then dJ ST' s + 1 else if ST' s = 3 then dJ ST' s - 1 else dJ ST' s)
    rw [dJ_congr (s := s) (fun i hi => h i (by omega)), h s (by omega)]
def stJ (ST TF TR TN : Nat → Int) (s : Nat) : Prop := (ST s = 1 ∨ ST s = 2 ∨ ST s = 3 ∨ ST s = 4 ∨ ST s = 5) ∧ dJ ST s ≤ 25 ∧ (ST s = 3 → 1 ≤ dJ ST s) ∧ (ST s = 5 → tJ ST s < 40 ∧ 0 ≤ TF (tJ ST s) ∧ TF (tJ ST s) < 5 ∧ (TR (tJ ST s) = 60 ∨ TR (tJ ST s) = 61 ∨ TR (tJ ST s) = 62) ∧ R32 (TN (tJ ST s)))
def stI (ST TF TR TN : Nat → Int) (sc tc op : Nat) : Prop := tc = tJ ST sc ∧ op = dJ ST sc ∧ ∀ s, s < sc → stJ ST TF TR TN s
theorem stI_0 {ST TF TR TN : Nat → Int} : stI ST TF TR TN 0 0 0 := ⟨rfl, rfl, fun s h => absurd h (Nat.not_lt_zero s)⟩
theorem stI_s {ST TF TR TN : Nat → Int} {sc tc op : Nat} (h : stI ST TF TR TN sc tc op) {x : Int} (op' : Nat) (hx : x = 1 ∨ x = 2 ∨ x = 3 ∨ x = 4) (h3 : x = 3 → 1 ≤ op) (ho : op ≤ 25) (ho' : op' = if x = 2 then op + 1 else if x = 3 then op - 1 else op) : stI (up ST sc x) TF TR TN (sc + 1) tc op' := by
  obtain ⟨h1, h2, h4⟩ := h
  have hst : ∀ s, s ≤ sc → ∀ i, i < s → up ST sc x i = ST i := fun s hs i hi => up_n (by omega)
  have eT : ∀ s, s ≤ sc → tJ (up ST sc x) s = tJ ST s := fun s hs => tJ_congr (hst s hs)
  have eD : ∀ s, s ≤ sc → dJ (up ST sc x) s = dJ ST s := fun s hs => dJ_congr (hst s hs)
  refine ⟨?_, ?_, ?_⟩
  · show tc = (if up ST sc x sc = 5 then tJ (up ST sc x) sc + 1 else tJ (up ST sc x) sc)
    rw [up_s, if_neg (by omega), eT sc (Nat.le_refl sc)]; exact h1
  · show op' = (if up ST sc x sc = 2 then dJ (up ST sc x) sc + 1 else if up ST sc x sc = 3 then dJ (up ST sc x) sc - 1 else dJ (up ST sc x) sc)
    rw [up_s, eD sc (Nat.le_refl sc), ← h2]; exact ho'
  · intro s hs
    unfold stJ
    rw [eT s (by omega), eD s (by omega)]
    by_cases e : s = sc
    · subst e
      rw [up_s, ← h2]
      exact ⟨by omega, ho, h3, fun q => by omega⟩
    · rw [up_n e]; exact h4 s (by omega)
theorem stI_t {ST TF TR TN : Nat → Int} {sc tc op fd : Nat} {rl nu : Int} (h : stI ST TF TR TN sc tc op) (ht : tc < 40) (ho : op ≤ 25) (hf : fd < 5) (hr : rl = 60 ∨ rl = 61 ∨ rl = 62) (hn : R32 nu) : stI (up ST sc 5) (up TF tc (fd : Int)) (up TR tc rl) (up TN tc nu) (sc + 1) (tc + 1) op := by
  obtain ⟨h1, h2, h4⟩ := h
  have hst : ∀ s, s ≤ sc → ∀ i, i < s → up ST sc 5 i = ST i := fun s hs i hi => up_n (by omega)
  have eT : ∀ s, s ≤ sc → tJ (up ST sc 5) s = tJ ST s := fun s hs => tJ_congr (hst s hs)
  have eD : ∀ s, s ≤ sc → dJ (up ST sc 5) s = dJ ST s := fun s hs => dJ_congr (hst s hs)
  refine ⟨?_, ?_, ?_⟩
  · show tc + 1 = (if up ST sc 5 sc = 5 then tJ (up ST sc 5) sc + 1 else tJ (up ST sc 5) sc)
    rw [up_s, if_pos rfl, eT sc (Nat.le_refl sc), h1]
  · show op = (if up ST sc 5 sc = 2 then dJ (up ST sc 5) sc + 1 else if up ST sc 5 sc = 3 then dJ (up ST sc 5) sc - 1 else dJ (up ST sc 5) sc)
    rw [up_s, eD sc (Nat.le_refl sc), ← h2, if_neg (by decide), if_neg (by decide)]
  · intro s hs
    unfold stJ
    rw [eT s (by omega), eD s (by omega)]
    by_cases e : s = sc
    · subst e
      rw [up_s, ← h2, ← h1, up_s, up_s, up_s]
      exact ⟨Or.inr (Or.inr (Or.inr (Or.inr rfl))), ho, fun q => absurd q (by decide), fun _ => ⟨ht, by omega, by omega, hr, hn⟩⟩
    · rw [up_n e]
      have h5 := h4 s (by omega)
      refine ⟨h5.1, h5.2.1, h5.2.2.1, fun q => ?_⟩
      have h6 : tJ ST s + 1 ≤ tJ ST sc := by
        have e2 : tJ ST (s + 1) = tJ ST s + 1 := by show (if ST s = 5 then _ else _) = _; rw [if_pos q]
        rw [← e2]; exact tJ_mono (by omega)
      rw [up_n (by omega), up_n (by omega), up_n (by omega)]
      exact h5.2.2.2 q
def numI (fg nu : Int) : Prop := 0 ≤ nu ∧ ((fg = 0 ∧ nu = 0) ∨ (fg = 1 ∧ nu < 10) ∨ (fg = 2 ∧ nu < 100) ∨ (fg = 3 ∧ nu < 1000) ∨ (fg = 4 ∧ nu < 10000) ∨ (fg = 5 ∧ nu < 100000))
def sInv (k : Nat) : RS → Prop
  | (st, ne, tu, nu, fg, rl, fd, op, TB, ST, TF, TR, TN, sc, tc, fl, tl, tf) => (0 ≤ st ∧ st ≤ 7 ∧ R32 fg) ∧ (0 ≤ tu ∧ ne = (op : Int) + bal TB op + tu ∧ ne ≤ 20 ∧ ∀ i, i < op → 0 ≤ TB i) ∧
    (tc ≤ 40 ∧ (st = 2 ∨ st = 3 ∨ st = 4 → tc < 40 ∧ fd < 5) ∧ (st = 3 ∨ st = 4 → (rl = 60 ∨ rl = 61 ∨ rl = 62) ∧ numI fg nu)) ∧ (st = 0 → op = 0 ∧ tc = 0) ∧ (sc ≤ 2 * k ∧ (st = 4 → sc + 1 ≤ 2 * k) ∧ (st = 5 → tu = 0)) ∧ stI ST TF TR TN sc tc op ∧ tl ≤ 3 ∧ tf < 5
theorem sInv_mk {k : Nat} {st ne tu nu fg rl : Int} {fd op : Nat} {TB ST TF TR TN : Nat → Int} {sc tc : Nat} {fl : Nat → Bool} {tl tf : Nat} (h1 : 0 ≤ st ∧ st ≤ 7 ∧ R32 fg) (h2 : 0 ≤ tu ∧ ne = (op : Int) + bal TB op + tu ∧ ne ≤ 20 ∧ ∀ i, i < op → 0 ≤ TB i)
    (h3 : tc ≤ 40 ∧ (st = 2 ∨ st = 3 ∨ st = 4 → tc < 40 ∧ fd < 5) ∧ (st = 3 ∨ st = 4 → (rl = 60 ∨ rl = 61 ∨ rl = 62) ∧ numI fg nu)) (h4 : st = 0 → op = 0 ∧ tc = 0) (h5 : sc ≤ 2 * k ∧ (st = 4 → sc + 1 ≤ 2 * k) ∧ (st = 5 → tu = 0)) (h6 : stI ST TF TR TN sc tc op) (h7 : tl ≤ 3 ∧ tf < 5) : sInv k (st, ne, tu, nu, fg, rl, fd, op, TB, ST, TF, TR, TN, sc, tc, fl, tl, tf) := ⟨h1, h2, h3, h4, h5, h6, h7⟩
section IV
variable {k : Nat} {R : RS} {c : Int} {mk : Nat → Bool}

theorem iv_turn (h : sInv k R) (h4 : R.st ≠ 4) (ht : (rTurn R).1 = true) : sInv (k + 1) (rTurn R).2 := by
  obtain ⟨st, ne, tu, nu, fg, rl, fd, op, TB, ST, TF, TR, TN, sc, tc, fl, tl, tf⟩ := R
  obtain ⟨⟨a1, a2, a3⟩, ⟨b1, b2, b3, b4⟩, ⟨c1, c2, c3⟩, d1, ⟨e1, e2, e3⟩, s1, f1, f2⟩ := h
  dsimp only [RS.st, RS.ne, RS.tu, RS.nu, RS.fg, RS.rl, RS.fd, RS.op, RS.TB, RS.ST, RS.TF, RS.TR, RS.TN, RS.sc, RS.tc, RS.fl, RS.tl, RS.tf] at *
  have hb := bal_0 (T := TB) (k := op) b4
  unfold rTurn at ht ⊢
  dsimp only at ht ⊢
  by_cases q : 20 ≤ ne
  · rw [if_pos q] at ht; exact absurd ht Bool.false_ne_true
  · rw [if_neg q]
    exact sInv_mk ⟨by omega, by omega, a3⟩ ⟨by omega, by omega, by omega, b4⟩ ⟨c1, fun z => by omega, fun z => by omega⟩ (fun z => by omega) ⟨by omega, fun z => by omega, fun z => by omega⟩ (stI_s s1 op (Or.inl rfl) (fun z => by omega) (by omega) rfl) ⟨f1, f2⟩

theorem iv_open (h : sInv k R) (h4 : R.st ≠ 4) (ht : (rOpen R).1 = true) : sInv (k + 1) (rOpen R).2 := by
  obtain ⟨st, ne, tu, nu, fg, rl, fd, op, TB, ST, TF, TR, TN, sc, tc, fl, tl, tf⟩ := R
  obtain ⟨⟨a1, a2, a3⟩, ⟨b1, b2, b3, b4⟩, ⟨c1, c2, c3⟩, d1, ⟨e1, e2, e3⟩, s1, f1, f2⟩ := h
  dsimp only [RS.st, RS.ne, RS.tu, RS.nu, RS.fg, RS.rl, RS.fd, RS.op, RS.TB, RS.ST, RS.TF, RS.TR, RS.TN, RS.sc, RS.tc, RS.fl, RS.tl, RS.tf] at *
  have hb := bal_0 (T := TB) (k := op) b4
  unfold rOpen at ht ⊢
  dsimp only at ht ⊢
  by_cases q : 20 ≤ ne
  · rw [if_pos q] at ht; exact absurd ht Bool.false_ne_true
  · rw [if_neg q]
    have e1 : bal (up TB op tu) (op + 1) = bal TB op + tu := by
      show bal (up TB op tu) op + up TB op tu op = _
      rw [bal_up (Nat.le_refl op), up_s]
    exact sInv_mk ⟨by omega, by omega, a3⟩ ⟨by omega, by omega, by omega, fun i hi => by
      by_cases e : i = op
      · subst e; rw [up_s]; exact b1
      · rw [up_n e]; exact b4 i (by omega)⟩ ⟨c1, fun z => by omega, fun z => by omega⟩ (fun z => by omega) ⟨by omega, fun z => by omega, fun z => by omega⟩ (stI_s s1 (op + 1) (Or.inr (Or.inl rfl)) (fun z => by omega) (by omega) rfl) ⟨f1, f2⟩

theorem iv_close (h : sInv k R) (h4 : R.st = 5) (ht : (rClose R).1 = true) : sInv (k + 1) (rClose R).2 ∧ (rClose R).2.st = 5 := by
  obtain ⟨st, ne, tu, nu, fg, rl, fd, op, TB, ST, TF, TR, TN, sc, tc, fl, tl, tf⟩ := R
  obtain ⟨⟨a1, a2, a3⟩, ⟨b1, b2, b3, b4⟩, ⟨c1, c2, c3⟩, d1, ⟨e1, e2, e3⟩, s1, f1, f2⟩ := h
  dsimp only [RS.st, RS.ne, RS.tu, RS.nu, RS.fg, RS.rl, RS.fd, RS.op, RS.TB, RS.ST, RS.TF, RS.TR, RS.TN, RS.sc, RS.tc, RS.fl, RS.tl, RS.tf] at *
  have hb := bal_0 (T := TB) (k := op) b4
  unfold rClose at ht ⊢
  dsimp only at ht ⊢
  by_cases q : op = 0
  · rw [if_pos q] at ht; exact absurd ht Bool.false_ne_true
  · rw [if_neg q]
    obtain ⟨op, rfl⟩ := Nat.exists_eq_succ_of_ne_zero q
    have e1 : bal TB op.succ = bal TB op + TB op := rfl
    have e2 := b4 op (by omega)
    have e4 := e3 h4
    exact ⟨sInv_mk ⟨by omega, by omega, a3⟩ ⟨by omega, by show ne - 1 - TB op = (op : Int) + bal TB op + 0; omega, by show ne - 1 - TB op ≤ 20; omega, fun i hi => b4 i (by omega)⟩ ⟨c1, fun z => by omega, fun z => by omega⟩ (fun z => by omega) ⟨by omega, fun z => by omega, fun z => rfl⟩ (stI_s s1 op (Or.inr (Or.inr (Or.inl rfl))) (fun z => by omega) (by omega) rfl) ⟨f1, f2⟩, rfl⟩

theorem iv_testF (h : sInv k R) (h4 : R.st ≠ 4) (ht : (rTestField mk c R).1 = true) : sInv (k + 1) (rTestField mk c R).2 := by
  obtain ⟨st, ne, tu, nu, fg, rl, fd, op, TB, ST, TF, TR, TN, sc, tc, fl, tl, tf⟩ := R
  obtain ⟨⟨a1, a2, a3⟩, ⟨b1, b2, b3, b4⟩, ⟨c1, c2, c3⟩, d1, ⟨e1, e2, e3⟩, s1, f1, f2⟩ := h
  dsimp only [RS.st, RS.ne, RS.tu, RS.nu, RS.fg, RS.rl, RS.fd, RS.op, RS.TB, RS.ST, RS.TF, RS.TR, RS.TN, RS.sc, RS.tc, RS.fl, RS.tl, RS.tf] at *
  have hb := bal_0 (T := TB) (k := op) b4
  have hf := fOf_R c
  unfold rTestField at ht ⊢
  dsimp only at ht ⊢
  by_cases q : opn mk c = true ∧ tc < 40
  · rw [if_pos q]
    exact sInv_mk ⟨by omega, by omega, a3⟩ ⟨b1, b2, b3, b4⟩ ⟨c1, fun z => ⟨q.2, by omega⟩, fun z => by omega⟩ (fun z => by omega) ⟨by omega, fun z => by omega, fun z => by omega⟩ s1 ⟨f1, f2⟩
  · rw [if_neg q] at ht; exact absurd ht Bool.false_ne_true

theorem iv_rel (h : sInv k R) (h4 : R.st = 2) (ht : (rRelation c R).1 = true) : sInv (k + 1) (rRelation c R).2 := by
  obtain ⟨st, ne, tu, nu, fg, rl, fd, op, TB, ST, TF, TR, TN, sc, tc, fl, tl, tf⟩ := R
  obtain ⟨⟨a1, a2, a3⟩, ⟨b1, b2, b3, b4⟩, ⟨c1, c2, c3⟩, d1, ⟨e1, e2, e3⟩, s1, f1, f2⟩ := h
  dsimp only [RS.st, RS.ne, RS.tu, RS.nu, RS.fg, RS.rl, RS.fd, RS.op, RS.TB, RS.ST, RS.TF, RS.TR, RS.TN, RS.sc, RS.tc, RS.fl, RS.tl, RS.tf] at *
  have hb := bal_0 (T := TB) (k := op) b4
  unfold rRelation at ht ⊢
  dsimp only at ht ⊢
  by_cases q : c = 61 ∨ c = 60 ∨ c = 62
  · rw [if_pos q]
    exact sInv_mk ⟨by omega, by omega, by decide⟩ ⟨b1, b2, b3, b4⟩ ⟨c1, fun z => c2 (Or.inl h4), fun z => ⟨by omega, Int.le_refl 0, Or.inl ⟨rfl, rfl⟩⟩⟩ (fun z => by omega) ⟨by omega, fun z => by omega, fun z => by omega⟩ s1 ⟨f1, f2⟩
  · rw [if_neg q] at ht; exact absurd ht Bool.false_ne_true

theorem iv_fig (h : sInv k R) (h4 : R.st = 3 ∨ R.st = 4) (ht : (rFigure c R).1 = true) : sInv (k + 1) (rFigure c R).2 := by
  obtain ⟨st, ne, tu, nu, fg, rl, fd, op, TB, ST, TF, TR, TN, sc, tc, fl, tl, tf⟩ := R
  obtain ⟨⟨a1, a2, a3⟩, ⟨b1, b2, b3, b4⟩, ⟨c1, c2, c3⟩, d1, ⟨e1, e2, e3⟩, s1, f1, f2⟩ := h
  dsimp only [RS.st, RS.ne, RS.tu, RS.nu, RS.fg, RS.rl, RS.fd, RS.op, RS.TB, RS.ST, RS.TF, RS.TR, RS.TN, RS.sc, RS.tc, RS.fl, RS.tl, RS.tf] at *
  have hb := bal_0 (T := TB) (k := op) b4
  unfold rFigure at ht ⊢
  dsimp only at ht ⊢
  by_cases q : 48 ≤ c ∧ c ≤ 57 ∧ fg < 5
  · rw [if_pos q]
    have c4 := c3 h4
    have c5 := c4.2
    exact sInv_mk ⟨by omega, by omega, by omega⟩ ⟨b1, b2, b3, b4⟩ ⟨c1, fun z => c2 (Or.inr h4), fun z => ⟨c4.1, by unfold numI at c5 ⊢; omega⟩⟩ (fun z => by omega) ⟨by omega, fun z => by omega, fun z => by omega⟩ s1 ⟨f1, f2⟩
  · rw [if_neg q] at ht; exact absurd ht Bool.false_ne_true

theorem iv_endFT (h : sInv k R) (h4 : R.st = 4) : sInv k (rEndFT R) ∧ (rEndFT R).st = 5 := by
  obtain ⟨st, ne, tu, nu, fg, rl, fd, op, TB, ST, TF, TR, TN, sc, tc, fl, tl, tf⟩ := R
  obtain ⟨⟨a1, a2, a3⟩, ⟨b1, b2, b3, b4⟩, ⟨c1, c2, c3⟩, d1, ⟨e1, e2, e3⟩, s1, f1, f2⟩ := h
  dsimp only [RS.st, RS.ne, RS.tu, RS.nu, RS.fg, RS.rl, RS.fd, RS.op, RS.TB, RS.ST, RS.TF, RS.TR, RS.TN, RS.sc, RS.tc, RS.fl, RS.tl, RS.tf] at *
  have hb := bal_0 (T := TB) (k := op) b4
  have c4 := c3 (Or.inr h4)
  have c5 := c4.2
  have c6 := c2 (Or.inr (Or.inr h4))
  exact ⟨sInv_mk ⟨by omega, by omega, a3⟩ ⟨by omega, by omega, by omega, b4⟩ ⟨by omega, fun z => by omega, fun z => by omega⟩ (fun z => by omega) ⟨by omega, fun z => by omega, fun z => rfl⟩ (stI_t s1 c6.1 (by omega) c6.2 c4.1 (by unfold numI at c5; omega)) ⟨f1, f2⟩, rfl⟩

theorem iv_tail (h : sInv k R) (h4 : R.st ≠ 4) (ht : (rTail c R).1 = true) : sInv (k + 1) (rTail c R).2 := by
  obtain ⟨st, ne, tu, nu, fg, rl, fd, op, TB, ST, TF, TR, TN, sc, tc, fl, tl, tf⟩ := R
  obtain ⟨⟨a1, a2, a3⟩, ⟨b1, b2, b3, b4⟩, ⟨c1, c2, c3⟩, d1, ⟨e1, e2, e3⟩, s1, f1, f2⟩ := h
  dsimp only [RS.st, RS.ne, RS.tu, RS.nu, RS.fg, RS.rl, RS.fd, RS.op, RS.TB, RS.ST, RS.TF, RS.TR, RS.TN, RS.sc, RS.tc, RS.fl, RS.tl, RS.tf] at *
  have hb := bal_0 (T := TB) (k := op) b4
  have hf := tOf_R c
  unfold rTail at ht ⊢
  dsimp only at ht ⊢
  by_cases q : tOf c = 0
  · rw [if_pos q] at ht; exact absurd ht Bool.false_ne_true
  · rw [if_neg q]
    exact sInv_mk ⟨by omega, by omega, a3⟩ ⟨b1, b2, b3, b4⟩ ⟨c1, fun z => by omega, fun z => by omega⟩ (fun z => by omega) ⟨by omega, fun z => by omega, fun z => by omega⟩ s1 ⟨by omega, f2⟩

theorem iv_tailF (h : sInv k R) (h4 : R.st = 6) (ht : (rTailField mk c R).1 = true) : sInv (k + 1) (rTailField mk c R).2 := by
  obtain ⟨st, ne, tu, nu, fg, rl, fd, op, TB, ST, TF, TR, TN, sc, tc, fl, tl, tf⟩ := R
  obtain ⟨⟨a1, a2, a3⟩, ⟨b1, b2, b3, b4⟩, ⟨c1, c2, c3⟩, d1, ⟨e1, e2, e3⟩, s1, f1, f2⟩ := h
  dsimp only [RS.st, RS.ne, RS.tu, RS.nu, RS.fg, RS.rl, RS.fd, RS.op, RS.TB, RS.ST, RS.TF, RS.TR, RS.TN, RS.sc, RS.tc, RS.fl, RS.tl, RS.tf] at *
  have hb := bal_0 (T := TB) (k := op) b4
  have hf := fOf_R c
  unfold rTailField at ht ⊢
  dsimp only at ht ⊢
  by_cases q : opn mk c = true
  · rw [if_pos q]
    exact sInv_mk ⟨by omega, by omega, a3⟩ ⟨b1, b2, b3, b4⟩ ⟨c1, fun z => by omega, fun z => by omega⟩ (fun z => by omega) ⟨by omega, fun z => by omega, fun z => by omega⟩ s1 ⟨f1, by omega⟩
  · rw [if_neg q] at ht; exact absurd ht Bool.false_ne_true

theorem iv_next (h : sInv k R) (h4 : R.st = 5) : sInv (k + 1) (rNext c R) := by
  obtain ⟨st, ne, tu, nu, fg, rl, fd, op, TB, ST, TF, TR, TN, sc, tc, fl, tl, tf⟩ := R
  obtain ⟨⟨a1, a2, a3⟩, ⟨b1, b2, b3, b4⟩, ⟨c1, c2, c3⟩, d1, ⟨e1, e2, e3⟩, s1, f1, f2⟩ := h
  dsimp only [RS.st, RS.ne, RS.tu, RS.nu, RS.fg, RS.rl, RS.fd, RS.op, RS.TB, RS.ST, RS.TF, RS.TR, RS.TN, RS.sc, RS.tc, RS.fl, RS.tl, RS.tf] at *
  have hb := bal_0 (T := TB) (k := op) b4
  unfold rNext
  dsimp only
  by_cases q : c = 124
  · rw [if_pos q]
    exact sInv_mk ⟨by omega, by omega, a3⟩ ⟨b1, b2, b3, b4⟩ ⟨c1, fun z => by omega, fun z => by omega⟩ (fun z => by omega) ⟨by omega, fun z => by omega, fun z => by omega⟩ (stI_s s1 op (Or.inr (Or.inr (Or.inr rfl))) (fun z => by omega) (by omega) rfl) ⟨f1, f2⟩
  · rw [if_neg q]
    exact sInv_mk ⟨by omega, by omega, a3⟩ ⟨b1, b2, b3, b4⟩ ⟨c1, fun z => by omega, fun z => by omega⟩ (fun z => by omega) ⟨by omega, fun z => by omega, fun z => by omega⟩ s1 ⟨f1, f2⟩
theorem iv_test (h : sInv k R) (h4 : R.st ≠ 4) (ht : (rTest mk c R).1 = true) : sInv (k + 1) (rTest mk c R).2 := by
  unfold rTest at ht ⊢
  by_cases q : c = 33
  · rw [if_pos q] at ht ⊢; exact iv_turn h h4 ht
  · rw [if_neg q] at ht ⊢
    by_cases q2 : c = 40
    · rw [if_pos q2] at ht ⊢; exact iv_open h h4 ht
    · rw [if_neg q2] at ht ⊢; exact iv_testF h h4 ht
theorem iv_behind (h : sInv k R) (h4 : R.st = 5) (ht : (rBehind c R).1 = true) : sInv (k + 1) (rBehind c R).2 := by
  unfold rBehind at ht ⊢
  by_cases q : c = 41
  · rw [if_pos q] at ht ⊢; exact (iv_close h h4 ht).1
  · rw [if_neg q] at ht ⊢
    by_cases q2 : c = 38 ∨ c = 124
    · rw [if_pos q2]; exact iv_next h h4
    · rw [if_neg q2] at ht ⊢
      by_cases q3 : R.ne = 0
      · rw [if_pos q3] at ht ⊢; exact iv_tail h (by omega) ht
      · rw [if_neg q3] at ht; exact absurd ht Bool.false_ne_true
theorem iv_st (h : sInv k R) : 0 ≤ R.st ∧ R.st ≤ 7 := ⟨h.1.1, h.1.2.1⟩
theorem iv_takes (h : sInv k R) (ht : (rTakes mk c R).1 = true) : sInv (k + 1) (rTakes mk c R).2 := by
  have hs := iv_st h
  unfold rTakes at ht ⊢
  by_cases q0 : R.st = 0
  · rw [if_pos q0] at ht ⊢
    by_cases t : (rTail c R).1 = true
    · rw [if_pos t]; exact iv_tail h (by omega) t
    · rw [if_neg t] at ht ⊢
      rw [rTail_f (by simpa using t)] at ht ⊢
      exact iv_test h (by omega) ht
  · rw [if_neg q0] at ht ⊢
    by_cases q1 : R.st = 1
    · rw [if_pos q1] at ht ⊢; exact iv_test h (by omega) ht
    · rw [if_neg q1] at ht ⊢
      by_cases q2 : R.st = 2
      · rw [if_pos q2] at ht ⊢; exact iv_rel h q2 ht
      · rw [if_neg q2] at ht ⊢
        by_cases q3 : R.st = 3
        · rw [if_pos q3] at ht ⊢; exact iv_fig h (Or.inl q3) ht
        · rw [if_neg q3] at ht ⊢
          by_cases q4 : R.st = 4
          · rw [if_pos q4] at ht ⊢
            by_cases t : (rFigure c R).1 = true
            · rw [if_pos t]; exact iv_fig h (Or.inr q4) t
            · rw [if_neg t] at ht ⊢
              rw [rFigure_f (by simpa using t)] at ht ⊢
              exact iv_behind (iv_endFT h q4).1 (iv_endFT h q4).2 ht
          · rw [if_neg q4] at ht ⊢
            by_cases q5 : R.st = 5
            · rw [if_pos q5] at ht ⊢; exact iv_behind h q5 ht
            · rw [if_neg q5] at ht ⊢
              by_cases q6 : R.st = 6
              · rw [if_pos q6] at ht ⊢; exact iv_tailF h q6 ht
              · rw [if_neg q6] at ht; exact absurd ht Bool.false_ne_true
theorem iv_endS (h : sInv k R) : sInv k (rEndS R) := by
  unfold rEndS
  by_cases q : R.st = 4
  · rw [if_pos q]; exact (iv_endFT h q).1
  · rw [if_neg q]; exact h
theorem iv_ok (h : sInv k R) (hk : k ≤ 64) : rOK R := by
  obtain ⟨st, ne, tu, nu, fg, rl, fd, op, TB, ST, TF, TR, TN, sc, tc, fl, tl, tf⟩ := R
  obtain ⟨⟨a1, a2, a3⟩, ⟨b1, b2, b3, b4⟩, ⟨c1, c2, c3⟩, d1, ⟨e1, e2, e3⟩, s1, f1, f2⟩ := h
  skip
  have hb := bal_0 (T := TB) (k := op) b4
  refine ⟨a1, a2, ?_, ?_, a3, ?_, ?_, ?_, ?_, ?_⟩
  · show R32 ne; constructor <;> omega
  · show R32 (ne - tu); constructor <;> omega
  · show sc < 190; omega
  · show op ≤ 20; omega
  · show ne < 20 → op < 20; omega
  · show tc < 200; omega
  · intro q; exact ⟨(c2 (Or.inr (Or.inr q))).2, (c3 (Or.inr q)).1, (c2 (Or.inr (Or.inr q))).1⟩
theorem iv_q (h : sInv k R) (hk : k ≤ 64) {w : Nat} (hw : w < 50) : qOK (rQ R w) := by
  obtain ⟨st, ne, tu, nu, fg, rl, fd, op, TB, ST, TF, TR, TN, sc, tc, fl, tl, tf⟩ := R
  obtain ⟨⟨a1, a2, a3⟩, ⟨b1, b2, b3, b4⟩, ⟨c1, c2, c3⟩, d1, ⟨e1, e2, e3⟩, s1, f1, f2⟩ := h
  skip
  have hb := bal_0 (T := TB) (k := op) b4
  exact ⟨⟨by show sc ≤ 200; omega, s1.2.2⟩, f1, f2, by show tc ≤ 200; omega, hw⟩
theorem iv_tc (h : sInv k R) : R.tc ≤ 40 := h.2.2.1.1
theorem iv_fg (h : sInv k R) : R32 R.fg := h.1.2.2
theorem iv_begin {r : RS} (h : R32 r.fg) : sInv 0 (rBegin r) := by
  obtain ⟨st, ne, tu, nu, fg, rl, fd, op, TB, ST, TF, TR, TN, sc, tc, fl, tl, tf⟩ := r
  exact sInv_mk ⟨by decide, by decide, h⟩ ⟨by decide, rfl, by decide, fun i hi => absurd hi (Nat.not_lt_zero i)⟩ ⟨by decide, fun z => by omega, fun z => by omega⟩ (fun _ => ⟨rfl, rfl⟩) ⟨by decide, fun z => by omega, fun z => rfl⟩ stI_0 ⟨by decide, by decide⟩
end IV
theorem iv_go {mk : Nat → Bool} {tx : Nat → Int} {r : RS} (h : R32 r.fg) : ∀ {k : Nat}, rAll mk tx (rBegin r) k → sInv k (rGo mk tx (rBegin r) k)
  | 0, _ => iv_begin h
  | k + 1, ha => iv_takes (iv_go h (k := k) (fun j hj => ha j (by omega))) (ha k (by omega))
