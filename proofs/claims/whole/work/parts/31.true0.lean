/-! WHETHER A TEXT IS TRUE: the reference's levels held against the judge's list -/
theorem tJ_congr {ST ST' : Nat → Int} : ∀ {s : Nat}, (∀ i, i < s → ST i = ST' i) → tJ ST s = tJ ST' s
  | 0, _ => rfl
  | s + 1, h => by
    show (if ST s = 5 then tJ ST s + 1 else tJ ST s) = (if ST' s = 5 then tJ ST' s + 1 else tJ ST' s)
    rw [tJ_congr (s := s) (fun i hi => h i (by omega)), h s (by omega)]
theorem tJ_mono {ST : Nat → Int} : ∀ {s i : Nat}, i ≤ s → tJ ST i ≤ tJ ST s
  | 0, i, h => by have : i = 0 := by omega
                  subst this; exact Nat.le_refl _
  | s + 1, i, h => by
    by_cases e : i = s + 1
    · subst e; exact Nat.le_refl _
    · have h1 := tJ_mono (ST := ST) (s := s) (i := i) (by omega)
      show tJ ST i ≤ (if ST s = 5 then tJ ST s + 1 else tJ ST s)
      split <;> omega
theorem jR_congr {ST ST' : Nat → Int} {tv tv' : Nat → Bool} : ∀ {s : Nat}, (∀ i, i < s → ST i = ST' i) → (∀ i, i < s → ST i = 5 → tv (tJ ST i) = tv' (tJ ST i)) → (∀ i, i < s → 1 ≤ ST i ∧ ST i ≤ 5) → jR ST tv s = jR ST' tv' s
  | 0, _, _, _ => rfl
  | s + 1, h, h2, h3 => by
    show jstep (ST s) (tv (tJ ST s)) (jR ST tv s) = jstep (ST' s) (tv' (tJ ST' s)) (jR ST' tv' s)
    rw [jR_congr (s := s) (fun i hi => h i (by omega)) (fun i hi => h2 i (by omega)) (fun i hi => h3 i (by omega)), ← h s (by omega), ← tJ_congr (s := s) (fun i hi => h i (by omega))]
    by_cases e : ST s = 5
    · rw [h2 s (by omega) e]
    · have hb : ∀ (k : Int) (b b' : Bool) (l : List (Bool × Bool × Bool)), (k = 1 ∨ k = 2 ∨ k = 3 ∨ k = 4) → jstep k b l = jstep k b' l := by
        intro k b b' l hk
        cases l with
        | nil => rfl
        | cons x r =>
          obtain ⟨o, t, n⟩ := x
          rcases hk with q | q | q | q <;> subst q <;> rfl
      by_cases q : ST s = 1 ∨ ST s = 2 ∨ ST s = 3 ∨ ST s = 4
      · exact hb _ _ _ _ q
      · have := h3 s (by omega); omega
def jL (Vv : Nat → Nat → Int) (row : Nat) (R : RS) : List (Bool × Bool × Bool) := jR R.ST (tvQ R.TF R.TR R.TN Vv row) R.sc
/-- the steps so far are of the five kinds, and as many tests as are counted -/
def QI (R : RS) : Prop := R.tc = tJ R.ST R.sc ∧ ∀ i, i < R.sc → 1 ≤ R.ST i ∧ R.ST i ≤ 5
def JM (OR AN : Nat → Bool) (NO : Nat → Int) (lv : Nat) (L : List (Bool × Bool × Bool)) : Prop := RepJ OR AN (fun i => decide (NO i % 2 = 1)) L ∧ L.length = lv + 1
theorem j_step {Vv : Nat → Nat → Int} {row : Nat} {R R' : RS} {x : Int} (hq : QI R) (hx : x = 1 ∨ x = 2 ∨ x = 3 ∨ x = 4) (h1 : R'.ST = up R.ST R.sc x) (h2 : R'.sc = R.sc + 1) (h3 : R'.TF = R.TF) (h4 : R'.TR = R.TR) (h5 : R'.TN = R.TN) (h6 : R'.tc = R.tc) : QI R' ∧ ∃ b, jL Vv row R' = jstep x b (jL Vv row R) := by
  have hst : ∀ i, i < R.sc → up R.ST R.sc x i = R.ST i := fun i hi => up_n (by omega)
  constructor
  · constructor
    · rw [h6, h1, h2]
      show _ = (if up R.ST R.sc x R.sc = 5 then tJ (up R.ST R.sc x) R.sc + 1 else tJ (up R.ST R.sc x) R.sc)
      rw [up_s, if_neg (by omega), tJ_congr hst]
      exact hq.1
    · intro i hi
      rw [h1]
      by_cases e : i = R.sc
      · subst e; rw [up_s]; omega
      · rw [up_n e]; exact hq.2 i (by omega)
  · unfold jL
    rw [h1, h2, h3, h4, h5]
    refine ⟨tvQ R.TF R.TR R.TN Vv row (tJ (up R.ST R.sc x) R.sc), ?_⟩
    show jstep (up R.ST R.sc x R.sc) _ (jR (up R.ST R.sc x) (tvQ R.TF R.TR R.TN Vv row) R.sc) = _
    rw [up_s, jR_congr (ST := up R.ST R.sc x) (ST' := R.ST) (tv' := tvQ R.TF R.TR R.TN Vv row) hst (fun i hi _ => rfl) (fun i hi => by rw [hst i hi]; exact hq.2 i hi)]
theorem j_test {Vv : Nat → Nat → Int} {row : Nat} {R R' : RS} {fd rl nu : Int} (hq : QI R) (h1 : R'.ST = up R.ST R.sc 5) (h2 : R'.sc = R.sc + 1) (h3 : R'.TF = up R.TF R.tc fd) (h4 : R'.TR = up R.TR R.tc rl) (h5 : R'.TN = up R.TN R.tc nu) (h6 : R'.tc = R.tc + 1) : QI R' ∧ jL Vv row R' = jstep 5 (tstV rl (Vv fd.toNat row) nu) (jL Vv row R) := by
  have hst : ∀ i, i < R.sc → up R.ST R.sc 5 i = R.ST i := fun i hi => up_n (by omega)
  constructor
  · constructor
    · rw [h6, h1, h2]
      show _ = (if up R.ST R.sc 5 R.sc = 5 then tJ (up R.ST R.sc 5) R.sc + 1 else tJ (up R.ST R.sc 5) R.sc)
      rw [up_s, if_pos rfl, tJ_congr hst, hq.1]
    · intro i hi
      rw [h1]
      by_cases e : i = R.sc
      · subst e; rw [up_s]; omega
      · rw [up_n e]; exact hq.2 i (by omega)
  · unfold jL
    rw [h1, h2, h3, h4, h5]
    show jstep (up R.ST R.sc 5 R.sc) (tvQ (up R.TF R.tc fd) (up R.TR R.tc rl) (up R.TN R.tc nu) Vv row (tJ (up R.ST R.sc 5) R.sc)) (jR (up R.ST R.sc 5) (tvQ (up R.TF R.tc fd) (up R.TR R.tc rl) (up R.TN R.tc nu) Vv row) R.sc) = _
    rw [up_s, tJ_congr hst, ← hq.1, jR_congr (ST := up R.ST R.sc 5) (ST' := R.ST) (tv' := tvQ R.TF R.TR R.TN Vv row) hst (fun i hi h5 => by
      have h6 : tJ (up R.ST R.sc 5) i = tJ R.ST i := tJ_congr (fun j hj => hst j (by omega))
      have h7 : tJ R.ST i + 1 ≤ tJ R.ST R.sc := by
        have e : tJ R.ST (i + 1) = tJ R.ST i + 1 := by show (if R.ST i = 5 then _ else _) = _; rw [if_pos (by rw [← hst i hi]; exact h5)]
        rw [← e]; exact tJ_mono hi
      rw [h6]
      unfold tvQ
      rw [up_n (by rw [hq.1]; omega), up_n (by rw [hq.1]; omega), up_n (by rw [hq.1]; omega)]) (fun i hi => by rw [hst i hi]; exact hq.2 i hi)]
    unfold tvQ
    rw [up_s, up_s, up_s]
section JMS
variable {OR AN : Nat → Bool} {NO : Nat → Int} {lv : Nat} {L : List (Bool × Bool × Bool)} {b : Bool}
theorem JM_e {OR' AN' : Nat → Bool} {N' : Nat → Bool} {NO' : Nat → Int} {L' : List (Bool × Bool × Bool)} {lv' : Nat} (h : RepJ OR' AN' N' L' ∧ L'.length = lv' + 1) (e : ∀ i, i ≤ lv' → decide (NO' i % 2 = 1) = N' i) : JM OR' AN' NO' lv' L' :=
  ⟨repE h.1 (fun i hi => ⟨rfl, rfl, e i (by rw [h.2] at hi; omega)⟩), h.2⟩
theorem dec_not {z : Int} : decide ((z + 1) % 2 = 1) = !decide (z % 2 = 1) := by
  by_cases h : z % 2 = 1
  · rw [decide_eq_true h, decide_eq_false (by omega)]; rfl
  · rw [decide_eq_false h, decide_eq_true (by omega)]; rfl
theorem m1 (h : JM OR AN NO lv L) : JM OR AN (up NO lv (NO lv + 1)) lv (jstep 1 b L) :=
  JM_e (rep1 (b := b) h.1 h.2) (fun i hi => by
    by_cases e : i = lv
    · subst e; rw [up_s, up_s]; exact dec_not
    · rw [up_n e, up_n e])
theorem m2 (h : JM OR AN NO lv L) : JM (up OR (lv + 1) false) (up AN (lv + 1) true) (up NO (lv + 1) 0) (lv + 1) (jstep 2 b L) :=
  JM_e (rep2 (b := b) h.1 h.2) (fun i hi => by
    by_cases e : i = lv + 1
    · subst e; rw [up_s, up_s]; rfl
    · rw [up_n e, up_n e])
theorem m3 (h : JM OR AN NO lv L) (h0 : 0 < lv) : JM OR (up AN (lv - 1) (AN (lv - 1) && ((OR lv || AN lv) != decide (NO (lv - 1) % 2 = 1)))) (up NO (lv - 1) 0) (lv - 1) (jstep 3 b L) := by
  obtain ⟨k, rfl⟩ := Nat.exists_eq_succ_of_ne_zero (show lv ≠ 0 by omega)
  exact JM_e (rep3 (b := b) h.1 h.2) (fun i hi => by
    by_cases e : i = k
    · subst e
      show decide (up NO i 0 i % 2 = 1) = up (fun i => decide (NO i % 2 = 1)) i false i
      rw [up_s, up_s]; rfl
    · show decide (up NO k 0 i % 2 = 1) = up (fun i => decide (NO i % 2 = 1)) k false i
      rw [up_n e, up_n e])
theorem m4 (h : JM OR AN NO lv L) : JM (up OR lv (OR lv || AN lv)) (up AN lv true) NO lv (jstep 4 b L) := JM_e (rep4 (b := b) h.1 h.2) (fun i hi => rfl)
theorem m5 (h : JM OR AN NO lv L) : JM OR (up AN lv (AN lv && (b != decide (NO lv % 2 = 1)))) (up NO lv 0) lv (jstep 5 b L) :=
  JM_e (rep5 (b := b) h.1 h.2) (fun i hi => by
    by_cases e : i = lv
    · subst e; rw [up_s, up_s]; rfl
    · rw [up_n e, up_n e])
theorem m0 : JM (up OR 0 false) (up AN 0 true) (up NO 0 0) 0 [(false, true, false)] := JM_e ⟨rep0 (N := fun _ => false), rfl⟩ (fun i hi => by
    have e : i = 0 := by omega
    subst e; rw [up_s, up_s]; rfl)
end JMS
