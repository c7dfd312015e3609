/-! THE REFERENCE: the choice of the best, again and again -/
section SEL
variable (FI : Nat → Int) (f : Int) (neg : Bool)
def befM (r b : Nat) : Bool := decide (0 < b ∧ 0 ≤ f) && (if neg = true then decide (FI (5 * b + f.toNat) < FI (5 * r + f.toNat)) else decide (FI (5 * r + f.toNat) < FI (5 * b + f.toNat)))
def bstM (IS : Nat → Bool) : Nat → Nat
  | 0 => 0
  | r + 1 => if IS (r + 1) = true ∧ (bstM IS r = 0 ∨ befM FI f neg (r + 1) (bstM IS r) = true) then r + 1 else bstM IS r
abbrev SL : Type := (Nat → Bool) × (Nat → Int) × (Nat → Int)
def tkS (gg : Bool) (go best many : Nat) (s : SL) : SL := if gg = true then (isf s.1 FI f.toNat (FI (5 * best + f.toNat)) many, up s.2.1 go (FI (5 * best + f.toNat)), up s.2.2 go (cntG s.1 FI f.toNat (FI (5 * best + f.toNat)) many)) else (up s.1 best false, up s.2.1 go (best : Int), s.2.2)
def selN (gg : Bool) (many : Nat) (s0 : SL) : Nat → SL
  | 0 => s0
  | j + 1 => tkS FI f gg j (bstM FI f neg (selN gg many s0 j).1 many) many (selN gg many s0 j)
def selP (gg : Bool) (many : Nat) (s0 : SL) (N : Nat) (s : SL) : Prop := s = selN FI f neg gg many s0 N ∧ bstM FI f neg s.1 many = 0 ∧ ∀ j, j < N → bstM FI f neg (selN FI f neg gg many s0 j).1 many ≠ 0
end SEL
def cntT (IS : Nat → Bool) : Nat → Nat
  | 0 => 0
  | r + 1 => if IS (r + 1) = true then cntT IS r + 1 else cntT IS r
theorem cntT_le (IS : Nat → Bool) : ∀ m, cntT IS m ≤ m
  | 0 => Nat.le_refl 0
  | r + 1 => by
    have := cntT_le IS r
    show (if IS (r + 1) = true then cntT IS r + 1 else cntT IS r) ≤ r + 1
    split <;> omega
theorem cntT_mono {A B : Nat → Bool} (h : ∀ i, A i = true → B i = true) : ∀ m, cntT A m ≤ cntT B m
  | 0 => Nat.le_refl 0
  | r + 1 => by
    have := cntT_mono h r
    show (if A (r + 1) = true then cntT A r + 1 else cntT A r) ≤ (if B (r + 1) = true then cntT B r + 1 else cntT B r)
    by_cases q : A (r + 1) = true
    · rw [if_pos q, if_pos (h _ q)]; omega
    · rw [if_neg q]; split <;> omega
theorem cntT_lt {A B : Nat → Bool} (h : ∀ i, A i = true → B i = true) {b : Nat} (h0 : 1 ≤ b) (hb : B b = true) (ha : A b = false) : ∀ m, b ≤ m → cntT A m < cntT B m
  | 0, q => by omega
  | r + 1, q => by
    show (if A (r + 1) = true then cntT A r + 1 else cntT A r) < (if B (r + 1) = true then cntT B r + 1 else cntT B r)
    by_cases e : b = r + 1
    · subst e
      have := cntT_mono h r
      rw [if_neg (by rw [ha]; decide), if_pos hb]; omega
    · have := cntT_lt h h0 hb ha r (by omega)
      by_cases w : A (r + 1) = true
      · rw [if_pos w, if_pos (h _ w)]; omega
      · rw [if_neg w]; split <;> omega
section SELS
variable {FI : Nat → Int} {f : Int} {neg gg : Bool} {IS : Nat → Bool} {many : Nat}
theorem bst_ok : ∀ {r : Nat}, bstM FI f neg IS r = 0 ∨ (1 ≤ bstM FI f neg IS r ∧ bstM FI f neg IS r ≤ r ∧ IS (bstM FI f neg IS r) = true)
  | 0 => Or.inl rfl
  | r + 1 => by
    have ih := bst_ok (r := r)
    by_cases q : IS (r + 1) = true ∧ (bstM FI f neg IS r = 0 ∨ befM FI f neg (r + 1) (bstM FI f neg IS r) = true)
    · have e : bstM FI f neg IS (r + 1) = r + 1 := if_pos q
      rw [e]; exact Or.inr ⟨by omega, Nat.le_refl _, q.1⟩
    · have e : bstM FI f neg IS (r + 1) = bstM FI f neg IS r := if_neg q
      rw [e]
      rcases ih with w | w
      · exact Or.inl w
      · exact Or.inr ⟨w.1, by omega, w.2.2⟩
theorem tk_dec {s : SL} {go b : Nat} (h1 : 1 ≤ b) (h2 : b ≤ many) (h3 : s.1 b = true) : cntT (tkS FI f gg go b many s).1 many < cntT s.1 many := by
  refine cntT_lt ?_ h1 h3 ?_ many h2
  · intro i hi
    unfold tkS at hi
    by_cases q : gg = true
    · rw [if_pos q] at hi
      have hi2 : (s.1 i && !(decide (1 ≤ i ∧ i ≤ many) && decide (FI (5 * i + f.toNat) = FI (5 * b + f.toNat)))) = true := hi
      rw [Bool.and_eq_true] at hi2
      exact hi2.1
    · rw [if_neg q] at hi
      have hi2 : up s.1 b false i = true := hi
      by_cases e : i = b
      · subst e; exact h3
      · rw [up_n e] at hi2; exact hi2
  · unfold tkS
    by_cases q : gg = true
    · rw [if_pos q]
      show (s.1 b && !(decide (1 ≤ b ∧ b ≤ many) && decide (FI (5 * b + f.toNat) = FI (5 * b + f.toNat)))) = false
      rw [decide_eq_true (show 1 ≤ b ∧ b ≤ many from ⟨h1, h2⟩), decide_eq_true rfl, Bool.and_true, Bool.not_true, Bool.and_false]
    · rw [if_neg q]; exact up_s
/-- got and those left are no more than the rows -/
theorem sel_le {s0 : SL} : ∀ {N : Nat}, (∀ j, j < N → bstM FI f neg (selN FI f neg gg many s0 j).1 many ≠ 0) → N + cntT (selN FI f neg gg many s0 N).1 many ≤ many
  | 0, _ => by have := cntT_le s0.1 many; show 0 + cntT s0.1 many ≤ many; omega
  | N + 1, h => by
    have ih := sel_le (N := N) (fun j hj => h j (by omega))
    have hb := bst_ok (FI := FI) (f := f) (neg := neg) (IS := (selN FI f neg gg many s0 N).1) (r := many)
    have hn := h N (by omega)
    rcases hb with w | w
    · exact absurd w hn
    · have := tk_dec (FI := FI) (f := f) (gg := gg) (go := N) (s := selN FI f neg gg many s0 N) w.1 w.2.1 w.2.2
      show N + 1 + cntT (tkS FI f gg N _ many (selN FI f neg gg many s0 N)).1 many ≤ many
      omega
theorem sel_lt {s0 : SL} {N : Nat} (h : ∀ j, j < N + 1 → bstM FI f neg (selN FI f neg gg many s0 j).1 many ≠ 0) : N < many := by
  have := sel_le (FI := FI) (f := f) (neg := neg) (gg := gg) (many := many) (s0 := s0) h
  omega
end SELS
/-- which of the first k rows are said to be so -/
def isV (IS : Nat → Bool) (iv : Nat → Bool) (k : Nat) : Nat → Bool := fun i => if 1 ≤ i ∧ i ≤ k then iv i else IS i
theorem isV_0 {IS iv : Nat → Bool} : isV IS iv 0 = IS := by funext i; exact if_neg (by omega)
theorem isV_s {IS iv : Nat → Bool} {k : Nat} : up (isV IS iv k) (k + 1) (iv (k + 1)) = isV IS iv (k + 1) := by
  funext i
  by_cases e : i = k + 1
  · subst e; rw [up_s]; exact (if_pos (by omega)).symm
  · rw [up_n e]
    unfold isV
    by_cases q : 1 ≤ i ∧ i ≤ k
    · rw [if_pos q, if_pos (by omega)]
    · rw [if_neg q, if_neg (by omega)]
