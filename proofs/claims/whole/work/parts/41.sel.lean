/-! THE CHOICE OF THE BEST AGAIN AND AGAIN IS THE WALK OF AN ORDER -/
/-- a stands ahead of b -/
def lx (on neg : Bool) (key : Nat → Int) (a b : Nat) : Prop := (on = true ∧ (if neg = true then key b < key a else key a < key b)) ∨ ((on = true → key a = key b) ∧ a < b)
section LX
variable {on neg : Bool} {key : Nat → Int} {a b c : Nat}
theorem lx_irr : ¬ lx on neg key a a := by
  unfold lx
  cases neg <;> simp
theorem lx_asym (h : lx on neg key a b) : ¬ lx on neg key b a := by
  unfold lx at h ⊢
  cases on <;> cases neg <;> simp at h ⊢ <;> omega
theorem lx_trans (h : lx on neg key a b) (h2 : lx on neg key b c) : lx on neg key a c := by
  unfold lx at h h2 ⊢
  cases on <;> cases neg <;> simp at h h2 ⊢ <;> omega
theorem lx_le (h : lx true false key a b) : key a ≤ key b := by
  unfold lx at h
  simp at h
  omega
theorem lx_key {key' : Nat → Int} (ha : key a = key' a) (hb : key b = key' b) : lx on neg key a b ↔ lx on neg key' a b := by
  unfold lx
  rw [ha, hb]
end LX
section BST
variable {FI : Nat → Int} {f : Int} {neg : Bool} {IS : Nat → Bool}
abbrev keyM (FI : Nat → Int) (f : Int) : Nat → Int := fun a => FI (5 * a + f.toNat)
theorem bef_t {r b : Nat} (h : befM FI f neg r b = true) : lx (decide (0 ≤ f)) neg (keyM FI f) r b := by
  unfold befM at h
  unfold lx keyM
  cases neg <;> simp at h ⊢ <;> omega
theorem bef_f {r b : Nat} (h0 : 0 < b) (hb : b < r) (h : ¬ befM FI f neg r b = true) : lx (decide (0 ≤ f)) neg (keyM FI f) b r := by
  unfold befM at h
  unfold lx keyM
  cases neg <;> simp at h ⊢ <;> omega
theorem bst_min : ∀ {r : Nat}, (bstM FI f neg IS r = 0 → ∀ i, 1 ≤ i → i ≤ r → IS i = false) ∧ (bstM FI f neg IS r ≠ 0 → ∀ i, 1 ≤ i → i ≤ r → IS i = true → i ≠ bstM FI f neg IS r → lx (decide (0 ≤ f)) neg (keyM FI f) (bstM FI f neg IS r) i)
  | 0 => ⟨fun _ i h1 h2 => by omega, fun h => absurd rfl h⟩
  | r + 1 => by
    have ih := bst_min (r := r)
    have hk := bst_ok (FI := FI) (f := f) (neg := neg) (IS := IS) (r := r)
    by_cases q : IS (r + 1) = true ∧ (bstM FI f neg IS r = 0 ∨ befM FI f neg (r + 1) (bstM FI f neg IS r) = true)
    · have e : bstM FI f neg IS (r + 1) = r + 1 := if_pos q
      rw [e]
      refine ⟨fun h => by omega, fun _ i h1 h2 h3 h4 => ?_⟩
      rcases q.2 with w | w
      · exact absurd h3 (by rw [ih.1 w i h1 (by omega)]; decide)
      · by_cases z : i = bstM FI f neg IS r
        · rw [z]; exact bef_t w
        · have hm : bstM FI f neg IS r ≠ 0 := by
            intro z0
            exact absurd h3 (by rw [ih.1 z0 i h1 (by omega)]; decide)
          exact lx_trans (bef_t w) (ih.2 hm i h1 (by omega) h3 z)
    · have e : bstM FI f neg IS (r + 1) = bstM FI f neg IS r := if_neg q
      rw [e]
      refine ⟨fun h i h1 h2 => ?_, fun h i h1 h2 h3 h4 => ?_⟩
      · by_cases z : i = r + 1
        · subst z
          by_cases w : IS (r + 1) = true
          · exact absurd ⟨w, Or.inl h⟩ q
          · simpa using w
        · exact ih.1 h i h1 (by omega)
      · by_cases z : i = r + 1
        · subst z
          exact bef_f (by omega) (by omega) (fun w => q ⟨h3, Or.inr w⟩)
        · exact ih.2 h i h1 (by omega) h3 h4
theorem bst_char {b r : Nat} (h1 : 1 ≤ b) (h2 : b ≤ r) (hb : IS b = true) (hm : ∀ i, 1 ≤ i → i ≤ r → IS i = true → i ≠ b → lx (decide (0 ≤ f)) neg (keyM FI f) b i) : bstM FI f neg IS r = b := by
  have hk := bst_ok (FI := FI) (f := f) (neg := neg) (IS := IS) (r := r)
  have hn := bst_min (FI := FI) (f := f) (neg := neg) (IS := IS) (r := r)
  by_cases z : bstM FI f neg IS r = 0
  · exact absurd hb (by rw [hn.1 z b h1 h2]; decide)
  · by_cases w : bstM FI f neg IS r = b
    · exact w
    · have hk2 := hk.resolve_left z
      exact absurd (hn.2 z b h1 h2 hb (fun q => w q.symm)) (lx_asym (hm _ hk2.1 hk2.2.1 hk2.2.2 w))
theorem bst_zero {r : Nat} (h : ∀ i, 1 ≤ i → i ≤ r → IS i = false) : bstM FI f neg IS r = 0 := by
  have hk := bst_ok (FI := FI) (f := f) (neg := neg) (IS := IS) (r := r)
  rcases hk with q | q
  · exact q
  · exact absurd q.2.2 (by rw [h _ q.1 q.2.1]; decide)
end BST
/-- an order of the rows 1 .. n -/
def numP (on neg : Bool) (key : Nat → Int) (n : Nat) (num : Nat → Int) : Prop := (∀ p, p < n → 1 ≤ num p ∧ num p ≤ (n : Int)) ∧ (∀ i j, i < j → j < n → lx on neg key (num i).toNat (num j).toNat) ∧ ∀ r : Nat, 1 ≤ r → r ≤ n → ∃ p, p < n ∧ num p = (r : Int)
def cntP (num : Nat → Int) (ok : Int → Bool) (K : Nat → Int) (z : Int) : Nat → Int
  | 0 => 0
  | p + 1 => if ok (num p) = true ∧ K (num p).toNat = z then cntP num ok K z p + 1 else cntP num ok K z p
section RUN
variable {FI : Nat → Int} {f : Int} {neg : Bool} {iv : Nat → Bool} {num : Nat → Int} {ok : Int → Bool} {val : Int → Int} {n many : Nat} {s0 : SL}
def rrP (FI : Nat → Int) (f : Int) (neg : Bool) (iv : Nat → Bool) (num : Nat → Int) (many : Nat) (s0 : SL) (p : Nat) (u : FS) : Prop :=
  (∀ i, 1 ≤ i → i ≤ many → ((selN FI f neg false many s0 u.2.2).1 i = true ↔ iv i = true ∧ ∀ j, j < p → num j ≠ (i : Int))) ∧
  (∀ k, k < u.2.2 → (selN FI f neg false many s0 u.2.2).2.1 k = u.1 k) ∧ ∀ j, j < u.2.2 → bstM FI f neg (selN FI f neg false many s0 j).1 many ≠ 0
theorem rr_run (hN : numP (decide (0 ≤ f)) neg (keyM FI f) n num) (hm : many ≤ n) (hok : ∀ r : Nat, 1 ≤ r → r ≤ n → ok (r : Int) = (decide (r ≤ many) && iv r)) (h0 : ∀ i, 1 ≤ i → i ≤ many → s0.1 i = iv i) :
    ∀ p, p ≤ n → rrP FI f neg iv num many s0 p (fRun num ok false val (fun _ => 0, fun _ => 0, 0) p) := by
  intro p
  induction p with
  | zero =>
    intro _
    exact ⟨fun i h1 h2 => by
      show s0.1 i = true ↔ _
      rw [h0 i h1 h2]
      exact ⟨fun q => ⟨q, fun j hj => absurd hj (Nat.not_lt_zero j)⟩, fun q => q.1⟩, fun k hk => absurd hk (Nat.not_lt_zero k), fun k hk => absurd hk (Nat.not_lt_zero k)⟩
  | succ p ih =>
    intro hp
    have ih := ih (by omega)
    have hb1 := hN.1 p (by omega)
    obtain ⟨b, hb⟩ : ∃ b : Nat, num p = (b : Int) := ⟨(num p).toNat, by omega⟩
    rw [hb] at hb1
    by_cases h : ok (num p) = true
    · have e : fRun num ok false val (fun _ => 0, fun _ => 0, 0) (p + 1) = fAdd (fRun num ok false val (fun _ => 0, fun _ => 0, 0) p) (num p) := by
        show (if ok (num p) = true then (if false = true then _ else _) else _) = _
        rw [if_pos h, if_neg Bool.false_ne_true]
      rw [e]
      generalize fRun num ok false val (fun _ => 0, fun _ => 0, 0) p = u at ih ⊢
      obtain ⟨i1, i2, i3⟩ := ih
      rw [hb, hok b (by omega) (by omega), Bool.and_eq_true, decide_eq_true_eq] at h
      have hIS : (selN FI f neg false many s0 u.2.2).1 b = true := (i1 b (by omega) h.1).mpr ⟨h.2, fun j hj q => by
        have h5 := hN.2.1 j p hj (by omega)
        rw [q, hb] at h5
        exact lx_irr h5⟩
      have hbst : bstM FI f neg (selN FI f neg false many s0 u.2.2).1 many = b := bst_char (by omega) h.1 hIS (fun i q1 q2 q3 q4 => by
        obtain ⟨j, hj, hj2⟩ := hN.2.2 i q1 (by omega)
        have w := ((i1 i q1 q2).mp q3).2
        have hjp : p < j := by
          rcases Nat.lt_trichotomy j p with z | z | z
          · exact absurd hj2 (w j z)
          · subst z; rw [hb] at hj2; omega
          · exact z
        have h5 := hN.2.1 p j hjp hj
        rw [hb, hj2] at h5
        exact h5)
      have es : selN FI f neg false many s0 (u.2.2 + 1) = (up (selN FI f neg false many s0 u.2.2).1 b false, up (selN FI f neg false many s0 u.2.2).2.1 u.2.2 (b : Int), (selN FI f neg false many s0 u.2.2).2.2) := by
        show tkS FI f false u.2.2 (bstM FI f neg (selN FI f neg false many s0 u.2.2).1 many) many (selN FI f neg false many s0 u.2.2) = _
        rw [hbst]
        unfold tkS
        rw [if_neg Bool.false_ne_true]
      refine ⟨fun i h1 h2 => ?_, fun k hk => ?_, fun j hj => ?_⟩
      · show (selN FI f neg false many s0 (u.2.2 + 1)).1 i = true ↔ _
        rw [es]
        show up (selN FI f neg false many s0 u.2.2).1 b false i = true ↔ _
        by_cases z : i = b
        · subst z
          rw [up_s]
          exact ⟨fun q => absurd q Bool.false_ne_true, fun q => absurd hb (q.2 p (Nat.lt_succ_self p))⟩
        · rw [up_n z, i1 i h1 h2]
          refine ⟨fun q => ⟨q.1, fun j hj => ?_⟩, fun q => ⟨q.1, fun j hj => q.2 j (by omega)⟩⟩
          by_cases z2 : j = p
          · subst z2; rw [hb]; omega
          · exact q.2 j (by omega)
      · show (selN FI f neg false many s0 (u.2.2 + 1)).2.1 k = up u.1 u.2.2 (num p) k
        rw [es]
        show up (selN FI f neg false many s0 u.2.2).2.1 u.2.2 (b : Int) k = up u.1 u.2.2 (num p) k
        have hk : k < u.2.2 + 1 := hk
        by_cases z : k = u.2.2
        · subst z; rw [up_s, up_s, hb]
        · rw [up_n z, up_n z]; exact i2 k (by omega)
      · have hj : j < u.2.2 + 1 := hj
        by_cases z : j = u.2.2
        · subst z; rw [hbst]; omega
        · exact i3 j (by omega)
    · have e : fRun num ok false val (fun _ => 0, fun _ => 0, 0) (p + 1) = fRun num ok false val (fun _ => 0, fun _ => 0, 0) p := by
        show (if ok (num p) = true then (if false = true then _ else _) else _) = _
        rw [if_neg h]
      rw [e]
      generalize fRun num ok false val (fun _ => 0, fun _ => 0, 0) p = u at ih ⊢
      obtain ⟨i1, i2, i3⟩ := ih
      rw [hb, hok b (by omega) (by omega), Bool.and_eq_true, decide_eq_true_eq] at h
      refine ⟨fun i h1 h2 => ?_, i2, i3⟩
      rw [i1 i h1 h2]
      refine ⟨fun q => ⟨q.1, fun j hj => ?_⟩, fun q => ⟨q.1, fun j hj => q.2 j (by omega)⟩⟩
      by_cases z2 : j = p
      · subst z2
        rw [hb]
        intro w
        have w2 : b = i := by omega
        subst w2
        exact h ⟨h2, q.1⟩
      · exact q.2 j (by omega)
theorem cntP_0 {K : Nat → Int} {z : Int} : ∀ {p : Nat}, (∀ j, j < p → ok (num j) = true → K (num j).toNat ≠ z) → cntP num ok K z p = 0
  | 0, _ => rfl
  | p + 1, h => by
    show (if ok (num p) = true ∧ K (num p).toNat = z then cntP num ok K z p + 1 else cntP num ok K z p) = 0
    rw [if_neg (fun q => h p (Nat.lt_succ_self p) q.1 q.2)]
    exact cntP_0 (fun j hj => h j (by omega))
theorem cntG_congr {IS IS' : Nat → Bool} {f : Nat} {z : Int} : ∀ {r : Nat}, (∀ i, 1 ≤ i → i ≤ r → FI (5 * i + f) = z → IS i = IS' i) → cntG IS FI f z r = cntG IS' FI f z r
  | 0, _ => rfl
  | r + 1, h => by
    have ih := cntG_congr (r := r) (fun i h1 h2 => h i h1 (by omega))
    show (if IS (r + 1) = true ∧ FI (5 * (r + 1) + f) = z then cntG IS FI f z r + 1 else cntG IS FI f z r) = (if IS' (r + 1) = true ∧ FI (5 * (r + 1) + f) = z then cntG IS' FI f z r + 1 else cntG IS' FI f z r)
    rw [ih]
    by_cases q : FI (5 * (r + 1) + f) = z
    · rw [h (r + 1) (by omega) (Nat.le_refl _) q]
    · rw [if_neg (fun w => q w.2), if_neg (fun w => q w.2)]
def rgP (FI : Nat → Int) (f : Int) (iv : Nat → Bool) (num : Nat → Int) (ok : Int → Bool) (many : Nat) (s0 : SL) (p : Nat) (u : FS) : Prop :=
  (∀ i, 1 ≤ i → i ≤ many → ((selN FI f false true many s0 u.2.2).1 i = true ↔ iv i = true ∧ ∀ k, k < u.2.2 → u.1 k ≠ keyM FI f i)) ∧
  (∀ k, k < u.2.2 → (selN FI f false true many s0 u.2.2).2.1 k = u.1 k) ∧
  (∀ j, j < p → ok (num j) = true → ∃ k, k < u.2.2 ∧ u.1 k = keyM FI f (num j).toNat) ∧
  (∀ k, k < u.2.2 → ∃ j, j < p ∧ u.1 k = keyM FI f (num j).toNat) ∧
  (∀ k k', k < k' → k' < u.2.2 → u.1 k < u.1 k') ∧
  (∀ j, j < u.2.2 → bstM FI f false (selN FI f false true many s0 j).1 many ≠ 0) ∧
  (∀ k, k < u.2.2 → u.2.1 k = cntP num ok (keyM FI f) (u.1 k) p) ∧
  ∀ k, k < u.2.2 → (selN FI f false true many s0 u.2.2).2.2 k = cntG iv FI f.toNat (u.1 k) many
theorem rg_run (hf : 0 ≤ f) (hN : numP (decide (0 ≤ f)) false (keyM FI f) n num) (hm : many ≤ n) (hok : ∀ r : Nat, 1 ≤ r → r ≤ n → ok (r : Int) = (decide (r ≤ many) && iv r)) (hv : ∀ r : Nat, 1 ≤ r → r ≤ n → val (r : Int) = keyM FI f r) (h0 : ∀ i, 1 ≤ i → i ≤ many → s0.1 i = iv i) :
    ∀ p, p ≤ n → rgP FI f iv num ok many s0 p (fRun num ok true val (fun _ => 0, fun _ => 0, 0) p) := by
  intro p
  induction p with
  | zero =>
    intro _
    exact ⟨fun i h1 h2 => by
      show s0.1 i = true ↔ _
      rw [h0 i h1 h2]
      exact ⟨fun q => ⟨q, fun j hj => absurd hj (Nat.not_lt_zero j)⟩, fun q => q.1⟩, fun k hk => absurd hk (Nat.not_lt_zero k), fun k hk => absurd hk (Nat.not_lt_zero k), fun k hk => absurd hk (Nat.not_lt_zero k),
      fun k k' _ hk => absurd hk (Nat.not_lt_zero k'), fun k hk => absurd hk (Nat.not_lt_zero k), fun k hk => absurd hk (Nat.not_lt_zero k), fun k hk => absurd hk (Nat.not_lt_zero k)⟩
  | succ p ih =>
    intro hp
    have ih := ih (by omega)
    have hb1 := hN.1 p (by omega)
    obtain ⟨b, hb⟩ : ∃ b : Nat, num p = (b : Int) := ⟨(num p).toNat, by omega⟩
    rw [hb] at hb1
    have hon : decide (0 ≤ f) = true := decide_eq_true hf
    rw [hon] at hN
    have hC : ∀ z, cntP num ok (keyM FI f) z (p + 1) = if ok (b : Int) = true ∧ keyM FI f b = z then cntP num ok (keyM FI f) z p + 1 else cntP num ok (keyM FI f) z p := fun z => by
      show (if ok (num p) = true ∧ keyM FI f (num p).toNat = z then _ else _) = _
      rw [hb]; rfl
    by_cases h : ok (num p) = true
    · have e : fRun num ok true val (fun _ => 0, fun _ => 0, 0) (p + 1) = fGrp (fRun num ok true val (fun _ => 0, fun _ => 0, 0) p) (val (num p)) := by
        show (if ok (num p) = true then (if true = true then _ else _) else _) = _
        rw [if_pos h, if_pos rfl]
      rw [e, hb, hv b (by omega) (by omega)]
      generalize fRun num ok true val (fun _ => 0, fun _ => 0, 0) p = u at ih ⊢
      obtain ⟨i1, i2, i3, i4, i5, i6, i7, i8⟩ := ih
      rw [hb] at h
      have hk0 := h
      rw [hok b (by omega) (by omega), Bool.and_eq_true, decide_eq_true_eq] at h
      have hC1 : ∀ z, keyM FI f b = z → cntP num ok (keyM FI f) z (p + 1) = cntP num ok (keyM FI f) z p + 1 := fun z q => by rw [hC z, if_pos ⟨hk0, q⟩]
      have hC2 : ∀ z, keyM FI f b ≠ z → cntP num ok (keyM FI f) z (p + 1) = cntP num ok (keyM FI f) z p := fun z q => by rw [hC z, if_neg (fun w => q w.2)]
      unfold fGrp
      by_cases g : 0 < u.2.2 ∧ u.1 (u.2.2 - 1) = keyM FI f b
      · rw [if_pos g]
        refine ⟨i1, i2, fun j hj q => ?_, fun k hk => ?_, i5, i6, fun k hk => ?_, i8⟩
        · by_cases z : j = p
          · subst z; exact ⟨u.2.2 - 1, by show u.2.2 - 1 < u.2.2; omega, by rw [hb]; exact g.2⟩
          · exact i3 j (by omega) q
        · obtain ⟨j, q1, q2⟩ := i4 k hk; exact ⟨j, by omega, q2⟩
        · have hk : k < u.2.2 := hk
          show up u.2.1 (u.2.2 - 1) (u.2.1 (u.2.2 - 1) + 1) k = cntP num ok (keyM FI f) (u.1 k) (p + 1)
          by_cases z : k = u.2.2 - 1
          · rw [z, up_s, hC1 _ g.2.symm, i7 (u.2.2 - 1) (by omega)]
          · have := i5 k (u.2.2 - 1) (by omega) (by omega)
            rw [up_n z, hC2 _ (by omega)]; exact i7 k hk
      · rw [if_neg g]
        have hfr : ∀ k, k < u.2.2 → u.1 k < keyM FI f b := by
          have hle : ∀ k, k < u.2.2 → u.1 k ≤ keyM FI f b := fun k hk => by
            obtain ⟨j, q1, q2⟩ := i4 k hk
            have h5 := lx_le (hN.2.1 j p q1 (by omega))
            rw [hb] at h5
            rw [q2]; exact h5
          intro k hk
          have h6 := hle (u.2.2 - 1) (by omega)
          have h7 : u.1 (u.2.2 - 1) ≠ keyM FI f b := fun q => g ⟨by omega, q⟩
          by_cases z : k = u.2.2 - 1
          · rw [z]; omega
          · have := i5 k (u.2.2 - 1) (by omega) (by omega)
            omega
        have hIS : (selN FI f false true many s0 u.2.2).1 b = true := (i1 b (by omega) h.1).mpr ⟨h.2, fun k hk q => by have := hfr k hk; omega⟩
        have hbst : bstM FI f false (selN FI f false true many s0 u.2.2).1 many = b := bst_char (by omega) h.1 hIS (fun i q1 q2 q3 q4 => by
          obtain ⟨j, hj, hj2⟩ := hN.2.2 i q1 (by omega)
          have w := (i1 i q1 q2).mp q3
          have hjp : p < j := by
            rcases Nat.lt_trichotomy j p with z | z | z
            · obtain ⟨k, w1, w2⟩ := i3 j z (by rw [hj2, hok i q1 (by omega), w.1, decide_eq_true q2]; rfl)
              rw [hj2] at w2
              exact absurd w2 (w.2 k w1)
            · subst z; rw [hb] at hj2; omega
            · exact z
          have h5 := hN.2.1 p j hjp hj
          rw [hb, hj2] at h5
          rw [hon]
          exact h5)
        have es : selN FI f false true many s0 (u.2.2 + 1) = (isf (selN FI f false true many s0 u.2.2).1 FI f.toNat (keyM FI f b) many, up (selN FI f false true many s0 u.2.2).2.1 u.2.2 (keyM FI f b), up (selN FI f false true many s0 u.2.2).2.2 u.2.2 (cntG (selN FI f false true many s0 u.2.2).1 FI f.toNat (keyM FI f b) many)) := by
          show tkS FI f true u.2.2 (bstM FI f false (selN FI f false true many s0 u.2.2).1 many) many (selN FI f false true many s0 u.2.2) = _
          rw [hbst]
          unfold tkS
          rw [if_pos rfl]
        refine ⟨fun i h1 h2 => ?_, fun k hk => ?_, fun j hj q => ?_, fun k hk => ?_, fun k k' q1 q2 => ?_, fun j hj => ?_, fun k hk => ?_, fun k hk => ?_⟩
        · show (selN FI f false true many s0 (u.2.2 + 1)).1 i = true ↔ iv i = true ∧ ∀ k, k < u.2.2 + 1 → up u.1 u.2.2 (keyM FI f b) k ≠ keyM FI f i
          rw [es]
          show ((selN FI f false true many s0 u.2.2).1 i && !(decide (1 ≤ i ∧ i ≤ many) && decide (keyM FI f i = keyM FI f b))) = true ↔ _
          rw [decide_eq_true (show 1 ≤ i ∧ i ≤ many from ⟨h1, h2⟩), Bool.true_and, Bool.and_eq_true, i1 i h1 h2, Bool.not_eq_true', decide_eq_false_iff_not]
          constructor
          · rintro ⟨⟨q1, q2⟩, q3⟩
            refine ⟨q1, fun k hk => ?_⟩
            by_cases z : k = u.2.2
            · subst z; rw [up_s]; exact fun w => q3 w.symm
            · rw [up_n z]; exact q2 k (by omega)
          · rintro ⟨q1, q2⟩
            refine ⟨⟨q1, fun k hk => ?_⟩, fun w => ?_⟩
            · have := q2 k (by omega)
              rw [up_n (by omega)] at this; exact this
            · have := q2 u.2.2 (Nat.lt_succ_self _)
              rw [up_s] at this; exact this w.symm
        · show (selN FI f false true many s0 (u.2.2 + 1)).2.1 k = up u.1 u.2.2 (keyM FI f b) k
          rw [es]
          show up (selN FI f false true many s0 u.2.2).2.1 u.2.2 (keyM FI f b) k = up u.1 u.2.2 (keyM FI f b) k
          have hk : k < u.2.2 + 1 := hk
          by_cases z : k = u.2.2
          · subst z; rw [up_s, up_s]
          · rw [up_n z, up_n z]; exact i2 k (by omega)
        · show ∃ k, k < u.2.2 + 1 ∧ up u.1 u.2.2 (keyM FI f b) k = keyM FI f (num j).toNat
          by_cases z : j = p
          · subst z; exact ⟨u.2.2, Nat.lt_succ_self _, by rw [up_s, hb]; rfl⟩
          · obtain ⟨k, w1, w2⟩ := i3 j (by omega) q
            exact ⟨k, by omega, by rw [up_n (by omega)]; exact w2⟩
        · have hk : k < u.2.2 + 1 := hk
          show ∃ j, j < p + 1 ∧ up u.1 u.2.2 (keyM FI f b) k = keyM FI f (num j).toNat
          by_cases z : k = u.2.2
          · subst z; exact ⟨p, Nat.lt_succ_self _, by rw [up_s, hb]; rfl⟩
          · obtain ⟨j, w1, w2⟩ := i4 k (by omega)
            exact ⟨j, by omega, by rw [up_n z]; exact w2⟩
        · have q2 : k' < u.2.2 + 1 := q2
          show up u.1 u.2.2 (keyM FI f b) k < up u.1 u.2.2 (keyM FI f b) k'
          by_cases z : k' = u.2.2
          · subst z; rw [up_s, up_n (by omega)]; exact hfr k q1
          · rw [up_n z, up_n (by omega)]; exact i5 k k' q1 (by omega)
        · have hj : j < u.2.2 + 1 := hj
          by_cases z : j = u.2.2
          · subst z; rw [hbst]; omega
          · exact i6 j (by omega)
        · have hk : k < u.2.2 + 1 := hk
          show up u.2.1 u.2.2 1 k = cntP num ok (keyM FI f) (up u.1 u.2.2 (keyM FI f b) k) (p + 1)
          by_cases z : k = u.2.2
          · subst z
            rw [up_s, up_s, hC1 _ rfl, cntP_0 (fun j hj q w => by
              obtain ⟨k, w1, w2⟩ := i3 j hj q
              have := hfr k w1
              omega)]
            rfl
          · have := hfr k (by omega)
            rw [up_n z, up_n z, hC2 _ (by omega)]; exact i7 k (by omega)
        · have hk : k < u.2.2 + 1 := hk
          show (selN FI f false true many s0 (u.2.2 + 1)).2.2 k = cntG iv FI f.toNat (up u.1 u.2.2 (keyM FI f b) k) many
          rw [es]
          show up (selN FI f false true many s0 u.2.2).2.2 u.2.2 (cntG (selN FI f false true many s0 u.2.2).1 FI f.toNat (keyM FI f b) many) k = _
          by_cases z : k = u.2.2
          · subst z
            rw [up_s, up_s]
            refine cntG_congr (fun i q1 q2 q3 => ?_)
            have q3 : keyM FI f i = keyM FI f b := q3
            have q4 := i1 i q1 q2
            by_cases w : iv i = true
            · rw [w]; exact q4.mpr ⟨w, fun k hk => by have := hfr k hk; omega⟩
            · have w2 : iv i = false := by simpa using w
              rw [w2]
              by_cases w3 : (selN FI f false true many s0 u.2.2).1 i = true
              · exact absurd (q4.mp w3).1 w
              · simpa using w3
          · rw [up_n z, up_n z]; exact i8 k (by omega)
    · have e : fRun num ok true val (fun _ => 0, fun _ => 0, 0) (p + 1) = fRun num ok true val (fun _ => 0, fun _ => 0, 0) p := by
        show (if ok (num p) = true then (if true = true then _ else _) else _) = _
        rw [if_neg h]
      rw [e]
      generalize fRun num ok true val (fun _ => 0, fun _ => 0, 0) p = u at ih ⊢
      obtain ⟨i1, i2, i3, i4, i5, i6, i7, i8⟩ := ih
      rw [hb] at h
      refine ⟨i1, i2, fun j hj q => ?_, fun k hk => ?_, i5, i6, fun k hk => ?_, i8⟩
      · by_cases z : j = p
        · subst z; rw [hb] at q; exact absurd q h
        · exact i3 j (by omega) q
      · obtain ⟨j, q1, q2⟩ := i4 k hk; exact ⟨j, by omega, q2⟩
      · rw [hC _, if_neg (fun w => h w.1)]; exact i7 k hk
end RUN
/-! as many places as rows -/
theorem cntP_l (num : Nat → Int) (ok : Int → Bool) (K : Nat → Int) (z : Int) : ∀ p, cntP num ok K z p = (((List.range p).map num).countP (fun w => ok w && decide (K w.toNat = z)) : Nat)
  | 0 => rfl
  | p + 1 => by
    rw [List.range_succ, List.map_append, List.countP_append]
    show (if ok (num p) = true ∧ K (num p).toNat = z then cntP num ok K z p + 1 else cntP num ok K z p) = _
    rw [cntP_l num ok K z p]
    by_cases q : ok (num p) = true ∧ K (num p).toNat = z
    · rw [if_pos q]; simp [q.1, q.2]
    · rw [if_neg q]
      have e : (ok (num p) && decide (K (num p).toNat = z)) = false := by
        by_cases w : ok (num p) = true
        · rw [decide_eq_false (fun w2 => q ⟨w, w2⟩), Bool.and_false]
        · have w2 : ok (num p) = false := by simpa using w
          rw [w2, Bool.false_and]
      simp [e]
theorem cntG_l (iv : Nat → Bool) (FI : Nat → Int) (f : Nat) (z : Int) (ok : Int → Bool) (many : Nat) : ∀ n, (∀ r : Nat, 1 ≤ r → r ≤ n → ok (r : Int) = (decide (r ≤ many) && iv r)) → cntG iv FI f z (if n ≤ many then n else many) = (((List.range n).map (fun j => ((j + 1 : Nat) : Int))).countP (fun w => ok w && decide (FI (5 * w.toNat + f) = z)) : Nat)
  | 0, _ => by rw [if_pos (Nat.zero_le many)]; rfl
  | n + 1, h => by
    rw [List.range_succ, List.map_append, List.countP_append]
    have ih := cntG_l iv FI f z ok many n (fun r h1 h2 => h r h1 (by omega))
    have ho := h (n + 1) (by omega) (Nat.le_refl _)
    by_cases q : n + 1 ≤ many
    · rw [if_pos (by omega)] at ih
      rw [if_pos q]
      show (if iv (n + 1) = true ∧ FI (5 * (n + 1) + f) = z then cntG iv FI f z n + 1 else cntG iv FI f z n) = _
      rw [ih]
      rw [decide_eq_true q, Bool.true_and] at ho
      have et : ((n + 1 : Nat) : Int).toNat = n + 1 := by omega
      by_cases w : iv (n + 1) = true ∧ FI (5 * (n + 1) + f) = z
      · rw [if_pos w]
        simp only [List.map_cons, List.map_nil, List.countP_cons, List.countP_nil, et, ho, w.1, w.2]
        simp
      · rw [if_neg w]
        have e : (iv (n + 1) && decide (FI (5 * (n + 1) + f) = z)) = false := by
          by_cases w1 : iv (n + 1) = true
          · rw [decide_eq_false (fun w2 => w ⟨w1, w2⟩), Bool.and_false]
          · have w2 : iv (n + 1) = false := by simpa using w1
            rw [w2, Bool.false_and]
        simp only [List.map_cons, List.map_nil, List.countP_cons, List.countP_nil, et, ho, e]
        simp
    · rw [if_neg q]
      rw [decide_eq_false q, Bool.false_and] at ho
      have ih2 : cntG iv FI f z many = cntG iv FI f z (if n ≤ many then n else many) := by
        by_cases w : n ≤ many
        · rw [if_pos w, show n = many from by omega]
        · rw [if_neg w]
      rw [ih2, ih]
      simp only [List.map_cons, List.map_nil, List.countP_cons, List.countP_nil, ho]
      simp
theorem num_perm {on neg : Bool} {key : Nat → Int} {n : Nat} {num : Nat → Int} (h : numP on neg key n num) : ((List.range n).map num).Perm ((List.range n).map (fun j => ((j + 1 : Nat) : Int))) := by
  refine (List.perm_ext_iff_of_nodup ?_ ?_).mpr (fun a => ?_)
  · refine List.pairwise_map.mpr (List.pairwise_iff_getElem.mpr fun i j hi hj hij => ?_)
    rw [List.length_range] at hi hj
    rw [List.getElem_range, List.getElem_range]
    intro e
    have h5 := h.2.1 i j hij hj
    rw [e] at h5
    exact lx_irr h5
  · refine List.pairwise_map.mpr (List.pairwise_iff_getElem.mpr fun i j hi hj hij => ?_)
    rw [List.getElem_range, List.getElem_range]
    omega
  · rw [List.mem_map, List.mem_map]
    constructor
    · rintro ⟨p, hp, rfl⟩
      have := h.1 p (List.mem_range.mp hp)
      exact ⟨(num p).toNat - 1, List.mem_range.mpr (by omega), by omega⟩
    · rintro ⟨j, hj, rfl⟩
      obtain ⟨p, h1, h2⟩ := h.2.2 (j + 1) (by omega) (by have := List.mem_range.mp hj; omega)
      exact ⟨p, List.mem_range.mpr h1, h2⟩
/-- what the reference chooses is what the walk finds -/
theorem sel_run {FI : Nat → Int} {f : Int} {neg gg : Bool} {iv : Nat → Bool} {num : Nat → Int} {ok : Int → Bool} {val : Int → Int} {n many N : Nat} {s0 s : SL} (hN : numP (decide (0 ≤ f)) neg (keyM FI f) n num) (hm : many ≤ n) (hok : ∀ r : Nat, 1 ≤ r → r ≤ n → ok (r : Int) = (decide (r ≤ many) && iv r))
    (hg : gg = true → 0 ≤ f ∧ neg = false ∧ ∀ r : Nat, 1 ≤ r → r ≤ n → val (r : Int) = keyM FI f r) (h0 : ∀ i, 1 ≤ i → i ≤ many → s0.1 i = iv i) (hs : selP FI f neg gg many s0 N s) :
    N = (fRun num ok gg val (fun _ => 0, fun _ => 0, 0) n).2.2 ∧ (∀ k, k < N → s.2.1 k = (fRun num ok gg val (fun _ => 0, fun _ => 0, 0) n).1 k) ∧ (gg = true → ∀ k, k < N → s.2.2 k = (fRun num ok gg val (fun _ => 0, fun _ => 0, 0) n).2.1 k) := by
  obtain ⟨rfl, hs2, hs3⟩ := hs
  cases gg with
  | false =>
    have hr := rr_run (val := val) hN hm hok h0 n (Nat.le_refl n)
    generalize fRun num ok false val (fun _ => 0, fun _ => 0, 0) n = u at hr ⊢
    obtain ⟨i1, i2, i3⟩ := hr
    have hz : bstM FI f neg (selN FI f neg false many s0 u.2.2).1 many = 0 := bst_zero (fun i h1 h2 => by
      by_cases q : (selN FI f neg false many s0 u.2.2).1 i = true
      · obtain ⟨p, hp, hp2⟩ := hN.2.2 i h1 (by omega)
        exact absurd hp2 (((i1 i h1 h2).mp q).2 p hp)
      · simpa using q)
    have e : N = u.2.2 := by
      rcases Nat.lt_trichotomy N u.2.2 with z | z | z
      · exact absurd hs2 (i3 N z)
      · exact z
      · exact absurd hz (hs3 u.2.2 z)
    subst e
    exact ⟨rfl, i2, fun q => absurd q Bool.false_ne_true⟩
  | true =>
    obtain ⟨g1, rfl, g3⟩ := hg rfl
    have hr := rg_run (val := val) g1 hN hm hok g3 h0 n (Nat.le_refl n)
    generalize fRun num ok true val (fun _ => 0, fun _ => 0, 0) n = u at hr ⊢
    obtain ⟨i1, i2, i3, i4, i5, i6, i7, i8⟩ := hr
    have hz : bstM FI f false (selN FI f false true many s0 u.2.2).1 many = 0 := bst_zero (fun i h1 h2 => by
      by_cases q : (selN FI f false true many s0 u.2.2).1 i = true
      · obtain ⟨p, hp, hp2⟩ := hN.2.2 i h1 (by omega)
        have w := (i1 i h1 h2).mp q
        obtain ⟨k, w1, w2⟩ := i3 p hp (by rw [hp2, hok i h1 (by omega), w.1, decide_eq_true h2]; rfl)
        rw [hp2] at w2
        exact absurd w2 (w.2 k w1)
      · simpa using q)
    have e : N = u.2.2 := by
      rcases Nat.lt_trichotomy N u.2.2 with z | z | z
      · exact absurd hs2 (i6 N z)
      · exact z
      · exact absurd hz (hs3 u.2.2 z)
    subst e
    refine ⟨rfl, i2, fun _ k hk => ?_⟩
    rw [i8 k hk, i7 k hk, cntP_l, (num_perm hN).countP_eq, ← cntG_l iv FI f.toNat (u.1 k) ok many n hok]
    by_cases z : n ≤ many
    · rw [if_pos z, show n = many from by omega]
    · rw [if_neg z]
