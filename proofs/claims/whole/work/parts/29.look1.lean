/-! LOOK: what the reference's loop knows at its head, and the steps -/
def atX (tx : Nat → Int) (n k : Nat) : Int := if k < n then tx k else 0
theorem atX_T {F : Nat → Int} {fr n k : Nat} : atT F fr n k = atX (fun k => F (fr + k)) n k := rfl
theorem atX_c {tx : Nat → Int} {n k : Nat} (h : atX tx n k ≠ 0) : k < n ∧ atX tx n k = tx k := by
  unfold atX at *
  by_cases q : k < n
  · exact ⟨q, if_pos q⟩
  · rw [if_neg q] at h; exact absurd rfl h
theorem atX_lt {tx : Nat → Int} {n k : Nat} (h : k < n) : atX tx n k = tx k := if_pos h
theorem fOf_c {c : Int} (h : 0 ≤ fOf c) : c ≠ 0 := by intro e; subst e; revert h; decide
theorem tOf_c {c : Int} (h : tOf c ≠ 0) : c ≠ 0 ∧ c ≠ 41 ∧ ¬ (c = 38 ∨ c = 124) := by unfold tOf at h; split at h <;> (try split at h) <;> (try split at h) <;> omega
section LOOK
variable (mk : Nat → Bool) (tx : Nat → Int) (n : Nat) (r0 : RS)
def LF (v : Int) : Prop := ∃ u, rFF mk tx n r0 (v, u)
def LI (wa : Bool) (k lv : Nat) (dp : Int) (te : Nat) (NO : Nat → Int) : Prop :=
  k ≤ n ∧ rAll mk tx r0 k ∧ LK lv dp te NO (rEndS (rGo mk tx r0 k)) ∧ dp ≤ 20 ∧ te ≤ 40 ∧ (wa = true → (rGo mk tx r0 k).st = 1 ∨ ((rGo mk tx r0 k).st = 0 ∧ k < n ∧ tOf (tx k) = 0 ∧ k = 0)) ∧
  (wa = false → NO lv = 0 ∧ (rEndS (rGo mk tx r0 k)).st = 5 ∧ ((rGo mk tx r0 k).st = 5 ∨ ((rGo mk tx r0 k).st = 4 ∧ (k < n → ¬ (48 ≤ tx k ∧ tx k ≤ 57 ∧ (rGo mk tx r0 k).fg < 5)))))
def LE (k lv te : Nat) : Prop :=
  k ≤ n ∧ rAll mk tx r0 k ∧ (rEndS (rGo mk tx r0 k)).tc = te ∧ (rEndS (rGo mk tx r0 k)).tl = 0 ∧ (((rEndS (rGo mk tx r0 k)).st = 5 ∧ (lv = 0 ↔ (rEndS (rGo mk tx r0 k)).ne = 0)) ∨ ((rEndS (rGo mk tx r0 k)).st = 0 ∧ lv = 0)) ∧
  (k < n → (0 < lv ∨ tOf (tx k) = 0 → (rTakes mk (tx k) (rGo mk tx r0 k)).1 = false) ∧ (lv = 0 → tOf (tx k) ≠ 0 → rTakes mk (tx k) (rGo mk tx r0 k) = rTail (tx k) (rEndS (rGo mk tx r0 k))))
def LQ (fa : Int) (te ta : Nat) : Prop := ∃ v : RS, rFF mk tx n r0 (fa, v) ∧ (fa = -1 → v.tc = te ∧ ta + (if v.tl = 0 then 0 else 2) = n ∧ LE mk tx n r0 ta 0 te ∧ qE v (rEndS (rGo mk tx r0 ta)) ∧ (ta < n → tOf (atX tx n ta) ≠ 0 ∧ 0 ≤ fOf (atX tx n (ta + 1))))
def LD (k e lv : Nat) (dp : Int) (te : Nat) (NO : Nat → Int) : Prop :=
  k + 2 ≤ e ∧ e ≤ n ∧ rAll mk tx r0 e ∧ LK lv dp te NO (rGo mk tx r0 e) ∧ te < 40 ∧ dp ≤ 20 ∧ (rGo mk tx r0 e).fg = (e : Int) - ((k : Int) + 2) ∧ (e = k + 2 → (rGo mk tx r0 e).st = 3) ∧ (e ≠ k + 2 → (rGo mk tx r0 e).st = 4)
end LOOK
section STEPS
variable {mk : Nat → Bool} {tx : Nat → Int} {n : Nat} {r0 : RS} {k e lv te : Nat} {dp : Int} {NO : Nat → Int}
theorem All_s (h : rAll mk tx r0 k) (h1 : (rTakes mk (tx k) (rGo mk tx r0 k)).1 = true) : rAll mk tx r0 (k + 1) := fun j hj => by
  by_cases q : j = k
  · subst q; exact h1
  · exact h j (by omega)
theorem EB_f {R : RS} (h : R.st = 1 ∨ R.st = 2 ∨ R.st = 3 ∨ R.st = 6) : rEndB R = false := by
  unfold rEndB
  rw [e_not4 (by omega)]
  exact decide_eq_false (by omega)
theorem LF_mix (hk : k ≤ n) (ha : rAll mk tx r0 k) (h1 : k < n → (rTakes mk (tx k) (rGo mk tx r0 k)).1 = false) (h2 : k = n → rEndB (rGo mk tx r0 k) = false) : LF mk tx n r0 (k : Int) := by
  by_cases q : k < n
  · exact ⟨_, Or.inl ⟨k, q, ha, h1 q, rfl⟩⟩
  · have e : k = n := by omega
    subst e
    refine ⟨rEndS (rGo mk tx r0 k), Or.inr ⟨ha, ?_⟩⟩
    rw [h2 rfl]
    exact congrArg (fun v => (v, rEndS (rGo mk tx r0 k))) (if_neg Bool.false_ne_true).symm
theorem LI_w (h : LI mk tx n r0 true k lv dp te NO) : LK lv dp te NO (rGo mk tx r0 k) ∧ ∀ c, (k < n → c = tx k) → k < n → rTakes mk c (rGo mk tx r0 k) = rTest mk c (rGo mk tx r0 k) := by
  obtain ⟨-, -, h3, -, -, h6, -⟩ := h
  have h7 := h6 rfl
  rw [e_not4 (by rcases h7 with q | ⟨q, -⟩ <;> rw [q] <;> decide)] at h3
  refine ⟨h3, fun c hc hk => ?_⟩
  rw [hc hk]
  exact k_want (by rcases h7 with q | ⟨q, -, q2, -⟩; exact Or.inl q; exact Or.inr ⟨q, q2⟩)
theorem LI_lv {wa : Bool} (h : LI mk tx n r0 wa k lv dp te NO) : lv ≤ 20 ∧ 0 ≤ NO lv ∧ NO lv ≤ 20 ∧ 0 ≤ dp ∧ dp ≤ 20 ∧ te ≤ 40 ∧ k ≤ n := by
  have h1 := LK_R h.2.2.1
  have h2 := h.2.2.2.1
  have h3 := h.2.2.2.2.1
  have h4 := h.1
  omega
theorem LI_mk1 {R : RS} (hR : rGo mk tx r0 (k + 1) = R) (hk : k < n) (ha : rAll mk tx r0 (k + 1)) (hl : LK lv dp te NO R) (h1 : R.st = 1) (hd : dp ≤ 20) (ht : te ≤ 40) : LI mk tx n r0 true (k + 1) lv dp te NO := by
  subst hR
  exact ⟨hk, ha, by rw [e_not4 (by rw [h1]; decide)]; exact hl, hd, ht, fun _ => Or.inl h1, fun q => absurd q (by decide)⟩
theorem A_f (h : LI mk tx n r0 true k lv dp te NO) (hc : atX tx n k = 33 ∨ atX tx n k = 40) (hd : dp = 20) : LF mk tx n r0 (k : Int) := by
  have hw := LI_w h
  obtain ⟨hk, e⟩ := atX_c (tx := tx) (n := n) (k := k) (by omega)
  refine LF_mix h.1 h.2.1 (fun _ => ?_) (fun q => by omega)
  rw [hw.2 (tx k) (fun _ => rfl) hk]
  unfold rTest
  by_cases q : tx k = 33
  · rw [if_pos q]; exact l_turnf hw.1 (by omega)
  · rw [if_neg q, if_pos (by omega)]; exact l_openf hw.1 (by omega)
theorem A_t (h : LI mk tx n r0 true k lv dp te NO) (hc : atX tx n k = 33) (hd : dp ≠ 20) : LI mk tx n r0 true (k + 1) lv (dp + 1) te (up NO lv (NO lv + 1)) := by
  have hw := LI_w h
  have hd2 := h.2.2.2.1
  obtain ⟨hk, e⟩ := atX_c (tx := tx) (n := n) (k := k) (by omega)
  have h1 := l_turn hw.1 (by omega)
  have e1 : rTakes mk (tx k) (rGo mk tx r0 k) = rTurn (rGo mk tx r0 k) := by
    rw [hw.2 (tx k) (fun _ => rfl) hk]; unfold rTest; rw [if_pos (by omega)]
  exact LI_mk1 (R := (rTurn (rGo mk tx r0 k)).2) (congrArg Prod.snd e1) hk (All_s h.2.1 (by rw [e1]; exact h1.1)) h1.2.2 h1.2.1 (by omega) h.2.2.2.2.1
theorem A_o (h : LI mk tx n r0 true k lv dp te NO) (hc : atX tx n k = 40) (hd : dp ≠ 20) : LI mk tx n r0 true (k + 1) (lv + 1) (dp + 1) te (up NO (lv + 1) 0) := by
  have hw := LI_w h
  have hd2 := h.2.2.2.1
  obtain ⟨hk, e⟩ := atX_c (tx := tx) (n := n) (k := k) (by omega)
  have h1 := l_open hw.1 (by omega)
  have e1 : rTakes mk (tx k) (rGo mk tx r0 k) = rOpen (rGo mk tx r0 k) := by
    rw [hw.2 (tx k) (fun _ => rfl) hk]; unfold rTest; rw [if_neg (by omega), if_pos (by omega)]
  exact LI_mk1 (R := (rOpen (rGo mk tx r0 k)).2) (congrArg Prod.snd e1) hk (All_s h.2.1 (by rw [e1]; exact h1.1)) h1.2.2 h1.2.1 (by omega) h.2.2.2.2.1
theorem LI_tf (h : LI mk tx n r0 true k lv dp te NO) (h33 : atX tx n k ≠ 33) (h40 : atX tx n k ≠ 40) (hk : k < n) : rTakes mk (tx k) (rGo mk tx r0 k) = rTestField mk (tx k) (rGo mk tx r0 k) := by
  rw [(LI_w h).2 (tx k) (fun _ => rfl) hk]
  rw [atX_lt hk] at h33 h40
  unfold rTest
  rw [if_neg h33, if_neg h40]
theorem B1 (h : LI mk tx n r0 true k lv dp te NO) (h33 : atX tx n k ≠ 33) (h40 : atX tx n k ≠ 40) (hf : fOf (atX tx n k) < 0 ∨ mk (fOf (atX tx n k)).toNat = true ∨ te = 40) : LF mk tx n r0 (k : Int) := by
  have hw := LI_w h
  refine LF_mix h.1 h.2.1 (fun hk => ?_) (fun q => ?_)
  · rw [LI_tf h h33 h40 hk]
    rw [atX_lt hk] at hf
    exact l_tff hw.1 (fun q => by
      have := opn_t.mp q.1
      rcases hf with f | f | f
      · omega
      · rw [this.2] at f; exact absurd f (by decide)
      · omega)
  · rcases h.2.2.2.2.2.1 rfl with q2 | ⟨q2, q3, -⟩
    · exact EB_f (Or.inl q2)
    · omega
theorem B23 (h : LI mk tx n r0 true k lv dp te NO) (h33 : atX tx n k ≠ 33) (h40 : atX tx n k ≠ 40) (hf : 0 ≤ fOf (atX tx n k)) (hm : mk (fOf (atX tx n k)).toNat = false) (ht : te ≠ 40) : k < n ∧ rAll mk tx r0 (k + 1) ∧ (rGo mk tx r0 (k + 1)).st = 2 ∧ LK lv dp te NO (rGo mk tx r0 (k + 1)) := by
  have hw := LI_w h
  have ht2 := h.2.2.2.2.1
  obtain ⟨hk, e⟩ := atX_c (fOf_c hf)
  have e1 := LI_tf h h33 h40 hk
  rw [e] at hf hm
  have h1 := l_tf (mk := mk) (c := tx k) hw.1 (by omega) (opn_t.mpr ⟨hf, hm⟩)
  refine ⟨hk, All_s h.2.1 (by rw [e1]; exact h1.1), ?_, ?_⟩
  · show (rTakes mk (tx k) (rGo mk tx r0 k)).2.st = 2; rw [e1]; exact h1.2.1
  · show LK lv dp te NO (rTakes mk (tx k) (rGo mk tx r0 k)).2; rw [e1]; exact h1.2.2
theorem B2 (h : LI mk tx n r0 true k lv dp te NO) (h33 : atX tx n k ≠ 33) (h40 : atX tx n k ≠ 40) (hf : 0 ≤ fOf (atX tx n k)) (hm : mk (fOf (atX tx n k)).toNat = false) (ht : te ≠ 40) (ho : atX tx n (k + 1) ≠ 61) (ho2 : atX tx n (k + 1) ≠ 60) (ho3 : atX tx n (k + 1) ≠ 62) : LF mk tx n r0 ((k : Int) + 1) := by
  obtain ⟨hk, ha, hs, -⟩ := B23 h h33 h40 hf hm ht
  have := LF_mix (k := k + 1) (n := n) hk ha (fun q => by rw [k_2 hs]; rw [atX_lt q] at ho ho2 ho3; exact l_relf (by omega)) (fun _ => EB_f (by omega))
  rw [show ((k + 1 : Nat) : Int) = (k : Int) + 1 from rfl] at this
  exact this
theorem B3 (h : LI mk tx n r0 true k lv dp te NO) (h33 : atX tx n k ≠ 33) (h40 : atX tx n k ≠ 40) (hf : 0 ≤ fOf (atX tx n k)) (hm : mk (fOf (atX tx n k)).toNat = false) (ht : te ≠ 40) (ho : atX tx n (k + 1) = 61 ∨ atX tx n (k + 1) = 60 ∨ atX tx n (k + 1) = 62) : LD mk tx n r0 k (k + 2) lv dp te NO := by
  obtain ⟨hk, ha, hs, hl⟩ := B23 h h33 h40 hf hm ht
  have ht2 := h.2.2.2.2.1
  obtain ⟨hk1, e⟩ := atX_c (tx := tx) (n := n) (k := k + 1) (by omega)
  have h1 := l_rel (c := tx (k + 1)) hl (by omega)
  have e1 := k_2 (c := tx (k + 1)) (mk := mk) hs
  have e2 : rGo mk tx r0 (k + 2) = (rRelation (tx (k + 1)) (rGo mk tx r0 (k + 1))).2 := congrArg Prod.snd e1
  refine ⟨Nat.le_refl _, hk1, All_s ha (by rw [e1]; exact h1.1), ?_, by omega, h.2.2.2.1, ?_, fun _ => ?_, fun q => absurd rfl q⟩
  · rw [e2]; exact h1.2.2.2
  · rw [e2, h1.2.2.1]; omega
  · rw [e2]; exact h1.2.1
theorem B4 (h : LD mk tx n r0 k e lv dp te NO) (he : e < k + 7) (h1 : 48 ≤ atX tx n e) (h2 : atX tx n e ≤ 57) : LD mk tx n r0 k (e + 1) lv dp te NO := by
  obtain ⟨g1, g2, g3, g4, g5, g6, g7, g8, g9⟩ := h
  obtain ⟨hk, q⟩ := atX_c (tx := tx) (n := n) (k := e) (by omega)
  have hf := l_fig (c := tx e) g4 ⟨by omega, by omega, by omega⟩
  have e1 : rTakes mk (tx e) (rGo mk tx r0 e) = (true, (rFigure (tx e) (rGo mk tx r0 e)).2) := by
    by_cases w : e = k + 2
    · rw [k_3 (g8 w)]; exact Prod.ext hf.1 rfl
    · exact k_4 (g9 w) hf.1
  have e2 : rGo mk tx r0 (e + 1) = (rFigure (tx e) (rGo mk tx r0 e)).2 := by show (rTakes mk (tx e) (rGo mk tx r0 e)).2 = _; rw [e1]
  refine ⟨by omega, hk, All_s g3 (by rw [e1]), ?_, g5, g6, ?_, fun w => by omega, fun _ => ?_⟩
  · rw [e2]; exact hf.2.2.2
  · rw [e2, hf.2.2.1, g7]; omega
  · rw [e2]; exact hf.2.1
theorem B5 (h : LD mk tx n r0 k e lv dp te NO) (he : e = k + 2) (h1 : ¬ (48 ≤ atX tx n e ∧ atX tx n e ≤ 57)) : LF mk tx n r0 (e : Int) := by
  obtain ⟨g1, g2, g3, g4, g5, g6, g7, g8, g9⟩ := h
  exact LF_mix g2 g3 (fun q => by rw [k_3 (g8 he)]; rw [atX_lt q] at h1; rw [l_figf (by omega)]) (fun _ => EB_f (by have := g8 he; omega))
theorem B6 (h : LD mk tx n r0 k e lv dp te NO) (he : e ≠ k + 2) (h1 : k + 7 ≤ e ∨ ¬ (48 ≤ atX tx n e ∧ atX tx n e ≤ 57)) : LI mk tx n r0 false e lv (dp - NO lv) (te + 1) (up NO lv 0) := by
  obtain ⟨g1, g2, g3, g4, g5, g6, g7, g8, g9⟩ := h
  have h4 := g9 he
  have hr := LK_R g4
  have hE := l_end g4
  refine ⟨g2, g3, ?_, by omega, by omega, fun q => absurd q (by decide), fun _ => ⟨up_s, ?_, Or.inr ⟨h4, fun q w => ?_⟩⟩⟩
  · rw [e_4 h4]; exact hE.2
  · rw [e_4 h4]; exact hE.1
  · rw [atX_lt q] at h1; omega
theorem LI_b (h : LI mk tx n r0 false k lv dp te NO) (hk : k < n) : rTakes mk (tx k) (rGo mk tx r0 k) = rBehind (tx k) (rEndS (rGo mk tx r0 k)) := by
  refine k_beh ?_
  rcases (h.2.2.2.2.2.2 rfl).2.2 with q | ⟨q, q2⟩
  · exact Or.inl q
  · exact Or.inr ⟨q, q2 hk⟩
theorem C1 (h : LI mk tx n r0 false k lv dp te NO) (hc : atX tx n k = 38 ∨ atX tx n k = 124) : LI mk tx n r0 true (k + 1) lv dp te NO := by
  obtain ⟨hk, e⟩ := atX_c (tx := tx) (n := n) (k := k) (by omega)
  have e1 : rTakes mk (tx k) (rGo mk tx r0 k) = (true, rNext (tx k) (rEndS (rGo mk tx r0 k))) := by
    rw [LI_b h hk]; unfold rBehind; rw [if_neg (by omega), if_pos (by omega)]
  have h1 := l_next (c := tx k) h.2.2.1
  exact LI_mk1 (congrArg Prod.snd e1) hk (All_s h.2.1 (by rw [e1])) h1.2 h1.1 h.2.2.2.1 h.2.2.2.2.1
theorem C2 (h : LI mk tx n r0 false k lv dp te NO) (hc : atX tx n k = 41) (h0 : 0 < lv) : LI mk tx n r0 false (k + 1) (lv - 1) (dp - 1 - NO (lv - 1)) te (up NO (lv - 1) 0) := by
  obtain ⟨hk, e⟩ := atX_c (tx := tx) (n := n) (k := k) (by omega)
  have e1 : rTakes mk (tx k) (rGo mk tx r0 k) = rClose (rEndS (rGo mk tx r0 k)) := by
    rw [LI_b h hk]; unfold rBehind; rw [if_pos (by omega)]
  have h1 := l_close h.2.2.1 h0 (h.2.2.2.2.2.2 rfl).1
  have e2 : rGo mk tx r0 (k + 1) = (rClose (rEndS (rGo mk tx r0 k))).2 := congrArg Prod.snd e1
  have h9 := h.2.2.1.2.2.2.2.2.2.2 (lv - 1) (by omega)
  have e3 : rEndS (rGo mk tx r0 (k + 1)) = rGo mk tx r0 (k + 1) := e_not4 (by rw [e2, h1.2.1]; decide)
  refine ⟨hk, All_s h.2.1 (by rw [e1]; exact h1.1), by rw [e3, e2]; exact h1.2.2, by have := h.2.2.2.1; omega, h.2.2.2.2.1, fun q => absurd q (by decide), fun _ => ⟨up_s, by rw [e3, e2]; exact h1.2.1, Or.inl (by rw [e2]; exact h1.2.1)⟩⟩
theorem C3 (h : LI mk tx n r0 false k lv dp te NO) (hc : atX tx n k ≠ 38) (hc2 : atX tx n k ≠ 124) (h0 : ¬ (atX tx n k = 41 ∧ 0 < lv)) : LE mk tx n r0 k lv te := by
  have hl := h.2.2.1
  have hr := LK_R hl
  have hz := h.2.2.2.2.2.2 rfl
  have hb : 0 ≤ bal NO lv := bal_0 (fun i hi => hl.2.2.2.2.2.2.2 i (by omega))
  have hne : lv = 0 ↔ (rEndS (rGo mk tx r0 k)).ne = 0 := by
    rw [hl.2.1, hl.2.2.2.2.2.2.1, hz.1]
    constructor
    · intro q; subst q; show ((0 : Nat) : Int) + 0 + 0 = 0; rfl
    · intro q; omega
  refine ⟨h.1, h.2.1, hl.2.2.1, hl.2.2.2.2.1, Or.inl ⟨hz.2.1, hne⟩, fun hk => ?_⟩
  rw [atX_lt hk] at hc hc2 h0
  rw [LI_b h hk]
  unfold rBehind
  constructor
  · intro q
    by_cases w : tx k = 41
    · rw [if_pos w]; exact l_closef (by rw [hl.1]; omega)
    · rw [if_neg w, if_neg (by omega)]
      by_cases w2 : (rEndS (rGo mk tx r0 k)).ne = 0
      · rw [if_pos w2, l_tailf (by rcases q with q | q; exact absurd (hne.mpr w2) (by omega); exact q)]
      · rw [if_neg w2]
  · intro q q2
    have := tOf_c q2
    rw [if_neg this.2.1, if_neg this.2.2, if_pos (hne.mp q)]
theorem LE_0 {r : RS} (h : n = 0 ∨ tOf (atX tx n 0) ≠ 0) : LE mk tx n (rBegin r) 0 0 0 := by
  obtain ⟨st, ne, tu, nu, fg, rl, fd, op, TB, ST, TF, TR, TN, sc, tc, fl, tl, tf⟩ := r
  refine ⟨Nat.zero_le _, fun j hj => absurd hj (Nat.not_lt_zero j), rfl, rfl, Or.inr ⟨rfl, rfl⟩, fun hk => ?_⟩
  rw [atX_lt hk] at h
  have ht : tOf (tx 0) ≠ 0 := by rcases h with q | q; omega; exact q
  refine ⟨fun q => absurd q (by omega), fun _ _ => ?_⟩
  have h1 := l_tail (R := rBegin (st, ne, tu, nu, fg, rl, fd, op, TB, ST, TF, TR, TN, sc, tc, fl, tl, tf)) ht
  unfold rTakes
  rw [if_pos (show (rGo mk tx (rBegin (st, ne, tu, nu, fg, rl, fd, op, TB, ST, TF, TR, TN, sc, tc, fl, tl, tf)) 0).st = 0 from rfl)]
  rw [if_pos (show (rTail (tx 0) (rGo mk tx (rBegin (st, ne, tu, nu, fg, rl, fd, op, TB, ST, TF, TR, TN, sc, tc, fl, tl, tf)) 0)).1 = true from h1.1)]
  exact (Prod.ext h1.1 rfl : rTail (tx 0) (rBegin (st, ne, tu, nu, fg, rl, fd, op, TB, ST, TF, TR, TN, sc, tc, fl, tl, tf)) = (true, _)).symm
theorem LI_0 {r : RS} (h : 0 < n) (h1 : tOf (atX tx n 0) = 0) : LI mk tx n (rBegin r) true 0 0 0 0 (up NO 0 0) := by
  obtain ⟨st, ne, tu, nu, fg, rl, fd, op, TB, ST, TF, TR, TN, sc, tc, fl, tl, tf⟩ := r
  rw [atX_lt h] at h1
  refine ⟨Nat.zero_le _, fun j hj => absurd hj (Nat.not_lt_zero j), ⟨rfl, rfl, rfl, up_s.symm, rfl, fun i hi => absurd hi (Nat.not_lt_zero i), by rw [up_s]; rfl, fun i hi => ?_⟩, by decide, by decide, fun _ => Or.inr ⟨rfl, h, h1, rfl⟩, fun q => absurd q (by decide)⟩
  have e : i = 0 := by omega
  subst e
  rw [up_s]; exact Int.le_refl 0
theorem LE_EB (h : LE mk tx n r0 k lv te) (h0 : 0 < lv) : rEndB (rGo mk tx r0 k) = false := by
  obtain ⟨-, -, -, -, h5, -⟩ := h
  unfold rEndB
  apply decide_eq_false
  rcases h5 with ⟨a, b⟩ | ⟨a, b⟩
  · rintro (q | q | q)
    · omega
    · omega
    · exact absurd (b.mpr q.2) (by omega)
  · omega
theorem LE_lv (h : LE mk tx n r0 k lv te) (h0 : 0 < lv) : LF mk tx n r0 (k : Int) := LF_mix h.1 h.2.1 (fun q => (h.2.2.2.2.2 q).1 (Or.inl h0)) (fun _ => LE_EB h h0)
theorem LE_n (h : LE mk tx n r0 k 0 te) (hk : n ≤ k) : LQ mk tx n r0 (-1) te k := by
  have hE := h
  have e : k = n := Nat.le_antisymm h.1 hk
  subst e
  obtain ⟨-, h2, h3, h4, h5, -⟩ := h
  refine ⟨rEndS (rGo mk tx r0 k), Or.inr ⟨h2, ?_⟩, fun _ => ⟨h3, by rw [if_pos h4]; rfl, hE, qE_r, fun q => absurd q (Nat.lt_irrefl k)⟩⟩
  rw [if_pos]
  unfold rEndB
  apply decide_eq_true
  rcases h5 with ⟨a, b⟩ | ⟨a, b⟩
  · exact Or.inr (Or.inr ⟨a, b.mp rfl⟩)
  · exact Or.inl a
theorem LF_Q {v : Int} {te ta : Nat} (h : LF mk tx n r0 v) (h0 : v ≠ -1) : LQ mk tx n r0 v te ta := by
  obtain ⟨u, hu⟩ := h
  exact ⟨u, hu, fun q => absurd q h0⟩
theorem LE_t0 (h : LE mk tx n r0 k 0 te) (hk : k < n) (ht : tOf (atX tx n k) = 0) : LF mk tx n r0 (k : Int) := by
  rw [atX_lt hk] at ht
  exact LF_mix h.1 h.2.1 (fun q => (h.2.2.2.2.2 q).1 (Or.inr ht)) (fun q => absurd q (by omega))
theorem LE_t (h : LE mk tx n r0 k 0 te) (hk : k < n) (ht : tOf (atX tx n k) ≠ 0) : rAll mk tx r0 (k + 1) ∧ (rGo mk tx r0 (k + 1)).st = 6 ∧ (rGo mk tx r0 (k + 1)).tl ≠ 0 ∧ (rGo mk tx r0 (k + 1)).tc = te := by
  rw [atX_lt hk] at ht
  have e1 := (h.2.2.2.2.2 hk).2 rfl ht
  have h1 := l_tail (R := rEndS (rGo mk tx r0 k)) ht
  have e2 : rGo mk tx r0 (k + 1) = (rTail (tx k) (rEndS (rGo mk tx r0 k))).2 := congrArg Prod.snd e1
  have h2 := tOf_R (tx k)
  refine ⟨All_s h.2.1 (by rw [e1]; exact h1.1), ?_, ?_, ?_⟩
  · rw [e2]; exact h1.2.1
  · rw [e2, h1.2.2.1]; omega
  · rw [e2, h1.2.2.2]; exact h.2.2.1
theorem LE_t1 (h : LE mk tx n r0 k 0 te) (hk : k < n) (ht : tOf (atX tx n k) ≠ 0) (hf : fOf (atX tx n (k + 1)) < 0 ∨ mk (fOf (atX tx n (k + 1))).toNat = true) : LF mk tx n r0 ((k : Int) + 1) := by
  obtain ⟨ha, h6, -, -⟩ := LE_t h hk ht
  have := LF_mix (k := k + 1) (n := n) hk ha (fun q => by
    rw [k_6 h6]
    rw [atX_lt q] at hf
    refine l_tailFf (fun w => ?_)
    have := opn_t.mp w
    rcases hf with f | f
    · omega
    · rw [this.2] at f; exact absurd f (by decide)) (fun _ => EB_f (by omega))
  rw [show ((k + 1 : Nat) : Int) = (k : Int) + 1 from rfl] at this
  exact this
theorem LE_q (h : LE mk tx n r0 k 0 te) (hk : k < n) (ht : tOf (atX tx n k) ≠ 0) : qE (rGo mk tx r0 (k + 2)) (rEndS (rGo mk tx r0 k)) := by
  have h6 := (LE_t h hk ht).2.1
  rw [atX_lt hk] at ht
  have e1 : rGo mk tx r0 (k + 1) = (rTail (tx k) (rEndS (rGo mk tx r0 k))).2 := congrArg Prod.snd ((h.2.2.2.2.2 hk).2 rfl ht)
  have e2 : rGo mk tx r0 (k + 2) = (rTailField mk (tx (k + 1)) (rGo mk tx r0 (k + 1))).2 := congrArg Prod.snd (k_6 (c := tx (k + 1)) (mk := mk) h6)
  have a1 : qE (rGo mk tx r0 (k + 1)) (rEndS (rGo mk tx r0 k)) := by rw [e1]; exact qE_tail
  have a2 : qE (rGo mk tx r0 (k + 2)) (rGo mk tx r0 (k + 1)) := by rw [e2]; exact qE_tailF
  exact qE_t a2 a1
theorem LE_tF (h : LE mk tx n r0 k 0 te) (hk : k < n) (ht : tOf (atX tx n k) ≠ 0) (hf : 0 ≤ fOf (atX tx n (k + 1))) (hm : mk (fOf (atX tx n (k + 1))).toNat = false) : k + 1 < n ∧ rAll mk tx r0 (k + 2) ∧ (rGo mk tx r0 (k + 2)).st = 7 ∧ (rGo mk tx r0 (k + 2)).tl ≠ 0 ∧ (rGo mk tx r0 (k + 2)).tc = te := by
  obtain ⟨ha, h6, h7, h8⟩ := LE_t h hk ht
  obtain ⟨hk1, e⟩ := atX_c (fOf_c hf)
  rw [e] at hf hm
  have h1 := l_tailF (R := rGo mk tx r0 (k + 1)) (opn_t.mpr ⟨hf, hm⟩)
  have e1 := k_6 (c := tx (k + 1)) (mk := mk) h6
  have e2 : rGo mk tx r0 (k + 2) = (rTailField mk (tx (k + 1)) (rGo mk tx r0 (k + 1))).2 := congrArg Prod.snd e1
  refine ⟨hk1, All_s ha (by rw [e1]; exact h1.1), ?_, ?_, ?_⟩
  · rw [e2]; exact h1.2.1
  · rw [e2, h1.2.2.1]; exact h7
  · rw [e2, h1.2.2.2]; exact h8
theorem LE_t2 (h : LE mk tx n r0 k 0 te) (hk : k < n) (ht : tOf (atX tx n k) ≠ 0) (hf : 0 ≤ fOf (atX tx n (k + 1))) (hm : mk (fOf (atX tx n (k + 1))).toNat = false) (h2 : k + 2 < n) : LF mk tx n r0 ((k : Int) + 2) := by
  obtain ⟨hk1, ha, h7, -, -⟩ := LE_tF h hk ht hf hm
  have := LF_mix (k := k + 2) (n := n) (by omega) ha (fun _ => k_7 h7) (fun q => by omega)
  rw [show ((k + 2 : Nat) : Int) = (k : Int) + 2 from rfl] at this
  exact this
theorem LE_t3 (h : LE mk tx n r0 k 0 te) (hk : k < n) (ht : tOf (atX tx n k) ≠ 0) (hf : 0 ≤ fOf (atX tx n (k + 1))) (hm : mk (fOf (atX tx n (k + 1))).toNat = false) (h2 : n ≤ k + 2) : LQ mk tx n r0 (-1) te k := by
  obtain ⟨hk1, ha, h7, h8, h9⟩ := LE_tF h hk ht hf hm
  have e : n = k + 2 := by omega
  subst e
  have e3 : rEndS (rGo mk tx r0 (k + 2)) = rGo mk tx r0 (k + 2) := e_not4 (by rw [h7]; decide)
  refine ⟨rEndS (rGo mk tx r0 (k + 2)), Or.inr ⟨ha, ?_⟩, fun _ => ⟨by rw [e3]; exact h9, by rw [e3, if_neg h8], h, by rw [e3]; exact LE_q h hk ht, fun _ => ⟨ht, hf⟩⟩⟩
  rw [if_pos]
  unfold rEndB
  rw [e3]
  exact decide_eq_true (Or.inr (Or.inl h7))
end STEPS
