/-! WHETHER A TEXT IS TRUE: a test, with its number -/
def bd10 : Nat → Int
  | 0 => 1
  | i + 1 => 10 * bd10 i
theorem bd10_le {i : Nat} (h : i ≤ 5) : bd10 i ≤ 100000 := by
  rcases (show i = 0 ∨ i = 1 ∨ i = 2 ∨ i = 3 ∨ i = 4 ∨ i = 5 by omega) with e | e | e | e | e | e <;> subst e <;> decide
theorem tOf_dig {c : Int} (h : 48 ≤ c ∧ c ≤ 57) : tOf c = 0 := by unfold tOf; omega
section TRUD
variable (mk : Nat → Bool) (tx : Nat → Int) (n : Nat) (r0 : RS) (Vv : Nat → Nat → Int) (row ta : Nat)
def TD (k e : Nat) (v : Int) (lv : Nat) (NO : Nat → Int) (OR AN : Nat → Bool) : Prop :=
  k + 2 ≤ e ∧ e ≤ ta ∧ e ≤ k + 7 ∧ 0 ≤ v ∧ v < bd10 (e - (k + 2)) ∧ QI (rGo mk tx r0 e) ∧ JM OR AN NO lv (jL Vv row (rGo mk tx r0 e)) ∧ pN (rGo mk tx r0 e) (fOf (tx k)).toNat (tx (k + 1)) v ∧ ∃ dp te, LD mk tx n r0 k e lv dp te NO
end TRUD
section TRUE
variable {mk : Nat → Bool} {tx : Nat → Int} {n : Nat} {r0 : RS} {Vv : Nat → Nat → Int} {row ta k e lv te te0 : Nat} {v dp : Int} {NO : Nat → Int} {OR AN : Nat → Bool}
theorem TD_0 (hE : LE mk tx n r0 ta 0 te0) (hT : TH mk tx n r0 Vv row ta k lv NO OR AN) (hk : k < ta) (h1 : tx k ≠ 33) (h2 : tx k ≠ 40) (h3 : tx k ≠ 41) (h4 : tx k ≠ 124) (h5 : tx k ≠ 38) : 0 ≤ fOf (tx k) ∧ k + 1 < ta ∧ (tx (k + 1) = 61 ∨ tx (k + 1) = 60 ∨ tx (k + 1) = 62) ∧ TD mk tx n r0 Vv row ta k (k + 2) 0 lv NO OR AN := by
  obtain ⟨-, hq, hm, hL, -⟩ := hT
  obtain ⟨wa, dp, te, h⟩ := hL hk
  have hn := hE.1
  cases wa with
  | false => have := T_beh hE hk h; omega
  | true =>
    obtain ⟨ho, ht, e1⟩ := T_wnt hE hk h h1 h2
    have hop := opn_t.mp ho
    have e : atX tx n k = tx k := atX_lt (by omega)
    have hB := B23 h (by omega) (by omega) (by rw [e]; exact hop.1) (by rw [e]; exact hop.2) (by omega)
    have hne := S_ta hE (j := k + 1) (Or.inr (Or.inl hB.2.2.1))
    have hk1 : k + 1 < ta := by omega
    have ha := hE.2.1 (k + 1) hk1
    have e3 := k_2 (c := tx (k + 1)) (mk := mk) hB.2.2.1
    rw [e3] at ha
    have hr : tx (k + 1) = 61 ∨ tx (k + 1) = 60 ∨ tx (k + 1) = 62 := by
      by_cases q : tx (k + 1) = 61 ∨ tx (k + 1) = 60 ∨ tx (k + 1) = 62
      · exact q
      · rw [l_relf q] at ha; exact absurd ha (by decide)
    have e' : atX tx n (k + 1) = tx (k + 1) := atX_lt (by omega)
    have hD := B3 h (by omega) (by omega) (by rw [e]; exact hop.1) (by rw [e]; exact hop.2) (by omega) (by omega)
    have g1 : rGo mk tx r0 (k + 1) = (rTestField mk (tx k) (rGo mk tx r0 k)).2 := congrArg Prod.snd e1
    have g2 : rGo mk tx r0 (k + 2) = (rRelation (tx (k + 1)) (rGo mk tx r0 (k + 1))).2 := congrArg Prod.snd e3
    rw [w_E h] at hq hm
    have htc : (rGo mk tx r0 k).tc = te := (LI_w h).1.2.2.1
    have p1 : pQ (rGo mk tx r0 k) (rGo mk tx r0 (k + 1)) := by rw [g1]; exact p_tf ⟨ho, by omega⟩
    have p2 : pQ (rGo mk tx r0 (k + 1)) (rGo mk tx r0 (k + 2)) := by rw [g2]; exact p_rel hr
    obtain ⟨hq2, hj⟩ := pQ_j (Vv := Vv) (row := row) (pQ_t p1 p2) hq
    have hf : (rGo mk tx r0 (k + 1)).fd = (fOf (tx k)).toNat := by rw [g1]; exact n_tf ⟨ho, by omega⟩
    have hN := n_rel (R := rGo mk tx r0 (k + 1)) hr
    rw [← g2, hf] at hN
    refine ⟨hop.1, hk1, hr, Nat.le_refl _, hk1, by omega, Int.le_refl 0, by rw [Nat.sub_self]; decide, hq2, by rw [hj]; exact hm, hN, dp, te, hD⟩
theorem TD_acc (hE : LE mk tx n r0 ta 0 te0) (hD : LD mk tx n r0 k e lv dp te NO) (he : e < ta) (h3 : e = k + 2 ∨ (48 ≤ tx e ∧ tx e ≤ 57)) : 48 ≤ tx e ∧ tx e ≤ 57 ∧ (rGo mk tx r0 e).fg < 5 := by
  have ha := hE.2.1 e he
  by_cases q : 48 ≤ tx e ∧ tx e ≤ 57 ∧ (rGo mk tx r0 e).fg < 5
  · exact q
  · exfalso
    by_cases w : e = k + 2
    · rw [k_3 (hD.2.2.2.2.2.2.2.1 w), l_figf q] at ha
      exact absurd (show false = true from ha) Bool.false_ne_true
    · have hc : 48 ≤ tx e ∧ tx e ≤ 57 := by rcases h3 with r | r; exact absurd r w; exact r
      rw [k_beh (Or.inr ⟨hD.2.2.2.2.2.2.2.2 w, q⟩)] at ha
      unfold rBehind at ha
      rw [if_neg (by omega), if_neg (by omega), l_tailf (tOf_dig hc)] at ha
      revert ha; split <;> exact fun w => absurd (show false = true from w) Bool.false_ne_true
theorem TD_s (hE : LE mk tx n r0 ta 0 te0) (h : TD mk tx n r0 Vv row ta k e v lv NO OR AN) (he : e < ta) (h1 : 48 ≤ tx e ∧ tx e ≤ 57) : e < k + 7 ∧ TD mk tx n r0 Vv row ta k (e + 1) (v * 10 + (tx e - 48)) lv NO OR AN := by
  obtain ⟨g1, g2, g3, g4, g5, hq, hm, hN, dp, te, hD⟩ := h
  have hn := hE.1
  have hf := TD_acc hE hD he (Or.inr h1)
  have hfg := hD.2.2.2.2.2.2.1
  have ex : atX tx n e = tx e := atX_lt (by omega)
  have hD2 := B4 hD (by omega) (by omega) (by omega)
  have hl := l_fig (c := tx e) hD.2.2.2.1 hf
  have e1 : rTakes mk (tx e) (rGo mk tx r0 e) = (true, (rFigure (tx e) (rGo mk tx r0 e)).2) := by
    by_cases w : e = k + 2
    · rw [k_3 (hD.2.2.2.2.2.2.2.1 w)]; exact Prod.ext hl.1 rfl
    · exact k_4 (hD.2.2.2.2.2.2.2.2 w) hl.1
  have e2 : rGo mk tx r0 (e + 1) = (rFigure (tx e) (rGo mk tx r0 e)).2 := by show (rTakes mk (tx e) (rGo mk tx r0 e)).2 = _; rw [e1]
  have p1 : pQ (rGo mk tx r0 e) (rGo mk tx r0 (e + 1)) := by rw [e2]; exact p_fig hf
  obtain ⟨hq2, hj⟩ := pQ_j (Vv := Vv) (row := row) p1 hq
  have hN2 := n_fig (R := rGo mk tx r0 e) hf
  rw [← e2, hN.1, hN.2.1, hN.2.2] at hN2
  have hb : bd10 (e + 1 - (k + 2)) = 10 * bd10 (e - (k + 2)) := by
    rw [show e + 1 - (k + 2) = (e - (k + 2)) + 1 by omega]; rfl
  exact ⟨by omega, by omega, he, by omega, by omega, by rw [hb]; omega, hq2, by rw [hj]; exact hm, hN2, dp, te, hD2⟩
theorem TD_R (h : TD mk tx n r0 Vv row ta k e v lv NO OR AN) : 0 ≤ v ∧ v < 100000 ∧ k + 2 ≤ e ∧ e ≤ ta := by
  have := bd10_le (i := e - (k + 2)) (by have := h.2.2.1; omega)
  have h4 := h.2.2.2.1
  have h5 := h.2.2.2.2.1
  have h6 := h.1
  have h7 := h.2.1
  omega
theorem TD_e (hE : LE mk tx n r0 ta 0 te0) (hTa : ta < n → tOf (atX tx n ta) ≠ 0) (h : TD mk tx n r0 Vv row ta k e v lv NO OR AN) (h1 : e = ta ∨ ¬ (48 ≤ tx e ∧ tx e ≤ 57)) : TH mk tx n r0 Vv row ta e lv (up NO lv 0) OR (up AN lv (AN lv && (tstV (tx (k + 1)) (Vv (fOf (tx k)).toNat row) v != decide (NO lv % 2 = 1)))) := by
  obtain ⟨g1, g2, g3, g4, g5, hq, hm, hN, dp, te, hD⟩ := h
  have hn := hE.1
  have hk2 : e ≠ k + 2 := by
    intro w
    have h3 := hD.2.2.2.2.2.2.2.1 w
    have hne := S_ta hE (j := e) (Or.inr (Or.inr (Or.inl h3)))
    have hf := TD_acc hE hD (by omega) (Or.inl w)
    omega
  have h4 := hD.2.2.2.2.2.2.2.2 hk2
  have hI := B6 hD hk2 (by
    by_cases w : e = ta
    · subst w
      refine Or.inr (fun q => ?_)
      by_cases w2 : e < n
      · exact hTa w2 (tOf_dig q)
      · unfold atX at q; rw [if_neg w2] at q; omega
    · rw [atX_lt (show e < n by omega)]
      rcases h1 with q | q
      · exact absurd q w
      · exact Or.inr q)
  obtain ⟨hq2, hj⟩ := j_end (Vv := Vv) (row := row) hq
  rw [hN.1, hN.2.1, hN.2.2] at hj
  obtain ⟨j, rfl⟩ := Nat.exists_eq_succ_of_ne_zero (show e ≠ 0 by omega)
  refine TH_mk (j := j) hE (by omega) hI (by rw [e_4 h4]; exact hq2) ?_
  rw [e_4 h4, hj]
  exact m5 hm
/-- the beginning -/
theorem TH_0 {r : RS} (hE : LE mk tx n (rBegin r) ta 0 te0) : TH mk tx n (rBegin r) Vv row ta 0 0 (up NO 0 0) (up OR 0 false) (up AN 0 true) := by
  have hb : rEndS (rGo mk tx (rBegin r) 0) = rBegin r := by
    obtain ⟨st, ne, tu, nu, fg, rl, fd, op, TB, ST, TF, TR, TN, sc, tc, fl, tl, tf⟩ := r
    exact e_not4 (show (0 : Int) ≠ 4 by decide)
  have hs : (rBegin r).sc = 0 ∧ (rBegin r).tc = 0 := by
    obtain ⟨st, ne, tu, nu, fg, rl, fd, op, TB, ST, TF, TR, TN, sc, tc, fl, tl, tf⟩ := r
    exact ⟨rfl, rfl⟩
  refine ⟨Nat.zero_le _, ?_, ?_, fun h0 => ⟨true, 0, 0, LI_0 (by have := hE.1; omega) ?_⟩, fun _ => rfl, by decide, by rw [up_s]; decide, by rw [up_s]; decide⟩
  · rw [hb]
    unfold QI
    rw [hs.1, hs.2]
    exact ⟨rfl, fun i hi => absurd hi (Nat.not_lt_zero i)⟩
  · rw [hb]
    unfold jL
    rw [hs.1]
    exact m0
  · have hn := hE.1
    by_cases q : tOf (atX tx n 0) = 0
    · exact q
    · exfalso
      have hL := LE_0 (mk := mk) (r := r) (Or.inr q)
      exact S6 hE (j := 1) h0 (LE_t hL (by omega) q).2.1
theorem TH_end (h : TH mk tx n r0 Vv row ta ta lv NO OR AN) : lv = 0 ∧ jV (jL Vv row (rEndS (rGo mk tx r0 ta))) = (OR 0 || AN 0) := by
  obtain ⟨-, -, hm, -, h5, -⟩ := h
  have e := h5 rfl
  subst e
  exact ⟨rfl, repV hm.1 hm.2⟩
end TRUE
