/-! WHETHER A TEXT IS TRUE: the loop's head, and its steps -/
section TRU
variable (mk : Nat → Bool) (tx : Nat → Int) (n : Nat) (r0 : RS) (Vv : Nat → Nat → Int) (row ta : Nat)
/-- what is known at a sign of a text without a fault -/
def TH (k lv : Nat) (NO : Nat → Int) (OR AN : Nat → Bool) : Prop :=
  k ≤ ta ∧ QI (rEndS (rGo mk tx r0 k)) ∧ JM OR AN NO lv (jL Vv row (rEndS (rGo mk tx r0 k))) ∧ (k < ta → ∃ wa dp te, LI mk tx n r0 wa k lv dp te NO) ∧ (k = ta → lv = 0) ∧ lv ≤ 20 ∧ 0 ≤ NO lv ∧ NO lv ≤ 20
end TRU
section TRUS
variable {mk : Nat → Bool} {tx : Nat → Int} {n : Nat} {r0 : RS} {Vv : Nat → Nat → Int} {row ta k lv te te0 : Nat} {dp : Int} {NO : Nat → Int} {OR AN : Nat → Bool} {wa : Bool}
theorem S5 (hE : LE mk tx n r0 ta 0 te0) : (rEndS (rGo mk tx r0 ta)).st = 5 ∨ (rEndS (rGo mk tx r0 ta)).st = 0 := by
  rcases hE.2.2.2.2.1 with q | q
  · exact Or.inl q.1
  · exact Or.inr q.1
theorem S_ta {j : Nat} (hE : LE mk tx n r0 ta 0 te0) (h : (rGo mk tx r0 j).st = 1 ∨ (rGo mk tx r0 j).st = 2 ∨ (rGo mk tx r0 j).st = 3 ∨ (rGo mk tx r0 j).st = 6 ∨ (rGo mk tx r0 j).st = 7) : j ≠ ta := by
  intro e
  subst e
  have h5 := S5 hE
  rw [e_not4 (by omega)] at h5
  omega
theorem S6 {j : Nat} (hE : LE mk tx n r0 ta 0 te0) (hj : j ≤ ta) (h : (rGo mk tx r0 j).st = 6) : False := by
  have h1 := S_ta hE (j := j) (by omega)
  have ha := hE.2.1 j (by omega)
  have e1 := k_6 (c := tx j) (mk := mk) h
  rw [e1] at ha
  have ho : opn mk (tx j) = true := by
    by_cases q : opn mk (tx j) = true
    · exact q
    · rw [l_tailFf q] at ha; exact absurd ha (by decide)
  have h7 : (rGo mk tx r0 (j + 1)).st = 7 := by
    show (rTakes mk (tx j) (rGo mk tx r0 j)).2.st = 7
    rw [e1]; exact (l_tailF ho).2.1
  have h2 := S_ta hE (j := j + 1) (by omega)
  have ha2 := hE.2.1 (j + 1) (by omega)
  rw [k_7 h7] at ha2
  exact absurd ha2 (by decide)
/-- at the end of the condition no bracket is open -/
theorem LI_ta (hE : LE mk tx n r0 ta 0 te0) (h : LI mk tx n r0 wa ta lv dp te NO) (h0 : 0 < ta) : lv = 0 := by
  have hr := LK_R h.2.2.1
  rcases hE.2.2.2.2.1 with q | q
  · have := q.2.mp rfl
    rw [h.2.2.1.2.1] at this
    omega
  · cases wa with
    | true =>
      rcases h.2.2.2.2.2.1 rfl with w | w
      · exact absurd rfl (S_ta hE (j := ta) (Or.inl w))
      · omega
    | false => have := (h.2.2.2.2.2.2 rfl).2.1; omega
theorem TH_mk {lv' : Nat} {NO' : Nat → Int} {OR' AN' : Nat → Bool} {wa' : Bool} {dp' : Int} {te' : Nat} {j : Nat} (hE : LE mk tx n r0 ta 0 te0) (hj : j < ta) (h : LI mk tx n r0 wa' (j + 1) lv' dp' te' NO') (hq : QI (rEndS (rGo mk tx r0 (j + 1)))) (hm : JM OR' AN' NO' lv' (jL Vv row (rEndS (rGo mk tx r0 (j + 1))))) : TH mk tx n r0 Vv row ta (j + 1) lv' NO' OR' AN' := by
  have hB := LI_lv h
  exact ⟨hj, hq, hm, fun _ => ⟨wa', dp', te', h⟩, fun e => by subst e; exact LI_ta hE h (Nat.succ_pos j), hB.1, hB.2.1, hB.2.2.1⟩
theorem w_E (h : LI mk tx n r0 true k lv dp te NO) : rEndS (rGo mk tx r0 k) = rGo mk tx r0 k := e_not4 (by rcases h.2.2.2.2.2.1 rfl with q | ⟨q, -⟩ <;> rw [q] <;> decide)
/-- a sign !, a bracket opened -/
theorem T_turn (hE : LE mk tx n r0 ta 0 te0) (hT : TH mk tx n r0 Vv row ta k lv NO OR AN) (hk : k < ta) (hc : tx k = 33) : TH mk tx n r0 Vv row ta (k + 1) lv (up NO lv (NO lv + 1)) OR AN := by
  obtain ⟨-, hq, hm, hL, -⟩ := hT
  obtain ⟨wa, dp, te, h⟩ := hL hk
  have hn := hE.1
  have ha := hE.2.1 k hk
  cases wa with
  | false =>
    exfalso
    rw [LI_b h (by omega)] at ha
    unfold rBehind at ha
    rw [if_neg (by omega), if_neg (by omega), l_tailf (by rw [hc]; decide)] at ha
    revert ha; split <;> exact fun w => absurd (show false = true from w) Bool.false_ne_true
  | true =>
    have e1 : rTakes mk (tx k) (rGo mk tx r0 k) = rTurn (rGo mk tx r0 k) := by
      rw [(LI_w h).2 (tx k) (fun _ => rfl) (by omega)]; unfold rTest; rw [if_pos hc]
    have hne : (rGo mk tx r0 k).ne = dp := (LI_w h).1.2.1
    have hd : dp ≠ 20 := by
      intro e
      rw [e1, l_turnf (LI_w h).1 (by omega)] at ha
      exact absurd ha (by decide)
    have hI := A_t h (by rw [atX_lt (show k < n by omega)]; exact hc) hd
    have h20 := h.2.2.2.1
    have e2 : rEndS (rGo mk tx r0 (k + 1)) = (rTurn (rGo mk tx r0 k)).2 := by
      rw [w_E hI]; show (rTakes mk (tx k) (rGo mk tx r0 k)).2 = _; rw [e1]
    rw [w_E h] at hq hm
    obtain ⟨hq2, b, hb⟩ := pS_j (Vv := Vv) (row := row) (p_turn (R := rGo mk tx r0 k) (by omega)) hq (Or.inl rfl)
    refine TH_mk hE hk hI (by rw [e2]; exact hq2) ?_
    rw [e2, hb]
    exact m1 hm
theorem T_open (hE : LE mk tx n r0 ta 0 te0) (hT : TH mk tx n r0 Vv row ta k lv NO OR AN) (hk : k < ta) (hc : tx k = 40) : TH mk tx n r0 Vv row ta (k + 1) (lv + 1) (up NO (lv + 1) 0) (up OR (lv + 1) false) (up AN (lv + 1) true) := by
  obtain ⟨-, hq, hm, hL, -⟩ := hT
  obtain ⟨wa, dp, te, h⟩ := hL hk
  have hn := hE.1
  have ha := hE.2.1 k hk
  cases wa with
  | false =>
    exfalso
    rw [LI_b h (by omega)] at ha
    unfold rBehind at ha
    rw [if_neg (by omega), if_neg (by omega), l_tailf (by rw [hc]; decide)] at ha
    revert ha; split <;> exact fun w => absurd (show false = true from w) Bool.false_ne_true
  | true =>
    have e1 : rTakes mk (tx k) (rGo mk tx r0 k) = rOpen (rGo mk tx r0 k) := by
      rw [(LI_w h).2 (tx k) (fun _ => rfl) (by omega)]; unfold rTest; rw [if_neg (by omega), if_pos hc]
    have hne : (rGo mk tx r0 k).ne = dp := (LI_w h).1.2.1
    have hd : dp ≠ 20 := by
      intro e
      rw [e1, l_openf (LI_w h).1 (by omega)] at ha
      exact absurd ha (by decide)
    have hI := A_o h (by rw [atX_lt (show k < n by omega)]; exact hc) hd
    have h20 := h.2.2.2.1
    have e2 : rEndS (rGo mk tx r0 (k + 1)) = (rOpen (rGo mk tx r0 k)).2 := by
      rw [w_E hI]; show (rTakes mk (tx k) (rGo mk tx r0 k)).2 = _; rw [e1]
    rw [w_E h] at hq hm
    obtain ⟨hq2, b, hb⟩ := pS_j (Vv := Vv) (row := row) (p_open (R := rGo mk tx r0 k) (by omega)) hq (Or.inr (Or.inl rfl))
    refine TH_mk hE hk hI (by rw [e2]; exact hq2) ?_
    rw [e2, hb]
    exact m2 hm
/-- behind a test: one of the three signs -/
theorem T_beh (hE : LE mk tx n r0 ta 0 te0) (hk : k < ta) (h : LI mk tx n r0 false k lv dp te NO) : tx k = 38 ∨ tx k = 124 ∨ (tx k = 41 ∧ 0 < lv) := by
  have hn := hE.1
  have ha := hE.2.1 k hk
  have e : atX tx n k = tx k := atX_lt (by omega)
  by_cases q : tx k = 38 ∨ tx k = 124 ∨ (tx k = 41 ∧ 0 < lv)
  · exact q
  · exfalso
    have hL := C3 h (by omega) (by omega) (by omega)
    have h6 := hL.2.2.2.2.2 (show k < n by omega)
    by_cases w : 0 < lv ∨ tOf (tx k) = 0
    · rw [h6.1 w] at ha; exact absurd ha (by decide)
    · have e0 : lv = 0 := by omega
      subst e0
      exact S6 hE (j := k + 1) hk (LE_t hL (by omega) (by rw [e]; omega)).2.1
/-- wanting a test: no sign of those behind one -/
theorem T_wnt (hE : LE mk tx n r0 ta 0 te0) (hk : k < ta) (h : LI mk tx n r0 true k lv dp te NO) (h1 : tx k ≠ 33) (h2 : tx k ≠ 40) : opn mk (tx k) = true ∧ te < 40 ∧ rTakes mk (tx k) (rGo mk tx r0 k) = rTestField mk (tx k) (rGo mk tx r0 k) := by
  have hn := hE.1
  have ha := hE.2.1 k hk
  have e : atX tx n k = tx k := atX_lt (by omega)
  have e1 := LI_tf h (by omega) (by omega) (show k < n by omega)
  rw [e1] at ha
  by_cases q : opn mk (tx k) = true ∧ te < 40
  · exact ⟨q.1, q.2, e1⟩
  · rw [l_tff (LI_w h).1 q] at ha; exact absurd ha (by decide)
theorem T_close (hE : LE mk tx n r0 ta 0 te0) (hT : TH mk tx n r0 Vv row ta k lv NO OR AN) (hk : k < ta) (hc : tx k = 41) : 0 < lv ∧ 0 ≤ NO (lv - 1) ∧ NO (lv - 1) ≤ 20 ∧ TH mk tx n r0 Vv row ta (k + 1) (lv - 1) (up NO (lv - 1) 0) OR (up AN (lv - 1) (AN (lv - 1) && ((OR lv || AN lv) != decide (NO (lv - 1) % 2 = 1)))) := by
  obtain ⟨-, hq, hm, hL, -⟩ := hT
  obtain ⟨wa, dp, te, h⟩ := hL hk
  have hn := hE.1
  have e : atX tx n k = tx k := atX_lt (by omega)
  cases wa with
  | true =>
    exfalso
    have := (opn_t.mp (T_wnt hE hk h (by omega) (by omega)).1).1
    rw [hc] at this
    exact absurd this (by decide)
  | false =>
    have h0 : 0 < lv := by have := T_beh hE hk h; omega
    have hI := C2 h (by omega) h0
    have e1 : rTakes mk (tx k) (rGo mk tx r0 k) = rClose (rEndS (rGo mk tx r0 k)) := by
      rw [LI_b h (by omega)]; unfold rBehind; rw [if_pos hc]
    have hl := h.2.2.1
    have hcl := l_close hl h0 (h.2.2.2.2.2.2 rfl).1
    have e2 : rEndS (rGo mk tx r0 (k + 1)) = (rClose (rEndS (rGo mk tx r0 k))).2 := by
      have e3 : rGo mk tx r0 (k + 1) = (rClose (rEndS (rGo mk tx r0 k))).2 := congrArg Prod.snd e1
      rw [e_not4 (by rw [e3, hcl.2.1]; decide), e3]
    obtain ⟨hq2, b, hb⟩ := pS_j (Vv := Vv) (row := row) (p_close (R := rEndS (rGo mk tx r0 k)) (by rw [hl.1]; omega)) hq (Or.inr (Or.inr (Or.inl rfl)))
    have h9 := hl.2.2.2.2.2.2.2 (lv - 1) (by omega)
    have hb9 := bal_0 (T := NO) (k := lv - 1) (fun i hi => hl.2.2.2.2.2.2.2 i (by omega))
    have e9 : bal NO lv = bal NO (lv - 1) + NO (lv - 1) := by
      obtain ⟨j, rfl⟩ := Nat.exists_eq_succ_of_ne_zero (show lv ≠ 0 by omega)
      rfl
    have h7 := hl.2.2.2.2.2.2.1
    have hz := (h.2.2.2.2.2.2 rfl).1
    have h20 := h.2.2.2.1
    refine ⟨h0, h9, by omega, TH_mk hE hk hI (by rw [e2]; exact hq2) ?_⟩
    rw [e2, hb]
    exact m3 hm h0
theorem T_next (hE : LE mk tx n r0 ta 0 te0) (hT : TH mk tx n r0 Vv row ta k lv NO OR AN) (hk : k < ta) (hc : tx k = 38 ∨ tx k = 124) : (tx k = 124 → TH mk tx n r0 Vv row ta (k + 1) lv NO (up OR lv (OR lv || AN lv)) (up AN lv true)) ∧ (tx k = 38 → TH mk tx n r0 Vv row ta (k + 1) lv NO OR AN) := by
  obtain ⟨-, hq, hm, hL, -⟩ := hT
  obtain ⟨wa, dp, te, h⟩ := hL hk
  have hn := hE.1
  have e : atX tx n k = tx k := atX_lt (by omega)
  cases wa with
  | true =>
    exfalso
    have := (opn_t.mp (T_wnt hE hk h (by omega) (by omega)).1).1
    rcases hc with q | q <;> rw [q] at this <;> exact absurd this (by decide)
  | false =>
    have hI := C1 h (by omega)
    have e1 : rTakes mk (tx k) (rGo mk tx r0 k) = (true, rNext (tx k) (rEndS (rGo mk tx r0 k))) := by
      rw [LI_b h (by omega)]; unfold rBehind; rw [if_neg (by omega), if_pos (by omega)]
    have e2 : rEndS (rGo mk tx r0 (k + 1)) = rNext (tx k) (rEndS (rGo mk tx r0 k)) := by
      rw [w_E hI]; show (rTakes mk (tx k) (rGo mk tx r0 k)).2 = _; rw [e1]
    constructor
    · intro q
      obtain ⟨hq2, b, hb⟩ := pS_j (Vv := Vv) (row := row) (p_bar (R := rEndS (rGo mk tx r0 k)) q) hq (Or.inr (Or.inr (Or.inr rfl)))
      refine TH_mk hE hk hI (by rw [e2]; exact hq2) ?_
      rw [e2, hb]
      exact m4 hm
    · intro q
      obtain ⟨hq2, hb⟩ := pQ_j (Vv := Vv) (row := row) (p_and (R := rEndS (rGo mk tx r0 k)) (c := tx k) (by omega)) hq
      refine TH_mk hE hk hI (by rw [e2]; exact hq2) ?_
      rw [e2, hb]
      exact hm
end TRUS
