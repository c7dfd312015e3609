/-! WHAT A QUESTION FINDS, ON BOTH SIDES -/
section FQ
variable {FI RO RW RK : Nat → Int} {gn n sz te ta many N : Nat} {B : Nat → Nat → Nat → Bool} {Cn : Nat → Int} {Vv U Dn : Nat → Nat → Int} {mk : Nat → Bool} {tx : Nat → Int} {r v : RS} {w : Int} {sl : SL}
theorem tOf_1 {c : Int} : tOf c = 1 ↔ c = 35 := by unfold tOf; split <;> (try split) <;> (try split) <;> omega
theorem tOf_3 {c : Int} : tOf c = 3 ↔ c = 45 := by unfold tOf; split <;> (try split) <;> (try split) <;> omega
theorem ok_eq (hI : rowI n Vv U Dn FI) (hR : rgtI gn B Cn RO RW RK) (hw : 0 ≤ w ∧ w < 50) (hq : qOK (rQ v w.toNat)) (hE : qE v (rEndS (rGo mk tx (rBegin r) ta))) (x : Nat) (h1 : 1 ≤ x) (h2 : x ≤ n) :
    okR B Vv v.ST v.TF v.TR v.TN v.sc w.toNat (many : Int) (x : Int) = (decide (x ≤ many) && (seeM RO RW RK FI w x gn && jV (jL (fun f _ => FI (5 * x + f)) 0 (rEndS (rGo mk tx (rBegin r) ta))))) := by
  obtain ⟨k, rfl⟩ := Nat.exists_eq_succ_of_ne_zero (show x ≠ 0 by omega)
  have hk : k < n := h2
  have hv := hI.1 k hk
  unfold okR
  rw [show (((k.succ : Nat) : Int) - 1).toNat = k by omega, sees_eq (r := k.succ) hR hw (hI.2.2.1 4 k (by decide) hk) (hI.2.2.1 1 k (by decide) hk) ⟨hv.2.1, hv.2.2.1⟩ hv.2.2.2, decR (show ((k.succ : Nat) : Int) ≤ (many : Int) ↔ k.succ ≤ many by omega)]
  congr 2
  unfold jL
  obtain ⟨e1, e2, e3, e4, e5⟩ := hE
  rw [← e1, ← e2, ← e3, ← e4, ← e5]
  have hj := hq.1.2
  refine congrArg jV (jR_congr (fun i _ => rfl) (fun i hi h5 => ?_) (fun i hi => ?_))
  · have h6 := (hj i hi).2.2.2 h5
    show tstV (v.TR (tJ v.ST i)) (Vv (v.TF (tJ v.ST i)).toNat k) (v.TN (tJ v.ST i)) = tstV (v.TR (tJ v.ST i)) (FI (5 * (k + 1) + (v.TF (tJ v.ST i)).toNat)) (v.TN (tJ v.ST i))
    have h7 : 0 ≤ v.TF (tJ v.ST i) ∧ v.TF (tJ v.ST i) < 5 := ⟨h6.2.1, h6.2.2.1⟩
    rw [hI.2.2.1 _ k (by omega) hk]
  · have h6 := (hj i hi).1
    have h6 : v.ST i = 1 ∨ v.ST i = 2 ∨ v.ST i = 3 ∨ v.ST i = 4 ∨ v.ST i = 5 := h6
    omega
theorem find_eq (hI : rowI n Vv U Dn FI) (hR : rgtI gn B Cn RO RW RK) (hw : 0 ≤ w ∧ w < 50) (hL : LQ mk tx sz (rBegin r) (-1) te ta) (hF : rFF mk tx sz (rBegin r) (-1, v)) (hq : qOK (rQ v w.toNat)) (hm : many ≤ n) (hf : fndP FI RO RW RK gn mk tx sz r ta w many N sl) :
    N = (rQ0 B Vv U Dn (rQ v w.toNat) (many : Int) n).2.2 ∧ (∀ k, k < N → sl.2.1 k = (rQ0 B Vv U Dn (rQ v w.toNat) (many : Int) n).1 k) ∧ (v.tl = 1 → ∀ k, k < N → sl.2.2 k = (rQ0 B Vv U Dn (rQ v w.toNat) (many : Int) n).2.1 k) ∧ (atX tx sz ta = 35 ↔ v.tl = 1) := by
  obtain ⟨v', g1, g2, g3, g4, g5, g6, g7⟩ := LQ_tl hL
  have e : v' = v := congrArg Prod.snd (rFF_u g1 hF)
  subst e
  obtain ⟨IS, GF, GS, hs⟩ := hf
  have hk : ∀ e, e < 5 → ∀ a, 1 ≤ a → a ≤ n → kyV Vv e a = FI (5 * a + e) := fun e he a h1 h2 => by
    obtain ⟨k, rfl⟩ := Nat.exists_eq_succ_of_ne_zero (show a ≠ 0 by omega)
    exact (hI.2.2.1 e k he h2).symm
  have hN : numP (decide (0 ≤ fM (atX tx sz ta) (atX tx sz (ta + 1)))) (decide (atX tx sz ta = 45)) (keyM FI (fM (atX tx sz ta) (atX tx sz (ta + 1)))) n (numO v'.tl v'.tf U Dn) := by
    by_cases z : v'.tl = 0
    · have e0 := g6 z
      have ef : fM (atX tx sz ta) (atX tx sz (ta + 1)) = -1 := if_pos e0
      rw [ef, e0]
      refine ⟨fun p hp => ?_, fun i j hij hj => ?_, fun x h1 h2 => ⟨x - 1, by omega, ?_⟩⟩
      · unfold numO; rw [if_pos z]; omega
      · unfold numO; rw [if_pos z, if_pos z]
        exact Or.inr ⟨fun q => absurd q (by decide), by omega⟩
      · unfold numO; rw [if_pos z]; omega
    · have e1 := g7 z
      have t00 : tOf 0 = 0 := by decide
      have hsg : atX tx sz ta ≠ 0 := by
        intro q
        rw [q] at g5
        omega
      have ef : fM (atX tx sz ta) (atX tx sz (ta + 1)) = (v'.tf : Int) := by unfold fM; rw [if_neg hsg, e1]
      have hf5 : v'.tf < 5 := hq.2.2.1
      have ho := hI.2.1 v'.tf hf5
      rw [ef, decide_eq_true (show (0 : Int) ≤ (v'.tf : Int) by omega)]
      have hky : ∀ a, 1 ≤ a → a ≤ n → kyV Vv v'.tf a = keyM FI (v'.tf : Int) a := fun a h1 h2 => hk v'.tf hf5 a h1 h2
      by_cases z3 : v'.tl = 3
      · rw [decide_eq_true (tOf_3.mp (by omega))]
        have en : numO v'.tl v'.tf U Dn = Dn v'.tf := by funext p; unfold numO; rw [if_neg z, if_pos z3]
        rw [en]
        exact numP_key ho.2 hky
      · rw [decide_eq_false (fun q => by have := tOf_3.mpr q; omega)]
        have en : numO v'.tl v'.tf U Dn = U v'.tf := by funext p; unfold numO; rw [if_neg z, if_neg z3]
        rw [en]
        exact numP_key ho.1 hky
  have hiff : atX tx sz ta = 35 ↔ v'.tl = 1 := by
    rw [← tOf_1]; omega
  have hr := sel_run (val := fun z => Vv v'.tf (z - 1).toNat) hN hm (fun x h1 h2 => ok_eq hI hR hw hq g4 x h1 h2) (fun q => by
    have q35 := of_decide_eq_true q
    have t1 := hiff.mp q35
    have e1 := g7 (by omega)
    have ef : fM (atX tx sz ta) (atX tx sz (ta + 1)) = (v'.tf : Int) := by unfold fM; rw [if_neg (by omega), e1]
    refine ⟨by omega, decide_eq_false (by omega), fun x h1 h2 => ?_⟩
    obtain ⟨k, rfl⟩ := Nat.exists_eq_succ_of_ne_zero (show x ≠ 0 by omega)
    show Vv v'.tf (((k.succ : Nat) : Int) - 1).toNat = FI (5 * k.succ + (fM (atX tx sz ta) (atX tx sz (ta + 1))).toNat)
    rw [ef, show (((k.succ : Nat) : Int) - 1).toNat = k by omega]
    exact (hI.2.2.1 v'.tf k hq.2.2.1 h2).symm) (fun i h1 h2 => if_pos ⟨h1, h2⟩) hs
  have eq0 : rQ0 B Vv U Dn (rQ v' w.toNat) (many : Int) n = fRun (numO v'.tl v'.tf U Dn) (okR B Vv v'.ST v'.TF v'.TR v'.TN v'.sc w.toNat (many : Int)) (decide (atX tx sz ta = 35)) (fun z => Vv v'.tf (z - 1).toNat) (fun _ => 0, fun _ => 0, 0) n := by
    rw [decR hiff]; rfl
  rw [← eq0] at hr
  exact ⟨hr.1, hr.2.1, fun q => hr.2.2 (decide_eq_true (hiff.mpr q)), hiff⟩
end FQ
/-! what a question's list may hold -/
def fsI (p n : Nat) (grp : Bool) (u : FS) : Prop := u.2.2 ≤ p ∧ ∀ k, k < u.2.2 → R32 (u.1 k) ∧ (grp = false → 1 ≤ u.1 k ∧ u.1 k ≤ (n : Int)) ∧ 1 ≤ u.2.1 k ∧ u.2.1 k ≤ (p : Int)
theorem fsI_add {p n : Nat} {grp : Bool} {u : FS} {z : Int} (h : fsI p n grp u) (hz : R32 z) (h2 : grp = false → 1 ≤ z ∧ z ≤ (n : Int)) : fsI (p + 1) n grp (fAdd u z) := by
  refine ⟨by show u.2.2 + 1 ≤ p + 1; have := h.1; omega, fun k hk => ?_⟩
  have hk : k < u.2.2 + 1 := hk
  show R32 (up u.1 u.2.2 z k) ∧ (grp = false → 1 ≤ up u.1 u.2.2 z k ∧ up u.1 u.2.2 z k ≤ (n : Int)) ∧ 1 ≤ up u.2.1 u.2.2 1 k ∧ up u.2.1 u.2.2 1 k ≤ ((p + 1 : Nat) : Int)
  by_cases e : k = u.2.2
  · subst e; rw [up_s, up_s]; exact ⟨hz, h2, by omega, by omega⟩
  · rw [up_n e, up_n e]
    have := h.2 k (by omega)
    exact ⟨this.1, this.2.1, this.2.2.1, by omega⟩
theorem fsI_up {p n : Nat} {grp : Bool} {u : FS} (h : fsI p n grp u) : fsI (p + 1) n grp u := ⟨by have := h.1; omega, fun k hk => by
  have := h.2 k hk
  exact ⟨this.1, this.2.1, this.2.2.1, by omega⟩⟩
theorem fsI_grp {p n : Nat} {u : FS} {z : Int} (h : fsI p n true u) (hz : R32 z) : fsI (p + 1) n true (fGrp u z) := by
  unfold fGrp
  by_cases e : 0 < u.2.2 ∧ u.1 (u.2.2 - 1) = z
  · rw [if_pos e]
    refine ⟨by show u.2.2 ≤ p + 1; have := h.1; omega, fun k hk => ?_⟩
    have hk : k < u.2.2 := hk
    have h1 := h.2 k hk
    refine ⟨h1.1, fun q => absurd q (by decide), ?_⟩
    show 1 ≤ up u.2.1 (u.2.2 - 1) (u.2.1 (u.2.2 - 1) + 1) k ∧ up u.2.1 (u.2.2 - 1) (u.2.1 (u.2.2 - 1) + 1) k ≤ ((p + 1 : Nat) : Int)
    by_cases e2 : k = u.2.2 - 1
    · rw [e2, up_s]; rw [e2] at h1; omega
    · rw [up_n e2]; omega
  · rw [if_neg e]; exact fsI_add h hz (fun q => absurd q (by decide))
theorem fsI_run {n : Nat} {num : Nat → Int} {ok : Int → Bool} {grp : Bool} {val : Int → Int} {F H : Nat → Int} (hnum : ∀ p, p < n → 1 ≤ num p ∧ num p ≤ (n : Int)) (hn : n ≤ 300) (hval : ∀ p, p < n → R32 (val (num p))) : ∀ p, p ≤ n → fsI p n grp (fRun num ok grp val (F, H, 0) p)
  | 0, _ => ⟨Nat.le_refl 0, fun k hk => absurd hk (Nat.not_lt_zero k)⟩
  | p + 1, hp => by
    have ih := fsI_run (ok := ok) (grp := grp) (F := F) (H := H) hnum hn hval p (by omega)
    have h1 := hnum p (by omega)
    show fsI (p + 1) n grp (if ok (num p) = true then (if grp = true then fGrp (fRun num ok grp val (F, H, 0) p) (val (num p)) else fAdd (fRun num ok grp val (F, H, 0) p) (num p)) else fRun num ok grp val (F, H, 0) p)
    by_cases q : ok (num p) = true
    · rw [if_pos q]
      by_cases g : grp = true
      · rw [if_pos g]; subst g; exact fsI_grp ih (hval p (by omega))
      · rw [if_neg g]; exact fsI_add ih (by constructor <;> omega) (fun _ => h1)
    · rw [if_neg q]; exact fsI_up ih
theorem fsI_q {B : Nat → Nat → Nat → Bool} {Vv U Dn : Nat → Nat → Int} {A : QC} {mm : Int} {n : Nat} {u0 : FS} (hv : vOK n Vv) (ho : oOK n U Dn) (hA : qOK A) (hn : n ≤ 300) : fsI n n (decide (A.tl = 1)) (runQ B Vv U Dn A mm n u0) := by
  have hnum : ∀ p, p < n → 1 ≤ numO A.tl A.tf U Dn p ∧ numO A.tl A.tf U Dn p ≤ (n : Int) := fun p hp => numO_R hA.2.2.1 hp ho
  exact fsI_run hnum hn (fun p hp => by
    have h1 := hnum p hp
    exact (hv (numO A.tl A.tf U Dn p - 1).toNat (by omega)).1 A.tf hA.2.2.1) n (Nat.le_refl n)
/-! texts that both sides hold -/
/-- a text without a fault (but for masks), and the question that was read of it -/
def qI (A : QC) (tx : Nat → Int) (sz : Nat) (w : Int) (r : RS) : Prop := ∃ v, rFF noM tx sz (rBegin r) (-1, v) ∧ A = rQ v w.toNat
theorem bz_and {fl mk : Nat → Bool} (hf : ∀ f, fl f = true → f < 5) : (bZ fun i => fl i && mk i) = 0 ↔ ∀ f, fl f = true → mk f = false := by
  rw [bZ_eq0]
  constructor
  · intro h f hfl
    have h1 := h f (by have := hf f hfl; omega)
    rw [hfl, Bool.true_and] at h1
    exact h1
  · intro h i _
    by_cases q : fl i = true
    · rw [h i q, Bool.and_false]
    · have : fl i = false := by simpa using q
      rw [this, Bool.false_and]
theorem qI_fl {A : QC} {tx : Nat → Int} {sz : Nat} {w : Int} {r : RS} (h : qI A tx sz w r) {f : Nat} (hf : A.fl f = true) : f < 5 := by
  obtain ⟨v, h1, rfl⟩ := h
  exact (rFF_fl h1 hf).1
/-- with these masks the text has a fault just when a letter of it is masked -/
theorem qI_mk {A : QC} {tx : Nat → Int} {sz : Nat} {w : Int} {r : RS} {mk : Nat → Bool} {fa : Int} {v' : RS} (h : qI A tx sz w r) (hF : rFF mk tx sz (rBegin r) (fa, v')) : (fa = -1 ↔ (bZ fun i => A.fl i && mk i) = 0) ∧ (fa = -1 → A = rQ v' w.toNat) := by
  rw [bz_and (fun f hf => qI_fl h hf)]
  obtain ⟨v, h1, rfl⟩ := h
  have key : fa = -1 → v' = v := fun q => by
    subst q
    exact congrArg Prod.snd (rFF_u (rFF_no hF) h1)
  refine ⟨⟨fun q f hf => ?_, fun q => ?_⟩, fun q => by rw [key q]⟩
  · have e := key q
    subst q e
    exact (rFF_fl hF hf).2
  · exact congrArg Prod.fst (rFF_u hF (rFF_mk h1 q))
/-- a kept question's count, on both sides -/
theorem cnt_eq {FI RO RW RK : Nat → Int} {gn n sz : Nat} {B : Nat → Nat → Nat → Bool} {Cn : Nat → Int} {Vv U Dn : Nat → Nat → Int} {mk : Nat → Bool} {tx : Nat → Int} {r : RS} {w cb z : Int} {A : QC} (hI : rowI n Vv U Dn FI) (hR : rgtI gn B Cn RO RW RK) (hw : 0 ≤ w ∧ w < 50) (hA : qOK A) (h : qI A tx sz w r) (hk : kpM mk tx sz n cb FI RO RW RK gn w r z) : z = cntM mk cb B Vv U Dn n A := by
  obtain ⟨fa, te, ta, hL, k1, k2, k3⟩ := hk
  obtain ⟨v', hF, hq⟩ := id hL
  have hm := qI_mk h hF
  unfold cntM
  by_cases q : fa = -1
  · subst q
    have e := hm.2 rfl
    have hb := hm.1.mp rfl
    have ht : v'.tc = te := (hq rfl).1
    have etc : A.tc = te := by rw [e]; exact ht
    by_cases c : cb < ((te : Int) + 1) * (n : Int)
    · rw [k2 rfl c, if_pos (Or.inr (by rw [etc]; exact c))]
    · obtain ⟨N, sl, hf, hz⟩ := k3 rfl (by omega)
      rw [if_neg (by rw [etc, hb]; omega), hz]
      rw [e] at hA ⊢
      rw [← (find_eq hI hR hw hL hF hA (Nat.le_refl n) hf).1]
  · rw [k1 q, if_pos (Or.inl (fun w => q (hm.1.mpr w)))]
