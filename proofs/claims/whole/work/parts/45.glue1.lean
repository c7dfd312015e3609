/-! WHAT BOTH SIDES HOLD: rows, their orders, rights -/
abbrev kyV (Vv : Nat → Nat → Int) (f : Nat) : Nat → Int := fun a => Vv f (a - 1)
def rowI (n : Nat) (Vv U Dn : Nat → Nat → Int) (FI : Nat → Int) : Prop :=
  vOK n Vv ∧ (∀ f, f < 5 → numP true false (kyV Vv f) n (U f) ∧ numP true true (kyV Vv f) n (Dn f)) ∧ (∀ f k, f < 5 → k < n → FI (5 * (k + 1) + f) = Vv f k) ∧ ∀ k, k < 1505 → R32 (FI k)
theorem rowI_o {n : Nat} {Vv U Dn : Nat → Nat → Int} {FI : Nat → Int} (h : rowI n Vv U Dn FI) : oOK n U Dn := fun f p hf hp => by
  have h1 := (h.2.1 f hf).1.1 p hp
  have h2 := (h.2.1 f hf).2.1 p hp
  exact ⟨h1.1, h1.2, h2.1, h2.2⟩
theorem numP_key {on neg : Bool} {key key' : Nat → Int} {n : Nat} {num : Nat → Int} (h : numP on neg key n num) (e : ∀ a, 1 ≤ a → a ≤ n → key a = key' a) : numP on neg key' n num := by
  refine ⟨h.1, fun i j hij hj => ?_, h.2.2⟩
  have h1 := h.1 i (by omega)
  have h2 := h.1 j hj
  exact (lx_key (e _ (by omega) (by omega)) (e _ (by omega) (by omega))).mp (h.2.1 i j hij hj)
theorem insF_l {F : Nat → Int} {n p j : Nat} (h : j < p) : insF F n p j = F j := if_pos h
theorem insF_e {F : Nat → Int} {n p : Nat} : insF F n p p = (n : Int) := by unfold insF; rw [if_neg (Nat.lt_irrefl p), if_pos rfl]
theorem insF_g {F : Nat → Int} {n p j : Nat} (h : p < j) (hj : j < n) : insF F n p j = F (j - 1) := by unfold insF; rw [if_neg (by omega), if_neg (by omega), if_pos hj]
theorem num_ins {neg : Bool} {key : Nat → Int} {F : Nat → Int} {n p : Nat} (h : numP true neg key n F) (hp : p ≤ n) (hb : ∀ i, i < p → lx true neg key (F i).toNat (n + 1)) (ha : ∀ j, p ≤ j → j < n → lx true neg key (n + 1) (F j).toNat) : numP true neg key (n + 1) (insF F (n + 1) p) := by
  refine ⟨fun j hj => ?_, fun i j hij hj => ?_, fun r h1 h2 => ?_⟩
  · rcases Nat.lt_trichotomy j p with q | q | q
    · rw [insF_l q]; have := h.1 j (by omega); omega
    · subst q; rw [insF_e]; omega
    · rw [insF_g q hj]; have := h.1 (j - 1) (by omega); omega
  · have en : ((n + 1 : Nat) : Int).toNat = n + 1 := by omega
    rcases Nat.lt_trichotomy i p with q | q | q
    · rw [insF_l q]
      rcases Nat.lt_trichotomy j p with w | w | w
      · rw [insF_l w]; exact h.2.1 i j hij (by omega)
      · subst w; rw [insF_e, en]; exact hb i q
      · rw [insF_g w hj]
        exact h.2.1 i (j - 1) (by omega) (by omega)
    · subst q
      rw [insF_e, en, insF_g hij hj]
      exact ha (j - 1) (by omega) (by omega)
    · rw [insF_g q (by omega), insF_g (by omega) hj]
      exact h.2.1 (i - 1) (j - 1) (by omega) (by omega)
  · by_cases e : r = n + 1
    · subst e; exact ⟨p, by omega, insF_e⟩
    · obtain ⟨q, w1, w2⟩ := h.2.2 r h1 (by omega)
      by_cases z : q < p
      · exact ⟨q, by omega, by rw [insF_l z]; exact w2⟩
      · exact ⟨q + 1, by omega, by rw [insF_g (by omega) (by omega)]; exact w2⟩
def xs5 (x0 x1 x2 x3 x4 : Int) (e : Nat) : Int := if e = 0 then x0 else if e = 1 then x1 else if e = 2 then x2 else if e = 3 then x3 else x4
theorem addV5_at {Vv : Nat → Nat → Int} {n : Nat} {x0 x1 x2 x3 x4 : Int} {e k : Nat} (he : e < 5) : addV5 Vv n x0 x1 x2 x3 x4 e k = if k = n then xs5 x0 x1 x2 x3 x4 e else Vv e k := by
  rcases (show e = 0 ∨ e = 1 ∨ e = 2 ∨ e = 3 ∨ e = 4 by omega) with q | q | q | q | q <;> subst q <;> simp [addV5, pV, up, xs5]
theorem FI5_at {FI : Nat → Int} {n : Nat} {x0 x1 x2 x3 x4 : Int} {e k : Nat} (he : e < 5) : FI5 FI n x0 x1 x2 x3 x4 (5 * (k + 1) + e) = if k = n then xs5 x0 x1 x2 x3 x4 e else FI (5 * (k + 1) + e) := by
  unfold FI5 xs5
  by_cases z : k = n
  · subst z
    rw [if_pos rfl]
    rcases (show e = 0 ∨ e = 1 ∨ e = 2 ∨ e = 3 ∨ e = 4 by omega) with q | q | q | q | q
    · subst q; rw [up_n (by omega), up_n (by omega), up_n (by omega), up_n (by omega), show 5 * (k + 1) + 0 = 5 * (k + 1) from rfl, up_s]; rfl
    · subst q; rw [up_n (by omega), up_n (by omega), up_n (by omega), up_s]; rfl
    · subst q; rw [up_n (by omega), up_n (by omega), up_s]; rfl
    · subst q; rw [up_n (by omega), up_s]; rfl
    · subst q; rw [up_s]; rfl
  · rw [if_neg z, up_n (by omega), up_n (by omega), up_n (by omega), up_n (by omega), up_n (by omega)]
theorem FI5_R {FI : Nat → Int} {n : Nat} {x0 x1 x2 x3 x4 : Int} (h0 : R32 x0) (h1 : R32 x1) (h2 : R32 x2) (h3 : R32 x3) (h4 : R32 x4) (h : ∀ k, k < 1505 → R32 (FI k)) : ∀ k, k < 1505 → R32 (FI5 FI n x0 x1 x2 x3 x4 k) := by
  intro k hk
  unfold FI5 up
  split
  · exact h4
  · split
    · exact h3
    · split
      · exact h2
      · split
        · exact h1
        · split
          · exact h0
          · exact h k hk
theorem lx_kle {neg : Bool} {key : Nat → Int} {a b : Nat} (h : lx true neg key a b) : if neg = true then key b ≤ key a else key a ≤ key b := by
  unfold lx at h
  cases neg <;> simp at h ⊢ <;> omega
theorem row_step {n : Nat} {Vv U Dn : Nat → Nat → Int} {FI : Nat → Int} {x0 x1 x2 x3 x4 : Int} {u : Int × RW} {u' : Int × Nat × (Nat → Int)} (h : rowI n Vv U Dn FI) (hn : n < 300) (hu : rowP n Vv U Dn x0 x1 x2 x3 x4 u) (hm : rowM FI n x0 x1 x2 x3 x4 u') :
    u'.1 = u.1 ∧ u'.2.1 = u.2.1 ∧ (n ≤ u.2.1 ∧ u.2.1 ≤ n + 1) ∧ rowI u.2.1 u.2.2.1 u.2.2.2.1 u.2.2.2.2 u'.2.2 := by
  by_cases hx : rowOK x0 x1 x2 x3 x4
  · have hu2 := hu.2.2 hx hn
    have hm2 := hm.2.2 hx hn
    obtain ⟨a, n', V', U', D'⟩ := u
    obtain ⟨e1, e2, e3, e4⟩ := hu2
    have e2 : n' = n + 1 := e2
    have e3 : V' = addV5 Vv n x0 x1 x2 x3 x4 := e3
    subst hm2 e2 e3
    have hV : ∀ e k, e < 5 → addV5 Vv n x0 x1 x2 x3 x4 e k = if k = n then xs5 x0 x1 x2 x3 x4 e else Vv e k := fun e k he => addV5_at he
    generalize addV5 Vv n x0 x1 x2 x3 x4 = V2 at hV e4
    have hX : ∀ e, e < 5 → R32 (xs5 x0 x1 x2 x3 x4 e) := fun e he => by
      unfold rowOK at hx
      rcases (show e = 0 ∨ e = 1 ∨ e = 2 ∨ e = 3 ∨ e = 4 by omega) with q | q | q | q | q <;> subst q <;> show R32 _ <;> simp [xs5] <;> omega
    have hk : ∀ e, e < 5 → ∀ a, 1 ≤ a → a ≤ n → kyV Vv e a = kyV V2 e a := fun e he a h1 h2 => by
      show Vv e (a - 1) = V2 e (a - 1)
      rw [hV e _ he, if_neg (by omega)]
    have hkn : ∀ e, e < 5 → kyV V2 e (n + 1) = V2 e n := fun e he => rfl
    refine ⟨e1.symm, rfl, ⟨Nat.le_succ n, Nat.le_refl _⟩, ?_, fun e he => ?_, fun f k hf hk' => ?_, ?_⟩
    · show vOK (n + 1) V2
      intro k hk'
      unfold rowOK at hx
      by_cases z : k = n
      · subst z
        refine ⟨fun f hf => by rw [hV f k hf, if_pos rfl]; exact hX f hf, ?_⟩
        rw [hV 4 k (by decide), hV 1 k (by decide), if_pos rfl, if_pos rfl]
        simp [xs5]
        omega
      · have := h.1 k (by omega)
        refine ⟨fun f hf => by rw [hV f k hf, if_neg z]; exact this.1 f hf, ?_⟩
        rw [hV 4 k (by decide), hV 1 k (by decide), if_neg z, if_neg z]
        exact this.2
    · obtain ⟨⟨p, hp, hp2⟩, ⟨q, hq, hq2⟩⟩ := e4 e he
      have ho := h.2.1 e he
      have n1 := numP_key ho.1 (hk e he)
      have n2 := numP_key ho.2 (hk e he)
      show numP true false (kyV V2 e) (n + 1) (U' e) ∧ numP true true (kyV V2 e) (n + 1) (D' e)
      have hp2 : U' e = insF (U e) (n + 1) p := hp2
      have hq2 : D' e = insF (Dn e) (n + 1) q := hq2
      rw [hp2, hq2]
      constructor
      · refine num_ins n1 (by have := hp.1; omega) (fun i hi => ?_) (fun j hj hj2 => ?_)
        · have w := hp.2.1 (by omega)
          have r1 := n1.1 i (by have := hp.1; omega)
          have r2 := n1.1 (p - 1) (by have := hp.1; omega)
          rw [show (U e (p - 1) - 1).toNat = (U e (p - 1)).toNat - 1 by omega] at w
          have w : kyV V2 e (U e (p - 1)).toNat ≤ kyV V2 e (n + 1) := w
          have w2 : kyV V2 e (U e i).toNat ≤ kyV V2 e (U e (p - 1)).toNat := by
            by_cases z : i = p - 1
            · subst z; exact Int.le_refl _
            · exact lx_le (n1.2.1 i (p - 1) (by omega) (by have := hp.1; omega))
          unfold lx
          simp
          omega
        · have w := hp.2.2 j hj (by omega)
          have r1 := n1.1 j hj2
          rw [show (U e j - 1).toNat = (U e j).toNat - 1 by omega] at w
          have w : kyV V2 e (n + 1) < kyV V2 e (U e j).toNat := w
          exact Or.inl ⟨rfl, by rw [if_neg Bool.false_ne_true]; exact w⟩
      · refine num_ins n2 (by have := hq.1; omega) (fun i hi => ?_) (fun j hj hj2 => ?_)
        · have w := hq.2.1 (by omega)
          have r1 := n2.1 i (by have := hq.1; omega)
          have r2 := n2.1 (q - 1) (by have := hq.1; omega)
          rw [show (Dn e (q - 1) - 1).toNat = (Dn e (q - 1)).toNat - 1 by omega] at w
          have w : kyV V2 e (n + 1) ≤ kyV V2 e (Dn e (q - 1)).toNat := w
          have w2 : kyV V2 e (Dn e (q - 1)).toNat ≤ kyV V2 e (Dn e i).toNat := by
            by_cases z : i = q - 1
            · subst z; exact Int.le_refl _
            · exact lx_kle (n2.2.1 i (q - 1) (by omega) (by have := hq.1; omega))
          unfold lx
          simp
          omega
        · have w := hq.2.2 j hj (by omega)
          have r1 := n2.1 j hj2
          rw [show (Dn e j - 1).toNat = (Dn e j).toNat - 1 by omega] at w
          have w : kyV V2 e (Dn e j).toNat < kyV V2 e (n + 1) := w
          exact Or.inl ⟨rfl, by rw [if_pos rfl]; exact w⟩
    · show FI5 FI n x0 x1 x2 x3 x4 (5 * (k + 1) + f) = V2 f k
      have hk' : k < n + 1 := hk'
      rw [FI5_at hf, hV f k hf]
      by_cases z : k = n
      · rw [if_pos z, if_pos z]
      · rw [if_neg z, if_neg z]; exact h.2.2.1 f k hf (by omega)
    · unfold rowOK at hx
      exact FI5_R (by omega) (by omega) (by omega) (by omega) (by omega) h.2.2.2
  · have hu2 := hu.1 hx
    have hm2 := hm.1 hx
    subst hu2 hm2
    exact ⟨rfl, rfl, ⟨Nat.le_refl _, Nat.le_succ _⟩, h⟩
/-! rights -/
def rgtI (gn : Nat) (B : Nat → Nat → Nat → Bool) (Cn : Nat → Int) (RO RW RK : Nat → Int) : Prop :=
  (∀ k, k < gn → (0 ≤ RO k ∧ RO k < 50) ∧ (-1 ≤ RW k ∧ RW k < 100) ∧ (-1 ≤ RK k ∧ RK k < 20)) ∧ (∀ w o q : Nat, B w o q = true ↔ ∃ k, k < gn ∧ RO k = (w : Int) ∧ RW k + 1 = (o : Int) ∧ RK k + 1 = (q : Int)) ∧ ∀ w : Nat, w < 50 → Cn w = (cntR RO (w : Int) gn : Int)
theorem rgtI_R {gn : Nat} {B : Nat → Nat → Nat → Bool} {Cn : Nat → Int} {RO RW RK : Nat → Int} (h : rgtI gn B Cn RO RW RK) : ∀ k, k < gn → R32 (RO k) ∧ R32 (RW k) ∧ R32 (RK k) := fun k hk => by
  have := h.1 k hk
  omega
theorem thr_iff {RO RW RK : Nat → Int} {w o kd : Int} : ∀ {n : Nat}, thrR RO RW RK w o kd n = true ↔ ∃ k, k < n ∧ RO k = w ∧ RW k = o ∧ RK k = kd
  | 0 => ⟨fun h => absurd h Bool.false_ne_true, fun ⟨k, hk, _⟩ => absurd hk (Nat.not_lt_zero k)⟩
  | n + 1 => by
    show (thrR RO RW RK w o kd n || (decide (RO n = w) && (decide (RW n = o) && decide (RK n = kd)))) = true ↔ _
    rw [Bool.or_eq_true, thr_iff, Bool.and_eq_true, Bool.and_eq_true, decide_eq_true_eq, decide_eq_true_eq, decide_eq_true_eq]
    constructor
    · rintro (⟨k, h1, h2⟩ | h)
      · exact ⟨k, by omega, h2⟩
      · exact ⟨n, Nat.lt_succ_self n, h⟩
    · rintro ⟨k, h1, h2⟩
      by_cases z : k = n
      · subst z; exact Or.inr h2
      · exact Or.inl ⟨k, by omega, h2⟩
theorem cntR_congr {RO RO' : Nat → Int} {w : Int} : ∀ {n : Nat}, (∀ k, k < n → RO k = RO' k) → cntR RO w n = cntR RO' w n
  | 0, _ => rfl
  | n + 1, h => by
    show (if RO n = w then cntR RO w n + 1 else cntR RO w n) = (if RO' n = w then cntR RO' w n + 1 else cntR RO' w n)
    rw [cntR_congr (n := n) (fun k hk => h k (by omega)), h n (Nat.lt_succ_self n)]
theorem rgt_step {gn : Nat} {B : Nat → Nat → Nat → Bool} {Cn : Nat → Int} {RO RW RK : Nat → Int} {w o k : Int} {u : Int × Nat × (Nat → Nat → Nat → Bool) × (Nat → Int)} {u' : Int × Nat × (Nat → Int) × (Nat → Int) × (Nat → Int)} (h : rgtI gn B Cn RO RW RK) (hn : gn < 100) (hu : rightX B Cn gn w o k u) (hm : rgtM RO RW RK gn w o k u') :
    u'.1 = u.1 ∧ u'.2.1 = u.2.1 ∧ (gn ≤ u.2.1 ∧ u.2.1 ≤ gn + 1) ∧ rgtI u.2.1 u.2.2.1 u.2.2.2 u'.2.2.1 u'.2.2.2.1 u'.2.2.2.2 := by
  have triv : ∀ z : Int, u = (z, gn, B, Cn) → u' = (z, gn, RO, RW, RK) → u'.1 = u.1 ∧ u'.2.1 = u.2.1 ∧ (gn ≤ u.2.1 ∧ u.2.1 ≤ gn + 1) ∧ rgtI u.2.1 u.2.2.1 u.2.2.2 u'.2.2.1 u'.2.2.2.1 u'.2.2.2.2 := fun z e1 e2 => by
    subst e1 e2; exact ⟨rfl, rfl, ⟨Nat.le_refl _, Nat.le_succ _⟩, h⟩
  unfold rightX at hu
  unfold rgtM at hm
  by_cases q1 : 0 ≤ w ∧ w < 50
  · rw [if_pos q1] at hu hm
    by_cases q2 : (-1 ≤ o ∧ o < 100) ∧ -1 ≤ k ∧ k < 20
    · rw [if_pos q2] at hu hm
      have hiff : B w.toNat (o + 1).toNat (k + 1).toNat = true ↔ thrR RO RW RK w o k gn = true := by
        rw [h.2.1, thr_iff]
        constructor
        · rintro ⟨j, a, b, c, d⟩; exact ⟨j, a, by omega, by omega, by omega⟩
        · rintro ⟨j, a, b, c, d⟩; exact ⟨j, a, by omega, by omega, by omega⟩
      have hC := h.2.2 w.toNat (by omega)
      rw [show ((w.toNat : Nat) : Int) = w by omega] at hC
      by_cases q3 : B w.toNat (o + 1).toNat (k + 1).toNat = true
      · rw [if_pos q3] at hu
        rw [if_pos (hiff.mp q3)] at hm
        exact triv _ hu (by rw [hm, hC])
      · rw [if_neg q3, if_neg (by omega)] at hu
        rw [if_neg (fun z => q3 (hiff.mpr z)), if_neg (by omega)] at hm
        subst hu hm
        refine ⟨by show (cntR RO w gn : Int) + 1 = Cn w.toNat + 1; rw [hC], rfl, ⟨Nat.le_succ gn, Nat.le_refl _⟩, fun j hj => ?_, fun w' o' q' => ?_, fun w' hw' => ?_⟩
        · have hj : j < gn + 1 := hj
          show (0 ≤ up RO gn w j ∧ up RO gn w j < 50) ∧ (-1 ≤ up RW gn o j ∧ up RW gn o j < 100) ∧ (-1 ≤ up RK gn k j ∧ up RK gn k j < 20)
          by_cases z : j = gn
          · subst z; rw [up_s, up_s, up_s]; omega
          · rw [up_n z, up_n z, up_n z]; exact h.1 j (by omega)
        · show (B w' o' q' || (w' == w.toNat && (o' == (o + 1).toNat && q' == (k + 1).toNat))) = true ↔ ∃ j, j < gn + 1 ∧ up RO gn w j = (w' : Int) ∧ up RW gn o j + 1 = (o' : Int) ∧ up RK gn k j + 1 = (q' : Int)
          rw [Bool.or_eq_true, h.2.1, Bool.and_eq_true, Bool.and_eq_true, beq_iff_eq, beq_iff_eq, beq_iff_eq]
          constructor
          · rintro (⟨j, a, b⟩ | ⟨a, b, c⟩)
            · exact ⟨j, by omega, by rw [up_n (by omega), up_n (by omega), up_n (by omega)]; exact b⟩
            · exact ⟨gn, Nat.lt_succ_self gn, by rw [up_s, up_s, up_s]; omega⟩
          · rintro ⟨j, a, b⟩
            by_cases z : j = gn
            · subst z; rw [up_s, up_s, up_s] at b; exact Or.inr (by omega)
            · rw [up_n z, up_n z, up_n z] at b; exact Or.inl ⟨j, by omega, b⟩
        · show up Cn w.toNat (Cn w.toNat + 1) w' = ((if up RO gn w gn = (w' : Int) then cntR (up RO gn w) (w' : Int) gn + 1 else cntR (up RO gn w) (w' : Int) gn : Nat) : Int)
          rw [up_s, cntR_congr (RO := up RO gn w) (RO' := RO) (fun j hj => up_n (by omega))]
          by_cases z : w' = w.toNat
          · subst z; rw [up_s, if_pos (by omega), h.2.2 w.toNat hw']; omega
          · rw [up_n z, if_neg (by omega)]; exact h.2.2 w' hw'
    · rw [if_neg q2] at hu hm; exact triv _ hu hm
  · rw [if_neg q1] at hu hm; exact triv _ hu hm
theorem see_iff {RO RW RK FI : Nat → Int} {w : Int} {r : Nat} : ∀ {n : Nat}, seeM RO RW RK FI w r n = true ↔ ∃ k, k < n ∧ RO k = w ∧ (RW k < 0 ∨ RW k = FI (5 * r + 4)) ∧ (RK k < 0 ∨ RK k = FI (5 * r + 1))
  | 0 => ⟨fun h => absurd h Bool.false_ne_true, fun ⟨k, hk, _⟩ => absurd hk (Nat.not_lt_zero k)⟩
  | n + 1 => by
    show (seeM RO RW RK FI w r n || seeB RO RW RK FI w r n) = true ↔ _
    have hB : seeB RO RW RK FI w r n = true ↔ RO n = w ∧ (RW n < 0 ∨ RW n = FI (5 * r + 4)) ∧ (RK n < 0 ∨ RK n = FI (5 * r + 1)) := by
      unfold seeB
      rw [Bool.and_eq_true, Bool.and_eq_true, Bool.or_eq_true, Bool.or_eq_true, decide_eq_true_eq, decide_eq_true_eq, decide_eq_true_eq, decide_eq_true_eq, decide_eq_true_eq]
    rw [Bool.or_eq_true, see_iff, hB]
    constructor
    · rintro (⟨k, h1, h2⟩ | h)
      · exact ⟨k, by omega, h2⟩
      · exact ⟨n, Nat.lt_succ_self n, h⟩
    · rintro ⟨k, h1, h2⟩
      by_cases z : k = n
      · subst z; exact Or.inr h2
      · exact Or.inl ⟨k, by omega, h2⟩
theorem sees_eq {gn : Nat} {B : Nat → Nat → Nat → Bool} {Cn : Nat → Int} {RO RW RK FI : Nat → Int} {w ow kd : Int} {r : Nat} (h : rgtI gn B Cn RO RW RK) (hw : 0 ≤ w ∧ w < 50) (ho : FI (5 * r + 4) = ow) (hk : FI (5 * r + 1) = kd) (ho2 : 0 ≤ ow ∧ ow < 100) (hk2 : 0 ≤ kd ∧ kd < 20) : seeM RO RW RK FI w r gn = seeX B w.toNat ow.toNat kd.toNat := by
  rw [Bool.eq_iff_iff, see_iff, ho, hk]
  unfold seeX
  rw [Bool.or_eq_true, Bool.or_eq_true, Bool.or_eq_true, h.2.1, h.2.1, h.2.1, h.2.1]
  constructor
  · rintro ⟨j, a, b, c, d⟩
    have hj := h.1 j a
    by_cases q1 : RW j < 0
    · by_cases q2 : RK j < 0
      · exact Or.inl (Or.inl ⟨j, a, by omega, by omega, by omega⟩)
      · exact Or.inr (Or.inl ⟨j, a, by omega, by omega, by omega⟩)
    · by_cases q2 : RK j < 0
      · exact Or.inl (Or.inr ⟨j, a, by omega, by omega, by omega⟩)
      · exact Or.inr (Or.inr ⟨j, a, by omega, by omega, by omega⟩)
  · rintro ((⟨j, a, b, c, d⟩ | ⟨j, a, b, c, d⟩) | (⟨j, a, b, c, d⟩ | ⟨j, a, b, c, d⟩)) <;> exact ⟨j, a, by omega, by omega, by omega⟩
theorem scan_eq {gn : Nat} {B : Nat → Nat → Nat → Bool} {Cn : Nat → Int} {RO RW RK FI : Nat → Int} {n : Nat} {Vv U Dn : Nat → Nat → Int} {w : Int} (h : rgtI gn B Cn RO RW RK) (hI : rowI n Vv U Dn FI) (hw : 0 ≤ w ∧ w < 50) : ∀ k, k ≤ n → scnM RO RW RK FI w gn k = scanN B Vv w.toNat k
  | 0, _ => rfl
  | k + 1, hk => by
    have hv := hI.1 k (by omega)
    show (if seeM RO RW RK FI w (k + 1) gn = true then scnM RO RW RK FI w gn k + 1 else scnM RO RW RK FI w gn k) = (if seeX B w.toNat (Vv 4 k).toNat (Vv 1 k).toNat = true then scanN B Vv w.toNat k + 1 else scanN B Vv w.toNat k)
    rw [scan_eq h hI hw k (by omega), sees_eq h hw (hI.2.2.1 4 k (by decide) (by omega)) (hI.2.2.1 1 k (by decide) (by omega)) ⟨hv.2.1, hv.2.2.1⟩ hv.2.2.2]
