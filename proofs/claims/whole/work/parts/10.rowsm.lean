/-! ROWS: the rows' values, and the two orders of each field -/
def pV (V : Nat → Nat → Int) (f k : Nat) (x : Int) : Nat → Nat → Int := up V f (up (V f) k x)
theorem sG_putV {g : Nat → ClassId} {r : Nat → Nat} {n len : Nat} {F : Nat → Nat → Int} {i k : Nat} {x : Int} (h : i < n) : (sG g r n len (pV F i k x)).Perm ((r i, cI g len (up (F i) k x)) :: sGx g r n len F i) := sG_put h
def wRows (g : Nat → ClassId) (a r1 r2 r3 : Nat → Nat) (n : Nat) (Vv U Dn : Nat → Nat → Int) : va_W := (a 0, .inr (6, [.ref (a 1), .ref (a 2), .ref (a 3), .int (iI (n : Int))])) :: (a 1, cG g 5 r1) :: (a 2, cG g 5 r2) :: (a 3, cG g 5 r3) :: (sG g r1 5 300 Vv ++ (sG g r2 5 300 U ++ sG g r3 5 300 Dn))
theorem wRows_mem {g : Nat → ClassId} {a r1 r2 r3 : Nat → Nat} {n : Nat} {Vv U Dn : Nat → Nat → Int} : (a 0, .inr (6, [.ref (a 1), .ref (a 2), .ref (a 3), .int (iI (n : Int))])) ∈ wRows g a r1 r2 r3 n Vv U Dn := .head _
/-- the newest row's number put at a place of an order -/
def insF (F : Nat → Int) (n p : Nat) : Nat → Int := fun j => if j < p then F j else if j = p then (n : Int) else if j < n then F (j - 1) else F j
def insG (F : Nat → Int) (n q : Nat) : Nat → Int := fun j => if q < j ∧ j < n then F (j - 1) else F j
theorem insG_step {F : Nat → Int} {n q : Nat} (h0 : 0 < q) (h : q < n) : up (insG F n q) q (insG F n q (q - 1)) = insG F n (q - 1) := by
  funext j
  simp only [up, insG]
  split
  · next e =>
    subst e
    rw [if_neg (by omega), if_pos ⟨by omega, by omega⟩]
  · next e =>
    by_cases h1 : q < j ∧ j < n
    · rw [if_pos h1, if_pos ⟨by omega, h1.2⟩]
    · rw [if_neg h1, if_neg (by omega)]
theorem insG_0 {F : Nat → Int} {n : Nat} : F = insG F n (n - 1) := by
  funext j
  simp only [insG]
  rw [if_neg (by omega)]
theorem insG_end {F : Nat → Int} {n p : Nat} (h : p < n) : up (insG F n p) p (n : Int) = insF F n p := by
  funext j
  simp only [up, insG, insF]
  by_cases h1 : j = p
  · rw [if_pos h1, if_neg (by omega), if_pos h1]
  · rw [if_neg h1]
    by_cases h2 : j < p
    · rw [if_pos h2, if_neg (by omega)]
    · rw [if_neg h2, if_neg h1]
      by_cases h3 : j < n
      · rw [if_pos ⟨by omega, h3⟩, if_pos h3]
      · rw [if_neg (by omega), if_neg h3]
/-- where the newest row goes in an order from the least on -/
def plU (Vf O : Nat → Int) (n : Nat) (v : Int) (p : Nat) : Prop := p < n ∧ (0 < p → Vf (O (p - 1) - 1).toNat ≤ v) ∧ ∀ j, p ≤ j → j + 1 < n → v < Vf (O j - 1).toNat
def plD (Vf O : Nat → Int) (n : Nat) (v : Int) (p : Nat) : Prop := p < n ∧ (0 < p → v ≤ Vf (O (p - 1) - 1).toNat) ∧ ∀ j, p ≤ j → j + 1 < n → Vf (O j - 1).toNat < v
theorem stepI {P : Nat → Prop} {n p : Nat} (h0 : p - 1 + 1 < n → P (p - 1)) (hi : ∀ j, p ≤ j → j + 1 < n → P j) : ∀ j, p - 1 ≤ j → j + 1 < n → P j := fun j h1 h2 => by
  rcases Nat.lt_or_ge j p with q | q
  · have e : j = p - 1 := by omega
    subst e
    exact h0 h2
  · exact hi j q h2
theorem putI {Vv U Dn Uc Dc : Nat → Nat → Int} {n f p q : Nat} (hi : ∀ e, e < f → (∃ p, plU (Vv e) (U e) n (Vv e (n - 1)) p ∧ Uc e = insF (U e) n p) ∧ ∃ p, plD (Vv e) (Dn e) n (Vv e (n - 1)) p ∧ Dc e = insF (Dn e) n p)
    (hr : ∀ e, f ≤ e → Uc e = U e ∧ Dc e = Dn e) (hu : plU (Vv f) (Uc f) n (Vv f (n - 1)) p) (hd : plD (Vv f) (Dc f) n (Vv f (n - 1)) q) :
    ∀ e, e < f + 1 → (∃ p', plU (Vv e) (U e) n (Vv e (n - 1)) p' ∧ up Uc f (insF (Uc f) n p) e = insF (U e) n p') ∧ ∃ p', plD (Vv e) (Dn e) n (Vv e (n - 1)) p' ∧ up Dc f (insF (Dc f) n q) e = insF (Dn e) n p' := by
  intro e he
  by_cases h : e = f
  · subst h
    obtain ⟨e1, e2⟩ := hr e (Nat.le_refl e)
    rw [e1] at hu
    rw [e2] at hd
    refine ⟨⟨p, hu, ?_⟩, q, hd, ?_⟩
    · rw [up_s, e1]
    · rw [up_s, e2]
  · obtain ⟨⟨p1, h1, h2⟩, q1, h3, h4⟩ := hi e (by omega)
    exact ⟨⟨p1, h1, by rw [up_n h]; exact h2⟩, q1, h3, by rw [up_n h]; exact h4⟩
theorem putR {U Dn Uc Dc : Nat → Nat → Int} {f : Nat} {x y : Nat → Int} (hr : ∀ e, f ≤ e → Uc e = U e ∧ Dc e = Dn e) : ∀ e, f + 1 ≤ e → up Uc f x e = U e ∧ up Dc f y e = Dn e := fun e he => by
  rw [up_n (by omega), up_n (by omega)]
  exact hr e (by omega)

theorem addV {Vv : Nat → Nat → Int} {n : Nat} {x0 x1 x2 x3 x4 : Int} (hx : R32 x0 ∧ R32 x1 ∧ R32 x2 ∧ R32 x3 ∧ R32 x4) (hV : ∀ f k, f < 5 → k < n → R32 (Vv f k)) : ∀ f k, f < 5 → k < n + 1 → R32 ((pV (pV (pV (pV (pV Vv 0 n x0) 1 n x1) 2 n x2) 3 n x3) 4 n x4) f k) := by
  intro f k hf hk
  obtain ⟨h0, h1, h2, h3, h4⟩ := hx
  have e : f = 0 ∨ f = 1 ∨ f = 2 ∨ f = 3 ∨ f = 4 := by omega
  by_cases q : k = n
  · subst q
    rcases e with rfl | rfl | rfl | rfl | rfl <;> simpa [pV, up]
  · have hh := hV f k hf (by omega)
    rcases e with rfl | rfl | rfl | rfl | rfl <;> simpa [pV, up, q]

set_option maxHeartbeats 4000000 in
set_option maxRecDepth 100000 in
theorem c_X6_count (l : Launch) (D : va_G) (g : Nat → ClassId) (a r1 r2 r3 : Nat → Nat) (n : Nat) (Vv U Dn : Nat → Nat → Int) : Ct (S := Unit) l D g yX6_count cX6_count 1 (some .int) rmX6_count [.ref (a 0)] (wRows g a r1 r2 r3 n Vv U Dn) (fun u => some (.int (iI (n : Int)))) (fun _ => True) (fun u => wRows g a r1 r2 r3 n Vv U Dn) := by
  refine Ct.of RX6 rfl (by decide +kernel) [(0, .ref (a 0))] rfl (Nat.le_of_ble_eq_true rfl) ?_
  intro pg evn sT mI bl mtd cd aA ls ar qQ zC zr zk zi zQ h hl
  have zx := zC.1
  have zb := zC.2.1
  have h : Hx D g sT aA sT.heap ((a 0, .inr (6, [.ref (a 1), .ref (a 2), .ref (a 3), .int (iI (n : Int))])) :: (a 1, cG g 5 r1) :: (a 2, cG g 5 r2) :: (a 3, cG g 5 r3) :: ((sG g r1 5 300 Vv) ++ ((sG g r2 5 300 U) ++ (sG g r3 5 300 Dn)))) sT.heap [] := h
  skip
  refine lv_aload_n zx zb dX6_count_0 rfl (lv_at hl 0 rfl) ?_
  refine gf6_22 (v := .int (iI (n : Int))) zC h 0 rfl rfl dX6_count_1 ?_
  exact r_iret zC zQ zr zk h dX6_count_4 (u := ()) rfl (List.Perm.refl _) trivial (Nat.le_of_ble_eq_true rfl) (Nat.le_of_ble_eq_true rfl)

set_option maxHeartbeats 4000000 in
set_option maxRecDepth 100000 in
theorem c_X6_value (l : Launch) (D : va_G) (g : Nat → ClassId) (a r1 r2 r3 : Nat → Nat) (n : Nat) (Vv U Dn : Nat → Nat → Int) (k f : Nat) (z : Int) (hz : z = (k : Int) + 1) (hk : k < n) (hn : n ≤ 300) (hf : f < 5) : Ct (S := Unit) l D g yX6_value cX6_value 3 (some .int) rmX6_value [.ref (a 0), .int (iI z), .int (iI (f : Int))] (wRows g a r1 r2 r3 n Vv U Dn) (fun u => some (.int (iI (Vv f k)))) (fun _ => True) (fun u => wRows g a r1 r2 r3 n Vv U Dn) := by
  refine Ct.of RX6 rfl (by decide +kernel) [(0, .ref (a 0)), (1, .int (iI z)), (2, .int (iI (f : Int)))] rfl (Nat.le_of_ble_eq_true rfl) ?_
  intro pg evn sT mI bl mtd cd aA ls ar qQ zC zr zk zi zQ h hl
  have zx := zC.1
  have zb := zC.2.1
  have h : Hx D g sT aA sT.heap ((a 0, .inr (6, [.ref (a 1), .ref (a 2), .ref (a 3), .int (iI (n : Int))])) :: (a 1, cG g 5 r1) :: (a 2, cG g 5 r2) :: (a 3, cG g 5 r3) :: ((sG g r1 5 300 Vv) ++ ((sG g r2 5 300 U) ++ (sG g r3 5 300 Dn)))) sT.heap [] := h
  skip
  refine lv_iload_n zx zb dX6_value_0 rfl (lv_at hl 1 rfl) ?_
  refine lv_iconst (v := iI (1)) zx zb dX6_value_1 rfl ?_
  refine i_clt (a := z) (b := 1) (tgt := 29) zC dX6_value_2 (by decide) (by omega) (fun c_1 => absurd c_1 (by omega)) (fun c_1 => ?_)
  refine lv_iload_n zx zb dX6_value_5 rfl (lv_at hl 1 rfl) ?_
  refine lv_aload_n zx zb dX6_value_6 rfl (lv_at hl 0 rfl) ?_
  refine gf6_22 (v := .int (iI (n : Int))) zC h 0 rfl rfl dX6_value_7 ?_
  refine i_cgt (a := z) (b := (n : Int)) (tgt := 29) zC dX6_value_10 (by decide) (by omega) (fun c_2 => absurd c_2 (by omega)) (fun c_2 => ?_)
  refine lv_iload_n zx zb dX6_value_13 rfl (lv_at hl 1 rfl) ?_
  refine lv_sipush (v := iI (300)) zx zb dX6_value_14 rfl ?_
  refine i_cgt (a := z) (b := 300) (tgt := 29) zC dX6_value_17 (by decide) (by omega) (fun c_3 => absurd c_3 (by omega)) (fun c_3 => ?_)
  refine lv_iload_n zx zb dX6_value_20 rfl (lv_at hl 2 rfl) ?_
  refine i_zlt (a := (f : Int)) (tgt := 29) zC dX6_value_21 (by decide) (by omega) (fun c_4 => absurd c_4 (by omega)) (fun c_4 => ?_)
  refine lv_iload_n zx zb dX6_value_24 rfl (lv_at hl 2 rfl) ?_
  refine lv_iconst (v := iI (5)) zx zb dX6_value_25 rfl ?_
  refine i_clt (a := (f : Int)) (b := 5) (tgt := 31) zC dX6_value_26 (by decide) (by omega) (fun c_5 => ?_) (fun c_5 => absurd c_5 (by omega))
  refine lv_aload_n zx zb dX6_value_31 rfl (lv_at hl 0 rfl) ?_
  refine gf6_11 (v := .ref (a 1)) zC h 0 rfl rfl dX6_value_32 ?_
  refine lv_iload_n zx zb dX6_value_35 rfl (lv_at hl 2 rfl) ?_
  refine a_gld zC h 1 rfl (z := (f : Int)) f (by omega) (by omega) (by decide) dX6_value_36 ?_
  refine lv_iload_n zx zb dX6_value_37 rfl (lv_at hl 1 rfl) ?_
  refine lv_iconst (v := iI (1)) zx zb dX6_value_38 rfl ?_
  refine i_sub zC (a := z) (b := 1) dX6_value_39 ?_
  refine a_ildM (n := 300) (F := Vv f) zC h (.tail _ (.tail _ (.tail _ (.tail _ (List.mem_append_left _ (sG_get (by omega))))))) (z := z - 1) k (by omega) (by omega) (by decide) dX6_value_40 ?_
  exact r_iret zC zQ zr zk h dX6_value_41 (u := ()) rfl (List.Perm.refl _) trivial (Nat.le_of_ble_eq_true rfl) (Nat.le_of_ble_eq_true rfl)

set_option maxHeartbeats 4000000 in
set_option maxRecDepth 100000 in
theorem c_X6_numberAt0 (l : Launch) (D : va_G) (g : Nat → ClassId) (a r1 r2 r3 : Nat → Nat) (n : Nat) (Vv U Dn : Nat → Nat → Int) (f : Int) (p : Nat) (hp : p < 300) : Ct (S := Unit) l D g yX6_numberAt cX6_numberAt 4 (some .int) rmX6_numberAt [.ref (a 0), .int (iI 0), .int (iI f), .int (iI (p : Int))] (wRows g a r1 r2 r3 n Vv U Dn) (fun u => some (.int (iI ((p : Int) + 1)))) (fun _ => True) (fun u => wRows g a r1 r2 r3 n Vv U Dn) := by
  refine Ct.of RX6 rfl (by decide +kernel) [(0, .ref (a 0)), (1, .int (iI 0)), (2, .int (iI f)), (3, .int (iI (p : Int)))] rfl (Nat.le_of_ble_eq_true rfl) ?_
  intro pg evn sT mI bl mtd cd aA ls ar qQ zC zr zk zi zQ h hl
  have zx := zC.1
  have zb := zC.2.1
  have h : Hx D g sT aA sT.heap ((a 0, .inr (6, [.ref (a 1), .ref (a 2), .ref (a 3), .int (iI (n : Int))])) :: (a 1, cG g 5 r1) :: (a 2, cG g 5 r2) :: (a 3, cG g 5 r3) :: ((sG g r1 5 300 Vv) ++ ((sG g r2 5 300 U) ++ (sG g r3 5 300 Dn)))) sT.heap [] := h
  skip
  refine lv_iload_n zx zb dX6_numberAt_0 rfl (lv_at hl 1 rfl) ?_
  refine i_zeq (a := 0) (tgt := 24) zC dX6_numberAt_1 (by decide) (by omega) (fun c_1 => ?_) (fun c_1 => absurd c_1 (by omega))
  refine lv_iload_n zx zb dX6_numberAt_24 rfl (lv_at hl 3 rfl) ?_
  refine lv_iconst (v := iI (1)) zx zb dX6_numberAt_25 rfl ?_
  refine i_add zC (a := (p : Int)) (b := 1) dX6_numberAt_26 ?_
  exact r_iret zC zQ zr zk h dX6_numberAt_27 (u := ()) rfl (List.Perm.refl _) trivial (Nat.le_of_ble_eq_true rfl) (Nat.le_of_ble_eq_true rfl)

set_option maxHeartbeats 4000000 in
set_option maxRecDepth 100000 in
theorem c_X6_numberAtU (l : Launch) (D : va_G) (g : Nat → ClassId) (a r1 r2 r3 : Nat → Nat) (n : Nat) (Vv U Dn : Nat → Nat → Int) (t : Int) (f p : Nat) (ht : t = 1 ∨ t = 2) (hf : f < 5) (hp : p < 300) : Ct (S := Unit) l D g yX6_numberAt cX6_numberAt 4 (some .int) rmX6_numberAt [.ref (a 0), .int (iI t), .int (iI (f : Int)), .int (iI (p : Int))] (wRows g a r1 r2 r3 n Vv U Dn) (fun u => some (.int (iI (U f p)))) (fun _ => True) (fun u => wRows g a r1 r2 r3 n Vv U Dn) := by
  refine Ct.of RX6 rfl (by decide +kernel) [(0, .ref (a 0)), (1, .int (iI t)), (2, .int (iI (f : Int))), (3, .int (iI (p : Int)))] rfl (Nat.le_of_ble_eq_true rfl) ?_
  intro pg evn sT mI bl mtd cd aA ls ar qQ zC zr zk zi zQ h hl
  have zx := zC.1
  have zb := zC.2.1
  have h : Hx D g sT aA sT.heap ((a 0, .inr (6, [.ref (a 1), .ref (a 2), .ref (a 3), .int (iI (n : Int))])) :: (a 1, cG g 5 r1) :: (a 2, cG g 5 r2) :: (a 3, cG g 5 r3) :: ((sG g r1 5 300 Vv) ++ ((sG g r2 5 300 U) ++ (sG g r3 5 300 Dn)))) sT.heap [] := h
  skip
  refine lv_iload_n zx zb dX6_numberAt_0 rfl (lv_at hl 1 rfl) ?_
  refine i_zeq (a := t) (tgt := 24) zC dX6_numberAt_1 (by decide) (by omega) (fun c_1 => absurd c_1 (by omega)) (fun c_1 => ?_)
  refine lv_iload_n zx zb dX6_numberAt_4 rfl (lv_at hl 2 rfl) ?_
  refine i_zlt (a := (f : Int)) (tgt := 24) zC dX6_numberAt_5 (by decide) (by omega) (fun c_2 => absurd c_2 (by omega)) (fun c_2 => ?_)
  refine lv_iload_n zx zb dX6_numberAt_8 rfl (lv_at hl 2 rfl) ?_
  refine lv_iconst (v := iI (5)) zx zb dX6_numberAt_9 rfl ?_
  refine i_cge (a := (f : Int)) (b := 5) (tgt := 24) zC dX6_numberAt_10 (by decide) (by omega) (fun c_3 => absurd c_3 (by omega)) (fun c_3 => ?_)
  refine lv_iload_n zx zb dX6_numberAt_13 rfl (lv_at hl 3 rfl) ?_
  refine i_zlt (a := (p : Int)) (tgt := 24) zC dX6_numberAt_14 (by decide) (by omega) (fun c_4 => absurd c_4 (by omega)) (fun c_4 => ?_)
  refine lv_iload_n zx zb dX6_numberAt_17 rfl (lv_at hl 3 rfl) ?_
  refine lv_sipush (v := iI (300)) zx zb dX6_numberAt_18 rfl ?_
  refine i_clt (a := (p : Int)) (b := 300) (tgt := 28) zC dX6_numberAt_21 (by decide) (by omega) (fun c_5 => ?_) (fun c_5 => absurd c_5 (by omega))
  refine lv_iload_n zx zb dX6_numberAt_28 rfl (lv_at hl 1 rfl) ?_
  refine lv_iconst (v := iI (3)) zx zb dX6_numberAt_29 rfl ?_
  refine i_cne (a := t) (b := 3) (tgt := 44) zC dX6_numberAt_30 (by decide) (by omega) (fun c_6 => ?_) (fun c_6 => absurd c_6 (by omega))
  refine lv_aload_n zx zb dX6_numberAt_44 rfl (lv_at hl 0 rfl) ?_
  refine gf6_16 (v := .ref (a 2)) zC h 0 rfl rfl dX6_numberAt_45 ?_
  refine lv_iload_n zx zb dX6_numberAt_48 rfl (lv_at hl 2 rfl) ?_
  refine a_gld zC h 2 rfl (z := (f : Int)) f (by omega) (by omega) (by decide) dX6_numberAt_49 ?_
  refine lv_iload_n zx zb dX6_numberAt_50 rfl (lv_at hl 3 rfl) ?_
  refine a_ildM (n := 300) (F := U f) zC h (.tail _ (.tail _ (.tail _ (.tail _ (List.mem_append_right _ (List.mem_append_left _ (sG_get (by omega)))))))) (z := (p : Int)) p (by omega) (by omega) (by decide) dX6_numberAt_51 ?_
  exact r_iret zC zQ zr zk h dX6_numberAt_52 (u := ()) rfl (List.Perm.refl _) trivial (Nat.le_of_ble_eq_true rfl) (Nat.le_of_ble_eq_true rfl)

set_option maxHeartbeats 4000000 in
set_option maxRecDepth 100000 in
theorem c_X6_numberAtD (l : Launch) (D : va_G) (g : Nat → ClassId) (a r1 r2 r3 : Nat → Nat) (n : Nat) (Vv U Dn : Nat → Nat → Int) (t : Int) (f p : Nat) (ht : t = 3) (hf : f < 5) (hp : p < 300) : Ct (S := Unit) l D g yX6_numberAt cX6_numberAt 4 (some .int) rmX6_numberAt [.ref (a 0), .int (iI t), .int (iI (f : Int)), .int (iI (p : Int))] (wRows g a r1 r2 r3 n Vv U Dn) (fun u => some (.int (iI (Dn f p)))) (fun _ => True) (fun u => wRows g a r1 r2 r3 n Vv U Dn) := by
  refine Ct.of RX6 rfl (by decide +kernel) [(0, .ref (a 0)), (1, .int (iI t)), (2, .int (iI (f : Int))), (3, .int (iI (p : Int)))] rfl (Nat.le_of_ble_eq_true rfl) ?_
  intro pg evn sT mI bl mtd cd aA ls ar qQ zC zr zk zi zQ h hl
  have zx := zC.1
  have zb := zC.2.1
  have h : Hx D g sT aA sT.heap ((a 0, .inr (6, [.ref (a 1), .ref (a 2), .ref (a 3), .int (iI (n : Int))])) :: (a 1, cG g 5 r1) :: (a 2, cG g 5 r2) :: (a 3, cG g 5 r3) :: ((sG g r1 5 300 Vv) ++ ((sG g r2 5 300 U) ++ (sG g r3 5 300 Dn)))) sT.heap [] := h
  skip
  refine lv_iload_n zx zb dX6_numberAt_0 rfl (lv_at hl 1 rfl) ?_
  refine i_zeq (a := t) (tgt := 24) zC dX6_numberAt_1 (by decide) (by omega) (fun c_1 => absurd c_1 (by omega)) (fun c_1 => ?_)
  refine lv_iload_n zx zb dX6_numberAt_4 rfl (lv_at hl 2 rfl) ?_
  refine i_zlt (a := (f : Int)) (tgt := 24) zC dX6_numberAt_5 (by decide) (by omega) (fun c_2 => absurd c_2 (by omega)) (fun c_2 => ?_)
  refine lv_iload_n zx zb dX6_numberAt_8 rfl (lv_at hl 2 rfl) ?_
  refine lv_iconst (v := iI (5)) zx zb dX6_numberAt_9 rfl ?_
  refine i_cge (a := (f : Int)) (b := 5) (tgt := 24) zC dX6_numberAt_10 (by decide) (by omega) (fun c_3 => absurd c_3 (by omega)) (fun c_3 => ?_)
  refine lv_iload_n zx zb dX6_numberAt_13 rfl (lv_at hl 3 rfl) ?_
  refine i_zlt (a := (p : Int)) (tgt := 24) zC dX6_numberAt_14 (by decide) (by omega) (fun c_4 => absurd c_4 (by omega)) (fun c_4 => ?_)
  refine lv_iload_n zx zb dX6_numberAt_17 rfl (lv_at hl 3 rfl) ?_
  refine lv_sipush (v := iI (300)) zx zb dX6_numberAt_18 rfl ?_
  refine i_clt (a := (p : Int)) (b := 300) (tgt := 28) zC dX6_numberAt_21 (by decide) (by omega) (fun c_5 => ?_) (fun c_5 => absurd c_5 (by omega))
  refine lv_iload_n zx zb dX6_numberAt_28 rfl (lv_at hl 1 rfl) ?_
  refine lv_iconst (v := iI (3)) zx zb dX6_numberAt_29 rfl ?_
  refine i_cne (a := t) (b := 3) (tgt := 44) zC dX6_numberAt_30 (by decide) (by omega) (fun c_6 => absurd c_6 (by omega)) (fun c_6 => ?_)
  refine lv_aload_n zx zb dX6_numberAt_33 rfl (lv_at hl 0 rfl) ?_
  refine gf6_19 (v := .ref (a 3)) zC h 0 rfl rfl dX6_numberAt_34 ?_
  refine lv_iload_n zx zb dX6_numberAt_37 rfl (lv_at hl 2 rfl) ?_
  refine a_gld zC h 3 rfl (z := (f : Int)) f (by omega) (by omega) (by decide) dX6_numberAt_38 ?_
  refine lv_iload_n zx zb dX6_numberAt_39 rfl (lv_at hl 3 rfl) ?_
  refine a_ildM (n := 300) (F := Dn f) zC h (.tail _ (.tail _ (.tail _ (.tail _ (List.mem_append_right _ (List.mem_append_right _ (sG_get (by omega)))))))) (z := (p : Int)) p (by omega) (by omega) (by decide) dX6_numberAt_40 ?_
  refine lv_goto (tgt := 52) zx zb dX6_numberAt_41 (by decide) ?_
  exact r_iret zC zQ zr zk h dX6_numberAt_52 (u := ()) rfl (List.Perm.refl _) trivial (Nat.le_of_ble_eq_true rfl) (Nat.le_of_ble_eq_true rfl)

set_option maxHeartbeats 4000000 in
set_option maxRecDepth 100000 in
theorem c_X6_behindLastU (l : Launch) (D : va_G) (g : Nat → ClassId) (a r1 r2 r3 : Nat → Nat) (n : Nat) (Vv U Dn : Nat → Nat → Int) (f : Nat) (v : Int) (hf : f < 5) (h1 : 1 ≤ n) (hn : n ≤ 300) (hv : R32 v) (hO : ∀ j, j + 1 < n → 1 ≤ U f j ∧ U f j ≤ (n : Int)) (hV : ∀ k, k < n → R32 (Vv f k)) : Ct (S := Nat) l D g yX6_behindLast cX6_behindLast 7 (some .int) rmX6_behindLast [.ref (a 0), .int (iI (f : Int)), .int (iI v), .int (bI false)] (wRows g a r1 r2 r3 n Vv U Dn) (fun u => some (.int (iI (u : Int)))) (plU (Vv f) (U f) n v) (fun u => wRows g a r1 r2 r3 n Vv U Dn) := by
  refine Ct.of RX6 rfl (by decide +kernel) [(0, .ref (a 0)), (1, .int (iI (f : Int))), (2, .int (iI v)), (3, .int (bI false))] rfl (Nat.le_of_ble_eq_true rfl) ?_
  intro pg evn sT mI bl mtd cd aA ls ar qQ zC zr zk zi zQ h hl
  have zx := zC.1
  have zb := zC.2.1
  have h : Hx D g sT aA sT.heap ((a 0, .inr (6, [.ref (a 1), .ref (a 2), .ref (a 3), .int (iI (n : Int))])) :: (a 1, cG g 5 r1) :: (a 2, cG g 5 r2) :: (a 3, cG g 5 r3) :: ((sG g r1 5 300 Vv) ++ ((sG g r2 5 300 U) ++ (sG g r3 5 300 Dn)))) sT.heap [] := h
  skip
  refine lv_iload_n zx zb dX6_behindLast_0 rfl (lv_at hl 3 rfl) ?_
  refine b_zeq (b := false) (tgt := 8) zC dX6_behindLast_1 (by decide) (fun c_1 => ?_) (fun c_1 => absurd c_1 (by decide))
  refine lv_iconst (v := iI (2)) zx zb dX6_behindLast_8 rfl ?_
  refine lv_istore (lv' := [(4, .int (iI 2)), (0, .ref (a 0)), (1, .int (iI (f : Int))), (2, .int (iI v)), (3, .int (bI false))]) zx zb dX6_behindLast_9 hl (by decide) rfl (fun ls hl => ?_)
  refine lv_aload_n zx zb dX6_behindLast_11 rfl (lv_at hl 1 rfl) ?_
  refine gf6_22 (v := .int (iI (n : Int))) zC h 0 rfl rfl dX6_behindLast_12 ?_
  refine lv_iconst (v := iI (1)) zx zb dX6_behindLast_15 rfl ?_
  refine i_sub zC (a := (n : Int)) (b := 1) dX6_behindLast_16 ?_
  rw [show ((n : Int) - 1 : Int) = ((n - 1 : Nat) : Int) from (by omega)]
  refine lv_istore (lv' := [(5, .int (iI ((n - 1 : Nat) : Int))), (4, .int (iI 2)), (0, .ref (a 0)), (1, .int (iI (f : Int))), (2, .int (iI v)), (3, .int (bI false))]) zx zb dX6_behindLast_17 hl (by decide) rfl (fun ls hl => ?_)
  have L19_2 : ∀ (fuel : Nat) (p : Nat) (H : Heap) (locs : List Loc) (ls : Array Slot), p < fuel → (p < n) → (∀ j, p ≤ j → j + 1 < n → v < Vv f (U f j - 1).toNat) → Hx D g sT aA sT.heap ((a 0, .inr (6, [.ref (a 1), .ref (a 2), .ref (a 3), .int (iI (n : Int))])) :: (a 1, cG g 5 r1) :: (a 2, cG g 5 r2) :: (a 3, cG g 5 r3) :: ((sG g r1 5 300 Vv) ++ ((sG g r2 5 300 U) ++ (sG g r3 5 300 Dn)))) H locs → lv_has ls 7 [(0, .ref (a 0)), (1, .int (iI (f : Int))), (2, .int (iI v)), (3, .int (bI false)), (4, .int (iI 2)), (5, .int (iI (p : Int)))] → W pg l evn rmX6_behindLast sT mI ar bl mtd cd H locs 0 0 qQ (F0 mI 19 ls []) := by
    intro fuel
    induction fuel with
    | zero => intro p H locs ls hm; exact absurd hm (Nat.not_lt_zero _)
    | succ fuel ih =>
      intro p H locs ls hm hp hi h hl
      refine lv_iload zx zb dX6_behindLast_19 (lv_at hl 5 rfl) ?_
      refine i_zle (a := (p : Int)) (tgt := 70) zC dX6_behindLast_21 (by decide) (by omega) (fun c_3 => ?_) (fun c_3 => ?_)
      · skip
        refine lv_iconst (v := iI (0)) zx zb dX6_behindLast_70 rfl ?_
        exact r_iret zC zQ zr zk h dX6_behindLast_71 (u := 0) rfl (List.Perm.refl _) ⟨by omega, fun q => absurd q (by omega), fun j _ h2 => hi j (by omega) h2⟩ (Nat.le_of_ble_eq_true rfl) (Nat.le_of_ble_eq_true rfl)
      · skip
        have hO1 := hO (p - 1) (by omega)
        have hV1 := hV (U f (p - 1) - 1).toNat (by omega)
        refine lv_aload_n zx zb dX6_behindLast_24 rfl (lv_at hl 0 rfl) ?_
        refine lv_aload_n zx zb dX6_behindLast_25 rfl (lv_at hl 0 rfl) ?_
        refine lv_iload zx zb dX6_behindLast_26 (lv_at hl 4 rfl) ?_
        refine lv_iload_n zx zb dX6_behindLast_28 rfl (lv_at hl 1 rfl) ?_
        refine lv_iload zx zb dX6_behindLast_29 (lv_at hl 5 rfl) ?_
        refine lv_iconst (v := iI (1)) zx zb dX6_behindLast_31 rfl ?_
        refine i_sub zC (a := (p : Int)) (b := 1) dX6_behindLast_32 ?_
        rw [show ((p : Int) - 1 : Int) = ((p - 1 : Nat) : Int) from (by omega)]
        refine r_invV (As := [.int (iI 2), .int (iI (f : Int)), .int (iI ((p - 1 : Nat) : Int))]) (rest := [.ref (a 0)]) (wr := []) (ws2 := fun u_4 => (a 0, .inr (6, [.ref (a 1), .ref (a 2), .ref (a 3), .int (iI (n : Int))])) :: (a 1, cG g 5 r1) :: (a 2, cG g 5 r2) :: (a 3, cG g 5 r3) :: ((sG g r1 5 300 Vv) ++ ((sG g r2 5 300 U) ++ (sG g r3 5 300 Dn)))) 0 0 zC h hl.1 (c_X6_numberAtU l D g a r1 r2 r3 n Vv U Dn 2 f (p - 1) (Or.inr rfl) hf (by omega)) (cs6_44 zC ⟨(Nat.le_of_ble_eq_true rfl), (Nat.le_of_ble_eq_true rfl)⟩) (.head _) rfl rfl rfl (Nat.le_of_ble_eq_true rfl) (List.Perm.of_eq (List.append_nil _).symm) (fun u => List.Perm.of_eq (List.append_nil _)) ⟨(Nat.le_of_ble_eq_true rfl), (Nat.le_of_ble_eq_true rfl)⟩ (Nat.le_of_ble_eq_true rfl) (Nat.le_of_ble_eq_true rfl) dX6_behindLast_33 (fun u_4 H locs hu_4 hz_4 h => ?_)
        refine lv_iload_n zx zb dX6_behindLast_36 rfl (lv_at hl 1 rfl) ?_
        refine r_invV (As := [.int (iI (U f (p - 1))), .int (iI (f : Int))]) (rest := []) (wr := []) (ws2 := fun u_5 => (a 0, .inr (6, [.ref (a 1), .ref (a 2), .ref (a 3), .int (iI (n : Int))])) :: (a 1, cG g 5 r1) :: (a 2, cG g 5 r2) :: (a 3, cG g 5 r3) :: ((sG g r1 5 300 Vv) ++ ((sG g r2 5 300 U) ++ (sG g r3 5 300 Dn)))) 0 0 zC h hl.1 (c_X6_value l D g a r1 r2 r3 n Vv U Dn (U f (p - 1) - 1).toNat f (U f (p - 1)) (by omega) (by omega) hn hf) (cs6_32 zC ⟨(Nat.le_of_ble_eq_true rfl), (Nat.le_of_ble_eq_true rfl)⟩) (.head _) rfl rfl rfl (Nat.le_of_ble_eq_true rfl) (List.Perm.of_eq (List.append_nil _).symm) (fun u => List.Perm.of_eq (List.append_nil _)) ⟨(Nat.le_of_ble_eq_true rfl), (Nat.le_of_ble_eq_true rfl)⟩ (Nat.le_of_ble_eq_true rfl) (Nat.le_of_ble_eq_true rfl) dX6_behindLast_37 (fun u_5 H locs hu_5 hz_5 h => ?_)
        refine lv_istore (lv' := [(6, .int (iI (Vv f (U f (p - 1) - 1).toNat))), (0, .ref (a 0)), (1, .int (iI (f : Int))), (2, .int (iI v)), (3, .int (bI false)), (4, .int (iI 2)), (5, .int (iI (p : Int)))]) zx zb dX6_behindLast_40 hl (by decide) rfl (fun ls hl => ?_)
        refine lv_iload_n zx zb dX6_behindLast_42 rfl (lv_at hl 4 rfl) ?_
        refine b_zeq (b := false) (tgt := 55) zC dX6_behindLast_43 (by decide) (fun c_6 => ?_) (fun c_6 => absurd c_6 (by decide))
        refine lv_iload zx zb dX6_behindLast_55 (lv_at hl 0 rfl) ?_
        refine lv_iload_n zx zb dX6_behindLast_57 rfl (lv_at hl 3 rfl) ?_
        refine i_cgt (a := Vv f (U f (p - 1) - 1).toNat) (b := v) (tgt := 64) zC dX6_behindLast_58 (by decide) (by omega) (fun c_7 => ?_) (fun c_7 => ?_)
        · skip
          refine i_inc (q := 6) (a := (p : Int)) (lv' := [(5, .int (iI ((p : Int) + (-1)))), (6, .int (iI (Vv f (U f (p - 1) - 1).toNat))), (0, .ref (a 0)), (1, .int (iI (f : Int))), (2, .int (iI v)), (3, .int (bI false)), (4, .int (iI 2))]) zC hl dX6_behindLast_64 rfl (by decide) rfl (fun ls hl => ?_)
          rw [show ((p : Int) + (-1) : Int) = ((p - 1 : Nat) : Int) from (by omega)] at hl
          refine lv_goto (tgt := 19) zx zb dX6_behindLast_67 (by decide) ?_
          exact ih (p - 1) _ _ _ (by omega) (by omega) (stepI (P := fun j => v < Vv f (U f j - 1).toNat) (fun _ => by omega) hi) h (lv_sub hl [2, 3, 4, 5, 6, 0] rfl)
        · skip
          refine lv_iload zx zb dX6_behindLast_61 (lv_at hl 6 rfl) ?_
          exact r_iret zC zQ zr zk h dX6_behindLast_63 (u := p) rfl (List.Perm.refl _) ⟨hp, fun _ => by omega, hi⟩ (Nat.le_of_ble_eq_true rfl) (Nat.le_of_ble_eq_true rfl)
  exact L19_2 _ (n - 1) _ _ _ (Nat.lt_succ_self _) (by omega) (fun j h1 h2 => absurd h2 (by omega)) h (lv_sub hl [2, 3, 4, 5, 1, 0] rfl)

set_option maxHeartbeats 4000000 in
set_option maxRecDepth 100000 in
theorem c_X6_behindLastD (l : Launch) (D : va_G) (g : Nat → ClassId) (a r1 r2 r3 : Nat → Nat) (n : Nat) (Vv U Dn : Nat → Nat → Int) (f : Nat) (v : Int) (hf : f < 5) (h1 : 1 ≤ n) (hn : n ≤ 300) (hv : R32 v) (hO : ∀ j, j + 1 < n → 1 ≤ Dn f j ∧ Dn f j ≤ (n : Int)) (hV : ∀ k, k < n → R32 (Vv f k)) : Ct (S := Nat) l D g yX6_behindLast cX6_behindLast 7 (some .int) rmX6_behindLast [.ref (a 0), .int (iI (f : Int)), .int (iI v), .int (bI true)] (wRows g a r1 r2 r3 n Vv U Dn) (fun u => some (.int (iI (u : Int)))) (plD (Vv f) (Dn f) n v) (fun u => wRows g a r1 r2 r3 n Vv U Dn) := by
  refine Ct.of RX6 rfl (by decide +kernel) [(0, .ref (a 0)), (1, .int (iI (f : Int))), (2, .int (iI v)), (3, .int (bI true))] rfl (Nat.le_of_ble_eq_true rfl) ?_
  intro pg evn sT mI bl mtd cd aA ls ar qQ zC zr zk zi zQ h hl
  have zx := zC.1
  have zb := zC.2.1
  have h : Hx D g sT aA sT.heap ((a 0, .inr (6, [.ref (a 1), .ref (a 2), .ref (a 3), .int (iI (n : Int))])) :: (a 1, cG g 5 r1) :: (a 2, cG g 5 r2) :: (a 3, cG g 5 r3) :: ((sG g r1 5 300 Vv) ++ ((sG g r2 5 300 U) ++ (sG g r3 5 300 Dn)))) sT.heap [] := h
  skip
  refine lv_iload_n zx zb dX6_behindLast_0 rfl (lv_at hl 3 rfl) ?_
  refine b_zeq (b := true) (tgt := 8) zC dX6_behindLast_1 (by decide) (fun c_1 => absurd c_1 (by decide)) (fun c_1 => ?_)
  refine lv_iconst (v := iI (3)) zx zb dX6_behindLast_4 rfl ?_
  refine lv_goto (tgt := 9) zx zb dX6_behindLast_5 (by decide) ?_
  refine lv_istore (lv' := [(4, .int (iI 3)), (0, .ref (a 0)), (1, .int (iI (f : Int))), (2, .int (iI v)), (3, .int (bI true))]) zx zb dX6_behindLast_9 hl (by decide) rfl (fun ls hl => ?_)
  refine lv_aload_n zx zb dX6_behindLast_11 rfl (lv_at hl 1 rfl) ?_
  refine gf6_22 (v := .int (iI (n : Int))) zC h 0 rfl rfl dX6_behindLast_12 ?_
  refine lv_iconst (v := iI (1)) zx zb dX6_behindLast_15 rfl ?_
  refine i_sub zC (a := (n : Int)) (b := 1) dX6_behindLast_16 ?_
  rw [show ((n : Int) - 1 : Int) = ((n - 1 : Nat) : Int) from (by omega)]
  refine lv_istore (lv' := [(5, .int (iI ((n - 1 : Nat) : Int))), (4, .int (iI 3)), (0, .ref (a 0)), (1, .int (iI (f : Int))), (2, .int (iI v)), (3, .int (bI true))]) zx zb dX6_behindLast_17 hl (by decide) rfl (fun ls hl => ?_)
  have L19_2 : ∀ (fuel : Nat) (p : Nat) (H : Heap) (locs : List Loc) (ls : Array Slot), p < fuel → (p < n) → (∀ j, p ≤ j → j + 1 < n → Vv f (Dn f j - 1).toNat < v) → Hx D g sT aA sT.heap ((a 0, .inr (6, [.ref (a 1), .ref (a 2), .ref (a 3), .int (iI (n : Int))])) :: (a 1, cG g 5 r1) :: (a 2, cG g 5 r2) :: (a 3, cG g 5 r3) :: ((sG g r1 5 300 Vv) ++ ((sG g r2 5 300 U) ++ (sG g r3 5 300 Dn)))) H locs → lv_has ls 7 [(0, .ref (a 0)), (1, .int (iI (f : Int))), (2, .int (iI v)), (3, .int (bI true)), (4, .int (iI 3)), (5, .int (iI (p : Int)))] → W pg l evn rmX6_behindLast sT mI ar bl mtd cd H locs 0 0 qQ (F0 mI 19 ls []) := by
    intro fuel
    induction fuel with
    | zero => intro p H locs ls hm; exact absurd hm (Nat.not_lt_zero _)
    | succ fuel ih =>
      intro p H locs ls hm hp hi h hl
      refine lv_iload zx zb dX6_behindLast_19 (lv_at hl 5 rfl) ?_
      refine i_zle (a := (p : Int)) (tgt := 70) zC dX6_behindLast_21 (by decide) (by omega) (fun c_3 => ?_) (fun c_3 => ?_)
      · skip
        refine lv_iconst (v := iI (0)) zx zb dX6_behindLast_70 rfl ?_
        exact r_iret zC zQ zr zk h dX6_behindLast_71 (u := 0) rfl (List.Perm.refl _) ⟨by omega, fun q => absurd q (by omega), fun j _ h2 => hi j (by omega) h2⟩ (Nat.le_of_ble_eq_true rfl) (Nat.le_of_ble_eq_true rfl)
      · skip
        have hO1 := hO (p - 1) (by omega)
        have hV1 := hV (Dn f (p - 1) - 1).toNat (by omega)
        refine lv_aload_n zx zb dX6_behindLast_24 rfl (lv_at hl 0 rfl) ?_
        refine lv_aload_n zx zb dX6_behindLast_25 rfl (lv_at hl 0 rfl) ?_
        refine lv_iload zx zb dX6_behindLast_26 (lv_at hl 4 rfl) ?_
        refine lv_iload_n zx zb dX6_behindLast_28 rfl (lv_at hl 1 rfl) ?_
        refine lv_iload zx zb dX6_behindLast_29 (lv_at hl 5 rfl) ?_
        refine lv_iconst (v := iI (1)) zx zb dX6_behindLast_31 rfl ?_
        refine i_sub zC (a := (p : Int)) (b := 1) dX6_behindLast_32 ?_
        rw [show ((p : Int) - 1 : Int) = ((p - 1 : Nat) : Int) from (by omega)]
        refine r_invV (As := [.int (iI 3), .int (iI (f : Int)), .int (iI ((p - 1 : Nat) : Int))]) (rest := [.ref (a 0)]) (wr := []) (ws2 := fun u_4 => (a 0, .inr (6, [.ref (a 1), .ref (a 2), .ref (a 3), .int (iI (n : Int))])) :: (a 1, cG g 5 r1) :: (a 2, cG g 5 r2) :: (a 3, cG g 5 r3) :: ((sG g r1 5 300 Vv) ++ ((sG g r2 5 300 U) ++ (sG g r3 5 300 Dn)))) 0 0 zC h hl.1 (c_X6_numberAtD l D g a r1 r2 r3 n Vv U Dn 3 f (p - 1) rfl hf (by omega)) (cs6_44 zC ⟨(Nat.le_of_ble_eq_true rfl), (Nat.le_of_ble_eq_true rfl)⟩) (.head _) rfl rfl rfl (Nat.le_of_ble_eq_true rfl) (List.Perm.of_eq (List.append_nil _).symm) (fun u => List.Perm.of_eq (List.append_nil _)) ⟨(Nat.le_of_ble_eq_true rfl), (Nat.le_of_ble_eq_true rfl)⟩ (Nat.le_of_ble_eq_true rfl) (Nat.le_of_ble_eq_true rfl) dX6_behindLast_33 (fun u_4 H locs hu_4 hz_4 h => ?_)
        refine lv_iload_n zx zb dX6_behindLast_36 rfl (lv_at hl 1 rfl) ?_
        refine r_invV (As := [.int (iI (Dn f (p - 1))), .int (iI (f : Int))]) (rest := []) (wr := []) (ws2 := fun u_5 => (a 0, .inr (6, [.ref (a 1), .ref (a 2), .ref (a 3), .int (iI (n : Int))])) :: (a 1, cG g 5 r1) :: (a 2, cG g 5 r2) :: (a 3, cG g 5 r3) :: ((sG g r1 5 300 Vv) ++ ((sG g r2 5 300 U) ++ (sG g r3 5 300 Dn)))) 0 0 zC h hl.1 (c_X6_value l D g a r1 r2 r3 n Vv U Dn (Dn f (p - 1) - 1).toNat f (Dn f (p - 1)) (by omega) (by omega) hn hf) (cs6_32 zC ⟨(Nat.le_of_ble_eq_true rfl), (Nat.le_of_ble_eq_true rfl)⟩) (.head _) rfl rfl rfl (Nat.le_of_ble_eq_true rfl) (List.Perm.of_eq (List.append_nil _).symm) (fun u => List.Perm.of_eq (List.append_nil _)) ⟨(Nat.le_of_ble_eq_true rfl), (Nat.le_of_ble_eq_true rfl)⟩ (Nat.le_of_ble_eq_true rfl) (Nat.le_of_ble_eq_true rfl) dX6_behindLast_37 (fun u_5 H locs hu_5 hz_5 h => ?_)
        refine lv_istore (lv' := [(6, .int (iI (Vv f (Dn f (p - 1) - 1).toNat))), (0, .ref (a 0)), (1, .int (iI (f : Int))), (2, .int (iI v)), (3, .int (bI true)), (4, .int (iI 3)), (5, .int (iI (p : Int)))]) zx zb dX6_behindLast_40 hl (by decide) rfl (fun ls hl => ?_)
        refine lv_iload_n zx zb dX6_behindLast_42 rfl (lv_at hl 4 rfl) ?_
        refine b_zeq (b := true) (tgt := 55) zC dX6_behindLast_43 (by decide) (fun c_6 => absurd c_6 (by decide)) (fun c_6 => ?_)
        refine lv_iload zx zb dX6_behindLast_46 (lv_at hl 0 rfl) ?_
        refine lv_iload_n zx zb dX6_behindLast_48 rfl (lv_at hl 3 rfl) ?_
        refine i_clt (a := Vv f (Dn f (p - 1) - 1).toNat) (b := v) (tgt := 64) zC dX6_behindLast_49 (by decide) (by omega) (fun c_7 => ?_) (fun c_7 => ?_)
        · skip
          refine i_inc (q := 6) (a := (p : Int)) (lv' := [(5, .int (iI ((p : Int) + (-1)))), (6, .int (iI (Vv f (Dn f (p - 1) - 1).toNat))), (0, .ref (a 0)), (1, .int (iI (f : Int))), (2, .int (iI v)), (3, .int (bI true)), (4, .int (iI 3))]) zC hl dX6_behindLast_64 rfl (by decide) rfl (fun ls hl => ?_)
          rw [show ((p : Int) + (-1) : Int) = ((p - 1 : Nat) : Int) from (by omega)] at hl
          refine lv_goto (tgt := 19) zx zb dX6_behindLast_67 (by decide) ?_
          exact ih (p - 1) _ _ _ (by omega) (by omega) (stepI (P := fun j => Vv f (Dn f j - 1).toNat < v) (fun _ => by omega) hi) h (lv_sub hl [2, 3, 4, 5, 6, 0] rfl)
        · skip
          refine lv_goto (tgt := 61) zx zb dX6_behindLast_52 (by decide) ?_
          refine lv_iload zx zb dX6_behindLast_61 (lv_at hl 6 rfl) ?_
          exact r_iret zC zQ zr zk h dX6_behindLast_63 (u := p) rfl (List.Perm.refl _) ⟨hp, fun _ => by omega, hi⟩ (Nat.le_of_ble_eq_true rfl) (Nat.le_of_ble_eq_true rfl)
  exact L19_2 _ (n - 1) _ _ _ (Nat.lt_succ_self _) (by omega) (fun j h1 h2 => absurd h2 (by omega)) h (lv_sub hl [2, 3, 4, 5, 1, 0] rfl)

set_option maxHeartbeats 4000000 in
set_option maxRecDepth 100000 in
theorem c_X6_insert (l : Launch) (D : va_G) (g : Nat → ClassId) (a : Nat → Nat) (ro n p : Nat) (F : Nat → Int) (hp : p < n) (hn : n ≤ 300) : Ct (S := Unit) l D g yX6_insert cX6_insert 4 none rmX6_insert [.ref (a 0), .ref ro, .int (iI (p : Int))] ([(a 0, .inr (6, [.ref (a 1), .ref (a 2), .ref (a 3), .int (iI (n : Int))])), (ro, cI g 300 F)]) (fun u => none) (fun _ => True) (fun u => [(a 0, .inr (6, [.ref (a 1), .ref (a 2), .ref (a 3), .int (iI (n : Int))])), (ro, cI g 300 (insF F n p))]) := by
  refine Ct.of RX6 rfl (by decide +kernel) [(0, .ref (a 0)), (1, .ref ro), (2, .int (iI (p : Int)))] rfl (Nat.le_of_ble_eq_true rfl) ?_
  intro pg evn sT mI bl mtd cd aA ls ar qQ zC zr zk zi zQ h hl
  have zx := zC.1
  have zb := zC.2.1
  skip
  refine lv_aload_n zx zb dX6_insert_0 rfl (lv_at hl 0 rfl) ?_
  refine gf6_22 (v := .int (iI (n : Int))) zC h 0 rfl rfl dX6_insert_1 ?_
  refine lv_iconst (v := iI (1)) zx zb dX6_insert_4 rfl ?_
  refine i_sub zC (a := (n : Int)) (b := 1) dX6_insert_5 ?_
  rw [show ((n : Int) - 1 : Int) = ((n - 1 : Nat) : Int) from (by omega)]
  refine lv_istore_n (lv' := [(3, .int (iI ((n - 1 : Nat) : Int))), (0, .ref (a 0)), (1, .ref ro), (2, .int (iI (p : Int)))]) zx zb dX6_insert_6 rfl hl (by decide) rfl (fun ls hl => ?_)
  have L7_1 : ∀ (fuel : Nat) (q : Nat) (H : Heap) (locs : List Loc) (ls : Array Slot), q < fuel → (p ≤ q) → (q < n) → Hx D g sT aA sT.heap ([(a 0, .inr (6, [.ref (a 1), .ref (a 2), .ref (a 3), .int (iI (n : Int))])), (ro, cI g 300 (insG F n q))]) H locs → lv_has ls 4 [(0, .ref (a 0)), (1, .ref ro), (2, .int (iI (p : Int))), (3, .int (iI (q : Int)))] → W pg l evn rmX6_insert sT mI ar bl mtd cd H locs 0 0 qQ (F0 mI 7 ls []) := by
    intro fuel
    induction fuel with
    | zero => intro q H locs ls hm; exact absurd hm (Nat.not_lt_zero _)
    | succ fuel ih =>
      intro q H locs ls hm hq1 hq2 h hl
      refine lv_iload_n zx zb dX6_insert_7 rfl (lv_at hl 3 rfl) ?_
      refine lv_iload_n zx zb dX6_insert_8 rfl (lv_at hl 2 rfl) ?_
      refine i_cle (a := (q : Int)) (b := (p : Int)) (tgt := 36) zC dX6_insert_9 (by decide) (by omega) (fun c_2 => ?_) (fun c_2 => ?_)
      · skip
        refine lv_iload_n zx zb dX6_insert_36 rfl (lv_at hl 2 rfl) ?_
        refine i_zlt (a := (p : Int)) (tgt := 53) zC dX6_insert_37 (by decide) (by omega) (fun c_3 => absurd c_3 (by omega)) (fun c_3 => ?_)
        refine lv_iload_n zx zb dX6_insert_40 rfl (lv_at hl 2 rfl) ?_
        refine lv_aload_n zx zb dX6_insert_41 rfl (lv_at hl 1 rfl) ?_
        refine a_len zC h 1 0 rfl rfl (300) rfl dX6_insert_42 ?_
        refine i_cge (a := (p : Int)) (b := 300) (tgt := 53) zC dX6_insert_43 (by decide) (by omega) (fun c_4 => absurd c_4 (by omega)) (fun c_4 => ?_)
        refine lv_aload_n zx zb dX6_insert_46 rfl (lv_at hl 1 rfl) ?_
        refine lv_iload_n zx zb dX6_insert_47 rfl (lv_at hl 2 rfl) ?_
        refine lv_aload_n zx zb dX6_insert_48 rfl (lv_at hl 0 rfl) ?_
        refine gf6_22 (v := .int (iI (n : Int))) zC h 0 rfl rfl dX6_insert_49 ?_
        refine a_ist (x := (n : Int)) zC h 1 (ws' := [(a 0, .inr (6, [.ref (a 1), .ref (a 2), .ref (a 3), .int (iI (n : Int))])), (ro, cI g 300 (insF F n p))]) rfl (z := (p : Int)) p (by rw [show up (insG F n q) p (n : Int) = insF F n p from (by rw [show q = p by omega]; exact insG_end hp)]; rfl) (by omega) (by omega) (by decide) dX6_insert_52 (fun H locs h => ?_)
        exact r_vret zC zQ zr zk h dX6_insert_53 (u := ()) rfl (List.Perm.refl _) trivial (Nat.le_of_ble_eq_true rfl) (Nat.le_of_ble_eq_true rfl)
      · skip
        refine lv_iload_n zx zb dX6_insert_12 rfl (lv_at hl 3 rfl) ?_
        refine i_zle (a := (q : Int)) (tgt := 36) zC dX6_insert_13 (by decide) (by omega) (fun c_5 => absurd c_5 (by omega)) (fun c_5 => ?_)
        refine lv_iload_n zx zb dX6_insert_16 rfl (lv_at hl 3 rfl) ?_
        refine lv_aload_n zx zb dX6_insert_17 rfl (lv_at hl 1 rfl) ?_
        refine a_len zC h 1 0 rfl rfl (300) rfl dX6_insert_18 ?_
        refine i_cge (a := (q : Int)) (b := 300) (tgt := 36) zC dX6_insert_19 (by decide) (by omega) (fun c_6 => absurd c_6 (by omega)) (fun c_6 => ?_)
        refine lv_aload_n zx zb dX6_insert_22 rfl (lv_at hl 1 rfl) ?_
        refine lv_iload_n zx zb dX6_insert_23 rfl (lv_at hl 3 rfl) ?_
        refine lv_aload_n zx zb dX6_insert_24 rfl (lv_at hl 1 rfl) ?_
        refine lv_iload_n zx zb dX6_insert_25 rfl (lv_at hl 3 rfl) ?_
        refine lv_iconst (v := iI (1)) zx zb dX6_insert_26 rfl ?_
        refine i_sub zC (a := (q : Int)) (b := 1) dX6_insert_27 ?_
        rw [show ((q : Int) - 1 : Int) = ((q - 1 : Nat) : Int) from (by omega)]
        refine a_ild zC h 1 rfl (z := ((q - 1 : Nat) : Int)) (q - 1) (by omega) (by omega) (by decide) dX6_insert_28 ?_
        refine a_ist (x := (insG F n q) (q - 1)) zC h 1 (ws' := [(a 0, .inr (6, [.ref (a 1), .ref (a 2), .ref (a 3), .int (iI (n : Int))])), (ro, cI g 300 (insG F n (q - 1)))]) rfl (z := (q : Int)) q (by rw [show up (insG F n q) q ((insG F n q) (q - 1)) = insG F n (q - 1) from (insG_step (by omega) hq2)]; rfl) (by omega) (by omega) (by decide) dX6_insert_29 (fun H locs h => ?_)
        refine i_inc (q := 3) (a := (q : Int)) (lv' := [(3, .int (iI ((q : Int) + (-1)))), (0, .ref (a 0)), (1, .ref ro), (2, .int (iI (p : Int)))]) zC hl dX6_insert_30 rfl (by decide) rfl (fun ls hl => ?_)
        rw [show ((q : Int) + (-1) : Int) = ((q - 1 : Nat) : Int) from (by omega)] at hl
        refine lv_goto (tgt := 7) zx zb dX6_insert_33 (by decide) ?_
        exact ih (q - 1) _ _ _ (by omega) (by omega) (by omega) h (lv_sub hl [1, 2, 3, 0] rfl)
  exact L7_1 _ (n - 1) _ _ _ (Nat.lt_succ_self _) (by omega) (by omega) (by rw [← insG_0]; exact h) (lv_sub hl [1, 2, 3, 0] rfl)

set_option maxHeartbeats 4000000 in
set_option maxRecDepth 100000 in
theorem c_X6_putInOrders (l : Launch) (D : va_G) (g : Nat → ClassId) (a r1 r2 r3 : Nat → Nat) (n : Nat) (Vv U Dn : Nat → Nat → Int) (h1 : 1 ≤ n) (hn : n ≤ 300) (hV : ∀ f k, f < 5 → k < n → R32 (Vv f k)) (hU : ∀ f j, f < 5 → j + 1 < n → 1 ≤ U f j ∧ U f j ≤ (n : Int)) (hD : ∀ f j, f < 5 → j + 1 < n → 1 ≤ Dn f j ∧ Dn f j ≤ (n : Int)) : Ct (S := (Nat → Nat → Int) × (Nat → Nat → Int)) l D g yX6_putInOrders cX6_putInOrders 3 none rmX6_putInOrders [.ref (a 0)] (wRows g a r1 r2 r3 n Vv U Dn) (fun u => none) (fun u => ∀ e, e < 5 → (∃ p, plU (Vv e) (U e) n (Vv e (n - 1)) p ∧ u.1 e = insF (U e) n p) ∧ ∃ p, plD (Vv e) (Dn e) n (Vv e (n - 1)) p ∧ u.2 e = insF (Dn e) n p) (fun u => wRows g a r1 r2 r3 n Vv u.1 u.2) := by
  refine Ct.of RX6 rfl (by decide +kernel) [(0, .ref (a 0))] rfl (Nat.le_of_ble_eq_true rfl) ?_
  intro pg evn sT mI bl mtd cd aA ls ar qQ zC zr zk zi zQ h hl
  have zx := zC.1
  have zb := zC.2.1
  have h : Hx D g sT aA sT.heap ((a 0, .inr (6, [.ref (a 1), .ref (a 2), .ref (a 3), .int (iI (n : Int))])) :: (a 1, cG g 5 r1) :: (a 2, cG g 5 r2) :: (a 3, cG g 5 r3) :: ((sG g r1 5 300 Vv) ++ ((sG g r2 5 300 U) ++ (sG g r3 5 300 Dn)))) sT.heap [] := h
  skip
  refine lv_iconst (v := iI (0)) zx zb dX6_putInOrders_0 rfl ?_
  refine lv_istore_n (lv' := [(1, .int (iI 0)), (0, .ref (a 0))]) zx zb dX6_putInOrders_1 rfl hl (by decide) rfl (fun ls hl => ?_)
  have L2_1 : ∀ (fuel : Nat) (f : Nat) (Uc : Nat → Nat → Int) (Dc : Nat → Nat → Int) (H : Heap) (locs : List Loc) (ls : Array Slot), 5 - f < fuel → (f ≤ 5) → (∀ e, e < f → (∃ p, plU (Vv e) (U e) n (Vv e (n - 1)) p ∧ Uc e = insF (U e) n p) ∧ ∃ p, plD (Vv e) (Dn e) n (Vv e (n - 1)) p ∧ Dc e = insF (Dn e) n p) → (∀ e, f ≤ e → Uc e = U e ∧ Dc e = Dn e) → Hx D g sT aA sT.heap ((a 0, .inr (6, [.ref (a 1), .ref (a 2), .ref (a 3), .int (iI (n : Int))])) :: (a 1, cG g 5 r1) :: (a 2, cG g 5 r2) :: (a 3, cG g 5 r3) :: ((sG g r1 5 300 Vv) ++ ((sG g r2 5 300 Uc) ++ (sG g r3 5 300 Dc)))) H locs → lv_has ls 3 [(0, .ref (a 0)), (1, .int (iI (f : Int)))] → W pg l evn rmX6_putInOrders sT mI ar bl mtd cd H locs 0 0 qQ (F0 mI 2 ls []) := by
    intro fuel
    induction fuel with
    | zero => intro f Uc Dc H locs ls hm; exact absurd hm (Nat.not_lt_zero _)
    | succ fuel ih =>
      intro f Uc Dc H locs ls hm hf hi hr h hl
      refine lv_iload_n zx zb dX6_putInOrders_2 rfl (lv_at hl 1 rfl) ?_
      refine lv_iconst (v := iI (5)) zx zb dX6_putInOrders_3 rfl ?_
      refine i_cge (a := (f : Int)) (b := 5) (tgt := 57) zC dX6_putInOrders_4 (by decide) (by omega) (fun c_2 => ?_) (fun c_2 => ?_)
      · skip
        exact r_vret zC zQ zr zk h dX6_putInOrders_57 (u := (Uc, Dc)) rfl (List.Perm.refl _) (fun e he => hi e (by omega)) (Nat.le_of_ble_eq_true rfl) (Nat.le_of_ble_eq_true rfl)
      · skip
        refine lv_aload_n zx zb dX6_putInOrders_7 rfl (lv_at hl 0 rfl) ?_
        refine lv_aload_n zx zb dX6_putInOrders_8 rfl (lv_at hl 0 rfl) ?_
        refine gf6_22 (v := .int (iI (n : Int))) zC h 0 rfl rfl dX6_putInOrders_9 ?_
        refine lv_iload_n zx zb dX6_putInOrders_12 rfl (lv_at hl 1 rfl) ?_
        refine r_invV (As := [.int (iI (n : Int)), .int (iI (f : Int))]) (rest := []) (wr := []) (ws2 := fun u_3 => (a 0, .inr (6, [.ref (a 1), .ref (a 2), .ref (a 3), .int (iI (n : Int))])) :: (a 1, cG g 5 r1) :: (a 2, cG g 5 r2) :: (a 3, cG g 5 r3) :: ((sG g r1 5 300 Vv) ++ ((sG g r2 5 300 Uc) ++ (sG g r3 5 300 Dc)))) 0 0 zC h hl.1 (c_X6_value l D g a r1 r2 r3 n Vv Uc Dc (n - 1) f (n : Int) (by omega) (by omega) hn (by omega)) (cs6_32 zC ⟨(Nat.le_of_ble_eq_true rfl), (Nat.le_of_ble_eq_true rfl)⟩) (.head _) rfl rfl rfl (Nat.le_of_ble_eq_true rfl) (List.Perm.of_eq (List.append_nil _).symm) (fun u => List.Perm.of_eq (List.append_nil _)) ⟨(Nat.le_of_ble_eq_true rfl), (Nat.le_of_ble_eq_true rfl)⟩ (Nat.le_of_ble_eq_true rfl) (Nat.le_of_ble_eq_true rfl) dX6_putInOrders_13 (fun u_3 H locs hu_3 hz_3 h => ?_)
        refine lv_istore_n (lv' := [(2, .int (iI (Vv f (n - 1)))), (0, .ref (a 0)), (1, .int (iI (f : Int)))]) zx zb dX6_putInOrders_16 rfl hl (by decide) rfl (fun ls hl => ?_)
        refine lv_aload_n zx zb dX6_putInOrders_17 rfl (lv_at hl 1 rfl) ?_
        refine lv_aload_n zx zb dX6_putInOrders_18 rfl (lv_at hl 1 rfl) ?_
        refine gf6_16 (v := .ref (a 2)) zC h 0 rfl rfl dX6_putInOrders_19 ?_
        refine lv_iload_n zx zb dX6_putInOrders_22 rfl (lv_at hl 2 rfl) ?_
        refine a_gld zC h 2 rfl (z := (f : Int)) f (by omega) (by omega) (by decide) dX6_putInOrders_23 ?_
        refine lv_aload_n zx zb dX6_putInOrders_24 rfl (lv_at hl 1 rfl) ?_
        refine lv_iload_n zx zb dX6_putInOrders_25 rfl (lv_at hl 2 rfl) ?_
        refine lv_iload_n zx zb dX6_putInOrders_26 rfl (lv_at hl 0 rfl) ?_
        refine lv_iconst (v := iI (0)) zx zb dX6_putInOrders_27 rfl ?_
        refine r_invV (As := [.int (iI (f : Int)), .int (iI (Vv f (n - 1))), .int (bI false)]) (rest := [.ref (r2 f), .ref (a 0)]) (wr := []) (ws2 := fun u_4 => (a 0, .inr (6, [.ref (a 1), .ref (a 2), .ref (a 3), .int (iI (n : Int))])) :: (a 1, cG g 5 r1) :: (a 2, cG g 5 r2) :: (a 3, cG g 5 r3) :: ((sG g r1 5 300 Vv) ++ ((sG g r2 5 300 Uc) ++ (sG g r3 5 300 Dc)))) 0 0 zC h hl.1 (c_X6_behindLastU l D g a r1 r2 r3 n Vv Uc Dc f (Vv f (n - 1)) (by omega) h1 hn (hV f (n - 1) (by omega) (by omega)) (fun j hj => by rw [(hr f (Nat.le_refl f)).1]; exact hU f j (by omega) hj) (fun k hk => hV f k (by omega) hk)) (cs6_36 zC ⟨(Nat.le_of_ble_eq_true rfl), (Nat.le_of_ble_eq_true rfl)⟩) (.head _) rfl rfl rfl (Nat.le_of_ble_eq_true rfl) (List.Perm.of_eq (List.append_nil _).symm) (fun u => List.Perm.of_eq (List.append_nil _)) ⟨(Nat.le_of_ble_eq_true rfl), (Nat.le_of_ble_eq_true rfl)⟩ (Nat.le_of_ble_eq_true rfl) (Nat.le_of_ble_eq_true rfl) dX6_putInOrders_28 (fun u_4 H locs hu_4 hz_4 h => ?_)
        refine r_invV (As := [.ref (r2 f), .int (iI (u_4 : Int))]) (rest := []) (wr := (a 1, cG g 5 r1) :: (a 2, cG g 5 r2) :: (a 3, cG g 5 r3) :: ((sG g r1 5 300 Vv) ++ ((sG g r3 5 300 Dc) ++ (sGx g r2 5 300 Uc f)))) (ws2 := fun u_5 => (a 0, .inr (6, [.ref (a 1), .ref (a 2), .ref (a 3), .int (iI (n : Int))])) :: (a 1, cG g 5 r1) :: (a 2, cG g 5 r2) :: (a 3, cG g 5 r3) :: ((sG g r1 5 300 Vv) ++ ((sG g r2 5 300 (up Uc f (insF (Uc f) n u_4))) ++ (sG g r3 5 300 Dc)))) 0 0 zC h hl.1 (c_X6_insert l D g a (r2 f) n u_4 (Uc f) hu_4.1 hn) (cs6_40 zC ⟨(Nat.le_of_ble_eq_true rfl), (Nat.le_of_ble_eq_true rfl)⟩) (.head _) rfl rfl rfl (Nat.le_of_ble_eq_true rfl) (pm fun cp_q => by simp only [cp_o, List.countP_append, List.countP_nil, (sG_split (g := g) (r := r2) (len := 300) (F := Uc) (show f < 5 by omega)).countP_eq cp_q] <;> omega) (fun u => (pm fun cp_q => by simp only [cp_o, List.countP_append, List.countP_nil, (sG_put (g := g) (r := r2) (len := 300) (F := Uc) (f := insF (Uc f) n u_4) (show f < 5 by omega)).countP_eq cp_q] <;> omega)) ⟨(Nat.le_of_ble_eq_true rfl), (Nat.le_of_ble_eq_true rfl)⟩ (Nat.le_of_ble_eq_true rfl) (Nat.le_of_ble_eq_true rfl) dX6_putInOrders_31 (fun u_5 H locs hu_5 hz_5 h => ?_)
        refine lv_aload_n zx zb dX6_putInOrders_34 rfl (lv_at hl 1 rfl) ?_
        refine lv_aload_n zx zb dX6_putInOrders_35 rfl (lv_at hl 1 rfl) ?_
        refine gf6_19 (v := .ref (a 3)) zC h 0 rfl rfl dX6_putInOrders_36 ?_
        refine lv_iload_n zx zb dX6_putInOrders_39 rfl (lv_at hl 2 rfl) ?_
        refine a_gld zC h 3 rfl (z := (f : Int)) f (by omega) (by omega) (by decide) dX6_putInOrders_40 ?_
        refine lv_aload_n zx zb dX6_putInOrders_41 rfl (lv_at hl 1 rfl) ?_
        refine lv_iload_n zx zb dX6_putInOrders_42 rfl (lv_at hl 2 rfl) ?_
        refine lv_iload_n zx zb dX6_putInOrders_43 rfl (lv_at hl 0 rfl) ?_
        refine lv_iconst (v := iI (1)) zx zb dX6_putInOrders_44 rfl ?_
        refine r_invV (As := [.int (iI (f : Int)), .int (iI (Vv f (n - 1))), .int (bI true)]) (rest := [.ref (r3 f), .ref (a 0)]) (wr := []) (ws2 := fun u_6 => (a 0, .inr (6, [.ref (a 1), .ref (a 2), .ref (a 3), .int (iI (n : Int))])) :: (a 1, cG g 5 r1) :: (a 2, cG g 5 r2) :: (a 3, cG g 5 r3) :: ((sG g r1 5 300 Vv) ++ ((sG g r2 5 300 (up Uc f (insF (Uc f) n u_4))) ++ (sG g r3 5 300 Dc)))) 0 0 zC h hl.1 (c_X6_behindLastD l D g a r1 r2 r3 n Vv (up Uc f (insF (Uc f) n u_4)) Dc f (Vv f (n - 1)) (by omega) h1 hn (hV f (n - 1) (by omega) (by omega)) (fun j hj => by rw [(hr f (Nat.le_refl f)).2]; exact hD f j (by omega) hj) (fun k hk => hV f k (by omega) hk)) (cs6_36 zC ⟨(Nat.le_of_ble_eq_true rfl), (Nat.le_of_ble_eq_true rfl)⟩) (.head _) rfl rfl rfl (Nat.le_of_ble_eq_true rfl) (List.Perm.of_eq (List.append_nil _).symm) (fun u => List.Perm.of_eq (List.append_nil _)) ⟨(Nat.le_of_ble_eq_true rfl), (Nat.le_of_ble_eq_true rfl)⟩ (Nat.le_of_ble_eq_true rfl) (Nat.le_of_ble_eq_true rfl) dX6_putInOrders_45 (fun u_6 H locs hu_6 hz_6 h => ?_)
        refine r_invV (As := [.ref (r3 f), .int (iI (u_6 : Int))]) (rest := []) (wr := (a 1, cG g 5 r1) :: (a 2, cG g 5 r2) :: (a 3, cG g 5 r3) :: ((sG g r1 5 300 Vv) ++ ((sG g r2 5 300 (up Uc f (insF (Uc f) n u_4))) ++ (sGx g r3 5 300 Dc f)))) (ws2 := fun u_7 => (a 0, .inr (6, [.ref (a 1), .ref (a 2), .ref (a 3), .int (iI (n : Int))])) :: (a 1, cG g 5 r1) :: (a 2, cG g 5 r2) :: (a 3, cG g 5 r3) :: ((sG g r1 5 300 Vv) ++ ((sG g r2 5 300 (up Uc f (insF (Uc f) n u_4))) ++ (sG g r3 5 300 (up Dc f (insF (Dc f) n u_6)))))) 0 0 zC h hl.1 (c_X6_insert l D g a (r3 f) n u_6 (Dc f) hu_6.1 hn) (cs6_40 zC ⟨(Nat.le_of_ble_eq_true rfl), (Nat.le_of_ble_eq_true rfl)⟩) (.head _) rfl rfl rfl (Nat.le_of_ble_eq_true rfl) (pm fun cp_q => by simp only [cp_o, List.countP_append, List.countP_nil, (sG_split (g := g) (r := r3) (len := 300) (F := Dc) (show f < 5 by omega)).countP_eq cp_q] <;> omega) (fun u => (pm fun cp_q => by simp only [cp_o, List.countP_append, List.countP_nil, (sG_put (g := g) (r := r3) (len := 300) (F := Dc) (f := insF (Dc f) n u_6) (show f < 5 by omega)).countP_eq cp_q] <;> omega)) ⟨(Nat.le_of_ble_eq_true rfl), (Nat.le_of_ble_eq_true rfl)⟩ (Nat.le_of_ble_eq_true rfl) (Nat.le_of_ble_eq_true rfl) dX6_putInOrders_48 (fun u_7 H locs hu_7 hz_7 h => ?_)
        refine i_inc (q := 2) (a := (f : Int)) (lv' := [(1, .int (iI ((f : Int) + 1))), (2, .int (iI (Vv f (n - 1)))), (0, .ref (a 0))]) zC hl dX6_putInOrders_51 rfl (by decide) rfl (fun ls hl => ?_)
        refine lv_goto (tgt := 2) zx zb dX6_putInOrders_54 (by decide) ?_
        exact ih (f + 1) (up Uc f (insF (Uc f) n u_4)) (up Dc f (insF (Dc f) n u_6)) _ _ _ (by omega) (by omega) (putI hi hr hu_4 hu_6) (putR hr) h (lv_sub hl [2, 0] rfl)
  exact L2_1 _ 0 U Dn _ _ _ (Nat.lt_succ_self _) (by omega) (fun e q => absurd q (Nat.not_lt_zero _)) (fun e _ => ⟨rfl, rfl⟩) h (lv_sub hl [1, 0] rfl)

set_option maxHeartbeats 4000000 in
set_option maxRecDepth 100000 in
theorem c_X6_add (l : Launch) (D : va_G) (g : Nat → ClassId) (a r1 r2 r3 : Nat → Nat) (n : Nat) (Vv U Dn : Nat → Nat → Int) (x0 x1 x2 x3 x4 : Int) (hn : n < 300) (hx : R32 x0 ∧ R32 x1 ∧ R32 x2 ∧ R32 x3 ∧ R32 x4) (hV : ∀ f k, f < 5 → k < n → R32 (Vv f k)) (hU : ∀ f j, f < 5 → j < n → 1 ≤ U f j ∧ U f j ≤ (n : Int)) (hD : ∀ f j, f < 5 → j < n → 1 ≤ Dn f j ∧ Dn f j ≤ (n : Int)) : Ct (S := (Nat → Nat → Int) × (Nat → Nat → Int)) l D g yX6_add cX6_add 6 (some .int) rmX6_add [.ref (a 0), .int (iI x0), .int (iI x1), .int (iI x2), .int (iI x3), .int (iI x4)] (wRows g a r1 r2 r3 n Vv U Dn) (fun u => some (.int (iI ((n : Int) + 1)))) (fun u => ∀ e, e < 5 → (∃ p, plU ((pV (pV (pV (pV (pV Vv 0 n x0) 1 n x1) 2 n x2) 3 n x3) 4 n x4) e) (U e) (n + 1) ((pV (pV (pV (pV (pV Vv 0 n x0) 1 n x1) 2 n x2) 3 n x3) 4 n x4) e n) p ∧ u.1 e = insF (U e) (n + 1) p) ∧ ∃ p, plD ((pV (pV (pV (pV (pV Vv 0 n x0) 1 n x1) 2 n x2) 3 n x3) 4 n x4) e) (Dn e) (n + 1) ((pV (pV (pV (pV (pV Vv 0 n x0) 1 n x1) 2 n x2) 3 n x3) 4 n x4) e n) p ∧ u.2 e = insF (Dn e) (n + 1) p) (fun u => wRows g a r1 r2 r3 (n + 1) (pV (pV (pV (pV (pV Vv 0 n x0) 1 n x1) 2 n x2) 3 n x3) 4 n x4) u.1 u.2) := by
  refine Ct.of RX6 rfl (by decide +kernel) [(0, .ref (a 0)), (1, .int (iI x0)), (2, .int (iI x1)), (3, .int (iI x2)), (4, .int (iI x3)), (5, .int (iI x4))] rfl (Nat.le_of_ble_eq_true rfl) ?_
  intro pg evn sT mI bl mtd cd aA ls ar qQ zC zr zk zi zQ h hl
  have zx := zC.1
  have zb := zC.2.1
  have h : Hx D g sT aA sT.heap ((a 0, .inr (6, [.ref (a 1), .ref (a 2), .ref (a 3), .int (iI (n : Int))])) :: (a 1, cG g 5 r1) :: (a 2, cG g 5 r2) :: (a 3, cG g 5 r3) :: ((sG g r1 5 300 Vv) ++ ((sG g r2 5 300 U) ++ (sG g r3 5 300 Dn)))) sT.heap [] := h
  skip
  refine lv_aload_n zx zb dX6_add_0 rfl (lv_at hl 0 rfl) ?_
  refine gf6_22 (v := .int (iI (n : Int))) zC h 0 rfl rfl dX6_add_1 ?_
  refine i_zlt (a := (n : Int)) (tgt := 17) zC dX6_add_4 (by decide) (by omega) (fun c_1 => absurd c_1 (by omega)) (fun c_1 => ?_)
  refine lv_aload_n zx zb dX6_add_7 rfl (lv_at hl 0 rfl) ?_
  refine gf6_22 (v := .int (iI (n : Int))) zC h 0 rfl rfl dX6_add_8 ?_
  refine lv_sipush (v := iI (300)) zx zb dX6_add_11 rfl ?_
  refine i_clt (a := (n : Int)) (b := 300) (tgt := 20) zC dX6_add_14 (by decide) (by omega) (fun c_2 => ?_) (fun c_2 => absurd c_2 (by omega))
  refine lv_aload_n zx zb dX6_add_20 rfl (lv_at hl 0 rfl) ?_
  refine gf6_11 (v := .ref (a 1)) zC h 0 rfl rfl dX6_add_21 ?_
  refine lv_iconst (v := iI (0)) zx zb dX6_add_24 rfl ?_
  refine a_gld zC h 1 rfl (z := 0) 0 rfl (by omega) (by decide) dX6_add_25 ?_
  refine lv_aload_n zx zb dX6_add_26 rfl (lv_at hl 0 rfl) ?_
  refine gf6_22 (v := .int (iI (n : Int))) zC h 0 rfl rfl dX6_add_27 ?_
  refine lv_iload_n zx zb dX6_add_30 rfl (lv_at hl 1 rfl) ?_
  refine a_istM (n := 300) (F := Vv 0) (wr := (a 0, .inr (6, [.ref (a 1), .ref (a 2), .ref (a 3), .int (iI (n : Int))])) :: (a 1, cG g 5 r1) :: (a 2, cG g 5 r2) :: (a 3, cG g 5 r3) :: ((sG g r2 5 300 U) ++ ((sG g r3 5 300 Dn) ++ (sGx g r1 5 300 Vv 0)))) zC h (pm fun cp_q => by simp only [cp_o, List.countP_append, List.countP_nil, (sG_split (g := g) (r := r1) (len := 300) (F := Vv) (show 0 < 5 by omega)).countP_eq cp_q] <;> omega) (x := x0) n (ws' := (a 0, .inr (6, [.ref (a 1), .ref (a 2), .ref (a 3), .int (iI (n : Int))])) :: (a 1, cG g 5 r1) :: (a 2, cG g 5 r2) :: (a 3, cG g 5 r3) :: ((sG g r1 5 300 (pV Vv 0 n x0)) ++ ((sG g r2 5 300 U) ++ (sG g r3 5 300 Dn)))) (pm fun cp_q => by simp only [cp_o, List.countP_append, List.countP_nil, (sG_putV (g := g) (r := r1) (len := 300) (F := Vv) (k := n) (x := x0) (show 0 < 5 by omega)).countP_eq cp_q] <;> omega) (by omega) (by omega) (by decide) dX6_add_31 (fun H locs h => ?_)
  refine lv_aload_n zx zb dX6_add_32 rfl (lv_at hl 0 rfl) ?_
  refine gf6_11 (v := .ref (a 1)) zC h 0 rfl rfl dX6_add_33 ?_
  refine lv_iconst (v := iI (1)) zx zb dX6_add_36 rfl ?_
  refine a_gld zC h 1 rfl (z := 1) 1 rfl (by omega) (by decide) dX6_add_37 ?_
  refine lv_aload_n zx zb dX6_add_38 rfl (lv_at hl 0 rfl) ?_
  refine gf6_22 (v := .int (iI (n : Int))) zC h 0 rfl rfl dX6_add_39 ?_
  refine lv_iload_n zx zb dX6_add_42 rfl (lv_at hl 2 rfl) ?_
  refine a_istM (n := 300) (F := (pV Vv 0 n x0) 1) (wr := (a 0, .inr (6, [.ref (a 1), .ref (a 2), .ref (a 3), .int (iI (n : Int))])) :: (a 1, cG g 5 r1) :: (a 2, cG g 5 r2) :: (a 3, cG g 5 r3) :: ((sG g r2 5 300 U) ++ ((sG g r3 5 300 Dn) ++ (sGx g r1 5 300 (pV Vv 0 n x0) 1)))) zC h (pm fun cp_q => by simp only [cp_o, List.countP_append, List.countP_nil, (sG_split (g := g) (r := r1) (len := 300) (F := pV Vv 0 n x0) (show 1 < 5 by omega)).countP_eq cp_q] <;> omega) (x := x1) n (ws' := (a 0, .inr (6, [.ref (a 1), .ref (a 2), .ref (a 3), .int (iI (n : Int))])) :: (a 1, cG g 5 r1) :: (a 2, cG g 5 r2) :: (a 3, cG g 5 r3) :: ((sG g r1 5 300 (pV (pV Vv 0 n x0) 1 n x1)) ++ ((sG g r2 5 300 U) ++ (sG g r3 5 300 Dn)))) (pm fun cp_q => by simp only [cp_o, List.countP_append, List.countP_nil, (sG_putV (g := g) (r := r1) (len := 300) (F := pV Vv 0 n x0) (k := n) (x := x1) (show 1 < 5 by omega)).countP_eq cp_q] <;> omega) (by omega) (by omega) (by decide) dX6_add_43 (fun H locs h => ?_)
  refine lv_aload_n zx zb dX6_add_44 rfl (lv_at hl 0 rfl) ?_
  refine gf6_11 (v := .ref (a 1)) zC h 0 rfl rfl dX6_add_45 ?_
  refine lv_iconst (v := iI (2)) zx zb dX6_add_48 rfl ?_
  refine a_gld zC h 1 rfl (z := 2) 2 rfl (by omega) (by decide) dX6_add_49 ?_
  refine lv_aload_n zx zb dX6_add_50 rfl (lv_at hl 0 rfl) ?_
  refine gf6_22 (v := .int (iI (n : Int))) zC h 0 rfl rfl dX6_add_51 ?_
  refine lv_iload_n zx zb dX6_add_54 rfl (lv_at hl 3 rfl) ?_
  refine a_istM (n := 300) (F := (pV (pV Vv 0 n x0) 1 n x1) 2) (wr := (a 0, .inr (6, [.ref (a 1), .ref (a 2), .ref (a 3), .int (iI (n : Int))])) :: (a 1, cG g 5 r1) :: (a 2, cG g 5 r2) :: (a 3, cG g 5 r3) :: ((sG g r2 5 300 U) ++ ((sG g r3 5 300 Dn) ++ (sGx g r1 5 300 (pV (pV Vv 0 n x0) 1 n x1) 2)))) zC h (pm fun cp_q => by simp only [cp_o, List.countP_append, List.countP_nil, (sG_split (g := g) (r := r1) (len := 300) (F := pV (pV Vv 0 n x0) 1 n x1) (show 2 < 5 by omega)).countP_eq cp_q] <;> omega) (x := x2) n (ws' := (a 0, .inr (6, [.ref (a 1), .ref (a 2), .ref (a 3), .int (iI (n : Int))])) :: (a 1, cG g 5 r1) :: (a 2, cG g 5 r2) :: (a 3, cG g 5 r3) :: ((sG g r1 5 300 (pV (pV (pV Vv 0 n x0) 1 n x1) 2 n x2)) ++ ((sG g r2 5 300 U) ++ (sG g r3 5 300 Dn)))) (pm fun cp_q => by simp only [cp_o, List.countP_append, List.countP_nil, (sG_putV (g := g) (r := r1) (len := 300) (F := pV (pV Vv 0 n x0) 1 n x1) (k := n) (x := x2) (show 2 < 5 by omega)).countP_eq cp_q] <;> omega) (by omega) (by omega) (by decide) dX6_add_55 (fun H locs h => ?_)
  refine lv_aload_n zx zb dX6_add_56 rfl (lv_at hl 0 rfl) ?_
  refine gf6_11 (v := .ref (a 1)) zC h 0 rfl rfl dX6_add_57 ?_
  refine lv_iconst (v := iI (3)) zx zb dX6_add_60 rfl ?_
  refine a_gld zC h 1 rfl (z := 3) 3 rfl (by omega) (by decide) dX6_add_61 ?_
  refine lv_aload_n zx zb dX6_add_62 rfl (lv_at hl 0 rfl) ?_
  refine gf6_22 (v := .int (iI (n : Int))) zC h 0 rfl rfl dX6_add_63 ?_
  refine lv_iload zx zb dX6_add_66 (lv_at hl 4 rfl) ?_
  refine a_istM (n := 300) (F := (pV (pV (pV Vv 0 n x0) 1 n x1) 2 n x2) 3) (wr := (a 0, .inr (6, [.ref (a 1), .ref (a 2), .ref (a 3), .int (iI (n : Int))])) :: (a 1, cG g 5 r1) :: (a 2, cG g 5 r2) :: (a 3, cG g 5 r3) :: ((sG g r2 5 300 U) ++ ((sG g r3 5 300 Dn) ++ (sGx g r1 5 300 (pV (pV (pV Vv 0 n x0) 1 n x1) 2 n x2) 3)))) zC h (pm fun cp_q => by simp only [cp_o, List.countP_append, List.countP_nil, (sG_split (g := g) (r := r1) (len := 300) (F := pV (pV (pV Vv 0 n x0) 1 n x1) 2 n x2) (show 3 < 5 by omega)).countP_eq cp_q] <;> omega) (x := x3) n (ws' := (a 0, .inr (6, [.ref (a 1), .ref (a 2), .ref (a 3), .int (iI (n : Int))])) :: (a 1, cG g 5 r1) :: (a 2, cG g 5 r2) :: (a 3, cG g 5 r3) :: ((sG g r1 5 300 (pV (pV (pV (pV Vv 0 n x0) 1 n x1) 2 n x2) 3 n x3)) ++ ((sG g r2 5 300 U) ++ (sG g r3 5 300 Dn)))) (pm fun cp_q => by simp only [cp_o, List.countP_append, List.countP_nil, (sG_putV (g := g) (r := r1) (len := 300) (F := pV (pV (pV Vv 0 n x0) 1 n x1) 2 n x2) (k := n) (x := x3) (show 3 < 5 by omega)).countP_eq cp_q] <;> omega) (by omega) (by omega) (by decide) dX6_add_68 (fun H locs h => ?_)
  refine lv_aload_n zx zb dX6_add_69 rfl (lv_at hl 0 rfl) ?_
  refine gf6_11 (v := .ref (a 1)) zC h 0 rfl rfl dX6_add_70 ?_
  refine lv_iconst (v := iI (4)) zx zb dX6_add_73 rfl ?_
  refine a_gld zC h 1 rfl (z := 4) 4 rfl (by omega) (by decide) dX6_add_74 ?_
  refine lv_aload_n zx zb dX6_add_75 rfl (lv_at hl 0 rfl) ?_
  refine gf6_22 (v := .int (iI (n : Int))) zC h 0 rfl rfl dX6_add_76 ?_
  refine lv_iload zx zb dX6_add_79 (lv_at hl 5 rfl) ?_
  refine a_istM (n := 300) (F := (pV (pV (pV (pV Vv 0 n x0) 1 n x1) 2 n x2) 3 n x3) 4) (wr := (a 0, .inr (6, [.ref (a 1), .ref (a 2), .ref (a 3), .int (iI (n : Int))])) :: (a 1, cG g 5 r1) :: (a 2, cG g 5 r2) :: (a 3, cG g 5 r3) :: ((sG g r2 5 300 U) ++ ((sG g r3 5 300 Dn) ++ (sGx g r1 5 300 (pV (pV (pV (pV Vv 0 n x0) 1 n x1) 2 n x2) 3 n x3) 4)))) zC h (pm fun cp_q => by simp only [cp_o, List.countP_append, List.countP_nil, (sG_split (g := g) (r := r1) (len := 300) (F := pV (pV (pV (pV Vv 0 n x0) 1 n x1) 2 n x2) 3 n x3) (show 4 < 5 by omega)).countP_eq cp_q] <;> omega) (x := x4) n (ws' := (a 0, .inr (6, [.ref (a 1), .ref (a 2), .ref (a 3), .int (iI (n : Int))])) :: (a 1, cG g 5 r1) :: (a 2, cG g 5 r2) :: (a 3, cG g 5 r3) :: ((sG g r1 5 300 (pV (pV (pV (pV (pV Vv 0 n x0) 1 n x1) 2 n x2) 3 n x3) 4 n x4)) ++ ((sG g r2 5 300 U) ++ (sG g r3 5 300 Dn)))) (pm fun cp_q => by simp only [cp_o, List.countP_append, List.countP_nil, (sG_putV (g := g) (r := r1) (len := 300) (F := pV (pV (pV (pV Vv 0 n x0) 1 n x1) 2 n x2) 3 n x3) (k := n) (x := x4) (show 4 < 5 by omega)).countP_eq cp_q] <;> omega) (by omega) (by omega) (by decide) dX6_add_81 (fun H locs h => ?_)
  refine lv_aload_n zx zb dX6_add_82 rfl (lv_at hl 0 rfl) ?_
  refine lv_dup zx zb dX6_add_83 rfl ?_
  refine gf6_22 (v := .int (iI (n : Int))) zC h 0 rfl rfl dX6_add_84 ?_
  refine lv_iconst (v := iI (1)) zx zb dX6_add_87 rfl ?_
  refine i_add zC (a := (n : Int)) (b := 1) dX6_add_88 ?_
  refine pf6_22 (x := iI ((n : Int) + 1)) zC h 0 (ws' := (a 0, .inr (6, [.ref (a 1), .ref (a 2), .ref (a 3), .int (iI ((n : Int) + 1))])) :: (a 1, cG g 5 r1) :: (a 2, cG g 5 r2) :: (a 3, cG g 5 r3) :: ((sG g r1 5 300 (pV (pV (pV (pV (pV Vv 0 n x0) 1 n x1) 2 n x2) 3 n x3) 4 n x4)) ++ ((sG g r2 5 300 U) ++ (sG g r3 5 300 Dn)))) rfl rfl (Nat.le_of_ble_eq_true rfl) dX6_add_89 (fun H locs h => ?_)
  refine lv_aload_n zx zb dX6_add_92 rfl (lv_at hl 0 rfl) ?_
  refine r_invV (As := []) (rest := []) (wr := []) (ws2 := fun u_3 => (a 0, .inr (6, [.ref (a 1), .ref (a 2), .ref (a 3), .int (iI ((n + 1 : Nat) : Int))])) :: (a 1, cG g 5 r1) :: (a 2, cG g 5 r2) :: (a 3, cG g 5 r3) :: ((sG g r1 5 300 (pV (pV (pV (pV (pV Vv 0 n x0) 1 n x1) 2 n x2) 3 n x3) 4 n x4)) ++ ((sG g r2 5 300 u_3.1) ++ (sG g r3 5 300 u_3.2)))) 0 0 zC h hl.1 (c_X6_putInOrders l D g a r1 r2 r3 (n + 1) (pV (pV (pV (pV (pV Vv 0 n x0) 1 n x1) 2 n x2) 3 n x3) 4 n x4) U Dn (by omega) (by omega) (addV hx hV) (fun f j hf hj => by have := hU f j hf (by omega); omega) (fun f j hf hj => by have := hD f j hf (by omega); omega)) (cs6_27 zC ⟨(Nat.le_of_ble_eq_true rfl), (Nat.le_of_ble_eq_true rfl)⟩) (.head _) rfl rfl rfl (Nat.le_of_ble_eq_true rfl) (List.Perm.of_eq (List.append_nil _).symm) (fun u => List.Perm.of_eq (List.append_nil _)) ⟨(Nat.le_of_ble_eq_true rfl), (Nat.le_of_ble_eq_true rfl)⟩ (Nat.le_of_ble_eq_true rfl) (Nat.le_of_ble_eq_true rfl) dX6_add_93 (fun u_3 H locs hu_3 hz_3 h => ?_)
  refine lv_aload_n zx zb dX6_add_96 rfl (lv_at hl 0 rfl) ?_
  refine gf6_22 (v := .int (iI ((n + 1 : Nat) : Int))) zC h 0 rfl rfl dX6_add_97 ?_
  exact r_iret zC zQ zr zk h dX6_add_100 (u := u_3) rfl (List.Perm.refl _) hu_3 (Nat.le_of_ble_eq_true rfl) (Nat.le_of_ble_eq_true rfl)
