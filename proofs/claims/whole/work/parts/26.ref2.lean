/-! THE REFERENCE: its short public methods -/
theorem up_id {α : Type} {f : Nat → α} {k : Nat} {x : α} (h : f k = x) : up f k x = f := by
  funext q
  by_cases e : q = k
  · subst e; rw [up_s, h]
  · rw [up_n e]
def savM (SA : Nat → Int) (kp : Nat) (i : Int) : Int := if 1 ≤ i ∧ i ≤ (kp : Int) then SA (i - 1).toNat else -1000001
def fndM (FR SE : Nat → Int) (ct : Nat) (gr : Bool) (MK : Nat → Bool) (FI : Nat → Int) (i w : Int) : Int :=
  if 0 ≤ i ∧ i < (ct : Int) then (if w = 0 then FR i.toNat else if gr = true then (if w = 1 then SE i.toNat else -1) else if (1 ≤ w ∧ w ≤ 5) ∧ MK (w - 1).toNat = false then FI (5 * (FR i.toNat).toNat + (w - 1).toNat) else -1) else -1
def FI5 (FI : Nat → Int) (n : Nat) (x0 x1 x2 x3 x4 : Int) : Nat → Int := up (up (up (up (up FI (5 * (n + 1)) x0) (5 * (n + 1) + 1) x1) (5 * (n + 1) + 2) x2) (5 * (n + 1) + 3) x3) (5 * (n + 1) + 4) x4
def rowM (FI : Nat → Int) (n : Nat) (x0 x1 x2 x3 x4 : Int) (u : Int × Nat × (Nat → Int)) : Prop :=
  (¬ rowOK x0 x1 x2 x3 x4 → u = (-1000002, n, FI)) ∧ (rowOK x0 x1 x2 x3 x4 → 300 ≤ n → u = (-1000004, n, FI)) ∧ (rowOK x0 x1 x2 x3 x4 → n < 300 → u = ((n : Int) + 1, n + 1, FI5 FI n x0 x1 x2 x3 x4))
section SEE
variable (RO RW RK FI : Nat → Int)
def seeB (w : Int) (r : Nat) (k : Nat) : Bool := decide (RO k = w) && ((decide (RW k < 0) || decide (RW k = FI (5 * r + 4))) && (decide (RK k < 0) || decide (RK k = FI (5 * r + 1))))
def seeM (w : Int) (r : Nat) : Nat → Bool
  | 0 => false
  | k + 1 => seeM w r k || seeB RO RW RK FI w r k
theorem seeM_t {w : Int} {r k : Nat} (h : seeB RO RW RK FI w r k = true) : ∀ n, k < n → seeM RO RW RK FI w r n = true
  | 0, q => absurd q (Nat.not_lt_zero k)
  | n + 1, q => by
    show (seeM RO RW RK FI w r n || seeB RO RW RK FI w r n) = true
    by_cases e : k = n
    · subst e; rw [h, Bool.or_true]
    · rw [seeM_t h n (by omega), Bool.true_or]
def scnM (w : Int) (rg : Nat) : Nat → Nat
  | 0 => 0
  | r + 1 => if seeM RO RW RK FI w (r + 1) rg = true then scnM w rg r + 1 else scnM w rg r
def cntR (w : Int) : Nat → Nat
  | 0 => 0
  | k + 1 => if RO k = w then cntR w k + 1 else cntR w k
def thrR (w o kd : Int) : Nat → Bool
  | 0 => false
  | k + 1 => thrR w o kd k || (decide (RO k = w) && (decide (RW k = o) && decide (RK k = kd)))
theorem cntR_le (w : Int) : ∀ k, cntR RO w k ≤ k
  | 0 => Nat.le_refl 0
  | k + 1 => by
    have := cntR_le w k
    show (if RO k = w then cntR RO w k + 1 else cntR RO w k) ≤ k + 1
    split <;> omega
def rgtM (rg : Nat) (w o kd : Int) (u : Int × Nat × (Nat → Int) × (Nat → Int) × (Nat → Int)) : Prop :=
  if 0 ≤ w ∧ w < 50 then (if (-1 ≤ o ∧ o < 100) ∧ -1 ≤ kd ∧ kd < 20 then (if thrR RO RW RK w o kd rg = true then u = ((cntR RO w rg : Int), rg, RO, RW, RK) else if 100 ≤ rg then u = (-1000004, rg, RO, RW, RK)
    else u = ((cntR RO w rg : Int) + 1, rg + 1, up RO rg w, up RW rg o, up RK rg kd)) else u = (-1000002, rg, RO, RW, RK)) else u = (-1000001, rg, RO, RW, RK)
end SEE

set_option maxHeartbeats 4000000 in
set_option maxRecDepth 100000 in
theorem c_X8_costNow (l : Launch) (D : va_G) (g : Nat → ClassId) (a : Nat → Nat) (mth mrg mbd mnw mlc msz mas mak mkp mfa mta mlv mct mgo : Int) (man mgr mgg : Bool) (te : Nat) (n : Nat)  (h1 : te ≤ 100) (h2 : n ≤ 300) : Ct (S := Unit) l D g yX8_costNow cX8_costNow 1 (some .long) rmX8_costNow [.ref (a 0)] ([(a 0, oM a mth (n : Int) mrg mbd mnw mlc msz man mas mak mkp mfa (te : Int) mta mlv mct mgr mgo mgg)]) (fun u => some (.long (lI (((te : Int) + 1) * (n : Int))))) (fun _ => True) (fun u => [(a 0, oM a mth (n : Int) mrg mbd mnw mlc msz man mas mak mkp mfa (te : Int) mta mlv mct mgr mgo mgg)]) := by
  refine Ct.of RX8 rfl (by decide +kernel) [(0, .ref (a 0))] rfl (Nat.le_of_ble_eq_true rfl) ?_
  intro pg evn sT mI bl mtd cd aA ls ar qQ zC zr zk zi zQ h hl
  have zx := zC.1
  have zb := zC.2.1
  skip
  refine lv_aload_n zx zb dX8_costNow_0 rfl (lv_at hl 0 rfl) ?_
  refine gf8_117 (v := .int (iI (te : Int))) zC h 0 rfl rfl dX8_costNow_1 ?_
  refine i_i2l zC (a := (te : Int)) dX8_costNow_4 (by omega) ?_
  refine lv_lconst (v := lI 1) zx zb dX8_costNow_5 rfl ?_
  refine l_add zC (a := (te : Int)) (b := 1) dX8_costNow_6 ?_
  refine lv_aload_n zx zb dX8_costNow_7 rfl (lv_at hl 0 rfl) ?_
  refine gf8_81 (v := .int (iI (n : Int))) zC h 0 rfl rfl dX8_costNow_8 ?_
  refine i_i2l zC (a := (n : Int)) dX8_costNow_11 (by omega) ?_
  refine l_mul zC (a := (te : Int) + 1) (b := (n : Int)) dX8_costNow_12 ?_
  exact r_lret zC zQ zr zk h dX8_costNow_13 (u := ()) rfl (List.Perm.refl _) trivial (Nat.le_of_ble_eq_true rfl) (Nat.le_of_ble_eq_true rfl)

set_option maxHeartbeats 4000000 in
set_option maxRecDepth 100000 in
theorem c_X8_cost (l : Launch) (D : va_G) (g : Nat → ClassId) (a : Nat → Nat) (mth mrw mrg mbd mnw mlc msz mas mak mkp mfa mte mta mlv mct mgo : Int) (man mgr mgg : Bool)  : Ct (S := Unit) l D g yX8_cost cX8_cost 1 (some .long) rmX8_cost [.ref (a 0)] ([(a 0, oM a mth mrw mrg mbd mnw mlc msz man mas mak mkp mfa mte mta mlv mct mgr mgo mgg)]) (fun u => some (.long (lI mlc))) (fun _ => True) (fun u => [(a 0, oM a 0 mrw mrg mbd mnw mlc msz man mas mak mkp mfa mte mta mlv mct mgr mgo mgg)]) := by
  refine Ct.of RX8 rfl (by decide +kernel) [(0, .ref (a 0))] rfl (Nat.le_of_ble_eq_true rfl) ?_
  intro pg evn sT mI bl mtd cd aA ls ar qQ zC zr zk zi zQ h hl
  have zx := zC.1
  have zb := zC.2.1
  skip
  refine lv_aload_n zx zb dX8_cost_0 rfl (lv_at hl 0 rfl) ?_
  refine lv_iconst (v := iI (0)) zx zb dX8_cost_1 rfl ?_
  refine pf8_85 (x := iI 0) zC h 0 (ws' := [(a 0, oM a 0 mrw mrg mbd mnw mlc msz man mas mak mkp mfa mte mta mlv mct mgr mgo mgg)]) rfl rfl (Nat.le_of_ble_eq_true rfl) dX8_cost_2 (fun H locs h => ?_)
  refine lv_aload_n zx zb dX8_cost_5 rfl (lv_at hl 0 rfl) ?_
  refine gf8_188 (v := .long (lI mlc)) zC h 0 rfl rfl dX8_cost_6 ?_
  exact r_lret zC zQ zr zk h dX8_cost_9 (u := ()) rfl (List.Perm.refl _) trivial (Nat.le_of_ble_eq_true rfl) (Nat.le_of_ble_eq_true rfl)

set_option maxHeartbeats 4000000 in
set_option maxRecDepth 100000 in
theorem c_X8_bound (l : Launch) (D : va_G) (g : Nat → ClassId) (a : Nat → Nat) (mth mrw mrg mbd mnw mlc msz mas mak mkp mfa mte mta mlv mct mgo : Int) (man mgr mgg : Bool) (z : Int) (hz : R64 z) : Ct (S := Int × Int) l D g yX8_bound cX8_bound 5 (some .int) rmX8_bound [.ref (a 0), .long (lI z)] ([(a 0, oM a mth mrw mrg mbd mnw mlc msz man mas mak mkp mfa mte mta mlv mct mgr mgo mgg)]) (fun u => some (.int (iI u.1))) (fun u => u = boundX mbd z) (fun u => [(a 0, oM a 0 mrw mrg u.2 mnw mlc msz man mas mak mkp mfa mte mta mlv mct mgr mgo mgg)]) := by
  refine Ct.of RX8 rfl (by decide +kernel) [(0, .ref (a 0)), (1, .long (lI z))] rfl (Nat.le_of_ble_eq_true rfl) ?_
  intro pg evn sT mI bl mtd cd aA ls ar qQ zC zr zk zi zQ h hl
  have zx := zC.1
  have zb := zC.2.1
  skip
  refine lv_aload_n zx zb dX8_bound_0 rfl (lv_at hl 0 rfl) ?_
  refine lv_iconst (v := iI (0)) zx zb dX8_bound_1 rfl ?_
  refine pf8_85 (x := iI 0) zC h 0 (ws' := [(a 0, oM a 0 mrw mrg mbd mnw mlc msz man mas mak mkp mfa mte mta mlv mct mgr mgo mgg)]) rfl rfl (Nat.le_of_ble_eq_true rfl) dX8_bound_2 (fun H locs h => ?_)
  refine lv_lload_n zx zb dX8_bound_5 rfl (lv_at hl 1 rfl) ?_
  refine lv_lconst (v := lI 0) zx zb dX8_bound_6 rfl ?_
  refine kl8_221 zC dX8_bound_7 ?_
  refine r_invS (As := [.long (lI z), .long (lI 0), .long (lI 1000000)]) (rest := []) (wr := [(a 0, oM a 0 mrw mrg mbd mnw mlc msz man mas mak mkp mfa mte mta mlv mct mgr mgo mgg)]) (ws2 := fun u_1 => [(a 0, oM a 0 mrw mrg mbd mnw mlc msz man mas mak mkp mfa mte mta mlv mct mgr mgo mgg)]) 0 0 zC h hl.1 (c_X8_within l D g z 0 1000000 (by omega) (by omega) (by omega)) (cs8_90 zC ⟨(Nat.le_of_ble_eq_true rfl), (Nat.le_of_ble_eq_true rfl)⟩) rfl rfl (Nat.le_of_ble_eq_true rfl) (List.Perm.refl _) (fun u => List.Perm.refl _) ⟨(Nat.le_of_ble_eq_true rfl), (Nat.le_of_ble_eq_true rfl)⟩ (Nat.le_of_ble_eq_true rfl) (Nat.le_of_ble_eq_true rfl) dX8_bound_10 (fun u_1 H locs hu_1 hz_1 h => ?_)
  refine b_zne (b := decide (0 ≤ z ∧ z ≤ 1000000)) (tgt := 19) zC dX8_bound_13 (by decide) (fun c_2 => ?_) (fun c_2 => ?_)
  · skip
    simp only [decide_eq_true_eq, decide_eq_false_iff_not] at c_2
    refine lv_aload_n zx zb dX8_bound_19 rfl (lv_at hl 0 rfl) ?_
    refine gf8_28 (v := .long (lI mbd)) zC h 0 rfl rfl dX8_bound_20 ?_
    refine lv_lstore_n (lv' := [(3, .long (lI mbd)), (0, .ref (a 0)), (1, .long (lI z))]) zx zb dX8_bound_23 rfl hl (by decide) rfl (fun ls hl => ?_)
    refine lv_aload_n zx zb dX8_bound_24 rfl (lv_at hl 1 rfl) ?_
    refine lv_lload_n zx zb dX8_bound_25 rfl (lv_at hl 2 rfl) ?_
    refine pf8_28 (x := lI z) zC h 0 (ws' := [(a 0, oM a 0 mrw mrg z mnw mlc msz man mas mak mkp mfa mte mta mlv mct mgr mgo mgg)]) rfl rfl (Nat.le_of_ble_eq_true rfl) dX8_bound_26 (fun H locs h => ?_)
    refine lv_lload_n zx zb dX8_bound_29 rfl (lv_at hl 0 rfl) ?_
    refine l_l2i zC (a := mbd) dX8_bound_30 ?_
    exact r_iret zC zQ zr zk h dX8_bound_31 (u := (mbd, z)) rfl (List.Perm.refl _) (by unfold boundX; rw [if_pos (by omega)]) (Nat.le_of_ble_eq_true rfl) (Nat.le_of_ble_eq_true rfl)
  · skip
    simp only [decide_eq_true_eq, decide_eq_false_iff_not] at c_2
    refine kc8_102 zC dX8_bound_16 ?_
    exact r_iret zC zQ zr zk h dX8_bound_18 (u := (-1000002, mbd)) rfl (List.Perm.refl _) (by unfold boundX; rw [if_neg (by omega)]) (Nat.le_of_ble_eq_true rfl) (Nat.le_of_ble_eq_true rfl)

set_option maxHeartbeats 4000000 in
set_option maxRecDepth 100000 in
theorem c_X8_masked (l : Launch) (D : va_G) (g : Nat → ClassId) (a : Nat → Nat) (mth mrw mrg mbd mnw mlc msz mas mak mkp mfa mte mta mlv mct mgo : Int) (man mgr mgg : Bool) (MK : Nat → Bool) (f : Int) (b : Bool) (hf : R32 f) : Ct (S := Int × (Nat → Bool)) l D g yX8_masked cX8_masked 4 (some .int) rmX8_masked [.ref (a 0), .int (iI f), .int (bI b)] ([(a 0, oM a mth mrw mrg mbd mnw mlc msz man mas mak mkp mfa mte mta mlv mct mgr mgo mgg), (a 5, cZ g 5 MK)]) (fun u => some (.int (iI u.1))) (fun u => u = maskX MK f b) (fun u => [(a 0, oM a 0 mrw mrg mbd mnw mlc msz man mas mak mkp mfa mte mta mlv mct mgr mgo mgg), (a 5, cZ g 5 u.2)]) := by
  refine Ct.of RX8 rfl (by decide +kernel) [(0, .ref (a 0)), (1, .int (iI f)), (2, .int (bI b))] rfl (Nat.le_of_ble_eq_true rfl) ?_
  intro pg evn sT mI bl mtd cd aA ls ar qQ zC zr zk zi zQ h hl
  have zx := zC.1
  have zb := zC.2.1
  skip
  refine lv_aload_n zx zb dX8_masked_0 rfl (lv_at hl 0 rfl) ?_
  refine lv_iconst (v := iI (0)) zx zb dX8_masked_1 rfl ?_
  refine pf8_85 (x := iI 0) zC h 0 (ws' := [(a 0, oM a 0 mrw mrg mbd mnw mlc msz man mas mak mkp mfa mte mta mlv mct mgr mgo mgg), (a 5, cZ g 5 MK)]) rfl rfl (Nat.le_of_ble_eq_true rfl) dX8_masked_2 (fun H locs h => ?_)
  refine lv_iload_n zx zb dX8_masked_5 rfl (lv_at hl 1 rfl) ?_
  refine i_i2l zC (a := f) dX8_masked_6 (by omega) ?_
  refine lv_lconst (v := lI 0) zx zb dX8_masked_7 rfl ?_
  refine kl8_219 zC dX8_masked_8 ?_
  refine r_invS (As := [.long (lI f), .long (lI 0), .long (lI 4)]) (rest := []) (wr := [(a 0, oM a 0 mrw mrg mbd mnw mlc msz man mas mak mkp mfa mte mta mlv mct mgr mgo mgg), (a 5, cZ g 5 MK)]) (ws2 := fun u_1 => [(a 0, oM a 0 mrw mrg mbd mnw mlc msz man mas mak mkp mfa mte mta mlv mct mgr mgo mgg), (a 5, cZ g 5 MK)]) 0 0 zC h hl.1 (c_X8_within l D g f 0 4 (by omega) (by omega) (by omega)) (cs8_90 zC ⟨(Nat.le_of_ble_eq_true rfl), (Nat.le_of_ble_eq_true rfl)⟩) rfl rfl (Nat.le_of_ble_eq_true rfl) (List.Perm.refl _) (fun u => List.Perm.refl _) ⟨(Nat.le_of_ble_eq_true rfl), (Nat.le_of_ble_eq_true rfl)⟩ (Nat.le_of_ble_eq_true rfl) (Nat.le_of_ble_eq_true rfl) dX8_masked_11 (fun u_1 H locs hu_1 hz_1 h => ?_)
  refine b_zne (b := decide (0 ≤ f ∧ f ≤ 4)) (tgt := 20) zC dX8_masked_14 (by decide) (fun c_2 => ?_) (fun c_2 => ?_)
  · skip
    simp only [decide_eq_true_eq, decide_eq_false_iff_not] at c_2
    refine lv_aload_n zx zb dX8_masked_20 rfl (lv_at hl 0 rfl) ?_
    refine gf8_22 (v := .ref (a 5)) zC h 0 rfl rfl dX8_masked_21 ?_
    refine lv_iload_n zx zb dX8_masked_24 rfl (lv_at hl 1 rfl) ?_
    refine a_zld zC h 1 rfl (z := f) f.toNat (by omega) (by omega) (by decide) dX8_masked_25 ?_
    refine lv_iload_n zx zb dX8_masked_26 rfl (lv_at hl 2 rfl) ?_
    refine b_cne (a := MK f.toNat) (b := b) (tgt := 34) zC dX8_masked_27 (by decide) (fun c_3 => ?_) (fun c_3 => ?_)
    · skip
      refine lv_iconst (v := iI (1)) zx zb dX8_masked_34 rfl ?_
      refine lv_istore_n (lv' := [(3, .int (iI 1)), (0, .ref (a 0)), (1, .int (iI f)), (2, .int (bI b))]) zx zb dX8_masked_35 rfl hl (by decide) rfl (fun ls hl => ?_)
      refine lv_aload_n zx zb dX8_masked_36 rfl (lv_at hl 1 rfl) ?_
      refine gf8_22 (v := .ref (a 5)) zC h 0 rfl rfl dX8_masked_37 ?_
      refine lv_iload_n zx zb dX8_masked_40 rfl (lv_at hl 2 rfl) ?_
      refine lv_iload_n zx zb dX8_masked_41 rfl (lv_at hl 3 rfl) ?_
      refine a_zst (x := b) zC h 1 (ws' := [(a 0, oM a 0 mrw mrg mbd mnw mlc msz man mas mak mkp mfa mte mta mlv mct mgr mgo mgg), (a 5, cZ g 5 (up MK f.toNat b))]) rfl (z := f) f.toNat rfl (by omega) (by omega) (by decide) dX8_masked_42 (fun H locs h => ?_)
      refine lv_iload_n zx zb dX8_masked_43 rfl (lv_at hl 0 rfl) ?_
      exact r_iret zC zQ zr zk h dX8_masked_44 (u := (1, up MK f.toNat b)) rfl (List.Perm.refl _) (by unfold maskX; rw [if_pos (by omega), if_neg c_3]) (Nat.le_of_ble_eq_true rfl) (Nat.le_of_ble_eq_true rfl)
    · skip
      refine lv_iconst (v := iI (0)) zx zb dX8_masked_30 rfl ?_
      refine lv_goto (tgt := 35) zx zb dX8_masked_31 (by decide) ?_
      refine lv_istore_n (lv' := [(3, .int (iI 0)), (0, .ref (a 0)), (1, .int (iI f)), (2, .int (bI b))]) zx zb dX8_masked_35 rfl hl (by decide) rfl (fun ls hl => ?_)
      refine lv_aload_n zx zb dX8_masked_36 rfl (lv_at hl 1 rfl) ?_
      refine gf8_22 (v := .ref (a 5)) zC h 0 rfl rfl dX8_masked_37 ?_
      refine lv_iload_n zx zb dX8_masked_40 rfl (lv_at hl 2 rfl) ?_
      refine lv_iload_n zx zb dX8_masked_41 rfl (lv_at hl 3 rfl) ?_
      refine a_zst (x := b) zC h 1 (ws' := [(a 0, oM a 0 mrw mrg mbd mnw mlc msz man mas mak mkp mfa mte mta mlv mct mgr mgo mgg), (a 5, cZ g 5 (up MK f.toNat b))]) rfl (z := f) f.toNat rfl (by omega) (by omega) (by decide) dX8_masked_42 (fun H locs h => ?_)
      refine lv_iload_n zx zb dX8_masked_43 rfl (lv_at hl 0 rfl) ?_
      exact r_iret zC zQ zr zk h dX8_masked_44 (u := (0, MK)) rfl (List.Perm.of_eq (by rw [up_id c_3])) (by unfold maskX; rw [if_pos (by omega), if_pos c_3]) (Nat.le_of_ble_eq_true rfl) (Nat.le_of_ble_eq_true rfl)
  · skip
    simp only [decide_eq_true_eq, decide_eq_false_iff_not] at c_2
    refine kc8_102 zC dX8_masked_17 ?_
    exact r_iret zC zQ zr zk h dX8_masked_19 (u := (-1000002, MK)) rfl (List.Perm.refl _) (by unfold maskX; rw [if_neg (by omega)]) (Nat.le_of_ble_eq_true rfl) (Nat.le_of_ble_eq_true rfl)

set_option maxHeartbeats 4000000 in
set_option maxRecDepth 100000 in
theorem c_X8_sign (l : Launch) (D : va_G) (g : Nat → ClassId) (a : Nat → Nat) (mth mrw mrg mbd mnw mlc mas mak mkp mfa mte mta mlv mct mgo : Int) (man mgr mgg : Bool) (sg : Nat) (TX : Nat → Int) (c : Int) (hc : R32 c) (hs : sg ≤ 200) : Ct (S := (Nat → Int) × Nat) l D g yX8_sign cX8_sign 2 none rmX8_sign [.ref (a 0), .int (iI c)] ([(a 0, oM a mth mrw mrg mbd mnw mlc (sg : Int) man mas mak mkp mfa mte mta mlv mct mgr mgo mgg), (a 6, cI g 200 TX)]) (fun u => none) (fun u => u = signU TX sg c) (fun u => [(a 0, oM a 0 mrw mrg mbd mnw mlc (u.2 : Int) man mas mak mkp mfa mte mta mlv mct mgr mgo mgg), (a 6, cI g 200 u.1)]) := by
  refine Ct.of RX8 rfl (by decide +kernel) [(0, .ref (a 0)), (1, .int (iI c))] rfl (Nat.le_of_ble_eq_true rfl) ?_
  intro pg evn sT mI bl mtd cd aA ls ar qQ zC zr zk zi zQ h hl
  have zx := zC.1
  have zb := zC.2.1
  skip
  refine lv_aload_n zx zb dX8_sign_0 rfl (lv_at hl 0 rfl) ?_
  refine lv_iconst (v := iI (0)) zx zb dX8_sign_1 rfl ?_
  refine pf8_85 (x := iI 0) zC h 0 (ws' := [(a 0, oM a 0 mrw mrg mbd mnw mlc (sg : Int) man mas mak mkp mfa mte mta mlv mct mgr mgo mgg), (a 6, cI g 200 TX)]) rfl rfl (Nat.le_of_ble_eq_true rfl) dX8_sign_2 (fun H locs h => ?_)
  refine lv_aload_n zx zb dX8_sign_5 rfl (lv_at hl 0 rfl) ?_
  refine gf8_104 (v := .int (iI (sg : Int))) zC h 0 rfl rfl dX8_sign_6 ?_
  refine lv_sipush (v := iI (200)) zx zb dX8_sign_9 rfl ?_
  refine i_cge (a := (sg : Int)) (b := 200) (tgt := 49) zC dX8_sign_12 (by decide) (by omega) (fun c_1 => ?_) (fun c_1 => ?_)
  · skip
    exact r_vret zC zQ zr zk h dX8_sign_49 (u := (TX, sg)) rfl (List.Perm.refl _) (by unfold signU; rw [if_neg (by omega)]) (Nat.le_of_ble_eq_true rfl) (Nat.le_of_ble_eq_true rfl)
  · skip
    refine lv_iload_n zx zb dX8_sign_15 rfl (lv_at hl 1 rfl) ?_
    refine i_i2l zC (a := c) dX8_sign_16 (by omega) ?_
    refine kl8_107 zC dX8_sign_17 ?_
    refine kl8_109 zC dX8_sign_20 ?_
    refine r_invS (As := [.long (lI c), .long (lI 32), .long (lI 126)]) (rest := []) (wr := [(a 0, oM a 0 mrw mrg mbd mnw mlc (sg : Int) man mas mak mkp mfa mte mta mlv mct mgr mgo mgg), (a 6, cI g 200 TX)]) (ws2 := fun u_2 => [(a 0, oM a 0 mrw mrg mbd mnw mlc (sg : Int) man mas mak mkp mfa mte mta mlv mct mgr mgo mgg), (a 6, cI g 200 TX)]) 0 0 zC h hl.1 (c_X8_within l D g c 32 126 (by omega) (by omega) (by omega)) (cs8_90 zC ⟨(Nat.le_of_ble_eq_true rfl), (Nat.le_of_ble_eq_true rfl)⟩) rfl rfl (Nat.le_of_ble_eq_true rfl) (List.Perm.refl _) (fun u => List.Perm.refl _) ⟨(Nat.le_of_ble_eq_true rfl), (Nat.le_of_ble_eq_true rfl)⟩ (Nat.le_of_ble_eq_true rfl) (Nat.le_of_ble_eq_true rfl) dX8_sign_23 (fun u_2 H locs hu_2 hz_2 h => ?_)
    refine b_zeq (b := decide (32 ≤ c ∧ c ≤ 126)) (tgt := 49) zC dX8_sign_26 (by decide) (fun c_3 => ?_) (fun c_3 => ?_)
    · skip
      simp only [decide_eq_true_eq, decide_eq_false_iff_not] at c_3
      exact r_vret zC zQ zr zk h dX8_sign_49 (u := (TX, sg)) rfl (List.Perm.refl _) (by unfold signU; rw [if_neg (by omega)]) (Nat.le_of_ble_eq_true rfl) (Nat.le_of_ble_eq_true rfl)
    · skip
      simp only [decide_eq_true_eq, decide_eq_false_iff_not] at c_3
      refine lv_aload_n zx zb dX8_sign_29 rfl (lv_at hl 0 rfl) ?_
      refine gf8_32 (v := .ref (a 6)) zC h 0 rfl rfl dX8_sign_30 ?_
      refine lv_aload_n zx zb dX8_sign_33 rfl (lv_at hl 0 rfl) ?_
      refine gf8_104 (v := .int (iI (sg : Int))) zC h 0 rfl rfl dX8_sign_34 ?_
      refine lv_iload_n zx zb dX8_sign_37 rfl (lv_at hl 1 rfl) ?_
      refine a_ist (x := c) zC h 1 (ws' := [(a 0, oM a 0 mrw mrg mbd mnw mlc (sg : Int) man mas mak mkp mfa mte mta mlv mct mgr mgo mgg), (a 6, cI g 200 (up TX sg c))]) rfl (z := (sg : Int)) sg rfl (by omega) (by omega) (by decide) dX8_sign_38 (fun H locs h => ?_)
      refine lv_aload_n zx zb dX8_sign_39 rfl (lv_at hl 0 rfl) ?_
      refine lv_dup zx zb dX8_sign_40 rfl ?_
      refine gf8_104 (v := .int (iI (sg : Int))) zC h 0 rfl rfl dX8_sign_41 ?_
      refine lv_iconst (v := iI (1)) zx zb dX8_sign_44 rfl ?_
      refine i_add zC (a := (sg : Int)) (b := 1) dX8_sign_45 ?_
      rw [show ((sg : Int) + 1 : Int) = ((sg + 1 : Nat) : Int) from by omega]
      refine pf8_104 (x := iI ((sg + 1 : Nat) : Int)) zC h 0 (ws' := [(a 0, oM a 0 mrw mrg mbd mnw mlc ((sg + 1 : Nat) : Int) man mas mak mkp mfa mte mta mlv mct mgr mgo mgg), (a 6, cI g 200 (up TX sg c))]) rfl rfl (Nat.le_of_ble_eq_true rfl) dX8_sign_46 (fun H locs h => ?_)
      exact r_vret zC zQ zr zk h dX8_sign_49 (u := (up TX sg c, sg + 1)) rfl (List.Perm.refl _) (by unfold signU; rw [if_pos (by omega)]) (Nat.le_of_ble_eq_true rfl) (Nat.le_of_ble_eq_true rfl)

set_option maxHeartbeats 4000000 in
set_option maxRecDepth 100000 in
theorem c_X8_saved (l : Launch) (D : va_G) (g : Nat → ClassId) (a : Nat → Nat) (mth mrw mrg mbd mnw mlc msz mas mak mfa mte mta mlv mct mgo : Int) (man mgr mgg : Bool) (kp : Nat) (SA : Nat → Int) (i : Int) (hi : R32 i) (hk : kp ≤ 20) : Ct (S := Unit) l D g yX8_saved cX8_saved 2 (some .int) rmX8_saved [.ref (a 0), .int (iI i)] ([(a 0, oM a mth mrw mrg mbd mnw mlc msz man mas mak (kp : Int) mfa mte mta mlv mct mgr mgo mgg), (a 13, cI g 20 SA)]) (fun u => some (.int (iI (savM SA kp i)))) (fun _ => True) (fun u => [(a 0, oM a 0 mrw mrg mbd mnw mlc msz man mas mak (kp : Int) mfa mte mta mlv mct mgr mgo mgg), (a 13, cI g 20 SA)]) := by
  refine Ct.of RX8 rfl (by decide +kernel) [(0, .ref (a 0)), (1, .int (iI i))] rfl (Nat.le_of_ble_eq_true rfl) ?_
  intro pg evn sT mI bl mtd cd aA ls ar qQ zC zr zk zi zQ h hl
  have zx := zC.1
  have zb := zC.2.1
  skip
  refine lv_aload_n zx zb dX8_saved_0 rfl (lv_at hl 0 rfl) ?_
  refine lv_iconst (v := iI (0)) zx zb dX8_saved_1 rfl ?_
  refine pf8_85 (x := iI 0) zC h 0 (ws' := [(a 0, oM a 0 mrw mrg mbd mnw mlc msz man mas mak (kp : Int) mfa mte mta mlv mct mgr mgo mgg), (a 13, cI g 20 SA)]) rfl rfl (Nat.le_of_ble_eq_true rfl) dX8_saved_2 (fun H locs h => ?_)
  refine lv_iload_n zx zb dX8_saved_5 rfl (lv_at hl 1 rfl) ?_
  refine i_i2l zC (a := i) dX8_saved_6 (by omega) ?_
  refine lv_lconst (v := lI 1) zx zb dX8_saved_7 rfl ?_
  refine lv_aload_n zx zb dX8_saved_8 rfl (lv_at hl 0 rfl) ?_
  refine gf8_225 (v := .int (iI (kp : Int))) zC h 0 rfl rfl dX8_saved_9 ?_
  refine i_i2l zC (a := (kp : Int)) dX8_saved_12 (by omega) ?_
  refine r_invS (As := [.long (lI i), .long (lI 1), .long (lI (kp : Int))]) (rest := []) (wr := [(a 0, oM a 0 mrw mrg mbd mnw mlc msz man mas mak (kp : Int) mfa mte mta mlv mct mgr mgo mgg), (a 13, cI g 20 SA)]) (ws2 := fun u_1 => [(a 0, oM a 0 mrw mrg mbd mnw mlc msz man mas mak (kp : Int) mfa mte mta mlv mct mgr mgo mgg), (a 13, cI g 20 SA)]) 0 0 zC h hl.1 (c_X8_within l D g i 1 (kp : Int) (by omega) (by omega) (by omega)) (cs8_90 zC ⟨(Nat.le_of_ble_eq_true rfl), (Nat.le_of_ble_eq_true rfl)⟩) rfl rfl (Nat.le_of_ble_eq_true rfl) (List.Perm.refl _) (fun u => List.Perm.refl _) ⟨(Nat.le_of_ble_eq_true rfl), (Nat.le_of_ble_eq_true rfl)⟩ (Nat.le_of_ble_eq_true rfl) (Nat.le_of_ble_eq_true rfl) dX8_saved_13 (fun u_1 H locs hu_1 hz_1 h => ?_)
  refine b_zeq (b := decide (1 ≤ i ∧ i ≤ (kp : Int))) (tgt := 30) zC dX8_saved_16 (by decide) (fun c_2 => ?_) (fun c_2 => ?_)
  · skip
    simp only [decide_eq_true_eq, decide_eq_false_iff_not] at c_2
    refine kc8_180 zC dX8_saved_30 ?_
    exact r_iret zC zQ zr zk h dX8_saved_32 (u := ()) (by unfold savM; rw [if_neg (by omega)]) (List.Perm.refl _) trivial (Nat.le_of_ble_eq_true rfl) (Nat.le_of_ble_eq_true rfl)
  · skip
    simp only [decide_eq_true_eq, decide_eq_false_iff_not] at c_2
    refine lv_aload_n zx zb dX8_saved_19 rfl (lv_at hl 0 rfl) ?_
    refine gf8_54 (v := .ref (a 13)) zC h 0 rfl rfl dX8_saved_20 ?_
    refine lv_iload_n zx zb dX8_saved_23 rfl (lv_at hl 1 rfl) ?_
    refine lv_iconst (v := iI (1)) zx zb dX8_saved_24 rfl ?_
    refine i_sub zC (a := i) (b := 1) dX8_saved_25 ?_
    refine a_ild zC h 1 rfl (z := i - 1) ((i - 1).toNat) (by omega) (by omega) (by decide) dX8_saved_26 ?_
    refine lv_goto (tgt := 32) zx zb dX8_saved_27 (by decide) ?_
    exact r_iret zC zQ zr zk h dX8_saved_32 (u := ()) (by unfold savM; rw [if_pos (by omega)]) (List.Perm.refl _) trivial (Nat.le_of_ble_eq_true rfl) (Nat.le_of_ble_eq_true rfl)

set_option maxHeartbeats 4000000 in
set_option maxRecDepth 100000 in
theorem c_X8_found (l : Launch) (D : va_G) (g : Nat → ClassId) (a : Nat → Nat) (mth mrw mrg mbd mnw mlc msz mas mak mkp mfa mte mta mlv mgo : Int) (man mgr mgg : Bool) (ct : Nat) (FR : Nat → Int) (SE : Nat → Int) (MK : Nat → Bool) (FI : Nat → Int) (i w : Int) (hi : R32 i) (hw : R32 w) (hc : ct ≤ 300) (hF : ∀ k, k < ct → R32 (FR k) ∧ R32 (SE k)) (hG : mgr = false → ∀ k, k < ct → 1 ≤ FR k ∧ FR k ≤ 300) (hFI : ∀ k, k < 1505 → R32 (FI k)) : Ct (S := Unit) l D g yX8_found cX8_found 3 (some .long) rmX8_found [.ref (a 0), .int (iI i), .int (iI w)] ([(a 0, oM a mth mrw mrg mbd mnw mlc msz man mas mak mkp mfa mte mta mlv (ct : Int) mgr mgo mgg), (a 17, cI g 300 FR), (a 18, cI g 300 SE), (a 5, cZ g 5 MK), (a 1, cI g 1505 FI)]) (fun u => some (.long (lI (fndM FR SE ct mgr MK FI i w)))) (fun _ => True) (fun u => [(a 0, oM a 0 mrw mrg mbd mnw mlc msz man mas mak mkp mfa mte mta mlv (ct : Int) mgr mgo mgg), (a 17, cI g 300 FR), (a 18, cI g 300 SE), (a 5, cZ g 5 MK), (a 1, cI g 1505 FI)]) := by
  refine Ct.of RX8 rfl (by decide +kernel) [(0, .ref (a 0)), (1, .int (iI i)), (2, .int (iI w))] rfl (Nat.le_of_ble_eq_true rfl) ?_
  intro pg evn sT mI bl mtd cd aA ls ar qQ zC zr zk zi zQ h hl
  have zx := zC.1
  have zb := zC.2.1
  skip
  refine lv_aload_n zx zb dX8_found_0 rfl (lv_at hl 0 rfl) ?_
  refine lv_iconst (v := iI (0)) zx zb dX8_found_1 rfl ?_
  refine pf8_85 (x := iI 0) zC h 0 (ws' := [(a 0, oM a 0 mrw mrg mbd mnw mlc msz man mas mak mkp mfa mte mta mlv (ct : Int) mgr mgo mgg), (a 17, cI g 300 FR), (a 18, cI g 300 SE), (a 5, cZ g 5 MK), (a 1, cI g 1505 FI)]) rfl rfl (Nat.le_of_ble_eq_true rfl) dX8_found_2 (fun H locs h => ?_)
  refine lv_iload_n zx zb dX8_found_5 rfl (lv_at hl 1 rfl) ?_
  refine i_i2l zC (a := i) dX8_found_6 (by omega) ?_
  refine lv_lconst (v := lI 0) zx zb dX8_found_7 rfl ?_
  refine lv_aload_n zx zb dX8_found_8 rfl (lv_at hl 0 rfl) ?_
  refine gf8_205 (v := .int (iI (ct : Int))) zC h 0 rfl rfl dX8_found_9 ?_
  refine lv_iconst (v := iI (1)) zx zb dX8_found_12 rfl ?_
  refine i_sub zC (a := (ct : Int)) (b := 1) dX8_found_13 ?_
  refine i_i2l zC (a := (ct : Int) - 1) dX8_found_14 (by omega) ?_
  refine r_invS (As := [.long (lI i), .long (lI 0), .long (lI ((ct : Int) - 1))]) (rest := []) (wr := [(a 0, oM a 0 mrw mrg mbd mnw mlc msz man mas mak mkp mfa mte mta mlv (ct : Int) mgr mgo mgg), (a 17, cI g 300 FR), (a 18, cI g 300 SE), (a 5, cZ g 5 MK), (a 1, cI g 1505 FI)]) (ws2 := fun u_1 => [(a 0, oM a 0 mrw mrg mbd mnw mlc msz man mas mak mkp mfa mte mta mlv (ct : Int) mgr mgo mgg), (a 17, cI g 300 FR), (a 18, cI g 300 SE), (a 5, cZ g 5 MK), (a 1, cI g 1505 FI)]) 0 0 zC h hl.1 (c_X8_within l D g i 0 ((ct : Int) - 1) (by omega) (by omega) (by omega)) (cs8_90 zC ⟨(Nat.le_of_ble_eq_true rfl), (Nat.le_of_ble_eq_true rfl)⟩) rfl rfl (Nat.le_of_ble_eq_true rfl) (List.Perm.refl _) (fun u => List.Perm.refl _) ⟨(Nat.le_of_ble_eq_true rfl), (Nat.le_of_ble_eq_true rfl)⟩ (Nat.le_of_ble_eq_true rfl) (Nat.le_of_ble_eq_true rfl) dX8_found_15 (fun u_1 H locs hu_1 hz_1 h => ?_)
  refine b_zeq (b := decide (0 ≤ i ∧ i ≤ (ct : Int) - 1)) (tgt := 44) zC dX8_found_18 (by decide) (fun c_2 => ?_) (fun c_2 => ?_)
  · skip
    simp only [decide_eq_true_eq, decide_eq_false_iff_not] at c_2
    refine kl8_213 zC dX8_found_44 ?_
    exact r_lret zC zQ zr zk h dX8_found_47 (u := ()) (by rw [show fndM FR SE ct mgr MK FI i w = -1 from by unfold fndM; rw [if_neg (show ¬ (0 ≤ i ∧ i < (ct : Int)) by omega)]]) (List.Perm.refl _) trivial (Nat.le_of_ble_eq_true rfl) (Nat.le_of_ble_eq_true rfl)
  · skip
    simp only [decide_eq_true_eq, decide_eq_false_iff_not] at c_2
    have hFi := hF i.toNat (by omega)
    refine lv_iload_n zx zb dX8_found_21 rfl (lv_at hl 2 rfl) ?_
    refine i_i2l zC (a := w) dX8_found_22 (by omega) ?_
    refine lv_lconst (v := lI 0) zx zb dX8_found_23 rfl ?_
    refine lv_aload_n zx zb dX8_found_24 rfl (lv_at hl 0 rfl) ?_
    refine gf8_208 (v := .int (bI mgr)) zC h 0 rfl rfl dX8_found_25 ?_
    refine b_zeq (b := mgr) (tgt := 35) zC dX8_found_28 (by decide) (fun c_3 => ?_) (fun c_3 => ?_)
    · skip
      have hgr := hG c_3 i.toNat (by omega)
      refine kl8_211 zC dX8_found_35 ?_
      refine r_invS (As := [.long (lI w), .long (lI 0), .long (lI 5)]) (rest := []) (wr := [(a 0, oM a 0 mrw mrg mbd mnw mlc msz man mas mak mkp mfa mte mta mlv (ct : Int) mgr mgo mgg), (a 17, cI g 300 FR), (a 18, cI g 300 SE), (a 5, cZ g 5 MK), (a 1, cI g 1505 FI)]) (ws2 := fun u_4 => [(a 0, oM a 0 mrw mrg mbd mnw mlc msz man mas mak mkp mfa mte mta mlv (ct : Int) mgr mgo mgg), (a 17, cI g 300 FR), (a 18, cI g 300 SE), (a 5, cZ g 5 MK), (a 1, cI g 1505 FI)]) 0 0 zC h hl.1 (c_X8_within l D g w 0 5 (by omega) (by omega) (by omega)) (cs8_90 zC ⟨(Nat.le_of_ble_eq_true rfl), (Nat.le_of_ble_eq_true rfl)⟩) rfl rfl (Nat.le_of_ble_eq_true rfl) (List.Perm.refl _) (fun u => List.Perm.refl _) ⟨(Nat.le_of_ble_eq_true rfl), (Nat.le_of_ble_eq_true rfl)⟩ (Nat.le_of_ble_eq_true rfl) (Nat.le_of_ble_eq_true rfl) dX8_found_38 (fun u_4 H locs hu_4 hz_4 h => ?_)
      refine b_zne (b := decide (0 ≤ w ∧ w ≤ 5)) (tgt := 48) zC dX8_found_41 (by decide) (fun c_5 => ?_) (fun c_5 => ?_)
      · skip
        simp only [decide_eq_true_eq, decide_eq_false_iff_not] at c_5
        refine lv_aload_n zx zb dX8_found_48 rfl (lv_at hl 0 rfl) ?_
        refine gf8_208 (v := .int (bI mgr)) zC h 0 rfl rfl dX8_found_49 ?_
        refine b_zeq (b := mgr) (tgt := 77) zC dX8_found_52 (by decide) (fun c_6 => ?_) (fun c_6 => absurd c_6 (by rw [c_3]; decide))
        refine lv_iload_n zx zb dX8_found_77 rfl (lv_at hl 2 rfl) ?_
        refine i_zne (a := w) (tgt := 91) zC dX8_found_78 (by decide) (by omega) (fun c_7 => ?_) (fun c_7 => ?_)
        · skip
          refine lv_aload_n zx zb dX8_found_91 rfl (lv_at hl 0 rfl) ?_
          refine gf8_22 (v := .ref (a 5)) zC h 0 rfl rfl dX8_found_92 ?_
          refine lv_iload_n zx zb dX8_found_95 rfl (lv_at hl 2 rfl) ?_
          refine lv_iconst (v := iI (1)) zx zb dX8_found_96 rfl ?_
          refine i_sub zC (a := w) (b := 1) dX8_found_97 ?_
          refine a_zld zC h 3 rfl (z := w - 1) ((w - 1).toNat) (by omega) (by omega) (by decide) dX8_found_98 ?_
          refine b_zeq (b := MK ((w - 1).toNat)) (tgt := 108) zC dX8_found_99 (by decide) (fun c_8 => ?_) (fun c_8 => ?_)
          · skip
            refine lv_aload_n zx zb dX8_found_108 rfl (lv_at hl 0 rfl) ?_
            refine lv_aload_n zx zb dX8_found_109 rfl (lv_at hl 0 rfl) ?_
            refine gf8_66 (v := .ref (a 17)) zC h 0 rfl rfl dX8_found_110 ?_
            refine lv_iload_n zx zb dX8_found_113 rfl (lv_at hl 1 rfl) ?_
            refine a_ild zC h 1 rfl (z := i) i.toNat (by omega) (by omega) (by decide) dX8_found_114 ?_
            refine lv_iload_n zx zb dX8_found_115 rfl (lv_at hl 2 rfl) ?_
            refine lv_iconst (v := iI (1)) zx zb dX8_found_116 rfl ?_
            refine i_sub zC (a := w) (b := 1) dX8_found_117 ?_
            rw [show (FR i.toNat : Int) = ((FR i.toNat).toNat : Int) from by omega]
            rw [show (w - 1 : Int) = ((w - 1).toNat : Int) from by omega]
            refine r_invV (As := [.int (iI ((FR i.toNat).toNat : Int)), .int (iI ((w - 1).toNat : Int))]) (rest := []) (wr := [(a 17, cI g 300 FR), (a 18, cI g 300 SE), (a 5, cZ g 5 MK)]) (ws2 := fun u_9 => [(a 0, oM a 0 mrw mrg mbd mnw mlc msz man mas mak mkp mfa mte mta mlv (ct : Int) mgr mgo mgg), (a 17, cI g 300 FR), (a 18, cI g 300 SE), (a 5, cZ g 5 MK), (a 1, cI g 1505 FI)]) 0 0 zC h hl.1 (c_X8_field l D g a 0 mrw mrg mbd mnw mlc msz mas mak mkp mfa mte mta mlv (ct : Int) mgo man mgr mgg  FI ((FR i.toNat).toNat) ((w - 1).toNat) (by omega) (by omega)) (cs8_151 zC ⟨(Nat.le_of_ble_eq_true rfl), (Nat.le_of_ble_eq_true rfl)⟩) (.head _) rfl rfl rfl (Nat.le_of_ble_eq_true rfl) (pm fun cp_q => by simp only [cp_o, List.countP_append, List.countP_nil] <;> omega) (fun u => (pm fun cp_q => by simp only [cp_o, List.countP_append, List.countP_nil] <;> omega)) ⟨(Nat.le_of_ble_eq_true rfl), (Nat.le_of_ble_eq_true rfl)⟩ (Nat.le_of_ble_eq_true rfl) (Nat.le_of_ble_eq_true rfl) dX8_found_118 (fun u_9 H locs hu_9 hz_9 h => ?_)
            have hFf := hFI (5 * (FR i.toNat).toNat + (w - 1).toNat) (by omega)
            refine i_i2l zC (a := FI (5 * ((FR i.toNat).toNat) + ((w - 1).toNat))) dX8_found_121 (by omega) ?_
            exact r_lret zC zQ zr zk h dX8_found_122 (u := ()) (by rw [show fndM FR SE ct mgr MK FI i w = FI (5 * ((FR i.toNat).toNat) + ((w - 1).toNat)) from by unfold fndM; rw [if_pos (show 0 ≤ i ∧ i < (ct : Int) by omega), if_neg (by omega), if_neg (by rw [c_3]; decide), if_pos ⟨by omega, c_8⟩]]) (List.Perm.refl _) trivial (Nat.le_of_ble_eq_true rfl) (Nat.le_of_ble_eq_true rfl)
          · skip
            refine kl8_213 zC dX8_found_102 ?_
            refine lv_goto (tgt := 122) zx zb dX8_found_105 (by decide) ?_
            exact r_lret zC zQ zr zk h dX8_found_122 (u := ()) (by rw [show fndM FR SE ct mgr MK FI i w = -1 from by unfold fndM; rw [if_pos (show 0 ≤ i ∧ i < (ct : Int) by omega), if_neg (by omega), if_neg (by rw [c_3]; decide), if_neg (fun q => by rw [c_8] at q; exact absurd q.2 (by decide))]]) (List.Perm.refl _) trivial (Nat.le_of_ble_eq_true rfl) (Nat.le_of_ble_eq_true rfl)
        · skip
          refine lv_aload_n zx zb dX8_found_81 rfl (lv_at hl 0 rfl) ?_
          refine gf8_66 (v := .ref (a 17)) zC h 0 rfl rfl dX8_found_82 ?_
          refine lv_iload_n zx zb dX8_found_85 rfl (lv_at hl 1 rfl) ?_
          refine a_ild zC h 1 rfl (z := i) i.toNat (by omega) (by omega) (by decide) dX8_found_86 ?_
          refine i_i2l zC (a := FR i.toNat) dX8_found_87 (by omega) ?_
          refine lv_goto (tgt := 122) zx zb dX8_found_88 (by decide) ?_
          exact r_lret zC zQ zr zk h dX8_found_122 (u := ()) (by rw [show fndM FR SE ct mgr MK FI i w = FR i.toNat from by unfold fndM; rw [if_pos (show 0 ≤ i ∧ i < (ct : Int) by omega), if_pos (by omega)]]) (List.Perm.refl _) trivial (Nat.le_of_ble_eq_true rfl) (Nat.le_of_ble_eq_true rfl)
      · skip
        simp only [decide_eq_true_eq, decide_eq_false_iff_not] at c_5
        refine kl8_213 zC dX8_found_44 ?_
        exact r_lret zC zQ zr zk h dX8_found_47 (u := ()) (by rw [show fndM FR SE ct mgr MK FI i w = -1 from by unfold fndM; rw [if_pos (show 0 ≤ i ∧ i < (ct : Int) by omega), if_neg (by omega), if_neg (by rw [c_3]; decide), if_neg (by omega)]]) (List.Perm.refl _) trivial (Nat.le_of_ble_eq_true rfl) (Nat.le_of_ble_eq_true rfl)
    · skip
      refine lv_lconst (v := lI 1) zx zb dX8_found_31 rfl ?_
      refine lv_goto (tgt := 38) zx zb dX8_found_32 (by decide) ?_
      refine r_invS (As := [.long (lI w), .long (lI 0), .long (lI 1)]) (rest := []) (wr := [(a 0, oM a 0 mrw mrg mbd mnw mlc msz man mas mak mkp mfa mte mta mlv (ct : Int) mgr mgo mgg), (a 17, cI g 300 FR), (a 18, cI g 300 SE), (a 5, cZ g 5 MK), (a 1, cI g 1505 FI)]) (ws2 := fun u_10 => [(a 0, oM a 0 mrw mrg mbd mnw mlc msz man mas mak mkp mfa mte mta mlv (ct : Int) mgr mgo mgg), (a 17, cI g 300 FR), (a 18, cI g 300 SE), (a 5, cZ g 5 MK), (a 1, cI g 1505 FI)]) 0 0 zC h hl.1 (c_X8_within l D g w 0 1 (by omega) (by omega) (by omega)) (cs8_90 zC ⟨(Nat.le_of_ble_eq_true rfl), (Nat.le_of_ble_eq_true rfl)⟩) rfl rfl (Nat.le_of_ble_eq_true rfl) (List.Perm.refl _) (fun u => List.Perm.refl _) ⟨(Nat.le_of_ble_eq_true rfl), (Nat.le_of_ble_eq_true rfl)⟩ (Nat.le_of_ble_eq_true rfl) (Nat.le_of_ble_eq_true rfl) dX8_found_38 (fun u_10 H locs hu_10 hz_10 h => ?_)
      refine b_zne (b := decide (0 ≤ w ∧ w ≤ 1)) (tgt := 48) zC dX8_found_41 (by decide) (fun c_11 => ?_) (fun c_11 => ?_)
      · skip
        simp only [decide_eq_true_eq, decide_eq_false_iff_not] at c_11
        refine lv_aload_n zx zb dX8_found_48 rfl (lv_at hl 0 rfl) ?_
        refine gf8_208 (v := .int (bI mgr)) zC h 0 rfl rfl dX8_found_49 ?_
        refine b_zeq (b := mgr) (tgt := 77) zC dX8_found_52 (by decide) (fun c_12 => absurd c_12 (by rw [c_3]; decide)) (fun c_12 => ?_)
        refine lv_iload_n zx zb dX8_found_55 rfl (lv_at hl 2 rfl) ?_
        refine i_zne (a := w) (tgt := 69) zC dX8_found_56 (by decide) (by omega) (fun c_13 => ?_) (fun c_13 => ?_)
        · skip
          refine lv_aload_n zx zb dX8_found_69 rfl (lv_at hl 0 rfl) ?_
          refine gf8_69 (v := .ref (a 18)) zC h 0 rfl rfl dX8_found_70 ?_
          refine lv_iload_n zx zb dX8_found_73 rfl (lv_at hl 1 rfl) ?_
          refine a_ild zC h 2 rfl (z := i) i.toNat (by omega) (by omega) (by decide) dX8_found_74 ?_
          refine i_i2l zC (a := SE i.toNat) dX8_found_75 (by omega) ?_
          exact r_lret zC zQ zr zk h dX8_found_76 (u := ()) (by rw [show fndM FR SE ct mgr MK FI i w = SE i.toNat from by unfold fndM; rw [if_pos (show 0 ≤ i ∧ i < (ct : Int) by omega), if_neg (by omega), if_pos c_3, if_pos (by omega)]]) (List.Perm.refl _) trivial (Nat.le_of_ble_eq_true rfl) (Nat.le_of_ble_eq_true rfl)
        · skip
          refine lv_aload_n zx zb dX8_found_59 rfl (lv_at hl 0 rfl) ?_
          refine gf8_66 (v := .ref (a 17)) zC h 0 rfl rfl dX8_found_60 ?_
          refine lv_iload_n zx zb dX8_found_63 rfl (lv_at hl 1 rfl) ?_
          refine a_ild zC h 1 rfl (z := i) i.toNat (by omega) (by omega) (by decide) dX8_found_64 ?_
          refine i_i2l zC (a := FR i.toNat) dX8_found_65 (by omega) ?_
          refine lv_goto (tgt := 76) zx zb dX8_found_66 (by decide) ?_
          exact r_lret zC zQ zr zk h dX8_found_76 (u := ()) (by rw [show fndM FR SE ct mgr MK FI i w = FR i.toNat from by unfold fndM; rw [if_pos (show 0 ≤ i ∧ i < (ct : Int) by omega), if_pos (by omega)]]) (List.Perm.refl _) trivial (Nat.le_of_ble_eq_true rfl) (Nat.le_of_ble_eq_true rfl)
      · skip
        simp only [decide_eq_true_eq, decide_eq_false_iff_not] at c_11
        refine kl8_213 zC dX8_found_44 ?_
        exact r_lret zC zQ zr zk h dX8_found_47 (u := ()) (by rw [show fndM FR SE ct mgr MK FI i w = -1 from by unfold fndM; rw [if_pos (show 0 ≤ i ∧ i < (ct : Int) by omega), if_neg (by omega), if_pos c_3, if_neg (by omega)]]) (List.Perm.refl _) trivial (Nat.le_of_ble_eq_true rfl) (Nat.le_of_ble_eq_true rfl)

set_option maxHeartbeats 4000000 in
set_option maxRecDepth 100000 in
theorem c_X8_row (l : Launch) (D : va_G) (g : Nat → ClassId) (a : Nat → Nat) (mth mrg mbd mnw mlc msz mas mak mkp mfa mte mta mlv mct mgo : Int) (man mgr mgg : Bool) (n : Nat) (FI : Nat → Int) (x0 x1 x2 x3 x4 : Int) (h0 : R32 x0 ∧ R32 x1 ∧ R32 x2 ∧ R64 x3 ∧ R32 x4) (hn : n ≤ 300) : Ct (S := Int × Nat × (Nat → Int)) l D g yX8_row cX8_row 7 (some .int) rmX8_row [.ref (a 0), .int (iI x0), .int (iI x1), .int (iI x2), .long (lI x3), .int (iI x4)] ([(a 0, oM a mth (n : Int) mrg mbd mnw mlc msz man mas mak mkp mfa mte mta mlv mct mgr mgo mgg), (a 1, cI g 1505 FI)]) (fun u => some (.int (iI u.1))) (rowM FI n x0 x1 x2 x3 x4) (fun u => [(a 0, oM a 0 (u.2.1 : Int) mrg mbd mnw mlc msz man mas mak mkp mfa mte mta mlv mct mgr mgo mgg), (a 1, cI g 1505 u.2.2)]) := by
  refine Ct.of RX8 rfl (by decide +kernel) [(0, .ref (a 0)), (1, .int (iI x0)), (2, .int (iI x1)), (3, .int (iI x2)), (4, .long (lI x3)), (6, .int (iI x4))] rfl (Nat.le_of_ble_eq_true rfl) ?_
  intro pg evn sT mI bl mtd cd aA ls ar qQ zC zr zk zi zQ h hl
  have zx := zC.1
  have zb := zC.2.1
  skip
  refine lv_aload_n zx zb dX8_row_0 rfl (lv_at hl 0 rfl) ?_
  refine lv_iconst (v := iI (0)) zx zb dX8_row_1 rfl ?_
  refine pf8_85 (x := iI 0) zC h 0 (ws' := [(a 0, oM a 0 (n : Int) mrg mbd mnw mlc msz man mas mak mkp mfa mte mta mlv mct mgr mgo mgg), (a 1, cI g 1505 FI)]) rfl rfl (Nat.le_of_ble_eq_true rfl) dX8_row_2 (fun H locs h => ?_)
  refine lv_iload_n zx zb dX8_row_5 rfl (lv_at hl 1 rfl) ?_
  refine i_i2l zC (a := x0) dX8_row_6 (by omega) ?_
  refine lv_lconst (v := lI 0) zx zb dX8_row_7 rfl ?_
  refine kl8_94 zC dX8_row_8 ?_
  refine r_invS (As := [.long (lI x0), .long (lI 0), .long (lI 999)]) (rest := []) (wr := [(a 0, oM a 0 (n : Int) mrg mbd mnw mlc msz man mas mak mkp mfa mte mta mlv mct mgr mgo mgg), (a 1, cI g 1505 FI)]) (ws2 := fun u_1 => [(a 0, oM a 0 (n : Int) mrg mbd mnw mlc msz man mas mak mkp mfa mte mta mlv mct mgr mgo mgg), (a 1, cI g 1505 FI)]) 0 0 zC h hl.1 (c_X8_within l D g x0 0 999 (by omega) (by omega) (by omega)) (cs8_90 zC ⟨(Nat.le_of_ble_eq_true rfl), (Nat.le_of_ble_eq_true rfl)⟩) rfl rfl (Nat.le_of_ble_eq_true rfl) (List.Perm.refl _) (fun u => List.Perm.refl _) ⟨(Nat.le_of_ble_eq_true rfl), (Nat.le_of_ble_eq_true rfl)⟩ (Nat.le_of_ble_eq_true rfl) (Nat.le_of_ble_eq_true rfl) dX8_row_11 (fun u_1 H locs hu_1 hz_1 h => ?_)
  refine b_zeq (b := decide (0 ≤ x0 ∧ x0 ≤ 999)) (tgt := 66) zC dX8_row_14 (by decide) (fun c_2 => ?_) (fun c_2 => ?_)
  · skip
    simp only [decide_eq_true_eq, decide_eq_false_iff_not] at c_2
    refine kc8_102 zC dX8_row_66 ?_
    exact r_iret zC zQ zr zk h dX8_row_68 (u := (-1000002, n, FI)) rfl (List.Perm.refl _) ⟨fun _ => rfl, fun q => absurd q (by unfold rowOK; omega), fun q => absurd q (by unfold rowOK; omega)⟩ (Nat.le_of_ble_eq_true rfl) (Nat.le_of_ble_eq_true rfl)
  · skip
    simp only [decide_eq_true_eq, decide_eq_false_iff_not] at c_2
    refine lv_iload_n zx zb dX8_row_17 rfl (lv_at hl 2 rfl) ?_
    refine i_i2l zC (a := x1) dX8_row_18 (by omega) ?_
    refine lv_lconst (v := lI 0) zx zb dX8_row_19 rfl ?_
    refine kl8_96 zC dX8_row_20 ?_
    refine r_invS (As := [.long (lI x1), .long (lI 0), .long (lI 19)]) (rest := []) (wr := [(a 0, oM a 0 (n : Int) mrg mbd mnw mlc msz man mas mak mkp mfa mte mta mlv mct mgr mgo mgg), (a 1, cI g 1505 FI)]) (ws2 := fun u_3 => [(a 0, oM a 0 (n : Int) mrg mbd mnw mlc msz man mas mak mkp mfa mte mta mlv mct mgr mgo mgg), (a 1, cI g 1505 FI)]) 0 0 zC h hl.1 (c_X8_within l D g x1 0 19 (by omega) (by omega) (by omega)) (cs8_90 zC ⟨(Nat.le_of_ble_eq_true rfl), (Nat.le_of_ble_eq_true rfl)⟩) rfl rfl (Nat.le_of_ble_eq_true rfl) (List.Perm.refl _) (fun u => List.Perm.refl _) ⟨(Nat.le_of_ble_eq_true rfl), (Nat.le_of_ble_eq_true rfl)⟩ (Nat.le_of_ble_eq_true rfl) (Nat.le_of_ble_eq_true rfl) dX8_row_23 (fun u_3 H locs hu_3 hz_3 h => ?_)
    refine b_zeq (b := decide (0 ≤ x1 ∧ x1 ≤ 19)) (tgt := 66) zC dX8_row_26 (by decide) (fun c_4 => ?_) (fun c_4 => ?_)
    · skip
      simp only [decide_eq_true_eq, decide_eq_false_iff_not] at c_4
      refine kc8_102 zC dX8_row_66 ?_
      exact r_iret zC zQ zr zk h dX8_row_68 (u := (-1000002, n, FI)) rfl (List.Perm.refl _) ⟨fun _ => rfl, fun q => absurd q (by unfold rowOK; omega), fun q => absurd q (by unfold rowOK; omega)⟩ (Nat.le_of_ble_eq_true rfl) (Nat.le_of_ble_eq_true rfl)
    · skip
      simp only [decide_eq_true_eq, decide_eq_false_iff_not] at c_4
      refine lv_iload_n zx zb dX8_row_29 rfl (lv_at hl 3 rfl) ?_
      refine i_i2l zC (a := x2) dX8_row_30 (by omega) ?_
      refine lv_lconst (v := lI 0) zx zb dX8_row_31 rfl ?_
      refine kl8_88 zC dX8_row_32 ?_
      refine r_invS (As := [.long (lI x2), .long (lI 0), .long (lI 49)]) (rest := []) (wr := [(a 0, oM a 0 (n : Int) mrg mbd mnw mlc msz man mas mak mkp mfa mte mta mlv mct mgr mgo mgg), (a 1, cI g 1505 FI)]) (ws2 := fun u_5 => [(a 0, oM a 0 (n : Int) mrg mbd mnw mlc msz man mas mak mkp mfa mte mta mlv mct mgr mgo mgg), (a 1, cI g 1505 FI)]) 0 0 zC h hl.1 (c_X8_within l D g x2 0 49 (by omega) (by omega) (by omega)) (cs8_90 zC ⟨(Nat.le_of_ble_eq_true rfl), (Nat.le_of_ble_eq_true rfl)⟩) rfl rfl (Nat.le_of_ble_eq_true rfl) (List.Perm.refl _) (fun u => List.Perm.refl _) ⟨(Nat.le_of_ble_eq_true rfl), (Nat.le_of_ble_eq_true rfl)⟩ (Nat.le_of_ble_eq_true rfl) (Nat.le_of_ble_eq_true rfl) dX8_row_35 (fun u_5 H locs hu_5 hz_5 h => ?_)
      refine b_zeq (b := decide (0 ≤ x2 ∧ x2 ≤ 49)) (tgt := 66) zC dX8_row_38 (by decide) (fun c_6 => ?_) (fun c_6 => ?_)
      · skip
        simp only [decide_eq_true_eq, decide_eq_false_iff_not] at c_6
        refine kc8_102 zC dX8_row_66 ?_
        exact r_iret zC zQ zr zk h dX8_row_68 (u := (-1000002, n, FI)) rfl (List.Perm.refl _) ⟨fun _ => rfl, fun q => absurd q (by unfold rowOK; omega), fun q => absurd q (by unfold rowOK; omega)⟩ (Nat.le_of_ble_eq_true rfl) (Nat.le_of_ble_eq_true rfl)
      · skip
        simp only [decide_eq_true_eq, decide_eq_false_iff_not] at c_6
        refine lv_lload zx zb dX8_row_41 (lv_at hl 4 rfl) ?_
        refine lv_lconst (v := lI 0) zx zb dX8_row_43 rfl ?_
        refine kl8_98 zC dX8_row_44 ?_
        refine r_invS (As := [.long (lI x3), .long (lI 0), .long (lI 20000)]) (rest := []) (wr := [(a 0, oM a 0 (n : Int) mrg mbd mnw mlc msz man mas mak mkp mfa mte mta mlv mct mgr mgo mgg), (a 1, cI g 1505 FI)]) (ws2 := fun u_7 => [(a 0, oM a 0 (n : Int) mrg mbd mnw mlc msz man mas mak mkp mfa mte mta mlv mct mgr mgo mgg), (a 1, cI g 1505 FI)]) 0 0 zC h hl.1 (c_X8_within l D g x3 0 20000 (by omega) (by omega) (by omega)) (cs8_90 zC ⟨(Nat.le_of_ble_eq_true rfl), (Nat.le_of_ble_eq_true rfl)⟩) rfl rfl (Nat.le_of_ble_eq_true rfl) (List.Perm.refl _) (fun u => List.Perm.refl _) ⟨(Nat.le_of_ble_eq_true rfl), (Nat.le_of_ble_eq_true rfl)⟩ (Nat.le_of_ble_eq_true rfl) (Nat.le_of_ble_eq_true rfl) dX8_row_47 (fun u_7 H locs hu_7 hz_7 h => ?_)
        refine b_zeq (b := decide (0 ≤ x3 ∧ x3 ≤ 20000)) (tgt := 66) zC dX8_row_50 (by decide) (fun c_8 => ?_) (fun c_8 => ?_)
        · skip
          simp only [decide_eq_true_eq, decide_eq_false_iff_not] at c_8
          refine kc8_102 zC dX8_row_66 ?_
          exact r_iret zC zQ zr zk h dX8_row_68 (u := (-1000002, n, FI)) rfl (List.Perm.refl _) ⟨fun _ => rfl, fun q => absurd q (by unfold rowOK; omega), fun q => absurd q (by unfold rowOK; omega)⟩ (Nat.le_of_ble_eq_true rfl) (Nat.le_of_ble_eq_true rfl)
        · skip
          simp only [decide_eq_true_eq, decide_eq_false_iff_not] at c_8
          refine lv_iload zx zb dX8_row_53 (lv_at hl 5 rfl) ?_
          refine i_i2l zC (a := x4) dX8_row_55 (by omega) ?_
          refine lv_lconst (v := lI 0) zx zb dX8_row_56 rfl ?_
          refine kl8_100 zC dX8_row_57 ?_
          refine r_invS (As := [.long (lI x4), .long (lI 0), .long (lI 99)]) (rest := []) (wr := [(a 0, oM a 0 (n : Int) mrg mbd mnw mlc msz man mas mak mkp mfa mte mta mlv mct mgr mgo mgg), (a 1, cI g 1505 FI)]) (ws2 := fun u_9 => [(a 0, oM a 0 (n : Int) mrg mbd mnw mlc msz man mas mak mkp mfa mte mta mlv mct mgr mgo mgg), (a 1, cI g 1505 FI)]) 0 0 zC h hl.1 (c_X8_within l D g x4 0 99 (by omega) (by omega) (by omega)) (cs8_90 zC ⟨(Nat.le_of_ble_eq_true rfl), (Nat.le_of_ble_eq_true rfl)⟩) rfl rfl (Nat.le_of_ble_eq_true rfl) (List.Perm.refl _) (fun u => List.Perm.refl _) ⟨(Nat.le_of_ble_eq_true rfl), (Nat.le_of_ble_eq_true rfl)⟩ (Nat.le_of_ble_eq_true rfl) (Nat.le_of_ble_eq_true rfl) dX8_row_60 (fun u_9 H locs hu_9 hz_9 h => ?_)
          refine b_zne (b := decide (0 ≤ x4 ∧ x4 ≤ 99)) (tgt := 69) zC dX8_row_63 (by decide) (fun c_10 => ?_) (fun c_10 => ?_)
          · skip
            simp only [decide_eq_true_eq, decide_eq_false_iff_not] at c_10
            refine lv_aload_n zx zb dX8_row_69 rfl (lv_at hl 0 rfl) ?_
            refine gf8_81 (v := .int (iI (n : Int))) zC h 0 rfl rfl dX8_row_70 ?_
            refine lv_sipush (v := iI (300)) zx zb dX8_row_73 rfl ?_
            refine i_cne (a := (n : Int)) (b := 300) (tgt := 82) zC dX8_row_76 (by decide) (by omega) (fun c_11 => ?_) (fun c_11 => ?_)
            · skip
              refine lv_aload_n zx zb dX8_row_82 rfl (lv_at hl 0 rfl) ?_
              refine lv_dup zx zb dX8_row_83 rfl ?_
              refine gf8_81 (v := .int (iI (n : Int))) zC h 0 rfl rfl dX8_row_84 ?_
              refine lv_iconst (v := iI (1)) zx zb dX8_row_87 rfl ?_
              refine i_add zC (a := (n : Int)) (b := 1) dX8_row_88 ?_
              rw [show ((n : Int) + 1 : Int) = ((n + 1 : Nat) : Int) from by omega]
              refine pf8_81 (x := iI ((n + 1 : Nat) : Int)) zC h 0 (ws' := [(a 0, oM a 0 ((n + 1 : Nat) : Int) mrg mbd mnw mlc msz man mas mak mkp mfa mte mta mlv mct mgr mgo mgg), (a 1, cI g 1505 FI)]) rfl rfl (Nat.le_of_ble_eq_true rfl) dX8_row_89 (fun H locs h => ?_)
              refine lv_aload_n zx zb dX8_row_92 rfl (lv_at hl 0 rfl) ?_
              refine gf8_7 (v := .ref (a 1)) zC h 0 rfl rfl dX8_row_93 ?_
              refine lv_iconst (v := iI (5)) zx zb dX8_row_96 rfl ?_
              refine lv_aload_n zx zb dX8_row_97 rfl (lv_at hl 0 rfl) ?_
              refine gf8_81 (v := .int (iI ((n + 1 : Nat) : Int))) zC h 0 rfl rfl dX8_row_98 ?_
              refine i_mul zC (a := 5) (b := ((n + 1 : Nat) : Int)) dX8_row_101 ?_
              refine lv_iload_n zx zb dX8_row_102 rfl (lv_at hl 1 rfl) ?_
              refine a_ist (x := x0) zC h 1 (ws' := [(a 0, oM a 0 ((n + 1 : Nat) : Int) mrg mbd mnw mlc msz man mas mak mkp mfa mte mta mlv mct mgr mgo mgg), (a 1, cI g 1505 (up FI (5 * (n + 1)) x0))]) rfl (z := 5 * ((n + 1 : Nat) : Int)) (5 * (n + 1)) rfl (by omega) (by omega) (by decide) dX8_row_103 (fun H locs h => ?_)
              refine lv_aload_n zx zb dX8_row_104 rfl (lv_at hl 0 rfl) ?_
              refine gf8_7 (v := .ref (a 1)) zC h 0 rfl rfl dX8_row_105 ?_
              refine lv_iconst (v := iI (5)) zx zb dX8_row_108 rfl ?_
              refine lv_aload_n zx zb dX8_row_109 rfl (lv_at hl 0 rfl) ?_
              refine gf8_81 (v := .int (iI ((n + 1 : Nat) : Int))) zC h 0 rfl rfl dX8_row_110 ?_
              refine i_mul zC (a := 5) (b := ((n + 1 : Nat) : Int)) dX8_row_113 ?_
              refine lv_iconst (v := iI (1)) zx zb dX8_row_114 rfl ?_
              refine i_add zC (a := 5 * ((n + 1 : Nat) : Int)) (b := 1) dX8_row_115 ?_
              refine lv_iload_n zx zb dX8_row_116 rfl (lv_at hl 2 rfl) ?_
              refine a_ist (x := x1) zC h 1 (ws' := [(a 0, oM a 0 ((n + 1 : Nat) : Int) mrg mbd mnw mlc msz man mas mak mkp mfa mte mta mlv mct mgr mgo mgg), (a 1, cI g 1505 (up (up FI (5 * (n + 1)) x0) (5 * (n + 1) + 1) x1))]) rfl (z := 5 * ((n + 1 : Nat) : Int) + 1) (5 * (n + 1) + 1) rfl (by omega) (by omega) (by decide) dX8_row_117 (fun H locs h => ?_)
              refine lv_aload_n zx zb dX8_row_118 rfl (lv_at hl 0 rfl) ?_
              refine gf8_7 (v := .ref (a 1)) zC h 0 rfl rfl dX8_row_119 ?_
              refine lv_iconst (v := iI (5)) zx zb dX8_row_122 rfl ?_
              refine lv_aload_n zx zb dX8_row_123 rfl (lv_at hl 0 rfl) ?_
              refine gf8_81 (v := .int (iI ((n + 1 : Nat) : Int))) zC h 0 rfl rfl dX8_row_124 ?_
              refine i_mul zC (a := 5) (b := ((n + 1 : Nat) : Int)) dX8_row_127 ?_
              refine lv_iconst (v := iI (2)) zx zb dX8_row_128 rfl ?_
              refine i_add zC (a := 5 * ((n + 1 : Nat) : Int)) (b := 2) dX8_row_129 ?_
              refine lv_iload_n zx zb dX8_row_130 rfl (lv_at hl 3 rfl) ?_
              refine a_ist (x := x2) zC h 1 (ws' := [(a 0, oM a 0 ((n + 1 : Nat) : Int) mrg mbd mnw mlc msz man mas mak mkp mfa mte mta mlv mct mgr mgo mgg), (a 1, cI g 1505 (up (up (up FI (5 * (n + 1)) x0) (5 * (n + 1) + 1) x1) (5 * (n + 1) + 2) x2))]) rfl (z := 5 * ((n + 1 : Nat) : Int) + 2) (5 * (n + 1) + 2) rfl (by omega) (by omega) (by decide) dX8_row_131 (fun H locs h => ?_)
              refine lv_aload_n zx zb dX8_row_132 rfl (lv_at hl 0 rfl) ?_
              refine gf8_7 (v := .ref (a 1)) zC h 0 rfl rfl dX8_row_133 ?_
              refine lv_iconst (v := iI (5)) zx zb dX8_row_136 rfl ?_
              refine lv_aload_n zx zb dX8_row_137 rfl (lv_at hl 0 rfl) ?_
              refine gf8_81 (v := .int (iI ((n + 1 : Nat) : Int))) zC h 0 rfl rfl dX8_row_138 ?_
              refine i_mul zC (a := 5) (b := ((n + 1 : Nat) : Int)) dX8_row_141 ?_
              refine lv_iconst (v := iI (3)) zx zb dX8_row_142 rfl ?_
              refine i_add zC (a := 5 * ((n + 1 : Nat) : Int)) (b := 3) dX8_row_143 ?_
              refine lv_lload zx zb dX8_row_144 (lv_at hl 4 rfl) ?_
              refine l_l2i zC (a := x3) dX8_row_146 ?_
              refine a_ist (x := x3) zC h 1 (ws' := [(a 0, oM a 0 ((n + 1 : Nat) : Int) mrg mbd mnw mlc msz man mas mak mkp mfa mte mta mlv mct mgr mgo mgg), (a 1, cI g 1505 (up (up (up (up FI (5 * (n + 1)) x0) (5 * (n + 1) + 1) x1) (5 * (n + 1) + 2) x2) (5 * (n + 1) + 3) x3))]) rfl (z := 5 * ((n + 1 : Nat) : Int) + 3) (5 * (n + 1) + 3) rfl (by omega) (by omega) (by decide) dX8_row_147 (fun H locs h => ?_)
              refine lv_aload_n zx zb dX8_row_148 rfl (lv_at hl 0 rfl) ?_
              refine gf8_7 (v := .ref (a 1)) zC h 0 rfl rfl dX8_row_149 ?_
              refine lv_iconst (v := iI (5)) zx zb dX8_row_152 rfl ?_
              refine lv_aload_n zx zb dX8_row_153 rfl (lv_at hl 0 rfl) ?_
              refine gf8_81 (v := .int (iI ((n + 1 : Nat) : Int))) zC h 0 rfl rfl dX8_row_154 ?_
              refine i_mul zC (a := 5) (b := ((n + 1 : Nat) : Int)) dX8_row_157 ?_
              refine lv_iconst (v := iI (4)) zx zb dX8_row_158 rfl ?_
              refine i_add zC (a := 5 * ((n + 1 : Nat) : Int)) (b := 4) dX8_row_159 ?_
              refine lv_iload zx zb dX8_row_160 (lv_at hl 5 rfl) ?_
              refine a_ist (x := x4) zC h 1 (ws' := [(a 0, oM a 0 ((n + 1 : Nat) : Int) mrg mbd mnw mlc msz man mas mak mkp mfa mte mta mlv mct mgr mgo mgg), (a 1, cI g 1505 (up (up (up (up (up FI (5 * (n + 1)) x0) (5 * (n + 1) + 1) x1) (5 * (n + 1) + 2) x2) (5 * (n + 1) + 3) x3) (5 * (n + 1) + 4) x4))]) rfl (z := 5 * ((n + 1 : Nat) : Int) + 4) (5 * (n + 1) + 4) rfl (by omega) (by omega) (by decide) dX8_row_162 (fun H locs h => ?_)
              refine lv_aload_n zx zb dX8_row_163 rfl (lv_at hl 0 rfl) ?_
              refine gf8_81 (v := .int (iI ((n + 1 : Nat) : Int))) zC h 0 rfl rfl dX8_row_164 ?_
              exact r_iret zC zQ zr zk h dX8_row_167 (u := ((n : Int) + 1, n + 1, FI5 FI n x0 x1 x2 x3 x4)) rfl (List.Perm.refl _) ⟨fun q => absurd (by unfold rowOK; omega) q, fun _ q => absurd q (by omega), fun _ _ => rfl⟩ (Nat.le_of_ble_eq_true rfl) (Nat.le_of_ble_eq_true rfl)
            · skip
              refine kc8_103 zC dX8_row_79 ?_
              exact r_iret zC zQ zr zk h dX8_row_81 (u := (-1000004, n, FI)) rfl (List.Perm.refl _) ⟨fun q => absurd (by unfold rowOK; omega) q, fun _ _ => rfl, fun _ q => absurd q (by omega)⟩ (Nat.le_of_ble_eq_true rfl) (Nat.le_of_ble_eq_true rfl)
          · skip
            simp only [decide_eq_true_eq, decide_eq_false_iff_not] at c_10
            refine kc8_102 zC dX8_row_66 ?_
            exact r_iret zC zQ zr zk h dX8_row_68 (u := (-1000002, n, FI)) rfl (List.Perm.refl _) ⟨fun _ => rfl, fun q => absurd q (by unfold rowOK; omega), fun q => absurd q (by unfold rowOK; omega)⟩ (Nat.le_of_ble_eq_true rfl) (Nat.le_of_ble_eq_true rfl)

set_option maxHeartbeats 4000000 in
set_option maxRecDepth 100000 in
theorem c_X8_sees (l : Launch) (D : va_G) (g : Nat → ClassId) (a : Nat → Nat) (mth mrw mbd mnw mlc msz mas mak mkp mfa mte mta mlv mct mgo : Int) (man mgr mgg : Bool) (rg : Nat) (RO : Nat → Int) (RW : Nat → Int) (RK : Nat → Int) (FI : Nat → Int) (w : Int) (r : Nat) (hw : R32 w) (hr : r ≤ 300) (hg : rg ≤ 100) (hR : ∀ k, k < rg → R32 (RO k) ∧ R32 (RW k) ∧ R32 (RK k)) (hFI : ∀ k, k < 1505 → R32 (FI k)) : Ct (S := Unit) l D g yX8_sees cX8_sees 5 (some .boolean) rmX8_sees [.ref (a 0), .int (iI w), .int (iI (r : Int))] ([(a 0, oM a mth mrw (rg : Int) mbd mnw mlc msz man mas mak mkp mfa mte mta mlv mct mgr mgo mgg), (a 2, cI g 100 RO), (a 3, cI g 100 RW), (a 4, cI g 100 RK), (a 1, cI g 1505 FI)]) (fun u => some (.int (bI (seeM RO RW RK FI w r rg)))) (fun _ => True) (fun u => [(a 0, oM a mth mrw (rg : Int) mbd mnw mlc msz man mas mak mkp mfa mte mta mlv mct mgr mgo mgg), (a 2, cI g 100 RO), (a 3, cI g 100 RW), (a 4, cI g 100 RK), (a 1, cI g 1505 FI)]) := by
  refine Ct.of RX8 rfl (by decide +kernel) [(0, .ref (a 0)), (1, .int (iI w)), (2, .int (iI (r : Int)))] rfl (Nat.le_of_ble_eq_true rfl) ?_
  intro pg evn sT mI bl mtd cd aA ls ar qQ zC zr zk zi zQ h hl
  have zx := zC.1
  have zb := zC.2.1
  skip
  refine lv_iconst (v := iI (0)) zx zb dX8_sees_0 rfl ?_
  refine lv_istore_n (lv' := [(3, .int (iI 0)), (0, .ref (a 0)), (1, .int (iI w)), (2, .int (iI (r : Int)))]) zx zb dX8_sees_1 rfl hl (by decide) rfl (fun ls hl => ?_)
  have L2_1 : ∀ (fuel : Nat) (k : Nat) (H : Heap) (locs : List Loc) (ls : Array Slot), rg - k < fuel → (k ≤ rg) → (seeM RO RW RK FI w r k = false) → Hx D g sT aA sT.heap ([(a 0, oM a mth mrw (rg : Int) mbd mnw mlc msz man mas mak mkp mfa mte mta mlv mct mgr mgo mgg), (a 2, cI g 100 RO), (a 3, cI g 100 RW), (a 4, cI g 100 RK), (a 1, cI g 1505 FI)]) H locs → lv_has ls 5 [(0, .ref (a 0)), (1, .int (iI w)), (2, .int (iI (r : Int))), (3, .int (iI (k : Int)))] → W pg l evn rmX8_sees sT mI ar bl mtd cd H locs 0 0 qQ (F0 mI 2 ls []) := by
    intro fuel
    induction fuel with
    | zero => intro k H locs ls hm; exact absurd hm (Nat.not_lt_zero _)
    | succ fuel ih =>
      intro k H locs ls hm hk hsM h hl
      refine lv_iload_n zx zb dX8_sees_2 rfl (lv_at hl 3 rfl) ?_
      refine lv_aload_n zx zb dX8_sees_3 rfl (lv_at hl 0 rfl) ?_
      refine gf8_155 (v := .int (iI (rg : Int))) zC h 0 rfl rfl dX8_sees_4 ?_
      refine i_cge (a := (k : Int)) (b := (rg : Int)) (tgt := 88) zC dX8_sees_7 (by decide) (by omega) (fun c_2 => ?_) (fun c_2 => ?_)
      · skip
        refine lv_iconst (v := iI (0)) zx zb dX8_sees_88 rfl ?_
        exact r_zret (b := false) zC zQ zr zk h dX8_sees_89 rfl (u := ()) (by rw [show rg = k from by omega, hsM]; rfl) (List.Perm.refl _) trivial (Nat.le_of_ble_eq_true rfl) (Nat.le_of_ble_eq_true rfl)
      · skip
        have hRk := hR k (by omega)
        have hF4 := hFI (5 * r + 4) (by omega)
        have hF1 := hFI (5 * r + 1) (by omega)
        refine lv_aload_n zx zb dX8_sees_10 rfl (lv_at hl 0 rfl) ?_
        refine gf8_16 (v := .ref (a 3)) zC h 0 rfl rfl dX8_sees_11 ?_
        refine lv_iload_n zx zb dX8_sees_14 rfl (lv_at hl 3 rfl) ?_
        refine a_ild zC h 2 rfl (z := (k : Int)) k (by omega) (by omega) (by decide) dX8_sees_15 ?_
        refine i_zlt (a := RW k) (tgt := 34) zC dX8_sees_16 (by decide) (by omega) (fun c_3 => ?_) (fun c_3 => ?_)
        · skip
          refine lv_iconst (v := iI (1)) zx zb dX8_sees_34 rfl ?_
          refine lv_goto (tgt := 39) zx zb dX8_sees_35 (by decide) ?_
          refine lv_istore (lv' := [(4, .int (iI 1)), (0, .ref (a 0)), (1, .int (iI w)), (2, .int (iI (r : Int))), (3, .int (iI (k : Int)))]) zx zb dX8_sees_39 hl (by decide) rfl (fun ls hl => ?_)
          refine lv_aload_n zx zb dX8_sees_41 rfl (lv_at hl 1 rfl) ?_
          refine gf8_13 (v := .ref (a 2)) zC h 0 rfl rfl dX8_sees_42 ?_
          refine lv_iload_n zx zb dX8_sees_45 rfl (lv_at hl 4 rfl) ?_
          refine a_ild zC h 1 rfl (z := (k : Int)) k (by omega) (by omega) (by decide) dX8_sees_46 ?_
          refine lv_iload_n zx zb dX8_sees_47 rfl (lv_at hl 2 rfl) ?_
          refine i_cne (a := RO k) (b := w) (tgt := 82) zC dX8_sees_48 (by decide) (by omega) (fun c_4 => ?_) (fun c_4 => ?_)
          · skip
            have hsB : seeB RO RW RK FI w r k = false := by unfold seeB; simp [c_3, c_4]
            have hsM2 : seeM RO RW RK FI w r (k + 1) = false := by show (seeM RO RW RK FI w r k || seeB RO RW RK FI w r k) = false; rw [hsM, hsB]; rfl
            refine i_inc (q := 4) (a := (k : Int)) (lv' := [(3, .int (iI ((k : Int) + 1))), (4, .int (iI 1)), (0, .ref (a 0)), (1, .int (iI w)), (2, .int (iI (r : Int)))]) zC hl dX8_sees_82 rfl (by decide) rfl (fun ls hl => ?_)
            refine lv_goto (tgt := 2) zx zb dX8_sees_85 (by decide) ?_
            exact ih (k + 1) _ _ _ (by omega) (by omega) hsM2 h (lv_sub hl [2, 3, 4, 0] rfl)
          · skip
            refine lv_iload zx zb dX8_sees_51 (lv_at hl 0 rfl) ?_
            refine i_zeq (a := 1) (tgt := 82) zC dX8_sees_53 (by decide) (by omega) (fun c_5 => absurd c_5 (by decide)) (fun c_5 => ?_)
            refine lv_aload_n zx zb dX8_sees_56 rfl (lv_at hl 1 rfl) ?_
            refine gf8_19 (v := .ref (a 4)) zC h 0 rfl rfl dX8_sees_57 ?_
            refine lv_iload_n zx zb dX8_sees_60 rfl (lv_at hl 4 rfl) ?_
            refine a_ild zC h 3 rfl (z := (k : Int)) k (by omega) (by omega) (by decide) dX8_sees_61 ?_
            refine i_zlt (a := RK k) (tgt := 80) zC dX8_sees_62 (by decide) (by omega) (fun c_6 => ?_) (fun c_6 => ?_)
            · skip
              refine lv_iconst (v := iI (1)) zx zb dX8_sees_80 rfl ?_
              exact r_zret (b := true) zC zQ zr zk h dX8_sees_81 rfl (u := ()) (by rw [seeM_t RO RW RK FI (w := w) (r := r) (k := k) (by unfold seeB; simp [c_3, c_4, c_5, c_6]) rg (by omega)]; rfl) (List.Perm.refl _) trivial (Nat.le_of_ble_eq_true rfl) (Nat.le_of_ble_eq_true rfl)
            · skip
              have c_6n := Int.not_lt.mpr c_6
              refine lv_aload_n zx zb dX8_sees_65 rfl (lv_at hl 1 rfl) ?_
              refine gf8_19 (v := .ref (a 4)) zC h 0 rfl rfl dX8_sees_66 ?_
              refine lv_iload_n zx zb dX8_sees_69 rfl (lv_at hl 4 rfl) ?_
              refine a_ild zC h 3 rfl (z := (k : Int)) k (by omega) (by omega) (by decide) dX8_sees_70 ?_
              refine lv_aload_n zx zb dX8_sees_71 rfl (lv_at hl 1 rfl) ?_
              refine lv_iload_n zx zb dX8_sees_72 rfl (lv_at hl 3 rfl) ?_
              refine lv_iconst (v := iI (1)) zx zb dX8_sees_73 rfl ?_
              refine r_invV (As := [.int (iI (r : Int)), .int (iI 1)]) (rest := [.int (iI (RK k))]) (wr := [(a 2, cI g 100 RO), (a 3, cI g 100 RW), (a 4, cI g 100 RK)]) (ws2 := fun u_7 => [(a 0, oM a mth mrw (rg : Int) mbd mnw mlc msz man mas mak mkp mfa mte mta mlv mct mgr mgo mgg), (a 2, cI g 100 RO), (a 3, cI g 100 RW), (a 4, cI g 100 RK), (a 1, cI g 1505 FI)]) 0 0 zC h hl.1 (c_X8_field l D g a mth mrw (rg : Int) mbd mnw mlc msz mas mak mkp mfa mte mta mlv mct mgo man mgr mgg  FI r 1 (by omega) (by omega)) (cs8_151 zC ⟨(Nat.le_of_ble_eq_true rfl), (Nat.le_of_ble_eq_true rfl)⟩) (.head _) rfl rfl rfl (Nat.le_of_ble_eq_true rfl) (pm fun cp_q => by simp only [cp_o, List.countP_append, List.countP_nil] <;> omega) (fun u => (pm fun cp_q => by simp only [cp_o, List.countP_append, List.countP_nil] <;> omega)) ⟨(Nat.le_of_ble_eq_true rfl), (Nat.le_of_ble_eq_true rfl)⟩ (Nat.le_of_ble_eq_true rfl) (Nat.le_of_ble_eq_true rfl) dX8_sees_74 (fun u_7 H locs hu_7 hz_7 h => ?_)
              refine i_cne (a := RK k) (b := FI (5 * r + 1)) (tgt := 82) zC dX8_sees_77 (by decide) (by omega) (fun c_8 => ?_) (fun c_8 => ?_)
              · skip
                have hsB : seeB RO RW RK FI w r k = false := by unfold seeB; simp [c_3, c_4, c_5, c_6n, c_8]
                have hsM2 : seeM RO RW RK FI w r (k + 1) = false := by show (seeM RO RW RK FI w r k || seeB RO RW RK FI w r k) = false; rw [hsM, hsB]; rfl
                refine i_inc (q := 4) (a := (k : Int)) (lv' := [(3, .int (iI ((k : Int) + 1))), (4, .int (iI 1)), (0, .ref (a 0)), (1, .int (iI w)), (2, .int (iI (r : Int)))]) zC hl dX8_sees_82 rfl (by decide) rfl (fun ls hl => ?_)
                refine lv_goto (tgt := 2) zx zb dX8_sees_85 (by decide) ?_
                exact ih (k + 1) _ _ _ (by omega) (by omega) hsM2 h (lv_sub hl [2, 3, 4, 0] rfl)
              · skip
                refine lv_iconst (v := iI (1)) zx zb dX8_sees_80 rfl ?_
                exact r_zret (b := true) zC zQ zr zk h dX8_sees_81 rfl (u := ()) (by rw [seeM_t RO RW RK FI (w := w) (r := r) (k := k) (by unfold seeB; simp [c_3, c_4, c_5, c_6n, c_8]) rg (by omega)]; rfl) (List.Perm.refl _) trivial (Nat.le_of_ble_eq_true rfl) (Nat.le_of_ble_eq_true rfl)
        · skip
          have c_3n := Int.not_lt.mpr c_3
          refine lv_aload_n zx zb dX8_sees_19 rfl (lv_at hl 0 rfl) ?_
          refine gf8_16 (v := .ref (a 3)) zC h 0 rfl rfl dX8_sees_20 ?_
          refine lv_iload_n zx zb dX8_sees_23 rfl (lv_at hl 3 rfl) ?_
          refine a_ild zC h 2 rfl (z := (k : Int)) k (by omega) (by omega) (by decide) dX8_sees_24 ?_
          refine lv_aload_n zx zb dX8_sees_25 rfl (lv_at hl 0 rfl) ?_
          refine lv_iload_n zx zb dX8_sees_26 rfl (lv_at hl 2 rfl) ?_
          refine lv_iconst (v := iI (4)) zx zb dX8_sees_27 rfl ?_
          refine r_invV (As := [.int (iI (r : Int)), .int (iI 4)]) (rest := [.int (iI (RW k))]) (wr := [(a 2, cI g 100 RO), (a 3, cI g 100 RW), (a 4, cI g 100 RK)]) (ws2 := fun u_9 => [(a 0, oM a mth mrw (rg : Int) mbd mnw mlc msz man mas mak mkp mfa mte mta mlv mct mgr mgo mgg), (a 2, cI g 100 RO), (a 3, cI g 100 RW), (a 4, cI g 100 RK), (a 1, cI g 1505 FI)]) 0 0 zC h hl.1 (c_X8_field l D g a mth mrw (rg : Int) mbd mnw mlc msz mas mak mkp mfa mte mta mlv mct mgo man mgr mgg  FI r 4 (by omega) (by omega)) (cs8_151 zC ⟨(Nat.le_of_ble_eq_true rfl), (Nat.le_of_ble_eq_true rfl)⟩) (.head _) rfl rfl rfl (Nat.le_of_ble_eq_true rfl) (pm fun cp_q => by simp only [cp_o, List.countP_append, List.countP_nil] <;> omega) (fun u => (pm fun cp_q => by simp only [cp_o, List.countP_append, List.countP_nil] <;> omega)) ⟨(Nat.le_of_ble_eq_true rfl), (Nat.le_of_ble_eq_true rfl)⟩ (Nat.le_of_ble_eq_true rfl) (Nat.le_of_ble_eq_true rfl) dX8_sees_28 (fun u_9 H locs hu_9 hz_9 h => ?_)
          refine i_cne (a := RW k) (b := FI (5 * r + 4)) (tgt := 38) zC dX8_sees_31 (by decide) (by omega) (fun c_10 => ?_) (fun c_10 => ?_)
          · skip
            refine lv_iconst (v := iI (0)) zx zb dX8_sees_38 rfl ?_
            refine lv_istore (lv' := [(4, .int (iI 0)), (0, .ref (a 0)), (1, .int (iI w)), (2, .int (iI (r : Int))), (3, .int (iI (k : Int)))]) zx zb dX8_sees_39 hl (by decide) rfl (fun ls hl => ?_)
            refine lv_aload_n zx zb dX8_sees_41 rfl (lv_at hl 1 rfl) ?_
            refine gf8_13 (v := .ref (a 2)) zC h 0 rfl rfl dX8_sees_42 ?_
            refine lv_iload_n zx zb dX8_sees_45 rfl (lv_at hl 4 rfl) ?_
            refine a_ild zC h 1 rfl (z := (k : Int)) k (by omega) (by omega) (by decide) dX8_sees_46 ?_
            refine lv_iload_n zx zb dX8_sees_47 rfl (lv_at hl 2 rfl) ?_
            refine i_cne (a := RO k) (b := w) (tgt := 82) zC dX8_sees_48 (by decide) (by omega) (fun c_11 => ?_) (fun c_11 => ?_)
            · skip
              have hsB : seeB RO RW RK FI w r k = false := by unfold seeB; simp [c_3n, c_10, c_11]
              have hsM2 : seeM RO RW RK FI w r (k + 1) = false := by show (seeM RO RW RK FI w r k || seeB RO RW RK FI w r k) = false; rw [hsM, hsB]; rfl
              refine i_inc (q := 4) (a := (k : Int)) (lv' := [(3, .int (iI ((k : Int) + 1))), (4, .int (iI 0)), (0, .ref (a 0)), (1, .int (iI w)), (2, .int (iI (r : Int)))]) zC hl dX8_sees_82 rfl (by decide) rfl (fun ls hl => ?_)
              refine lv_goto (tgt := 2) zx zb dX8_sees_85 (by decide) ?_
              exact ih (k + 1) _ _ _ (by omega) (by omega) hsM2 h (lv_sub hl [2, 3, 4, 0] rfl)
            · skip
              refine lv_iload zx zb dX8_sees_51 (lv_at hl 0 rfl) ?_
              refine i_zeq (a := 0) (tgt := 82) zC dX8_sees_53 (by decide) (by omega) (fun c_12 => ?_) (fun c_12 => absurd c_12 (by decide))
              have hsB : seeB RO RW RK FI w r k = false := by unfold seeB; simp [c_3n, c_10, c_11, c_12]
              have hsM2 : seeM RO RW RK FI w r (k + 1) = false := by show (seeM RO RW RK FI w r k || seeB RO RW RK FI w r k) = false; rw [hsM, hsB]; rfl
              refine i_inc (q := 4) (a := (k : Int)) (lv' := [(3, .int (iI ((k : Int) + 1))), (4, .int (iI 0)), (0, .ref (a 0)), (1, .int (iI w)), (2, .int (iI (r : Int)))]) zC hl dX8_sees_82 rfl (by decide) rfl (fun ls hl => ?_)
              refine lv_goto (tgt := 2) zx zb dX8_sees_85 (by decide) ?_
              exact ih (k + 1) _ _ _ (by omega) (by omega) hsM2 h (lv_sub hl [2, 3, 4, 0] rfl)
          · skip
            refine lv_iconst (v := iI (1)) zx zb dX8_sees_34 rfl ?_
            refine lv_goto (tgt := 39) zx zb dX8_sees_35 (by decide) ?_
            refine lv_istore (lv' := [(4, .int (iI 1)), (0, .ref (a 0)), (1, .int (iI w)), (2, .int (iI (r : Int))), (3, .int (iI (k : Int)))]) zx zb dX8_sees_39 hl (by decide) rfl (fun ls hl => ?_)
            refine lv_aload_n zx zb dX8_sees_41 rfl (lv_at hl 1 rfl) ?_
            refine gf8_13 (v := .ref (a 2)) zC h 0 rfl rfl dX8_sees_42 ?_
            refine lv_iload_n zx zb dX8_sees_45 rfl (lv_at hl 4 rfl) ?_
            refine a_ild zC h 1 rfl (z := (k : Int)) k (by omega) (by omega) (by decide) dX8_sees_46 ?_
            refine lv_iload_n zx zb dX8_sees_47 rfl (lv_at hl 2 rfl) ?_
            refine i_cne (a := RO k) (b := w) (tgt := 82) zC dX8_sees_48 (by decide) (by omega) (fun c_13 => ?_) (fun c_13 => ?_)
            · skip
              have hsB : seeB RO RW RK FI w r k = false := by unfold seeB; simp [c_3n, c_10, c_13]
              have hsM2 : seeM RO RW RK FI w r (k + 1) = false := by show (seeM RO RW RK FI w r k || seeB RO RW RK FI w r k) = false; rw [hsM, hsB]; rfl
              refine i_inc (q := 4) (a := (k : Int)) (lv' := [(3, .int (iI ((k : Int) + 1))), (4, .int (iI 1)), (0, .ref (a 0)), (1, .int (iI w)), (2, .int (iI (r : Int)))]) zC hl dX8_sees_82 rfl (by decide) rfl (fun ls hl => ?_)
              refine lv_goto (tgt := 2) zx zb dX8_sees_85 (by decide) ?_
              exact ih (k + 1) _ _ _ (by omega) (by omega) hsM2 h (lv_sub hl [2, 3, 4, 0] rfl)
            · skip
              refine lv_iload zx zb dX8_sees_51 (lv_at hl 0 rfl) ?_
              refine i_zeq (a := 1) (tgt := 82) zC dX8_sees_53 (by decide) (by omega) (fun c_14 => absurd c_14 (by decide)) (fun c_14 => ?_)
              refine lv_aload_n zx zb dX8_sees_56 rfl (lv_at hl 1 rfl) ?_
              refine gf8_19 (v := .ref (a 4)) zC h 0 rfl rfl dX8_sees_57 ?_
              refine lv_iload_n zx zb dX8_sees_60 rfl (lv_at hl 4 rfl) ?_
              refine a_ild zC h 3 rfl (z := (k : Int)) k (by omega) (by omega) (by decide) dX8_sees_61 ?_
              refine i_zlt (a := RK k) (tgt := 80) zC dX8_sees_62 (by decide) (by omega) (fun c_15 => ?_) (fun c_15 => ?_)
              · skip
                refine lv_iconst (v := iI (1)) zx zb dX8_sees_80 rfl ?_
                exact r_zret (b := true) zC zQ zr zk h dX8_sees_81 rfl (u := ()) (by rw [seeM_t RO RW RK FI (w := w) (r := r) (k := k) (by unfold seeB; simp [c_3n, c_10, c_13, c_14, c_15]) rg (by omega)]; rfl) (List.Perm.refl _) trivial (Nat.le_of_ble_eq_true rfl) (Nat.le_of_ble_eq_true rfl)
              · skip
                have c_15n := Int.not_lt.mpr c_15
                refine lv_aload_n zx zb dX8_sees_65 rfl (lv_at hl 1 rfl) ?_
                refine gf8_19 (v := .ref (a 4)) zC h 0 rfl rfl dX8_sees_66 ?_
                refine lv_iload_n zx zb dX8_sees_69 rfl (lv_at hl 4 rfl) ?_
                refine a_ild zC h 3 rfl (z := (k : Int)) k (by omega) (by omega) (by decide) dX8_sees_70 ?_
                refine lv_aload_n zx zb dX8_sees_71 rfl (lv_at hl 1 rfl) ?_
                refine lv_iload_n zx zb dX8_sees_72 rfl (lv_at hl 3 rfl) ?_
                refine lv_iconst (v := iI (1)) zx zb dX8_sees_73 rfl ?_
                refine r_invV (As := [.int (iI (r : Int)), .int (iI 1)]) (rest := [.int (iI (RK k))]) (wr := [(a 2, cI g 100 RO), (a 3, cI g 100 RW), (a 4, cI g 100 RK)]) (ws2 := fun u_16 => [(a 0, oM a mth mrw (rg : Int) mbd mnw mlc msz man mas mak mkp mfa mte mta mlv mct mgr mgo mgg), (a 2, cI g 100 RO), (a 3, cI g 100 RW), (a 4, cI g 100 RK), (a 1, cI g 1505 FI)]) 0 0 zC h hl.1 (c_X8_field l D g a mth mrw (rg : Int) mbd mnw mlc msz mas mak mkp mfa mte mta mlv mct mgo man mgr mgg  FI r 1 (by omega) (by omega)) (cs8_151 zC ⟨(Nat.le_of_ble_eq_true rfl), (Nat.le_of_ble_eq_true rfl)⟩) (.head _) rfl rfl rfl (Nat.le_of_ble_eq_true rfl) (pm fun cp_q => by simp only [cp_o, List.countP_append, List.countP_nil] <;> omega) (fun u => (pm fun cp_q => by simp only [cp_o, List.countP_append, List.countP_nil] <;> omega)) ⟨(Nat.le_of_ble_eq_true rfl), (Nat.le_of_ble_eq_true rfl)⟩ (Nat.le_of_ble_eq_true rfl) (Nat.le_of_ble_eq_true rfl) dX8_sees_74 (fun u_16 H locs hu_16 hz_16 h => ?_)
                refine i_cne (a := RK k) (b := FI (5 * r + 1)) (tgt := 82) zC dX8_sees_77 (by decide) (by omega) (fun c_17 => ?_) (fun c_17 => ?_)
                · skip
                  have hsB : seeB RO RW RK FI w r k = false := by unfold seeB; simp [c_3n, c_10, c_13, c_14, c_15n, c_17]
                  have hsM2 : seeM RO RW RK FI w r (k + 1) = false := by show (seeM RO RW RK FI w r k || seeB RO RW RK FI w r k) = false; rw [hsM, hsB]; rfl
                  refine i_inc (q := 4) (a := (k : Int)) (lv' := [(3, .int (iI ((k : Int) + 1))), (4, .int (iI 1)), (0, .ref (a 0)), (1, .int (iI w)), (2, .int (iI (r : Int)))]) zC hl dX8_sees_82 rfl (by decide) rfl (fun ls hl => ?_)
                  refine lv_goto (tgt := 2) zx zb dX8_sees_85 (by decide) ?_
                  exact ih (k + 1) _ _ _ (by omega) (by omega) hsM2 h (lv_sub hl [2, 3, 4, 0] rfl)
                · skip
                  refine lv_iconst (v := iI (1)) zx zb dX8_sees_80 rfl ?_
                  exact r_zret (b := true) zC zQ zr zk h dX8_sees_81 rfl (u := ()) (by rw [seeM_t RO RW RK FI (w := w) (r := r) (k := k) (by unfold seeB; simp [c_3n, c_10, c_13, c_14, c_15n, c_17]) rg (by omega)]; rfl) (List.Perm.refl _) trivial (Nat.le_of_ble_eq_true rfl) (Nat.le_of_ble_eq_true rfl)
  exact L2_1 _ 0 _ _ _ (Nat.lt_succ_self _) (by omega) rfl h (lv_sub hl [1, 2, 3, 0] rfl)

set_option maxHeartbeats 4000000 in
set_option maxRecDepth 100000 in
theorem c_X8_scan (l : Launch) (D : va_G) (g : Nat → ClassId) (a : Nat → Nat) (mth mbd mnw mlc msz mas mak mkp mfa mte mta mlv mct mgo : Int) (man mgr mgg : Bool) (rg : Nat) (n : Nat) (RO : Nat → Int) (RW : Nat → Int) (RK : Nat → Int) (FI : Nat → Int) (w : Int) (hw : R32 w) (hn : n ≤ 300) (hg : rg ≤ 100) (hR : ∀ k, k < rg → R32 (RO k) ∧ R32 (RW k) ∧ R32 (RK k)) (hFI : ∀ k, k < 1505 → R32 (FI k)) : Ct (S := Unit) l D g yX8_scan cX8_scan 4 (some .int) rmX8_scan [.ref (a 0), .int (iI w)] ([(a 0, oM a mth (n : Int) (rg : Int) mbd mnw mlc msz man mas mak mkp mfa mte mta mlv mct mgr mgo mgg), (a 2, cI g 100 RO), (a 3, cI g 100 RW), (a 4, cI g 100 RK), (a 1, cI g 1505 FI)]) (fun u => some (.int (iI (if 0 ≤ w ∧ w < 50 then (scnM RO RW RK FI w rg n : Int) else -1000001)))) (fun _ => True) (fun u => [(a 0, oM a 0 (n : Int) (rg : Int) mbd mnw mlc msz man mas mak mkp mfa mte mta mlv mct mgr mgo mgg), (a 2, cI g 100 RO), (a 3, cI g 100 RW), (a 4, cI g 100 RK), (a 1, cI g 1505 FI)]) := by
  refine Ct.of RX8 rfl (by decide +kernel) [(0, .ref (a 0)), (1, .int (iI w))] rfl (Nat.le_of_ble_eq_true rfl) ?_
  intro pg evn sT mI bl mtd cd aA ls ar qQ zC zr zk zi zQ h hl
  have zx := zC.1
  have zb := zC.2.1
  skip
  refine lv_aload_n zx zb dX8_scan_0 rfl (lv_at hl 0 rfl) ?_
  refine lv_iconst (v := iI (0)) zx zb dX8_scan_1 rfl ?_
  refine pf8_85 (x := iI 0) zC h 0 (ws' := [(a 0, oM a 0 (n : Int) (rg : Int) mbd mnw mlc msz man mas mak mkp mfa mte mta mlv mct mgr mgo mgg), (a 2, cI g 100 RO), (a 3, cI g 100 RW), (a 4, cI g 100 RK), (a 1, cI g 1505 FI)]) rfl rfl (Nat.le_of_ble_eq_true rfl) dX8_scan_2 (fun H locs h => ?_)
  refine lv_iload_n zx zb dX8_scan_5 rfl (lv_at hl 1 rfl) ?_
  refine r_invS (As := [.int (iI w)]) (rest := []) (wr := [(a 0, oM a 0 (n : Int) (rg : Int) mbd mnw mlc msz man mas mak mkp mfa mte mta mlv mct mgr mgo mgg), (a 2, cI g 100 RO), (a 3, cI g 100 RW), (a 4, cI g 100 RK), (a 1, cI g 1505 FI)]) (ws2 := fun u_1 => [(a 0, oM a 0 (n : Int) (rg : Int) mbd mnw mlc msz man mas mak mkp mfa mte mta mlv mct mgr mgo mgg), (a 2, cI g 100 RO), (a 3, cI g 100 RW), (a 4, cI g 100 RK), (a 1, cI g 1505 FI)]) 0 0 zC h hl.1 (c_X8_isAsker l D g w (by omega)) (cs8_177 zC ⟨(Nat.le_of_ble_eq_true rfl), (Nat.le_of_ble_eq_true rfl)⟩) rfl rfl (Nat.le_of_ble_eq_true rfl) (List.Perm.refl _) (fun u => List.Perm.refl _) ⟨(Nat.le_of_ble_eq_true rfl), (Nat.le_of_ble_eq_true rfl)⟩ (Nat.le_of_ble_eq_true rfl) (Nat.le_of_ble_eq_true rfl) dX8_scan_6 (fun u_1 H locs hu_1 hz_1 h => ?_)
  refine b_zne (b := decide (0 ≤ w ∧ w < 50)) (tgt := 15) zC dX8_scan_9 (by decide) (fun c_2 => ?_) (fun c_2 => ?_)
  · skip
    simp only [decide_eq_true_eq, decide_eq_false_iff_not] at c_2
    refine lv_iconst (v := iI (0)) zx zb dX8_scan_15 rfl ?_
    refine lv_istore_n (lv' := [(2, .int (iI 0)), (0, .ref (a 0)), (1, .int (iI w))]) zx zb dX8_scan_16 rfl hl (by decide) rfl (fun ls hl => ?_)
    refine lv_iconst (v := iI (1)) zx zb dX8_scan_17 rfl ?_
    refine lv_istore_n (lv' := [(3, .int (iI 1)), (2, .int (iI 0)), (0, .ref (a 0)), (1, .int (iI w))]) zx zb dX8_scan_18 rfl hl (by decide) rfl (fun ls hl => ?_)
    have L19_3 : ∀ (fuel : Nat) (k : Nat) (H : Heap) (locs : List Loc) (ls : Array Slot), n - k < fuel → (k ≤ n) → Hx D g sT aA sT.heap ([(a 0, oM a 0 (n : Int) (rg : Int) mbd mnw mlc msz man mas mak mkp mfa mte mta mlv mct mgr mgo mgg), (a 2, cI g 100 RO), (a 3, cI g 100 RW), (a 4, cI g 100 RK), (a 1, cI g 1505 FI)]) H locs → lv_has ls 4 [(0, .ref (a 0)), (1, .int (iI w)), (2, .int (iI ((scnM RO RW RK FI w rg k : Nat) : Int))), (3, .int (iI ((k : Int) + 1)))] → W pg l evn rmX8_scan sT mI ar bl mtd cd H locs 0 0 qQ (F0 mI 19 ls []) := by
      intro fuel
      induction fuel with
      | zero => intro k H locs ls hm; exact absurd hm (Nat.not_lt_zero _)
      | succ fuel ih =>
        intro k H locs ls hm hk h hl
        refine lv_iload_n zx zb dX8_scan_19 rfl (lv_at hl 3 rfl) ?_
        refine lv_aload_n zx zb dX8_scan_20 rfl (lv_at hl 0 rfl) ?_
        refine gf8_81 (v := .int (iI (n : Int))) zC h 0 rfl rfl dX8_scan_21 ?_
        refine i_cgt (a := ((k : Int) + 1)) (b := (n : Int)) (tgt := 50) zC dX8_scan_24 (by decide) (by omega) (fun c_4 => ?_) (fun c_4 => ?_)
        · skip
          refine lv_iload_n zx zb dX8_scan_50 rfl (lv_at hl 2 rfl) ?_
          exact r_iret zC zQ zr zk h dX8_scan_51 (u := ()) (by rw [if_pos (by omega), show n = k from by omega]) (List.Perm.refl _) trivial (Nat.le_of_ble_eq_true rfl) (Nat.le_of_ble_eq_true rfl)
        · skip
          refine lv_aload_n zx zb dX8_scan_27 rfl (lv_at hl 0 rfl) ?_
          refine lv_iload_n zx zb dX8_scan_28 rfl (lv_at hl 1 rfl) ?_
          refine lv_iload_n zx zb dX8_scan_29 rfl (lv_at hl 3 rfl) ?_
          rw [show ((k : Int) + 1 : Int) = ((k + 1 : Nat) : Int) from by omega]
          refine r_invV (As := [.int (iI w), .int (iI ((k + 1 : Nat) : Int))]) (rest := []) (wr := []) (ws2 := fun u_5 => [(a 0, oM a 0 (n : Int) (rg : Int) mbd mnw mlc msz man mas mak mkp mfa mte mta mlv mct mgr mgo mgg), (a 2, cI g 100 RO), (a 3, cI g 100 RW), (a 4, cI g 100 RK), (a 1, cI g 1505 FI)]) 0 0 zC h hl.1 (c_X8_sees l D g a 0 (n : Int) mbd mnw mlc msz mas mak mkp mfa mte mta mlv mct mgo man mgr mgg rg RO RW RK FI w (k + 1) hw (by omega) hg hR hFI) (cs8_165 zC ⟨(Nat.le_of_ble_eq_true rfl), (Nat.le_of_ble_eq_true rfl)⟩) (.head _) rfl rfl rfl (Nat.le_of_ble_eq_true rfl) (pm fun cp_q => by simp only [cp_o, List.countP_append, List.countP_nil] <;> omega) (fun u => (pm fun cp_q => by simp only [cp_o, List.countP_append, List.countP_nil] <;> omega)) ⟨(Nat.le_of_ble_eq_true rfl), (Nat.le_of_ble_eq_true rfl)⟩ (Nat.le_of_ble_eq_true rfl) (Nat.le_of_ble_eq_true rfl) dX8_scan_30 (fun u_5 H locs hu_5 hz_5 h => ?_)
          refine b_zeq (b := seeM RO RW RK FI w (k + 1) rg) (tgt := 42) zC dX8_scan_33 (by decide) (fun c_6 => ?_) (fun c_6 => ?_)
          · skip
            have e_n : scnM RO RW RK FI w rg (k + 1) = scnM RO RW RK FI w rg k := by show (if seeM RO RW RK FI w (k + 1) rg = true then _ else _) = _; rw [if_neg (by rw [c_6]; decide)]
            refine lv_iload_n zx zb dX8_scan_42 rfl (lv_at hl 2 rfl) ?_
            rw [show (((scnM RO RW RK FI w rg k : Nat) : Int) : Int) = ((scnM RO RW RK FI w rg (k + 1) : Nat) : Int) from by rw [e_n]]
            refine lv_istore_n (lv' := [(2, .int (iI ((scnM RO RW RK FI w rg (k + 1) : Nat) : Int))), (0, .ref (a 0)), (1, .int (iI w)), (3, .int (iI ((k : Int) + 1)))]) zx zb dX8_scan_43 rfl hl (by decide) rfl (fun ls hl => ?_)
            refine i_inc (q := 3) (a := ((k : Int) + 1)) (lv' := [(3, .int (iI (((k : Int) + 1) + 1))), (2, .int (iI ((scnM RO RW RK FI w rg (k + 1) : Nat) : Int))), (0, .ref (a 0)), (1, .int (iI w))]) zC hl dX8_scan_44 rfl (by decide) rfl (fun ls hl => ?_)
            refine lv_goto (tgt := 19) zx zb dX8_scan_47 (by decide) ?_
            exact ih (k + 1) _ _ _ (by omega) (by omega) h (lv_sub hl [2, 3, 1, 0] rfl)
          · skip
            have e_n : scnM RO RW RK FI w rg (k + 1) = scnM RO RW RK FI w rg k + 1 := by show (if seeM RO RW RK FI w (k + 1) rg = true then _ else _) = _; rw [if_pos c_6]
            refine lv_iload_n zx zb dX8_scan_36 rfl (lv_at hl 2 rfl) ?_
            refine lv_iconst (v := iI (1)) zx zb dX8_scan_37 rfl ?_
            refine i_add zC (a := ((scnM RO RW RK FI w rg k : Nat) : Int)) (b := 1) dX8_scan_38 ?_
            refine lv_goto (tgt := 43) zx zb dX8_scan_39 (by decide) ?_
            rw [show (((scnM RO RW RK FI w rg k : Nat) : Int) + 1 : Int) = ((scnM RO RW RK FI w rg (k + 1) : Nat) : Int) from by rw [e_n]; omega]
            refine lv_istore_n (lv' := [(2, .int (iI ((scnM RO RW RK FI w rg (k + 1) : Nat) : Int))), (0, .ref (a 0)), (1, .int (iI w)), (3, .int (iI ((k : Int) + 1)))]) zx zb dX8_scan_43 rfl hl (by decide) rfl (fun ls hl => ?_)
            refine i_inc (q := 3) (a := ((k : Int) + 1)) (lv' := [(3, .int (iI (((k : Int) + 1) + 1))), (2, .int (iI ((scnM RO RW RK FI w rg (k + 1) : Nat) : Int))), (0, .ref (a 0)), (1, .int (iI w))]) zC hl dX8_scan_44 rfl (by decide) rfl (fun ls hl => ?_)
            refine lv_goto (tgt := 19) zx zb dX8_scan_47 (by decide) ?_
            exact ih (k + 1) _ _ _ (by omega) (by omega) h (lv_sub hl [2, 3, 1, 0] rfl)
    exact L19_3 _ 0 _ _ _ (Nat.lt_succ_self _) (by omega) h (lv_sub hl [2, 3, 1, 0] rfl)
  · skip
    simp only [decide_eq_true_eq, decide_eq_false_iff_not] at c_2
    refine kc8_180 zC dX8_scan_12 ?_
    exact r_iret zC zQ zr zk h dX8_scan_14 (u := ()) (by rw [if_neg (by omega)]) (List.Perm.refl _) trivial (Nat.le_of_ble_eq_true rfl) (Nat.le_of_ble_eq_true rfl)
