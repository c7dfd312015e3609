/-! READER: a text taken sign by sign; what its methods do to its numbers, by plain functions -/
abbrev RS : Type := Int × Int × Int × Int × Int × Int × Nat × Nat × (Nat → Int) × (Nat → Int) × (Nat → Int) × (Nat → Int) × (Nat → Int) × Nat × Nat × (Nat → Bool) × Nat × Nat
abbrev RS.st (r : RS) : Int := r.1
abbrev RS.ne (r : RS) : Int := r.2.1
abbrev RS.tu (r : RS) : Int := r.2.2.1
abbrev RS.nu (r : RS) : Int := r.2.2.2.1
abbrev RS.fg (r : RS) : Int := r.2.2.2.2.1
abbrev RS.rl (r : RS) : Int := r.2.2.2.2.2.1
abbrev RS.fd (r : RS) : Nat := r.2.2.2.2.2.2.1
abbrev RS.op (r : RS) : Nat := r.2.2.2.2.2.2.2.1
abbrev RS.TB (r : RS) : Nat → Int := r.2.2.2.2.2.2.2.2.1
abbrev RS.ST (r : RS) : Nat → Int := r.2.2.2.2.2.2.2.2.2.1
abbrev RS.TF (r : RS) : Nat → Int := r.2.2.2.2.2.2.2.2.2.2.1
abbrev RS.TR (r : RS) : Nat → Int := r.2.2.2.2.2.2.2.2.2.2.2.1
abbrev RS.TN (r : RS) : Nat → Int := r.2.2.2.2.2.2.2.2.2.2.2.2.1
abbrev RS.sc (r : RS) : Nat := r.2.2.2.2.2.2.2.2.2.2.2.2.2.1
abbrev RS.tc (r : RS) : Nat := r.2.2.2.2.2.2.2.2.2.2.2.2.2.2.1
abbrev RS.fl (r : RS) : Nat → Bool := r.2.2.2.2.2.2.2.2.2.2.2.2.2.2.2.1
abbrev RS.tl (r : RS) : Nat := r.2.2.2.2.2.2.2.2.2.2.2.2.2.2.2.2.1
abbrev RS.tf (r : RS) : Nat := r.2.2.2.2.2.2.2.2.2.2.2.2.2.2.2.2.2
def fOf (c : Int) : Int := if c = 105 then 0 else if c = 107 then 1 else if c = 112 then 2 else if c = 100 then 3 else if c = 111 then 4 else -1
def tOf (c : Int) : Int := if c = 35 then 1 else if c = 43 then 2 else if c = 45 then 3 else 0
theorem fOf_R (c : Int) : -1 ≤ fOf c ∧ fOf c < 5 := by unfold fOf; omega
theorem tOf_R (c : Int) : 0 ≤ tOf c ∧ tOf c < 4 := by unfold tOf; omega
/-- a sign is the letter of a field that is not masked -/
def opn (mk : Nat → Bool) (c : Int) : Bool := decide (fOf c ≠ -1) && !mk (fOf c).toNat
noncomputable def rdF (a q : Nat → Nat) (mk : Nat → Bool) (r : RS) : List Value := [.ref (q 0), .int (iI (bZ mk)), .int (iI r.st), .int (iI (r.fd : Int)), .int (iI r.rl), .int (iI r.nu), .int (iI r.fg), .int (iI r.ne), .int (iI r.tu), .ref (a 1), .int (iI (r.op : Int))]
noncomputable def wRd (g : Nat → ClassId) (a q : Nat → Nat) (mk : Nat → Bool) (r : RS) (aw : Nat) : va_W := (a 0, .inr (4, rdF a q mk r)) :: (a 1, cI g 20 r.TB) :: wQ g q r.ST r.TF r.TR r.TN r.sc r.tc r.fl r.tl r.tf aw
theorem wRd_mem {g : Nat → ClassId} {a q : Nat → Nat} {mk : Nat → Bool} {r : RS} {aw : Nat} : (a 0, .inr (4, rdF a q mk r)) ∈ wRd g a q mk r aw := .head _

def rTurn : RS → Bool × RS
  | (st, ne, tu, nu, fg, rl, fd, op, TB, ST, TF, TR, TN, sc, tc, fl, tl, tf) => if 20 ≤ ne then (false, (st, ne, tu, nu, fg, rl, fd, op, TB, ST, TF, TR, TN, sc, tc, fl, tl, tf)) else (true, (1, ne + 1, tu + 1, nu, fg, rl, fd, op, TB, up ST sc 1, TF, TR, TN, sc + 1, tc, fl, tl, tf))

def rOpen : RS → Bool × RS
  | (st, ne, tu, nu, fg, rl, fd, op, TB, ST, TF, TR, TN, sc, tc, fl, tl, tf) => if 20 ≤ ne then (false, (st, ne, tu, nu, fg, rl, fd, op, TB, ST, TF, TR, TN, sc, tc, fl, tl, tf)) else (true, (1, ne + 1, 0, nu, fg, rl, fd, op + 1, up TB op tu, up ST sc 2, TF, TR, TN, sc + 1, tc, fl, tl, tf))

def rEndTest : RS → RS
  | (st, ne, tu, nu, fg, rl, fd, op, TB, ST, TF, TR, TN, sc, tc, fl, tl, tf) => (5, ne - tu, 0, nu, fg, rl, fd, op, TB, ST, TF, TR, TN, sc, tc, fl, tl, tf)

def rClose : RS → Bool × RS
  | (st, ne, tu, nu, fg, rl, fd, op, TB, ST, TF, TR, TN, sc, tc, fl, tl, tf) => if op = 0 then (false, (st, ne, tu, nu, fg, rl, fd, op, TB, ST, TF, TR, TN, sc, tc, fl, tl, tf)) else (true, rEndTest (st, ne - 1, TB (op - 1), nu, fg, rl, fd, op - 1, TB, up ST sc 3, TF, TR, TN, sc + 1, tc, fl, tl, tf))

def rTestField (mk : Nat → Bool) (c : Int) : RS → Bool × RS
  | (st, ne, tu, nu, fg, rl, fd, op, TB, ST, TF, TR, TN, sc, tc, fl, tl, tf) => if opn mk c = true ∧ tc < 40 then (true, (2, ne, tu, nu, fg, rl, (fOf c).toNat, op, TB, ST, TF, TR, TN, sc, tc, fl, tl, tf)) else (false, (st, ne, tu, nu, fg, rl, fd, op, TB, ST, TF, TR, TN, sc, tc, fl, tl, tf))

def rRelation (c : Int) : RS → Bool × RS
  | (st, ne, tu, nu, fg, rl, fd, op, TB, ST, TF, TR, TN, sc, tc, fl, tl, tf) => if c = 61 ∨ c = 60 ∨ c = 62 then (true, (3, ne, tu, 0, 0, c, fd, op, TB, ST, TF, TR, TN, sc, tc, fl, tl, tf)) else (false, (st, ne, tu, nu, fg, rl, fd, op, TB, ST, TF, TR, TN, sc, tc, fl, tl, tf))

def rFigure (c : Int) : RS → Bool × RS
  | (st, ne, tu, nu, fg, rl, fd, op, TB, ST, TF, TR, TN, sc, tc, fl, tl, tf) => if 48 ≤ c ∧ c ≤ 57 ∧ fg < 5 then (true, (4, ne, tu, nu * 10 + (c - 48), fg + 1, rl, fd, op, TB, ST, TF, TR, TN, sc, tc, fl, tl, tf)) else (false, (st, ne, tu, nu, fg, rl, fd, op, TB, ST, TF, TR, TN, sc, tc, fl, tl, tf))

def rEndFT : RS → RS
  | (st, ne, tu, nu, fg, rl, fd, op, TB, ST, TF, TR, TN, sc, tc, fl, tl, tf) => rEndTest (st, ne, tu, nu, fg, rl, fd, op, TB, up ST sc 5, up TF tc (fd : Int), up TR tc rl, up TN tc nu, sc + 1, tc + 1, bAdd1 fl fd, tl, tf)

def rTail (c : Int) : RS → Bool × RS
  | (st, ne, tu, nu, fg, rl, fd, op, TB, ST, TF, TR, TN, sc, tc, fl, tl, tf) => if tOf c = 0 then (false, (st, ne, tu, nu, fg, rl, fd, op, TB, ST, TF, TR, TN, sc, tc, fl, tl, tf)) else (true, (6, ne, tu, nu, fg, rl, fd, op, TB, ST, TF, TR, TN, sc, tc, fl, (tOf c).toNat, tf))

def rTailField (mk : Nat → Bool) (c : Int) : RS → Bool × RS
  | (st, ne, tu, nu, fg, rl, fd, op, TB, ST, TF, TR, TN, sc, tc, fl, tl, tf) => if opn mk c = true then (true, (7, ne, tu, nu, fg, rl, fd, op, TB, ST, TF, TR, TN, sc, tc, bAdd1 fl (fOf c).toNat, tl, (fOf c).toNat)) else (false, (st, ne, tu, nu, fg, rl, fd, op, TB, ST, TF, TR, TN, sc, tc, fl, tl, tf))

def rTest (mk : Nat → Bool) (c : Int) (r : RS) : Bool × RS := if c = 33 then rTurn r else if c = 40 then rOpen r else rTestField mk c r

def rNext (c : Int) : RS → RS
  | (st, ne, tu, nu, fg, rl, fd, op, TB, ST, TF, TR, TN, sc, tc, fl, tl, tf) => if c = 124 then (1, ne, tu, nu, fg, rl, fd, op, TB, up ST sc 4, TF, TR, TN, sc + 1, tc, fl, tl, tf) else (1, ne, tu, nu, fg, rl, fd, op, TB, ST, TF, TR, TN, sc, tc, fl, tl, tf)

def rBehind (c : Int) (r : RS) : Bool × RS := if c = 41 then rClose r else if c = 38 ∨ c = 124 then (true, rNext c r) else if r.ne = 0 then rTail c r else (false, r)
def rTakes (mk : Nat → Bool) (c : Int) (r : RS) : Bool × RS :=
  if r.st = 0 then (if (rTail c r).1 = true then (true, (rTail c r).2) else rTest mk c (rTail c r).2)
  else if r.st = 1 then rTest mk c r else if r.st = 2 then rRelation c r else if r.st = 3 then rFigure c r
  else if r.st = 4 then (if (rFigure c r).1 = true then (true, (rFigure c r).2) else rBehind c (rEndFT (rFigure c r).2))
  else if r.st = 5 then rBehind c r else if r.st = 6 then rTailField mk c r else (false, r)
def rEndS (r : RS) : RS := if r.st = 4 then rEndFT r else r
def rEndB (r : RS) : Bool := decide ((rEndS r).st = 0 ∨ (rEndS r).st = 7 ∨ ((rEndS r).st = 5 ∧ (rEndS r).ne = 0))

set_option maxHeartbeats 4000000 in
set_option maxRecDepth 100000 in
theorem c_X4_fieldOf (l : Launch) (D : va_G) (g : Nat → ClassId) (c : Int) (hc : R32 c) : Ct (S := Unit) l D g yX4_fieldOf cX4_fieldOf 1 (some .int) rmX4_fieldOf [.int (iI c)] ([]) (fun u => some (.int (iI (fOf c)))) (fun _ => True) (fun u => []) := by
  refine Ct.of RX4 rfl (by decide +kernel) [(0, .int (iI c))] rfl (Nat.le_of_ble_eq_true rfl) ?_
  intro pg evn sT mI bl mtd cd aA ls ar qQ zC zr zk zi zQ h hl
  have zx := zC.1
  have zb := zC.2.1
  skip
  refine lv_iload_n zx zb dX4_fieldOf_0 rfl (lv_at hl 0 rfl) ?_
  by_cases e_lo : c < 100 ∨ 112 < c
  · refine lv_tableOut (tgt := 78) zx zb dX4_fieldOf_1 (by rw [iI_toInt hc]; exact e_lo) (by decide) ?_
    have e_f : fOf c = -1 := by unfold fOf; omega
    refine lv_iconst (v := iI (-1)) zx zb dX4_fieldOf_78 rfl ?_
    exact r_iret zC zQ zr zk h dX4_fieldOf_79 (u := ()) (by rw [e_f]) (List.Perm.refl _) trivial (Nat.le_of_ble_eq_true rfl) (Nat.le_of_ble_eq_true rfl)
  · rcases (show c = 100 ∨ c = 101 ∨ c = 102 ∨ c = 103 ∨ c = 104 ∨ c = 105 ∨ c = 106 ∨ c = 107 ∨ c = 108 ∨ c = 109 ∨ c = 110 ∨ c = 111 ∨ c = 112 by omega) with e_c | e_c | e_c | e_c | e_c | e_c | e_c | e_c | e_c | e_c | e_c | e_c | e_c
    · subst e_c
      have e_f : fOf 100 = 3 := by decide
      refine lv_tableIn (off := 73) (tgt := 74) zx zb dX4_fieldOf_1 (by decide) (by decide) (by decide) (by decide) ?_
      refine lv_iconst (v := iI (3)) zx zb dX4_fieldOf_74 rfl ?_
      exact r_iret zC zQ zr zk h dX4_fieldOf_75 (u := ()) (by rw [e_f]) (List.Perm.refl _) trivial (Nat.le_of_ble_eq_true rfl) (Nat.le_of_ble_eq_true rfl)
    · subst e_c
      have e_f : fOf 101 = -1 := by decide
      refine lv_tableIn (off := 77) (tgt := 78) zx zb dX4_fieldOf_1 (by decide) (by decide) (by decide) (by decide) ?_
      refine lv_iconst (v := iI (-1)) zx zb dX4_fieldOf_78 rfl ?_
      exact r_iret zC zQ zr zk h dX4_fieldOf_79 (u := ()) (by rw [e_f]) (List.Perm.refl _) trivial (Nat.le_of_ble_eq_true rfl) (Nat.le_of_ble_eq_true rfl)
    · subst e_c
      have e_f : fOf 102 = -1 := by decide
      refine lv_tableIn (off := 77) (tgt := 78) zx zb dX4_fieldOf_1 (by decide) (by decide) (by decide) (by decide) ?_
      refine lv_iconst (v := iI (-1)) zx zb dX4_fieldOf_78 rfl ?_
      exact r_iret zC zQ zr zk h dX4_fieldOf_79 (u := ()) (by rw [e_f]) (List.Perm.refl _) trivial (Nat.le_of_ble_eq_true rfl) (Nat.le_of_ble_eq_true rfl)
    · subst e_c
      have e_f : fOf 103 = -1 := by decide
      refine lv_tableIn (off := 77) (tgt := 78) zx zb dX4_fieldOf_1 (by decide) (by decide) (by decide) (by decide) ?_
      refine lv_iconst (v := iI (-1)) zx zb dX4_fieldOf_78 rfl ?_
      exact r_iret zC zQ zr zk h dX4_fieldOf_79 (u := ()) (by rw [e_f]) (List.Perm.refl _) trivial (Nat.le_of_ble_eq_true rfl) (Nat.le_of_ble_eq_true rfl)
    · subst e_c
      have e_f : fOf 104 = -1 := by decide
      refine lv_tableIn (off := 77) (tgt := 78) zx zb dX4_fieldOf_1 (by decide) (by decide) (by decide) (by decide) ?_
      refine lv_iconst (v := iI (-1)) zx zb dX4_fieldOf_78 rfl ?_
      exact r_iret zC zQ zr zk h dX4_fieldOf_79 (u := ()) (by rw [e_f]) (List.Perm.refl _) trivial (Nat.le_of_ble_eq_true rfl) (Nat.le_of_ble_eq_true rfl)
    · subst e_c
      have e_f : fOf 105 = 0 := by decide
      refine lv_tableIn (off := 67) (tgt := 68) zx zb dX4_fieldOf_1 (by decide) (by decide) (by decide) (by decide) ?_
      refine lv_iconst (v := iI (0)) zx zb dX4_fieldOf_68 rfl ?_
      exact r_iret zC zQ zr zk h dX4_fieldOf_69 (u := ()) (by rw [e_f]) (List.Perm.refl _) trivial (Nat.le_of_ble_eq_true rfl) (Nat.le_of_ble_eq_true rfl)
    · subst e_c
      have e_f : fOf 106 = -1 := by decide
      refine lv_tableIn (off := 77) (tgt := 78) zx zb dX4_fieldOf_1 (by decide) (by decide) (by decide) (by decide) ?_
      refine lv_iconst (v := iI (-1)) zx zb dX4_fieldOf_78 rfl ?_
      exact r_iret zC zQ zr zk h dX4_fieldOf_79 (u := ()) (by rw [e_f]) (List.Perm.refl _) trivial (Nat.le_of_ble_eq_true rfl) (Nat.le_of_ble_eq_true rfl)
    · subst e_c
      have e_f : fOf 107 = 1 := by decide
      refine lv_tableIn (off := 69) (tgt := 70) zx zb dX4_fieldOf_1 (by decide) (by decide) (by decide) (by decide) ?_
      refine lv_iconst (v := iI (1)) zx zb dX4_fieldOf_70 rfl ?_
      exact r_iret zC zQ zr zk h dX4_fieldOf_71 (u := ()) (by rw [e_f]) (List.Perm.refl _) trivial (Nat.le_of_ble_eq_true rfl) (Nat.le_of_ble_eq_true rfl)
    · subst e_c
      have e_f : fOf 108 = -1 := by decide
      refine lv_tableIn (off := 77) (tgt := 78) zx zb dX4_fieldOf_1 (by decide) (by decide) (by decide) (by decide) ?_
      refine lv_iconst (v := iI (-1)) zx zb dX4_fieldOf_78 rfl ?_
      exact r_iret zC zQ zr zk h dX4_fieldOf_79 (u := ()) (by rw [e_f]) (List.Perm.refl _) trivial (Nat.le_of_ble_eq_true rfl) (Nat.le_of_ble_eq_true rfl)
    · subst e_c
      have e_f : fOf 109 = -1 := by decide
      refine lv_tableIn (off := 77) (tgt := 78) zx zb dX4_fieldOf_1 (by decide) (by decide) (by decide) (by decide) ?_
      refine lv_iconst (v := iI (-1)) zx zb dX4_fieldOf_78 rfl ?_
      exact r_iret zC zQ zr zk h dX4_fieldOf_79 (u := ()) (by rw [e_f]) (List.Perm.refl _) trivial (Nat.le_of_ble_eq_true rfl) (Nat.le_of_ble_eq_true rfl)
    · subst e_c
      have e_f : fOf 110 = -1 := by decide
      refine lv_tableIn (off := 77) (tgt := 78) zx zb dX4_fieldOf_1 (by decide) (by decide) (by decide) (by decide) ?_
      refine lv_iconst (v := iI (-1)) zx zb dX4_fieldOf_78 rfl ?_
      exact r_iret zC zQ zr zk h dX4_fieldOf_79 (u := ()) (by rw [e_f]) (List.Perm.refl _) trivial (Nat.le_of_ble_eq_true rfl) (Nat.le_of_ble_eq_true rfl)
    · subst e_c
      have e_f : fOf 111 = 4 := by decide
      refine lv_tableIn (off := 75) (tgt := 76) zx zb dX4_fieldOf_1 (by decide) (by decide) (by decide) (by decide) ?_
      refine lv_iconst (v := iI (4)) zx zb dX4_fieldOf_76 rfl ?_
      exact r_iret zC zQ zr zk h dX4_fieldOf_77 (u := ()) (by rw [e_f]) (List.Perm.refl _) trivial (Nat.le_of_ble_eq_true rfl) (Nat.le_of_ble_eq_true rfl)
    · subst e_c
      have e_f : fOf 112 = 2 := by decide
      refine lv_tableIn (off := 71) (tgt := 72) zx zb dX4_fieldOf_1 (by decide) (by decide) (by decide) (by decide) ?_
      refine lv_iconst (v := iI (2)) zx zb dX4_fieldOf_72 rfl ?_
      exact r_iret zC zQ zr zk h dX4_fieldOf_73 (u := ()) (by rw [e_f]) (List.Perm.refl _) trivial (Nat.le_of_ble_eq_true rfl) (Nat.le_of_ble_eq_true rfl)

set_option maxHeartbeats 4000000 in
set_option maxRecDepth 100000 in
theorem c_X4_tailOf (l : Launch) (D : va_G) (g : Nat → ClassId) (c : Int) (hc : R32 c) : Ct (S := Unit) l D g yX4_tailOf cX4_tailOf 1 (some .int) rmX4_tailOf [.int (iI c)] ([]) (fun u => some (.int (iI (tOf c)))) (fun _ => True) (fun u => []) := by
  refine Ct.of RX4 rfl (by decide +kernel) [(0, .int (iI c))] rfl (Nat.le_of_ble_eq_true rfl) ?_
  intro pg evn sT mI bl mtd cd aA ls ar qQ zC zr zk zi zQ h hl
  have zx := zC.1
  have zb := zC.2.1
  skip
  refine lv_iload_n zx zb dX4_tailOf_0 rfl (lv_at hl 0 rfl) ?_
  by_cases e_1 : c = 35
  · subst e_1
    have e_f : tOf 35 = 1 := by decide
    refine lv_lookup (off := 35) (tgt := 36) zx zb dX4_tailOf_1 (by decide) (by decide) (by decide) ?_
    refine lv_iconst (v := iI (1)) zx zb dX4_tailOf_36 rfl ?_
    exact r_iret zC zQ zr zk h dX4_tailOf_37 (u := ()) (by rw [e_f]) (List.Perm.refl _) trivial (Nat.le_of_ble_eq_true rfl) (Nat.le_of_ble_eq_true rfl)
  · by_cases e_2 : c = 43
    · subst e_2
      have e_f : tOf 43 = 2 := by decide
      refine lv_lookup (off := 37) (tgt := 38) zx zb dX4_tailOf_1 (by decide) (by decide) (by decide) ?_
      refine lv_iconst (v := iI (2)) zx zb dX4_tailOf_38 rfl ?_
      exact r_iret zC zQ zr zk h dX4_tailOf_39 (u := ()) (by rw [e_f]) (List.Perm.refl _) trivial (Nat.le_of_ble_eq_true rfl) (Nat.le_of_ble_eq_true rfl)
    · by_cases e_3 : c = 45
      · subst e_3
        have e_f : tOf 45 = 3 := by decide
        refine lv_lookup (off := 39) (tgt := 40) zx zb dX4_tailOf_1 (by decide) (by decide) (by decide) ?_
        refine lv_iconst (v := iI (3)) zx zb dX4_tailOf_40 rfl ?_
        exact r_iret zC zQ zr zk h dX4_tailOf_41 (u := ()) (by rw [e_f]) (List.Perm.refl _) trivial (Nat.le_of_ble_eq_true rfl) (Nat.le_of_ble_eq_true rfl)
      · have e_f : tOf c = 0 := by unfold tOf; omega
        refine lv_lookup (off := 41) (tgt := 42) zx zb dX4_tailOf_1 (by decide) (by rw [iI_toInt hc]; simp [Op.lookupswitch.offset, e_1, e_2, e_3, Ne.symm e_1, Ne.symm e_2, Ne.symm e_3]) (by decide) ?_
        refine lv_iconst (v := iI (0)) zx zb dX4_tailOf_42 rfl ?_
        exact r_iret zC zQ zr zk h dX4_tailOf_43 (u := ()) (by rw [e_f]) (List.Perm.refl _) trivial (Nat.le_of_ble_eq_true rfl) (Nat.le_of_ble_eq_true rfl)

set_option maxHeartbeats 4000000 in
set_option maxRecDepth 100000 in
theorem c_X4_isOpenField (l : Launch) (D : va_G) (g : Nat → ClassId) (a q : Nat → Nat) (mk : Nat → Bool) (r : RS) (aw : Nat) (c : Int) : Ct (S := Unit) l D g yX4_isOpenField cX4_isOpenField 2 (some .boolean) rmX4_isOpenField [.ref (a 0), .int (iI (fOf c))] (wRd g a q mk r aw) (fun u => some (.int (bI (opn mk c)))) (fun _ => True) (fun u => wRd g a q mk r aw) := by
  obtain ⟨st, ne, tu, nu, fg, rl, fd, op, TB, ST, TF, TR, TN, sc, tc, fl, tl, tf⟩ := r
  try dsimp only [RS.st, RS.ne, RS.tu, RS.nu, RS.fg, RS.rl, RS.fd, RS.op, RS.TB, RS.sc, RS.tc, RS.tl, RS.tf] at *
  refine Ct.of RX4 rfl (by decide +kernel) [(0, .ref (a 0)), (1, .int (iI (fOf c)))] rfl (Nat.le_of_ble_eq_true rfl) ?_
  intro pg evn sT mI bl mtd cd aA ls ar qQ zC zr zk zi zQ h hl
  have zx := zC.1
  have zb := zC.2.1
  have h : Hx D g sT aA sT.heap ([(a 0, .inr (4, [.ref (q 0), .int (iI (bZ mk)), .int (iI st), .int (iI (fd : Int)), .int (iI rl), .int (iI nu), .int (iI fg), .int (iI ne), .int (iI tu), .ref (a 1), .int (iI (op : Int))])), (a 1, cI g 20 TB), (q 0, .inr (3, [.ref (q 1), .ref (q 2), .ref (q 3), .ref (q 4), .int (iI (sc : Int)), .int (iI (tc : Int)), .int (iI (bZ fl)), .int (iI (tl : Int)), .int (iI (tf : Int)), .int (iI (aw : Int))])), (q 1, cI g 200 ST), (q 2, cI g 40 TF), (q 3, cC g 40 TR), (q 4, cI g 40 TN)]) sT.heap [] := h
  skip
  have hf := fOf_R c
  refine lv_iload_n zx zb dX4_isOpenField_0 rfl (lv_at hl 1 rfl) ?_
  refine lv_iconst (v := iI (-1)) zx zb dX4_isOpenField_1 rfl ?_
  refine i_ceq (a := fOf c) (b := -1) (tgt := 20) zC dX4_isOpenField_2 (by decide) (by omega) (fun c_1 => ?_) (fun c_1 => ?_)
  · skip
    refine lv_iconst (v := iI (0)) zx zb dX4_isOpenField_20 rfl ?_
    exact r_zret (b := false) zC zQ zr zk h dX4_isOpenField_21 rfl (u := ()) (by rw [show opn mk c = false from by simp_all [opn]]; rfl) (List.Perm.refl _) trivial (Nat.le_of_ble_eq_true rfl) (Nat.le_of_ble_eq_true rfl)
  · skip
    refine lv_aload_n zx zb dX4_isOpenField_5 rfl (lv_at hl 0 rfl) ?_
    refine gf4_18 (v := .int (iI (bZ mk))) zC h 0 rfl rfl dX4_isOpenField_6 ?_
    refine lv_iload_n zx zb dX4_isOpenField_9 rfl (lv_at hl 1 rfl) ?_
    refine lv_ishr zx zb dX4_isOpenField_10 ?_
    refine lv_iconst (v := iI (1)) zx zb dX4_isOpenField_11 rfl ?_
    refine lv_iand zx zb dX4_isOpenField_12 ?_
    rw [show fOf c = (((fOf c).toNat : Nat) : Int) from by omega, bZ_tst (f := mk) (show (fOf c).toNat < 32 by omega)]
    refine b_zne (b := mk (fOf c).toNat) (tgt := 20) zC dX4_isOpenField_13 (by decide) (fun c_2 => ?_) (fun c_2 => ?_)
    · skip
      refine lv_iconst (v := iI (0)) zx zb dX4_isOpenField_20 rfl ?_
      exact r_zret (b := false) zC zQ zr zk h dX4_isOpenField_21 rfl (u := ()) (by rw [show opn mk c = false from by simp_all [opn]]; rfl) (List.Perm.refl _) trivial (Nat.le_of_ble_eq_true rfl) (Nat.le_of_ble_eq_true rfl)
    · skip
      refine lv_iconst (v := iI (1)) zx zb dX4_isOpenField_16 rfl ?_
      refine lv_goto (tgt := 21) zx zb dX4_isOpenField_17 (by decide) ?_
      exact r_zret (b := true) zC zQ zr zk h dX4_isOpenField_21 rfl (u := ()) (by rw [show opn mk c = true from by simp_all [opn]]; rfl) (List.Perm.refl _) trivial (Nat.le_of_ble_eq_true rfl) (Nat.le_of_ble_eq_true rfl)

set_option maxHeartbeats 4000000 in
set_option maxRecDepth 100000 in
theorem c_X4_takesTurn (l : Launch) (D : va_G) (g : Nat → ClassId) (a q : Nat → Nat) (mk : Nat → Bool) (r : RS) (aw : Nat) (h1 : R32 r.ne) (hs : r.sc < 200) : Ct (S := Bool × RS) l D g yX4_takesTurn cX4_takesTurn 1 (some .boolean) rmX4_takesTurn [.ref (a 0)] (wRd g a q mk r aw) (fun u => some (.int (bI u.1))) (fun u => u = rTurn r) (fun u => wRd g a q mk u.2 aw) := by
  obtain ⟨st, ne, tu, nu, fg, rl, fd, op, TB, ST, TF, TR, TN, sc, tc, fl, tl, tf⟩ := r
  try dsimp only [RS.st, RS.ne, RS.tu, RS.nu, RS.fg, RS.rl, RS.fd, RS.op, RS.TB, RS.sc, RS.tc, RS.tl, RS.tf] at *
  refine Ct.of RX4 rfl (by decide +kernel) [(0, .ref (a 0))] rfl (Nat.le_of_ble_eq_true rfl) ?_
  intro pg evn sT mI bl mtd cd aA ls ar qQ zC zr zk zi zQ h hl
  have zx := zC.1
  have zb := zC.2.1
  have h : Hx D g sT aA sT.heap ([(a 0, .inr (4, [.ref (q 0), .int (iI (bZ mk)), .int (iI st), .int (iI (fd : Int)), .int (iI rl), .int (iI nu), .int (iI fg), .int (iI ne), .int (iI tu), .ref (a 1), .int (iI (op : Int))])), (a 1, cI g 20 TB), (q 0, .inr (3, [.ref (q 1), .ref (q 2), .ref (q 3), .ref (q 4), .int (iI (sc : Int)), .int (iI (tc : Int)), .int (iI (bZ fl)), .int (iI (tl : Int)), .int (iI (tf : Int)), .int (iI (aw : Int))])), (q 1, cI g 200 ST), (q 2, cI g 40 TF), (q 3, cC g 40 TR), (q 4, cI g 40 TN)]) sT.heap [] := h
  skip
  refine lv_aload_n zx zb dX4_takesTurn_0 rfl (lv_at hl 0 rfl) ?_
  refine gf4_38 (v := .int (iI ne)) zC h 0 rfl rfl dX4_takesTurn_1 ?_
  refine lv_bipush (v := iI (20)) zx zb dX4_takesTurn_4 rfl ?_
  refine i_clt (a := ne) (b := 20) (tgt := 11) zC dX4_takesTurn_6 (by decide) (by omega) (fun c_1 => ?_) (fun c_1 => ?_)
  · skip
    refine lv_aload_n zx zb dX4_takesTurn_11 rfl (lv_at hl 0 rfl) ?_
    refine lv_dup zx zb dX4_takesTurn_12 rfl ?_
    refine gf4_38 (v := .int (iI ne)) zC h 0 rfl rfl dX4_takesTurn_13 ?_
    refine lv_iconst (v := iI (1)) zx zb dX4_takesTurn_16 rfl ?_
    refine i_add zC (a := ne) (b := 1) dX4_takesTurn_17 ?_
    refine pf4_38 (x := iI (ne + 1)) zC h 0 (ws' := [(a 0, .inr (4, [.ref (q 0), .int (iI (bZ mk)), .int (iI st), .int (iI (fd : Int)), .int (iI rl), .int (iI nu), .int (iI fg), .int (iI (ne + 1)), .int (iI tu), .ref (a 1), .int (iI (op : Int))])), (a 1, cI g 20 TB), (q 0, .inr (3, [.ref (q 1), .ref (q 2), .ref (q 3), .ref (q 4), .int (iI (sc : Int)), .int (iI (tc : Int)), .int (iI (bZ fl)), .int (iI (tl : Int)), .int (iI (tf : Int)), .int (iI (aw : Int))])), (q 1, cI g 200 ST), (q 2, cI g 40 TF), (q 3, cC g 40 TR), (q 4, cI g 40 TN)]) rfl rfl (Nat.le_of_ble_eq_true rfl) dX4_takesTurn_18 (fun H locs h => ?_)
    refine lv_aload_n zx zb dX4_takesTurn_21 rfl (lv_at hl 0 rfl) ?_
    refine lv_dup zx zb dX4_takesTurn_22 rfl ?_
    refine gf4_41 (v := .int (iI tu)) zC h 0 rfl rfl dX4_takesTurn_23 ?_
    refine lv_iconst (v := iI (1)) zx zb dX4_takesTurn_26 rfl ?_
    refine i_add zC (a := tu) (b := 1) dX4_takesTurn_27 ?_
    refine pf4_41 (x := iI (tu + 1)) zC h 0 (ws' := [(a 0, .inr (4, [.ref (q 0), .int (iI (bZ mk)), .int (iI st), .int (iI (fd : Int)), .int (iI rl), .int (iI nu), .int (iI fg), .int (iI (ne + 1)), .int (iI (tu + 1)), .ref (a 1), .int (iI (op : Int))])), (a 1, cI g 20 TB), (q 0, .inr (3, [.ref (q 1), .ref (q 2), .ref (q 3), .ref (q 4), .int (iI (sc : Int)), .int (iI (tc : Int)), .int (iI (bZ fl)), .int (iI (tl : Int)), .int (iI (tf : Int)), .int (iI (aw : Int))])), (q 1, cI g 200 ST), (q 2, cI g 40 TF), (q 3, cC g 40 TR), (q 4, cI g 40 TN)]) rfl rfl (Nat.le_of_ble_eq_true rfl) dX4_takesTurn_28 (fun H locs h => ?_)
    refine lv_aload_n zx zb dX4_takesTurn_31 rfl (lv_at hl 0 rfl) ?_
    refine gf4_12 (v := .ref (q 0)) zC h 0 rfl rfl dX4_takesTurn_32 ?_
    refine lv_iconst (v := iI (1)) zx zb dX4_takesTurn_35 rfl ?_
    refine r_invV (As := [.int (iI 1)]) (rest := []) (wr := [(a 0, .inr (4, [.ref (q 0), .int (iI (bZ mk)), .int (iI st), .int (iI (fd : Int)), .int (iI rl), .int (iI nu), .int (iI fg), .int (iI (ne + 1)), .int (iI (tu + 1)), .ref (a 1), .int (iI (op : Int))])), (a 1, cI g 20 TB)]) (ws2 := fun u_2 => [(a 0, .inr (4, [.ref (q 0), .int (iI (bZ mk)), .int (iI st), .int (iI (fd : Int)), .int (iI rl), .int (iI nu), .int (iI fg), .int (iI (ne + 1)), .int (iI (tu + 1)), .ref (a 1), .int (iI (op : Int))])), (a 1, cI g 20 TB), (q 0, .inr (3, [.ref (q 1), .ref (q 2), .ref (q 3), .ref (q 4), .int (iI ((sc + 1 : Nat) : Int)), .int (iI (tc : Int)), .int (iI (bZ fl)), .int (iI (tl : Int)), .int (iI (tf : Int)), .int (iI (aw : Int))])), (q 1, cI g 200 (up ST sc 1)), (q 2, cI g 40 TF), (q 3, cC g 40 TR), (q 4, cI g 40 TN)]) 0 0 zC h hl.1 (c_X3_addStep l D g q ST TF TR TN sc tc fl tl tf aw 1 (by omega)) (cs4_96 zC ⟨(Nat.le_of_ble_eq_true rfl), (Nat.le_of_ble_eq_true rfl)⟩) (.tail _ (.tail _ (.head _))) rfl rfl rfl (Nat.le_of_ble_eq_true rfl) (pm fun cp_q => by simp only [cp_o, List.countP_append, List.countP_nil, wQ] <;> omega) (fun u => (pm fun cp_q => by simp only [cp_o, List.countP_append, List.countP_nil, wQ] <;> omega)) ⟨(Nat.le_of_ble_eq_true rfl), (Nat.le_of_ble_eq_true rfl)⟩ (Nat.le_of_ble_eq_true rfl) (Nat.le_of_ble_eq_true rfl) dX4_takesTurn_36 (fun u_2 H locs hu_2 hz_2 h => ?_)
    refine lv_aload_n zx zb dX4_takesTurn_39 rfl (lv_at hl 0 rfl) ?_
    refine lv_iconst (v := iI (1)) zx zb dX4_takesTurn_40 rfl ?_
    refine pf4_22 (x := iI 1) zC h 0 (ws' := [(a 0, .inr (4, [.ref (q 0), .int (iI (bZ mk)), .int (iI 1), .int (iI (fd : Int)), .int (iI rl), .int (iI nu), .int (iI fg), .int (iI (ne + 1)), .int (iI (tu + 1)), .ref (a 1), .int (iI (op : Int))])), (a 1, cI g 20 TB), (q 0, .inr (3, [.ref (q 1), .ref (q 2), .ref (q 3), .ref (q 4), .int (iI ((sc + 1 : Nat) : Int)), .int (iI (tc : Int)), .int (iI (bZ fl)), .int (iI (tl : Int)), .int (iI (tf : Int)), .int (iI (aw : Int))])), (q 1, cI g 200 (up ST sc 1)), (q 2, cI g 40 TF), (q 3, cC g 40 TR), (q 4, cI g 40 TN)]) rfl rfl (Nat.le_of_ble_eq_true rfl) dX4_takesTurn_41 (fun H locs h => ?_)
    refine lv_iconst (v := iI (1)) zx zb dX4_takesTurn_44 rfl ?_
    exact r_zret (b := true) zC zQ zr zk h dX4_takesTurn_45 rfl (u := (true, (1, ne + 1, tu + 1, nu, fg, rl, fd, op, TB, up ST sc 1, TF, TR, TN, sc + 1, tc, fl, tl, tf))) rfl (List.Perm.refl _) (by unfold rTurn; simp only []; rw [if_neg (by omega)]) (Nat.le_of_ble_eq_true rfl) (Nat.le_of_ble_eq_true rfl)
  · skip
    refine lv_iconst (v := iI (0)) zx zb dX4_takesTurn_9 rfl ?_
    exact r_zret (b := false) zC zQ zr zk h dX4_takesTurn_10 rfl (u := (false, (st, ne, tu, nu, fg, rl, fd, op, TB, ST, TF, TR, TN, sc, tc, fl, tl, tf))) rfl (List.Perm.refl _) (by unfold rTurn; simp only []; rw [if_pos (by omega)]) (Nat.le_of_ble_eq_true rfl) (Nat.le_of_ble_eq_true rfl)

set_option maxHeartbeats 4000000 in
set_option maxRecDepth 100000 in
theorem c_X4_takesOpen (l : Launch) (D : va_G) (g : Nat → ClassId) (a q : Nat → Nat) (mk : Nat → Bool) (r : RS) (aw : Nat) (h1 : R32 r.ne) (hs : r.sc < 200) (ho : r.ne < 20 → r.op < 20) : Ct (S := Bool × RS) l D g yX4_takesOpen cX4_takesOpen 1 (some .boolean) rmX4_takesOpen [.ref (a 0)] (wRd g a q mk r aw) (fun u => some (.int (bI u.1))) (fun u => u = rOpen r) (fun u => wRd g a q mk u.2 aw) := by
  obtain ⟨st, ne, tu, nu, fg, rl, fd, op, TB, ST, TF, TR, TN, sc, tc, fl, tl, tf⟩ := r
  try dsimp only [RS.st, RS.ne, RS.tu, RS.nu, RS.fg, RS.rl, RS.fd, RS.op, RS.TB, RS.sc, RS.tc, RS.tl, RS.tf] at *
  refine Ct.of RX4 rfl (by decide +kernel) [(0, .ref (a 0))] rfl (Nat.le_of_ble_eq_true rfl) ?_
  intro pg evn sT mI bl mtd cd aA ls ar qQ zC zr zk zi zQ h hl
  have zx := zC.1
  have zb := zC.2.1
  have h : Hx D g sT aA sT.heap ([(a 0, .inr (4, [.ref (q 0), .int (iI (bZ mk)), .int (iI st), .int (iI (fd : Int)), .int (iI rl), .int (iI nu), .int (iI fg), .int (iI ne), .int (iI tu), .ref (a 1), .int (iI (op : Int))])), (a 1, cI g 20 TB), (q 0, .inr (3, [.ref (q 1), .ref (q 2), .ref (q 3), .ref (q 4), .int (iI (sc : Int)), .int (iI (tc : Int)), .int (iI (bZ fl)), .int (iI (tl : Int)), .int (iI (tf : Int)), .int (iI (aw : Int))])), (q 1, cI g 200 ST), (q 2, cI g 40 TF), (q 3, cC g 40 TR), (q 4, cI g 40 TN)]) sT.heap [] := h
  skip
  refine lv_aload_n zx zb dX4_takesOpen_0 rfl (lv_at hl 0 rfl) ?_
  refine gf4_38 (v := .int (iI ne)) zC h 0 rfl rfl dX4_takesOpen_1 ?_
  refine lv_bipush (v := iI (20)) zx zb dX4_takesOpen_4 rfl ?_
  refine i_cge (a := ne) (b := 20) (tgt := 28) zC dX4_takesOpen_6 (by decide) (by omega) (fun c_1 => ?_) (fun c_1 => ?_)
  · skip
    refine lv_iconst (v := iI (0)) zx zb dX4_takesOpen_28 rfl ?_
    exact r_zret (b := false) zC zQ zr zk h dX4_takesOpen_29 rfl (u := (false, (st, ne, tu, nu, fg, rl, fd, op, TB, ST, TF, TR, TN, sc, tc, fl, tl, tf))) rfl (List.Perm.refl _) (by unfold rOpen; simp only []; rw [if_pos (by omega)]) (Nat.le_of_ble_eq_true rfl) (Nat.le_of_ble_eq_true rfl)
  · skip
    refine lv_aload_n zx zb dX4_takesOpen_9 rfl (lv_at hl 0 rfl) ?_
    refine gf4_48 (v := .int (iI (op : Int))) zC h 0 rfl rfl dX4_takesOpen_10 ?_
    refine i_zlt (a := (op : Int)) (tgt := 28) zC dX4_takesOpen_13 (by decide) (by omega) (fun c_2 => absurd c_2 (by omega)) (fun c_2 => ?_)
    refine lv_aload_n zx zb dX4_takesOpen_16 rfl (lv_at hl 0 rfl) ?_
    refine gf4_48 (v := .int (iI (op : Int))) zC h 0 rfl rfl dX4_takesOpen_17 ?_
    refine lv_aload_n zx zb dX4_takesOpen_20 rfl (lv_at hl 0 rfl) ?_
    refine gf4_44 (v := .ref (a 1)) zC h 0 rfl rfl dX4_takesOpen_21 ?_
    refine a_len zC h 1 0 rfl rfl (20) rfl dX4_takesOpen_24 ?_
    refine i_clt (a := (op : Int)) (b := 20) (tgt := 30) zC dX4_takesOpen_25 (by decide) (by omega) (fun c_3 => ?_) (fun c_3 => absurd c_3 (by omega))
    refine lv_aload_n zx zb dX4_takesOpen_30 rfl (lv_at hl 0 rfl) ?_
    refine gf4_44 (v := .ref (a 1)) zC h 0 rfl rfl dX4_takesOpen_31 ?_
    refine lv_aload_n zx zb dX4_takesOpen_34 rfl (lv_at hl 0 rfl) ?_
    refine gf4_48 (v := .int (iI (op : Int))) zC h 0 rfl rfl dX4_takesOpen_35 ?_
    refine lv_aload_n zx zb dX4_takesOpen_38 rfl (lv_at hl 0 rfl) ?_
    refine gf4_41 (v := .int (iI tu)) zC h 0 rfl rfl dX4_takesOpen_39 ?_
    refine a_ist (x := tu) zC h 1 (ws' := [(a 0, .inr (4, [.ref (q 0), .int (iI (bZ mk)), .int (iI st), .int (iI (fd : Int)), .int (iI rl), .int (iI nu), .int (iI fg), .int (iI ne), .int (iI tu), .ref (a 1), .int (iI (op : Int))])), (a 1, cI g 20 (up TB op tu)), (q 0, .inr (3, [.ref (q 1), .ref (q 2), .ref (q 3), .ref (q 4), .int (iI (sc : Int)), .int (iI (tc : Int)), .int (iI (bZ fl)), .int (iI (tl : Int)), .int (iI (tf : Int)), .int (iI (aw : Int))])), (q 1, cI g 200 ST), (q 2, cI g 40 TF), (q 3, cC g 40 TR), (q 4, cI g 40 TN)]) rfl (z := (op : Int)) op rfl (by omega) (by omega) (by decide) dX4_takesOpen_42 (fun H locs h => ?_)
    refine lv_aload_n zx zb dX4_takesOpen_43 rfl (lv_at hl 0 rfl) ?_
    refine lv_dup zx zb dX4_takesOpen_44 rfl ?_
    refine gf4_48 (v := .int (iI (op : Int))) zC h 0 rfl rfl dX4_takesOpen_45 ?_
    refine lv_iconst (v := iI (1)) zx zb dX4_takesOpen_48 rfl ?_
    refine i_add zC (a := (op : Int)) (b := 1) dX4_takesOpen_49 ?_
    refine pf4_48 (x := iI ((op : Int) + 1)) zC h 0 (ws' := [(a 0, .inr (4, [.ref (q 0), .int (iI (bZ mk)), .int (iI st), .int (iI (fd : Int)), .int (iI rl), .int (iI nu), .int (iI fg), .int (iI ne), .int (iI tu), .ref (a 1), .int (iI ((op : Int) + 1))])), (a 1, cI g 20 (up TB op tu)), (q 0, .inr (3, [.ref (q 1), .ref (q 2), .ref (q 3), .ref (q 4), .int (iI (sc : Int)), .int (iI (tc : Int)), .int (iI (bZ fl)), .int (iI (tl : Int)), .int (iI (tf : Int)), .int (iI (aw : Int))])), (q 1, cI g 200 ST), (q 2, cI g 40 TF), (q 3, cC g 40 TR), (q 4, cI g 40 TN)]) rfl rfl (Nat.le_of_ble_eq_true rfl) dX4_takesOpen_50 (fun H locs h => ?_)
    refine lv_aload_n zx zb dX4_takesOpen_53 rfl (lv_at hl 0 rfl) ?_
    refine lv_dup zx zb dX4_takesOpen_54 rfl ?_
    refine gf4_38 (v := .int (iI ne)) zC h 0 rfl rfl dX4_takesOpen_55 ?_
    refine lv_iconst (v := iI (1)) zx zb dX4_takesOpen_58 rfl ?_
    refine i_add zC (a := ne) (b := 1) dX4_takesOpen_59 ?_
    refine pf4_38 (x := iI (ne + 1)) zC h 0 (ws' := [(a 0, .inr (4, [.ref (q 0), .int (iI (bZ mk)), .int (iI st), .int (iI (fd : Int)), .int (iI rl), .int (iI nu), .int (iI fg), .int (iI (ne + 1)), .int (iI tu), .ref (a 1), .int (iI ((op : Int) + 1))])), (a 1, cI g 20 (up TB op tu)), (q 0, .inr (3, [.ref (q 1), .ref (q 2), .ref (q 3), .ref (q 4), .int (iI (sc : Int)), .int (iI (tc : Int)), .int (iI (bZ fl)), .int (iI (tl : Int)), .int (iI (tf : Int)), .int (iI (aw : Int))])), (q 1, cI g 200 ST), (q 2, cI g 40 TF), (q 3, cC g 40 TR), (q 4, cI g 40 TN)]) rfl rfl (Nat.le_of_ble_eq_true rfl) dX4_takesOpen_60 (fun H locs h => ?_)
    refine lv_aload_n zx zb dX4_takesOpen_63 rfl (lv_at hl 0 rfl) ?_
    refine lv_iconst (v := iI (0)) zx zb dX4_takesOpen_64 rfl ?_
    refine pf4_41 (x := iI 0) zC h 0 (ws' := [(a 0, .inr (4, [.ref (q 0), .int (iI (bZ mk)), .int (iI st), .int (iI (fd : Int)), .int (iI rl), .int (iI nu), .int (iI fg), .int (iI (ne + 1)), .int (iI 0), .ref (a 1), .int (iI ((op : Int) + 1))])), (a 1, cI g 20 (up TB op tu)), (q 0, .inr (3, [.ref (q 1), .ref (q 2), .ref (q 3), .ref (q 4), .int (iI (sc : Int)), .int (iI (tc : Int)), .int (iI (bZ fl)), .int (iI (tl : Int)), .int (iI (tf : Int)), .int (iI (aw : Int))])), (q 1, cI g 200 ST), (q 2, cI g 40 TF), (q 3, cC g 40 TR), (q 4, cI g 40 TN)]) rfl rfl (Nat.le_of_ble_eq_true rfl) dX4_takesOpen_65 (fun H locs h => ?_)
    refine lv_aload_n zx zb dX4_takesOpen_68 rfl (lv_at hl 0 rfl) ?_
    refine gf4_12 (v := .ref (q 0)) zC h 0 rfl rfl dX4_takesOpen_69 ?_
    refine lv_iconst (v := iI (2)) zx zb dX4_takesOpen_72 rfl ?_
    refine r_invV (As := [.int (iI 2)]) (rest := []) (wr := [(a 0, .inr (4, [.ref (q 0), .int (iI (bZ mk)), .int (iI st), .int (iI (fd : Int)), .int (iI rl), .int (iI nu), .int (iI fg), .int (iI (ne + 1)), .int (iI 0), .ref (a 1), .int (iI ((op : Int) + 1))])), (a 1, cI g 20 (up TB op tu))]) (ws2 := fun u_4 => [(a 0, .inr (4, [.ref (q 0), .int (iI (bZ mk)), .int (iI st), .int (iI (fd : Int)), .int (iI rl), .int (iI nu), .int (iI fg), .int (iI (ne + 1)), .int (iI 0), .ref (a 1), .int (iI ((op : Int) + 1))])), (a 1, cI g 20 (up TB op tu)), (q 0, .inr (3, [.ref (q 1), .ref (q 2), .ref (q 3), .ref (q 4), .int (iI ((sc + 1 : Nat) : Int)), .int (iI (tc : Int)), .int (iI (bZ fl)), .int (iI (tl : Int)), .int (iI (tf : Int)), .int (iI (aw : Int))])), (q 1, cI g 200 (up ST sc 2)), (q 2, cI g 40 TF), (q 3, cC g 40 TR), (q 4, cI g 40 TN)]) 0 0 zC h hl.1 (c_X3_addStep l D g q ST TF TR TN sc tc fl tl tf aw 2 (by omega)) (cs4_96 zC ⟨(Nat.le_of_ble_eq_true rfl), (Nat.le_of_ble_eq_true rfl)⟩) (.tail _ (.tail _ (.head _))) rfl rfl rfl (Nat.le_of_ble_eq_true rfl) (pm fun cp_q => by simp only [cp_o, List.countP_append, List.countP_nil, wQ] <;> omega) (fun u => (pm fun cp_q => by simp only [cp_o, List.countP_append, List.countP_nil, wQ] <;> omega)) ⟨(Nat.le_of_ble_eq_true rfl), (Nat.le_of_ble_eq_true rfl)⟩ (Nat.le_of_ble_eq_true rfl) (Nat.le_of_ble_eq_true rfl) dX4_takesOpen_73 (fun u_4 H locs hu_4 hz_4 h => ?_)
    refine lv_aload_n zx zb dX4_takesOpen_76 rfl (lv_at hl 0 rfl) ?_
    refine lv_iconst (v := iI (1)) zx zb dX4_takesOpen_77 rfl ?_
    refine pf4_22 (x := iI 1) zC h 0 (ws' := [(a 0, .inr (4, [.ref (q 0), .int (iI (bZ mk)), .int (iI 1), .int (iI (fd : Int)), .int (iI rl), .int (iI nu), .int (iI fg), .int (iI (ne + 1)), .int (iI 0), .ref (a 1), .int (iI ((op : Int) + 1))])), (a 1, cI g 20 (up TB op tu)), (q 0, .inr (3, [.ref (q 1), .ref (q 2), .ref (q 3), .ref (q 4), .int (iI ((sc + 1 : Nat) : Int)), .int (iI (tc : Int)), .int (iI (bZ fl)), .int (iI (tl : Int)), .int (iI (tf : Int)), .int (iI (aw : Int))])), (q 1, cI g 200 (up ST sc 2)), (q 2, cI g 40 TF), (q 3, cC g 40 TR), (q 4, cI g 40 TN)]) rfl rfl (Nat.le_of_ble_eq_true rfl) dX4_takesOpen_78 (fun H locs h => ?_)
    refine lv_iconst (v := iI (1)) zx zb dX4_takesOpen_81 rfl ?_
    exact r_zret (b := true) zC zQ zr zk h dX4_takesOpen_82 rfl (u := (true, (1, ne + 1, 0, nu, fg, rl, fd, op + 1, up TB op tu, up ST sc 2, TF, TR, TN, sc + 1, tc, fl, tl, tf))) rfl (List.Perm.refl _) (by unfold rOpen; simp only []; rw [if_neg (by omega)]) (Nat.le_of_ble_eq_true rfl) (Nat.le_of_ble_eq_true rfl)

set_option maxHeartbeats 4000000 in
set_option maxRecDepth 100000 in
theorem c_X4_endTest (l : Launch) (D : va_G) (g : Nat → ClassId) (a q : Nat → Nat) (mk : Nat → Bool) (r : RS) (aw : Nat) : Ct (S := Unit) l D g yX4_endTest cX4_endTest 1 none rmX4_endTest [.ref (a 0)] (wRd g a q mk r aw) (fun u => none) (fun _ => True) (fun u => wRd g a q mk (rEndTest r) aw) := by
  obtain ⟨st, ne, tu, nu, fg, rl, fd, op, TB, ST, TF, TR, TN, sc, tc, fl, tl, tf⟩ := r
  try dsimp only [RS.st, RS.ne, RS.tu, RS.nu, RS.fg, RS.rl, RS.fd, RS.op, RS.TB, RS.sc, RS.tc, RS.tl, RS.tf] at *
  refine Ct.of RX4 rfl (by decide +kernel) [(0, .ref (a 0))] rfl (Nat.le_of_ble_eq_true rfl) ?_
  intro pg evn sT mI bl mtd cd aA ls ar qQ zC zr zk zi zQ h hl
  have zx := zC.1
  have zb := zC.2.1
  have h : Hx D g sT aA sT.heap ([(a 0, .inr (4, [.ref (q 0), .int (iI (bZ mk)), .int (iI st), .int (iI (fd : Int)), .int (iI rl), .int (iI nu), .int (iI fg), .int (iI ne), .int (iI tu), .ref (a 1), .int (iI (op : Int))])), (a 1, cI g 20 TB), (q 0, .inr (3, [.ref (q 1), .ref (q 2), .ref (q 3), .ref (q 4), .int (iI (sc : Int)), .int (iI (tc : Int)), .int (iI (bZ fl)), .int (iI (tl : Int)), .int (iI (tf : Int)), .int (iI (aw : Int))])), (q 1, cI g 200 ST), (q 2, cI g 40 TF), (q 3, cC g 40 TR), (q 4, cI g 40 TN)]) sT.heap [] := h
  skip
  refine lv_aload_n zx zb dX4_endTest_0 rfl (lv_at hl 0 rfl) ?_
  refine lv_dup zx zb dX4_endTest_1 rfl ?_
  refine gf4_38 (v := .int (iI ne)) zC h 0 rfl rfl dX4_endTest_2 ?_
  refine lv_aload_n zx zb dX4_endTest_5 rfl (lv_at hl 0 rfl) ?_
  refine gf4_41 (v := .int (iI tu)) zC h 0 rfl rfl dX4_endTest_6 ?_
  refine i_sub zC (a := ne) (b := tu) dX4_endTest_9 ?_
  refine pf4_38 (x := iI (ne - tu)) zC h 0 (ws' := [(a 0, .inr (4, [.ref (q 0), .int (iI (bZ mk)), .int (iI st), .int (iI (fd : Int)), .int (iI rl), .int (iI nu), .int (iI fg), .int (iI (ne - tu)), .int (iI tu), .ref (a 1), .int (iI (op : Int))])), (a 1, cI g 20 TB), (q 0, .inr (3, [.ref (q 1), .ref (q 2), .ref (q 3), .ref (q 4), .int (iI (sc : Int)), .int (iI (tc : Int)), .int (iI (bZ fl)), .int (iI (tl : Int)), .int (iI (tf : Int)), .int (iI (aw : Int))])), (q 1, cI g 200 ST), (q 2, cI g 40 TF), (q 3, cC g 40 TR), (q 4, cI g 40 TN)]) rfl rfl (Nat.le_of_ble_eq_true rfl) dX4_endTest_10 (fun H locs h => ?_)
  refine lv_aload_n zx zb dX4_endTest_13 rfl (lv_at hl 0 rfl) ?_
  refine lv_iconst (v := iI (0)) zx zb dX4_endTest_14 rfl ?_
  refine pf4_41 (x := iI 0) zC h 0 (ws' := [(a 0, .inr (4, [.ref (q 0), .int (iI (bZ mk)), .int (iI st), .int (iI (fd : Int)), .int (iI rl), .int (iI nu), .int (iI fg), .int (iI (ne - tu)), .int (iI 0), .ref (a 1), .int (iI (op : Int))])), (a 1, cI g 20 TB), (q 0, .inr (3, [.ref (q 1), .ref (q 2), .ref (q 3), .ref (q 4), .int (iI (sc : Int)), .int (iI (tc : Int)), .int (iI (bZ fl)), .int (iI (tl : Int)), .int (iI (tf : Int)), .int (iI (aw : Int))])), (q 1, cI g 200 ST), (q 2, cI g 40 TF), (q 3, cC g 40 TR), (q 4, cI g 40 TN)]) rfl rfl (Nat.le_of_ble_eq_true rfl) dX4_endTest_15 (fun H locs h => ?_)
  refine lv_aload_n zx zb dX4_endTest_18 rfl (lv_at hl 0 rfl) ?_
  refine lv_iconst (v := iI (5)) zx zb dX4_endTest_19 rfl ?_
  refine pf4_22 (x := iI 5) zC h 0 (ws' := [(a 0, .inr (4, [.ref (q 0), .int (iI (bZ mk)), .int (iI 5), .int (iI (fd : Int)), .int (iI rl), .int (iI nu), .int (iI fg), .int (iI (ne - tu)), .int (iI 0), .ref (a 1), .int (iI (op : Int))])), (a 1, cI g 20 TB), (q 0, .inr (3, [.ref (q 1), .ref (q 2), .ref (q 3), .ref (q 4), .int (iI (sc : Int)), .int (iI (tc : Int)), .int (iI (bZ fl)), .int (iI (tl : Int)), .int (iI (tf : Int)), .int (iI (aw : Int))])), (q 1, cI g 200 ST), (q 2, cI g 40 TF), (q 3, cC g 40 TR), (q 4, cI g 40 TN)]) rfl rfl (Nat.le_of_ble_eq_true rfl) dX4_endTest_20 (fun H locs h => ?_)
  exact r_vret zC zQ zr zk h dX4_endTest_23 (u := ()) rfl (List.Perm.refl _) trivial (Nat.le_of_ble_eq_true rfl) (Nat.le_of_ble_eq_true rfl)

set_option maxHeartbeats 4000000 in
set_option maxRecDepth 100000 in
theorem c_X4_takesClose (l : Launch) (D : va_G) (g : Nat → ClassId) (a q : Nat → Nat) (mk : Nat → Bool) (r : RS) (aw : Nat) (h1 : R32 r.ne) (hs : r.sc < 200) (ho : r.op ≤ 20) : Ct (S := Bool × RS) l D g yX4_takesClose cX4_takesClose 1 (some .boolean) rmX4_takesClose [.ref (a 0)] (wRd g a q mk r aw) (fun u => some (.int (bI u.1))) (fun u => u = rClose r) (fun u => wRd g a q mk u.2 aw) := by
  obtain ⟨st, ne, tu, nu, fg, rl, fd, op, TB, ST, TF, TR, TN, sc, tc, fl, tl, tf⟩ := r
  try dsimp only [RS.st, RS.ne, RS.tu, RS.nu, RS.fg, RS.rl, RS.fd, RS.op, RS.TB, RS.sc, RS.tc, RS.tl, RS.tf] at *
  refine Ct.of RX4 rfl (by decide +kernel) [(0, .ref (a 0))] rfl (Nat.le_of_ble_eq_true rfl) ?_
  intro pg evn sT mI bl mtd cd aA ls ar qQ zC zr zk zi zQ h hl
  have zx := zC.1
  have zb := zC.2.1
  have h : Hx D g sT aA sT.heap ([(a 0, .inr (4, [.ref (q 0), .int (iI (bZ mk)), .int (iI st), .int (iI (fd : Int)), .int (iI rl), .int (iI nu), .int (iI fg), .int (iI ne), .int (iI tu), .ref (a 1), .int (iI (op : Int))])), (a 1, cI g 20 TB), (q 0, .inr (3, [.ref (q 1), .ref (q 2), .ref (q 3), .ref (q 4), .int (iI (sc : Int)), .int (iI (tc : Int)), .int (iI (bZ fl)), .int (iI (tl : Int)), .int (iI (tf : Int)), .int (iI (aw : Int))])), (q 1, cI g 200 ST), (q 2, cI g 40 TF), (q 3, cC g 40 TR), (q 4, cI g 40 TN)]) sT.heap [] := h
  skip
  refine lv_aload_n zx zb dX4_takesClose_0 rfl (lv_at hl 0 rfl) ?_
  refine gf4_48 (v := .int (iI (op : Int))) zC h 0 rfl rfl dX4_takesClose_1 ?_
  refine lv_iconst (v := iI (1)) zx zb dX4_takesClose_4 rfl ?_
  refine i_clt (a := (op : Int)) (b := 1) (tgt := 20) zC dX4_takesClose_5 (by decide) (by omega) (fun c_1 => ?_) (fun c_1 => ?_)
  · skip
    refine lv_iconst (v := iI (0)) zx zb dX4_takesClose_20 rfl ?_
    exact r_zret (b := false) zC zQ zr zk h dX4_takesClose_21 rfl (u := (false, (st, ne, tu, nu, fg, rl, fd, op, TB, ST, TF, TR, TN, sc, tc, fl, tl, tf))) rfl (List.Perm.refl _) (by unfold rClose; simp only []; rw [if_pos (by omega)]) (Nat.le_of_ble_eq_true rfl) (Nat.le_of_ble_eq_true rfl)
  · skip
    refine lv_aload_n zx zb dX4_takesClose_8 rfl (lv_at hl 0 rfl) ?_
    refine gf4_48 (v := .int (iI (op : Int))) zC h 0 rfl rfl dX4_takesClose_9 ?_
    refine lv_aload_n zx zb dX4_takesClose_12 rfl (lv_at hl 0 rfl) ?_
    refine gf4_44 (v := .ref (a 1)) zC h 0 rfl rfl dX4_takesClose_13 ?_
    refine a_len zC h 1 0 rfl rfl (20) rfl dX4_takesClose_16 ?_
    refine i_cle (a := (op : Int)) (b := 20) (tgt := 22) zC dX4_takesClose_17 (by decide) (by omega) (fun c_2 => ?_) (fun c_2 => absurd c_2 (by omega))
    refine lv_aload_n zx zb dX4_takesClose_22 rfl (lv_at hl 0 rfl) ?_
    refine lv_dup zx zb dX4_takesClose_23 rfl ?_
    refine gf4_48 (v := .int (iI (op : Int))) zC h 0 rfl rfl dX4_takesClose_24 ?_
    refine lv_iconst (v := iI (1)) zx zb dX4_takesClose_27 rfl ?_
    refine i_sub zC (a := (op : Int)) (b := 1) dX4_takesClose_28 ?_
    rw [show ((op : Int) - 1 : Int) = ((op - 1 : Nat) : Int) from (by omega)]
    refine pf4_48 (x := iI ((op - 1 : Nat) : Int)) zC h 0 (ws' := [(a 0, .inr (4, [.ref (q 0), .int (iI (bZ mk)), .int (iI st), .int (iI (fd : Int)), .int (iI rl), .int (iI nu), .int (iI fg), .int (iI ne), .int (iI tu), .ref (a 1), .int (iI ((op - 1 : Nat) : Int))])), (a 1, cI g 20 TB), (q 0, .inr (3, [.ref (q 1), .ref (q 2), .ref (q 3), .ref (q 4), .int (iI (sc : Int)), .int (iI (tc : Int)), .int (iI (bZ fl)), .int (iI (tl : Int)), .int (iI (tf : Int)), .int (iI (aw : Int))])), (q 1, cI g 200 ST), (q 2, cI g 40 TF), (q 3, cC g 40 TR), (q 4, cI g 40 TN)]) rfl rfl (Nat.le_of_ble_eq_true rfl) dX4_takesClose_29 (fun H locs h => ?_)
    refine lv_aload_n zx zb dX4_takesClose_32 rfl (lv_at hl 0 rfl) ?_
    refine lv_dup zx zb dX4_takesClose_33 rfl ?_
    refine gf4_38 (v := .int (iI ne)) zC h 0 rfl rfl dX4_takesClose_34 ?_
    refine lv_iconst (v := iI (1)) zx zb dX4_takesClose_37 rfl ?_
    refine i_sub zC (a := ne) (b := 1) dX4_takesClose_38 ?_
    refine pf4_38 (x := iI (ne - 1)) zC h 0 (ws' := [(a 0, .inr (4, [.ref (q 0), .int (iI (bZ mk)), .int (iI st), .int (iI (fd : Int)), .int (iI rl), .int (iI nu), .int (iI fg), .int (iI (ne - 1)), .int (iI tu), .ref (a 1), .int (iI ((op - 1 : Nat) : Int))])), (a 1, cI g 20 TB), (q 0, .inr (3, [.ref (q 1), .ref (q 2), .ref (q 3), .ref (q 4), .int (iI (sc : Int)), .int (iI (tc : Int)), .int (iI (bZ fl)), .int (iI (tl : Int)), .int (iI (tf : Int)), .int (iI (aw : Int))])), (q 1, cI g 200 ST), (q 2, cI g 40 TF), (q 3, cC g 40 TR), (q 4, cI g 40 TN)]) rfl rfl (Nat.le_of_ble_eq_true rfl) dX4_takesClose_39 (fun H locs h => ?_)
    refine lv_aload_n zx zb dX4_takesClose_42 rfl (lv_at hl 0 rfl) ?_
    refine lv_aload_n zx zb dX4_takesClose_43 rfl (lv_at hl 0 rfl) ?_
    refine gf4_44 (v := .ref (a 1)) zC h 0 rfl rfl dX4_takesClose_44 ?_
    refine lv_aload_n zx zb dX4_takesClose_47 rfl (lv_at hl 0 rfl) ?_
    refine gf4_48 (v := .int (iI ((op - 1 : Nat) : Int))) zC h 0 rfl rfl dX4_takesClose_48 ?_
    refine a_ild zC h 1 rfl (z := ((op - 1 : Nat) : Int)) (op - 1) (by omega) (by omega) (by decide) dX4_takesClose_51 ?_
    refine pf4_41 (x := iI (TB (op - 1))) zC h 0 (ws' := [(a 0, .inr (4, [.ref (q 0), .int (iI (bZ mk)), .int (iI st), .int (iI (fd : Int)), .int (iI rl), .int (iI nu), .int (iI fg), .int (iI (ne - 1)), .int (iI (TB (op - 1))), .ref (a 1), .int (iI ((op - 1 : Nat) : Int))])), (a 1, cI g 20 TB), (q 0, .inr (3, [.ref (q 1), .ref (q 2), .ref (q 3), .ref (q 4), .int (iI (sc : Int)), .int (iI (tc : Int)), .int (iI (bZ fl)), .int (iI (tl : Int)), .int (iI (tf : Int)), .int (iI (aw : Int))])), (q 1, cI g 200 ST), (q 2, cI g 40 TF), (q 3, cC g 40 TR), (q 4, cI g 40 TN)]) rfl rfl (Nat.le_of_ble_eq_true rfl) dX4_takesClose_52 (fun H locs h => ?_)
    refine lv_aload_n zx zb dX4_takesClose_55 rfl (lv_at hl 0 rfl) ?_
    refine gf4_12 (v := .ref (q 0)) zC h 0 rfl rfl dX4_takesClose_56 ?_
    refine lv_iconst (v := iI (3)) zx zb dX4_takesClose_59 rfl ?_
    refine r_invV (As := [.int (iI 3)]) (rest := []) (wr := [(a 0, .inr (4, [.ref (q 0), .int (iI (bZ mk)), .int (iI st), .int (iI (fd : Int)), .int (iI rl), .int (iI nu), .int (iI fg), .int (iI (ne - 1)), .int (iI (TB (op - 1))), .ref (a 1), .int (iI ((op - 1 : Nat) : Int))])), (a 1, cI g 20 TB)]) (ws2 := fun u_3 => [(a 0, .inr (4, [.ref (q 0), .int (iI (bZ mk)), .int (iI st), .int (iI (fd : Int)), .int (iI rl), .int (iI nu), .int (iI fg), .int (iI (ne - 1)), .int (iI (TB (op - 1))), .ref (a 1), .int (iI ((op - 1 : Nat) : Int))])), (a 1, cI g 20 TB), (q 0, .inr (3, [.ref (q 1), .ref (q 2), .ref (q 3), .ref (q 4), .int (iI ((sc + 1 : Nat) : Int)), .int (iI (tc : Int)), .int (iI (bZ fl)), .int (iI (tl : Int)), .int (iI (tf : Int)), .int (iI (aw : Int))])), (q 1, cI g 200 (up ST sc 3)), (q 2, cI g 40 TF), (q 3, cC g 40 TR), (q 4, cI g 40 TN)]) 0 0 zC h hl.1 (c_X3_addStep l D g q ST TF TR TN sc tc fl tl tf aw 3 (by omega)) (cs4_96 zC ⟨(Nat.le_of_ble_eq_true rfl), (Nat.le_of_ble_eq_true rfl)⟩) (.tail _ (.tail _ (.head _))) rfl rfl rfl (Nat.le_of_ble_eq_true rfl) (pm fun cp_q => by simp only [cp_o, List.countP_append, List.countP_nil, wQ] <;> omega) (fun u => (pm fun cp_q => by simp only [cp_o, List.countP_append, List.countP_nil, wQ] <;> omega)) ⟨(Nat.le_of_ble_eq_true rfl), (Nat.le_of_ble_eq_true rfl)⟩ (Nat.le_of_ble_eq_true rfl) (Nat.le_of_ble_eq_true rfl) dX4_takesClose_60 (fun u_3 H locs hu_3 hz_3 h => ?_)
    refine lv_aload_n zx zb dX4_takesClose_63 rfl (lv_at hl 0 rfl) ?_
    refine r_invV (As := []) (rest := []) (wr := []) (ws2 := fun u_4 => wRd g a q mk (rEndTest (st, ne - 1, TB (op - 1), nu, fg, rl, fd, op - 1, TB, up ST sc 3, TF, TR, TN, sc + 1, tc, fl, tl, tf)) aw) 0 0 zC h hl.1 (c_X4_endTest l D g a q mk (st, ne - 1, TB (op - 1), nu, fg, rl, fd, op - 1, TB, up ST sc 3, TF, TR, TN, sc + 1, tc, fl, tl, tf) aw) (cs4_99 zC ⟨(Nat.le_of_ble_eq_true rfl), (Nat.le_of_ble_eq_true rfl)⟩) (.head _) rfl rfl rfl (Nat.le_of_ble_eq_true rfl) (List.Perm.of_eq (List.append_nil _).symm) (fun u => List.Perm.of_eq (List.append_nil _)) ⟨(Nat.le_of_ble_eq_true rfl), (Nat.le_of_ble_eq_true rfl)⟩ (Nat.le_of_ble_eq_true rfl) (Nat.le_of_ble_eq_true rfl) dX4_takesClose_64 (fun u_4 H locs hu_4 hz_4 h => ?_)
    refine lv_iconst (v := iI (1)) zx zb dX4_takesClose_67 rfl ?_
    exact r_zret (b := true) zC zQ zr zk h dX4_takesClose_68 rfl (u := (true, rEndTest (st, ne - 1, TB (op - 1), nu, fg, rl, fd, op - 1, TB, up ST sc 3, TF, TR, TN, sc + 1, tc, fl, tl, tf))) rfl (List.Perm.refl _) (by unfold rClose; simp only []; rw [if_neg (by omega)]) (Nat.le_of_ble_eq_true rfl) (Nat.le_of_ble_eq_true rfl)

set_option maxHeartbeats 4000000 in
set_option maxRecDepth 100000 in
theorem c_X4_endFieldTest (l : Launch) (D : va_G) (g : Nat → ClassId) (a q : Nat → Nat) (mk : Nat → Bool) (r : RS) (aw : Nat) (hf : r.fd < 5) (hl0 : r.rl = 60 ∨ r.rl = 61 ∨ r.rl = 62) (hs : r.sc < 200) (ht : r.tc < 40) : Ct (S := Unit) l D g yX4_endFieldTest cX4_endFieldTest 1 none rmX4_endFieldTest [.ref (a 0)] (wRd g a q mk r aw) (fun u => none) (fun _ => True) (fun u => wRd g a q mk (rEndFT r) aw) := by
  obtain ⟨st, ne, tu, nu, fg, rl, fd, op, TB, ST, TF, TR, TN, sc, tc, fl, tl, tf⟩ := r
  try dsimp only [RS.st, RS.ne, RS.tu, RS.nu, RS.fg, RS.rl, RS.fd, RS.op, RS.TB, RS.sc, RS.tc, RS.tl, RS.tf] at *
  refine Ct.of RX4 rfl (by decide +kernel) [(0, .ref (a 0))] rfl (Nat.le_of_ble_eq_true rfl) ?_
  intro pg evn sT mI bl mtd cd aA ls ar qQ zC zr zk zi zQ h hl
  have zx := zC.1
  have zb := zC.2.1
  have h : Hx D g sT aA sT.heap ([(a 0, .inr (4, [.ref (q 0), .int (iI (bZ mk)), .int (iI st), .int (iI (fd : Int)), .int (iI rl), .int (iI nu), .int (iI fg), .int (iI ne), .int (iI tu), .ref (a 1), .int (iI (op : Int))])), (a 1, cI g 20 TB), (q 0, .inr (3, [.ref (q 1), .ref (q 2), .ref (q 3), .ref (q 4), .int (iI (sc : Int)), .int (iI (tc : Int)), .int (iI (bZ fl)), .int (iI (tl : Int)), .int (iI (tf : Int)), .int (iI (aw : Int))])), (q 1, cI g 200 ST), (q 2, cI g 40 TF), (q 3, cC g 40 TR), (q 4, cI g 40 TN)]) sT.heap [] := h
  skip
  have hch : vp_nar .char (iI rl) = iI rl := by rcases hl0 with e | e | e <;> rw [e] <;> decide
  refine lv_aload_n zx zb dX4_endFieldTest_0 rfl (lv_at hl 0 rfl) ?_
  refine gf4_12 (v := .ref (q 0)) zC h 0 rfl rfl dX4_endFieldTest_1 ?_
  refine lv_aload_n zx zb dX4_endFieldTest_4 rfl (lv_at hl 0 rfl) ?_
  refine gf4_25 (v := .int (iI (fd : Int))) zC h 0 rfl rfl dX4_endFieldTest_5 ?_
  refine lv_aload_n zx zb dX4_endFieldTest_8 rfl (lv_at hl 0 rfl) ?_
  refine gf4_28 (v := .int (iI rl)) zC h 0 rfl rfl dX4_endFieldTest_9 ?_
  refine lv_aload_n zx zb dX4_endFieldTest_12 rfl (lv_at hl 0 rfl) ?_
  refine gf4_32 (v := .int (iI nu)) zC h 0 rfl rfl dX4_endFieldTest_13 ?_
  refine r_invV (As := [.int (iI (fd : Int)), .int (iI rl), .int (iI nu)]) (rest := []) (wr := [(a 0, .inr (4, [.ref (q 0), .int (iI (bZ mk)), .int (iI st), .int (iI (fd : Int)), .int (iI rl), .int (iI nu), .int (iI fg), .int (iI ne), .int (iI tu), .ref (a 1), .int (iI (op : Int))])), (a 1, cI g 20 TB)]) (ws2 := fun u_1 => [(a 0, .inr (4, [.ref (q 0), .int (iI (bZ mk)), .int (iI st), .int (iI (fd : Int)), .int (iI rl), .int (iI nu), .int (iI fg), .int (iI ne), .int (iI tu), .ref (a 1), .int (iI (op : Int))])), (a 1, cI g 20 TB), (q 0, .inr (3, [.ref (q 1), .ref (q 2), .ref (q 3), .ref (q 4), .int (iI ((sc + 1 : Nat) : Int)), .int (iI ((tc + 1 : Nat) : Int)), .int (iI (bZ (bAdd1 fl fd))), .int (iI (tl : Int)), .int (iI (tf : Int)), .int (iI (aw : Int))])), (q 1, cI g 200 (up ST sc 5)), (q 2, cI g 40 (up TF tc (fd : Int))), (q 3, cC g 40 (up TR tc rl)), (q 4, cI g 40 (up TN tc nu))]) 0 0 zC h hl.1 (c_X3_addTest l D g q ST TF TR TN sc tc fl tl tf aw fd rl nu hf hch hs ht) (cs4_126 zC ⟨(Nat.le_of_ble_eq_true rfl), (Nat.le_of_ble_eq_true rfl)⟩) (.tail _ (.tail _ (.head _))) rfl rfl rfl (Nat.le_of_ble_eq_true rfl) (pm fun cp_q => by simp only [cp_o, List.countP_append, List.countP_nil, wQ] <;> omega) (fun u => (pm fun cp_q => by simp only [cp_o, List.countP_append, List.countP_nil, wQ] <;> omega)) ⟨(Nat.le_of_ble_eq_true rfl), (Nat.le_of_ble_eq_true rfl)⟩ (Nat.le_of_ble_eq_true rfl) (Nat.le_of_ble_eq_true rfl) dX4_endFieldTest_16 (fun u_1 H locs hu_1 hz_1 h => ?_)
  refine lv_aload_n zx zb dX4_endFieldTest_19 rfl (lv_at hl 0 rfl) ?_
  refine r_invV (As := []) (rest := []) (wr := []) (ws2 := fun u_2 => wRd g a q mk (rEndFT (st, ne, tu, nu, fg, rl, fd, op, TB, ST, TF, TR, TN, sc, tc, fl, tl, tf)) aw) 0 0 zC h hl.1 (c_X4_endTest l D g a q mk (st, ne, tu, nu, fg, rl, fd, op, TB, up ST sc 5, up TF tc (fd : Int), up TR tc rl, up TN tc nu, sc + 1, tc + 1, bAdd1 fl fd, tl, tf) aw) (cs4_99 zC ⟨(Nat.le_of_ble_eq_true rfl), (Nat.le_of_ble_eq_true rfl)⟩) (.head _) rfl rfl rfl (Nat.le_of_ble_eq_true rfl) (List.Perm.of_eq (List.append_nil _).symm) (fun u => List.Perm.of_eq (List.append_nil _)) ⟨(Nat.le_of_ble_eq_true rfl), (Nat.le_of_ble_eq_true rfl)⟩ (Nat.le_of_ble_eq_true rfl) (Nat.le_of_ble_eq_true rfl) dX4_endFieldTest_20 (fun u_2 H locs hu_2 hz_2 h => ?_)
  exact r_vret zC zQ zr zk h dX4_endFieldTest_23 (u := ()) rfl (List.Perm.refl _) trivial (Nat.le_of_ble_eq_true rfl) (Nat.le_of_ble_eq_true rfl)

set_option maxHeartbeats 4000000 in
set_option maxRecDepth 100000 in
theorem c_X4_takesTestField (l : Launch) (D : va_G) (g : Nat → ClassId) (a q : Nat → Nat) (mk : Nat → Bool) (r : RS) (aw : Nat) (c : Int) (hc : R32 c) (ht : r.tc < 200) : Ct (S := Bool × RS) l D g yX4_takesTestField cX4_takesTestField 3 (some .boolean) rmX4_takesTestField [.ref (a 0), .int (iI c)] (wRd g a q mk r aw) (fun u => some (.int (bI u.1))) (fun u => u = rTestField mk c r) (fun u => wRd g a q mk u.2 aw) := by
  obtain ⟨st, ne, tu, nu, fg, rl, fd, op, TB, ST, TF, TR, TN, sc, tc, fl, tl, tf⟩ := r
  try dsimp only [RS.st, RS.ne, RS.tu, RS.nu, RS.fg, RS.rl, RS.fd, RS.op, RS.TB, RS.sc, RS.tc, RS.tl, RS.tf] at *
  refine Ct.of RX4 rfl (by decide +kernel) [(0, .ref (a 0)), (1, .int (iI c))] rfl (Nat.le_of_ble_eq_true rfl) ?_
  intro pg evn sT mI bl mtd cd aA ls ar qQ zC zr zk zi zQ h hl
  have zx := zC.1
  have zb := zC.2.1
  have h : Hx D g sT aA sT.heap ([(a 0, .inr (4, [.ref (q 0), .int (iI (bZ mk)), .int (iI st), .int (iI (fd : Int)), .int (iI rl), .int (iI nu), .int (iI fg), .int (iI ne), .int (iI tu), .ref (a 1), .int (iI (op : Int))])), (a 1, cI g 20 TB), (q 0, .inr (3, [.ref (q 1), .ref (q 2), .ref (q 3), .ref (q 4), .int (iI (sc : Int)), .int (iI (tc : Int)), .int (iI (bZ fl)), .int (iI (tl : Int)), .int (iI (tf : Int)), .int (iI (aw : Int))])), (q 1, cI g 200 ST), (q 2, cI g 40 TF), (q 3, cC g 40 TR), (q 4, cI g 40 TN)]) sT.heap [] := h
  skip
  refine lv_iload_n zx zb dX4_takesTestField_0 rfl (lv_at hl 1 rfl) ?_
  refine r_invS (As := [.int (iI c)]) (rest := []) (wr := [(a 0, .inr (4, [.ref (q 0), .int (iI (bZ mk)), .int (iI st), .int (iI (fd : Int)), .int (iI rl), .int (iI nu), .int (iI fg), .int (iI ne), .int (iI tu), .ref (a 1), .int (iI (op : Int))])), (a 1, cI g 20 TB), (q 0, .inr (3, [.ref (q 1), .ref (q 2), .ref (q 3), .ref (q 4), .int (iI (sc : Int)), .int (iI (tc : Int)), .int (iI (bZ fl)), .int (iI (tl : Int)), .int (iI (tf : Int)), .int (iI (aw : Int))])), (q 1, cI g 200 ST), (q 2, cI g 40 TF), (q 3, cC g 40 TR), (q 4, cI g 40 TN)]) (ws2 := fun u_1 => [(a 0, .inr (4, [.ref (q 0), .int (iI (bZ mk)), .int (iI st), .int (iI (fd : Int)), .int (iI rl), .int (iI nu), .int (iI fg), .int (iI ne), .int (iI tu), .ref (a 1), .int (iI (op : Int))])), (a 1, cI g 20 TB), (q 0, .inr (3, [.ref (q 1), .ref (q 2), .ref (q 3), .ref (q 4), .int (iI (sc : Int)), .int (iI (tc : Int)), .int (iI (bZ fl)), .int (iI (tl : Int)), .int (iI (tf : Int)), .int (iI (aw : Int))])), (q 1, cI g 200 ST), (q 2, cI g 40 TF), (q 3, cC g 40 TR), (q 4, cI g 40 TN)]) 0 0 zC h hl.1 (c_X4_fieldOf l D g c hc) (cs4_102 zC ⟨(Nat.le_of_ble_eq_true rfl), (Nat.le_of_ble_eq_true rfl)⟩) rfl rfl (Nat.le_of_ble_eq_true rfl) (List.Perm.refl _) (fun u => List.Perm.refl _) ⟨(Nat.le_of_ble_eq_true rfl), (Nat.le_of_ble_eq_true rfl)⟩ (Nat.le_of_ble_eq_true rfl) (Nat.le_of_ble_eq_true rfl) dX4_takesTestField_1 (fun u_1 H locs hu_1 hz_1 h => ?_)
  refine lv_istore_n (lv' := [(2, .int (iI (fOf c))), (0, .ref (a 0)), (1, .int (iI c))]) zx zb dX4_takesTestField_4 rfl hl (by decide) rfl (fun ls hl => ?_)
  refine lv_aload_n zx zb dX4_takesTestField_5 rfl (lv_at hl 1 rfl) ?_
  refine lv_iload_n zx zb dX4_takesTestField_6 rfl (lv_at hl 0 rfl) ?_
  refine r_invV (As := [.int (iI (fOf c))]) (rest := []) (wr := []) (ws2 := fun u_2 => [(a 0, .inr (4, [.ref (q 0), .int (iI (bZ mk)), .int (iI st), .int (iI (fd : Int)), .int (iI rl), .int (iI nu), .int (iI fg), .int (iI ne), .int (iI tu), .ref (a 1), .int (iI (op : Int))])), (a 1, cI g 20 TB), (q 0, .inr (3, [.ref (q 1), .ref (q 2), .ref (q 3), .ref (q 4), .int (iI (sc : Int)), .int (iI (tc : Int)), .int (iI (bZ fl)), .int (iI (tl : Int)), .int (iI (tf : Int)), .int (iI (aw : Int))])), (q 1, cI g 200 ST), (q 2, cI g 40 TF), (q 3, cC g 40 TR), (q 4, cI g 40 TN)]) 0 0 zC h hl.1 (c_X4_isOpenField l D g a q mk (st, ne, tu, nu, fg, rl, fd, op, TB, ST, TF, TR, TN, sc, tc, fl, tl, tf) aw c) (cs4_106 zC ⟨(Nat.le_of_ble_eq_true rfl), (Nat.le_of_ble_eq_true rfl)⟩) (.head _) rfl rfl rfl (Nat.le_of_ble_eq_true rfl) (List.Perm.of_eq (List.append_nil _).symm) (fun u => List.Perm.of_eq (List.append_nil _)) ⟨(Nat.le_of_ble_eq_true rfl), (Nat.le_of_ble_eq_true rfl)⟩ (Nat.le_of_ble_eq_true rfl) (Nat.le_of_ble_eq_true rfl) dX4_takesTestField_7 (fun u_2 H locs hu_2 hz_2 h => ?_)
  refine b_zeq (b := opn mk c) (tgt := 25) zC dX4_takesTestField_10 (by decide) (fun c_3 => ?_) (fun c_3 => ?_)
  · skip
    refine lv_iconst (v := iI (0)) zx zb dX4_takesTestField_25 rfl ?_
    exact r_zret (b := false) zC zQ zr zk h dX4_takesTestField_26 rfl (u := (false, (st, ne, tu, nu, fg, rl, fd, op, TB, ST, TF, TR, TN, sc, tc, fl, tl, tf))) rfl (List.Perm.refl _) (by unfold rTestField; simp only []; rw [if_neg (by rintro ⟨z1, z2⟩; first | omega | (simp_all))]) (Nat.le_of_ble_eq_true rfl) (Nat.le_of_ble_eq_true rfl)
  · skip
    refine lv_aload_n zx zb dX4_takesTestField_13 rfl (lv_at hl 1 rfl) ?_
    refine gf4_12 (v := .ref (q 0)) zC h 0 rfl rfl dX4_takesTestField_14 ?_
    refine r_invV (As := []) (rest := []) (wr := [(a 0, .inr (4, [.ref (q 0), .int (iI (bZ mk)), .int (iI st), .int (iI (fd : Int)), .int (iI rl), .int (iI nu), .int (iI fg), .int (iI ne), .int (iI tu), .ref (a 1), .int (iI (op : Int))])), (a 1, cI g 20 TB)]) (ws2 := fun u_4 => [(a 0, .inr (4, [.ref (q 0), .int (iI (bZ mk)), .int (iI st), .int (iI (fd : Int)), .int (iI rl), .int (iI nu), .int (iI fg), .int (iI ne), .int (iI tu), .ref (a 1), .int (iI (op : Int))])), (a 1, cI g 20 TB), (q 0, .inr (3, [.ref (q 1), .ref (q 2), .ref (q 3), .ref (q 4), .int (iI (sc : Int)), .int (iI (tc : Int)), .int (iI (bZ fl)), .int (iI (tl : Int)), .int (iI (tf : Int)), .int (iI (aw : Int))])), (q 1, cI g 200 ST), (q 2, cI g 40 TF), (q 3, cC g 40 TR), (q 4, cI g 40 TN)]) 0 0 zC h hl.1 (c_X3_tests l D g q ST TF TR TN sc tc fl tl tf aw) (cs4_110 zC ⟨(Nat.le_of_ble_eq_true rfl), (Nat.le_of_ble_eq_true rfl)⟩) (.tail _ (.tail _ (.head _))) rfl rfl rfl (Nat.le_of_ble_eq_true rfl) (pm fun cp_q => by simp only [cp_o, List.countP_append, List.countP_nil, wQ] <;> omega) (fun u => (pm fun cp_q => by simp only [cp_o, List.countP_append, List.countP_nil, wQ] <;> omega)) ⟨(Nat.le_of_ble_eq_true rfl), (Nat.le_of_ble_eq_true rfl)⟩ (Nat.le_of_ble_eq_true rfl) (Nat.le_of_ble_eq_true rfl) dX4_takesTestField_17 (fun u_4 H locs hu_4 hz_4 h => ?_)
    refine lv_bipush (v := iI (40)) zx zb dX4_takesTestField_20 rfl ?_
    refine i_clt (a := (tc : Int)) (b := 40) (tgt := 27) zC dX4_takesTestField_22 (by decide) (by omega) (fun c_5 => ?_) (fun c_5 => ?_)
    · skip
      refine lv_aload_n zx zb dX4_takesTestField_27 rfl (lv_at hl 1 rfl) ?_
      refine lv_iload_n zx zb dX4_takesTestField_28 rfl (lv_at hl 0 rfl) ?_
      refine pf4_25 (x := iI (fOf c)) zC h 0 (ws' := [(a 0, .inr (4, [.ref (q 0), .int (iI (bZ mk)), .int (iI st), .int (iI (fOf c)), .int (iI rl), .int (iI nu), .int (iI fg), .int (iI ne), .int (iI tu), .ref (a 1), .int (iI (op : Int))])), (a 1, cI g 20 TB), (q 0, .inr (3, [.ref (q 1), .ref (q 2), .ref (q 3), .ref (q 4), .int (iI (sc : Int)), .int (iI (tc : Int)), .int (iI (bZ fl)), .int (iI (tl : Int)), .int (iI (tf : Int)), .int (iI (aw : Int))])), (q 1, cI g 200 ST), (q 2, cI g 40 TF), (q 3, cC g 40 TR), (q 4, cI g 40 TN)]) rfl rfl (Nat.le_of_ble_eq_true rfl) dX4_takesTestField_29 (fun H locs h => ?_)
      refine lv_aload_n zx zb dX4_takesTestField_32 rfl (lv_at hl 1 rfl) ?_
      refine lv_iconst (v := iI (2)) zx zb dX4_takesTestField_33 rfl ?_
      refine pf4_22 (x := iI 2) zC h 0 (ws' := [(a 0, .inr (4, [.ref (q 0), .int (iI (bZ mk)), .int (iI 2), .int (iI (fOf c)), .int (iI rl), .int (iI nu), .int (iI fg), .int (iI ne), .int (iI tu), .ref (a 1), .int (iI (op : Int))])), (a 1, cI g 20 TB), (q 0, .inr (3, [.ref (q 1), .ref (q 2), .ref (q 3), .ref (q 4), .int (iI (sc : Int)), .int (iI (tc : Int)), .int (iI (bZ fl)), .int (iI (tl : Int)), .int (iI (tf : Int)), .int (iI (aw : Int))])), (q 1, cI g 200 ST), (q 2, cI g 40 TF), (q 3, cC g 40 TR), (q 4, cI g 40 TN)]) rfl rfl (Nat.le_of_ble_eq_true rfl) dX4_takesTestField_34 (fun H locs h => ?_)
      refine lv_iconst (v := iI (1)) zx zb dX4_takesTestField_37 rfl ?_
      exact r_zret (b := true) zC zQ zr zk h dX4_takesTestField_38 rfl (u := (true, (2, ne, tu, nu, fg, rl, (fOf c).toNat, op, TB, ST, TF, TR, TN, sc, tc, fl, tl, tf))) rfl (List.Perm.of_eq (by have hf := fOf_R c; have hf2 : fOf c ≠ -1 := (by simp_all [opn]); rw [show fOf c = (((fOf c).toNat : Nat) : Int) from by omega]; rfl)) (by unfold rTestField; simp only []; rw [if_pos ⟨by simp_all, by omega⟩]) (Nat.le_of_ble_eq_true rfl) (Nat.le_of_ble_eq_true rfl)
    · skip
      refine lv_iconst (v := iI (0)) zx zb dX4_takesTestField_25 rfl ?_
      exact r_zret (b := false) zC zQ zr zk h dX4_takesTestField_26 rfl (u := (false, (st, ne, tu, nu, fg, rl, fd, op, TB, ST, TF, TR, TN, sc, tc, fl, tl, tf))) rfl (List.Perm.refl _) (by unfold rTestField; simp only []; rw [if_neg (by rintro ⟨z1, z2⟩; first | omega | (simp_all))]) (Nat.le_of_ble_eq_true rfl) (Nat.le_of_ble_eq_true rfl)

set_option maxHeartbeats 4000000 in
set_option maxRecDepth 100000 in
theorem c_X4_takesRelation (l : Launch) (D : va_G) (g : Nat → ClassId) (a q : Nat → Nat) (mk : Nat → Bool) (r : RS) (aw : Nat) (c : Int) (hc : R32 c) : Ct (S := Bool × RS) l D g yX4_takesRelation cX4_takesRelation 2 (some .boolean) rmX4_takesRelation [.ref (a 0), .int (iI c)] (wRd g a q mk r aw) (fun u => some (.int (bI u.1))) (fun u => u = rRelation c r) (fun u => wRd g a q mk u.2 aw) := by
  obtain ⟨st, ne, tu, nu, fg, rl, fd, op, TB, ST, TF, TR, TN, sc, tc, fl, tl, tf⟩ := r
  try dsimp only [RS.st, RS.ne, RS.tu, RS.nu, RS.fg, RS.rl, RS.fd, RS.op, RS.TB, RS.sc, RS.tc, RS.tl, RS.tf] at *
  refine Ct.of RX4 rfl (by decide +kernel) [(0, .ref (a 0)), (1, .int (iI c))] rfl (Nat.le_of_ble_eq_true rfl) ?_
  intro pg evn sT mI bl mtd cd aA ls ar qQ zC zr zk zi zQ h hl
  have zx := zC.1
  have zb := zC.2.1
  have h : Hx D g sT aA sT.heap ([(a 0, .inr (4, [.ref (q 0), .int (iI (bZ mk)), .int (iI st), .int (iI (fd : Int)), .int (iI rl), .int (iI nu), .int (iI fg), .int (iI ne), .int (iI tu), .ref (a 1), .int (iI (op : Int))])), (a 1, cI g 20 TB), (q 0, .inr (3, [.ref (q 1), .ref (q 2), .ref (q 3), .ref (q 4), .int (iI (sc : Int)), .int (iI (tc : Int)), .int (iI (bZ fl)), .int (iI (tl : Int)), .int (iI (tf : Int)), .int (iI (aw : Int))])), (q 1, cI g 200 ST), (q 2, cI g 40 TF), (q 3, cC g 40 TR), (q 4, cI g 40 TN)]) sT.heap [] := h
  skip
  refine lv_iload_n zx zb dX4_takesRelation_0 rfl (lv_at hl 1 rfl) ?_
  refine lv_bipush (v := iI (61)) zx zb dX4_takesRelation_1 rfl ?_
  refine i_ceq (a := c) (b := 61) (tgt := 20) zC dX4_takesRelation_3 (by decide) (by omega) (fun c_1 => ?_) (fun c_1 => ?_)
  · skip
    have hcc : c = 61 ∨ c = 60 ∨ c = 62 := by omega
    refine lv_aload_n zx zb dX4_takesRelation_20 rfl (lv_at hl 0 rfl) ?_
    refine lv_iload_n zx zb dX4_takesRelation_21 rfl (lv_at hl 1 rfl) ?_
    refine pf4_28 (x := iI c) zC h 0 (ws' := [(a 0, .inr (4, [.ref (q 0), .int (iI (bZ mk)), .int (iI st), .int (iI (fd : Int)), .int (iI c), .int (iI nu), .int (iI fg), .int (iI ne), .int (iI tu), .ref (a 1), .int (iI (op : Int))])), (a 1, cI g 20 TB), (q 0, .inr (3, [.ref (q 1), .ref (q 2), .ref (q 3), .ref (q 4), .int (iI (sc : Int)), .int (iI (tc : Int)), .int (iI (bZ fl)), .int (iI (tl : Int)), .int (iI (tf : Int)), .int (iI (aw : Int))])), (q 1, cI g 200 ST), (q 2, cI g 40 TF), (q 3, cC g 40 TR), (q 4, cI g 40 TN)]) rfl rfl (Nat.le_of_ble_eq_true rfl) (by rcases hcc with e | e | e <;> rw [e] <;> decide) (by rcases hcc with e | e | e <;> rw [e] <;> decide) dX4_takesRelation_22 (fun H locs h => ?_)
    refine lv_aload_n zx zb dX4_takesRelation_25 rfl (lv_at hl 0 rfl) ?_
    refine lv_iconst (v := iI (0)) zx zb dX4_takesRelation_26 rfl ?_
    refine pf4_32 (x := iI 0) zC h 0 (ws' := [(a 0, .inr (4, [.ref (q 0), .int (iI (bZ mk)), .int (iI st), .int (iI (fd : Int)), .int (iI c), .int (iI 0), .int (iI fg), .int (iI ne), .int (iI tu), .ref (a 1), .int (iI (op : Int))])), (a 1, cI g 20 TB), (q 0, .inr (3, [.ref (q 1), .ref (q 2), .ref (q 3), .ref (q 4), .int (iI (sc : Int)), .int (iI (tc : Int)), .int (iI (bZ fl)), .int (iI (tl : Int)), .int (iI (tf : Int)), .int (iI (aw : Int))])), (q 1, cI g 200 ST), (q 2, cI g 40 TF), (q 3, cC g 40 TR), (q 4, cI g 40 TN)]) rfl rfl (Nat.le_of_ble_eq_true rfl) dX4_takesRelation_27 (fun H locs h => ?_)
    refine lv_aload_n zx zb dX4_takesRelation_30 rfl (lv_at hl 0 rfl) ?_
    refine lv_iconst (v := iI (0)) zx zb dX4_takesRelation_31 rfl ?_
    refine pf4_35 (x := iI 0) zC h 0 (ws' := [(a 0, .inr (4, [.ref (q 0), .int (iI (bZ mk)), .int (iI st), .int (iI (fd : Int)), .int (iI c), .int (iI 0), .int (iI 0), .int (iI ne), .int (iI tu), .ref (a 1), .int (iI (op : Int))])), (a 1, cI g 20 TB), (q 0, .inr (3, [.ref (q 1), .ref (q 2), .ref (q 3), .ref (q 4), .int (iI (sc : Int)), .int (iI (tc : Int)), .int (iI (bZ fl)), .int (iI (tl : Int)), .int (iI (tf : Int)), .int (iI (aw : Int))])), (q 1, cI g 200 ST), (q 2, cI g 40 TF), (q 3, cC g 40 TR), (q 4, cI g 40 TN)]) rfl rfl (Nat.le_of_ble_eq_true rfl) dX4_takesRelation_32 (fun H locs h => ?_)
    refine lv_aload_n zx zb dX4_takesRelation_35 rfl (lv_at hl 0 rfl) ?_
    refine lv_iconst (v := iI (3)) zx zb dX4_takesRelation_36 rfl ?_
    refine pf4_22 (x := iI 3) zC h 0 (ws' := [(a 0, .inr (4, [.ref (q 0), .int (iI (bZ mk)), .int (iI 3), .int (iI (fd : Int)), .int (iI c), .int (iI 0), .int (iI 0), .int (iI ne), .int (iI tu), .ref (a 1), .int (iI (op : Int))])), (a 1, cI g 20 TB), (q 0, .inr (3, [.ref (q 1), .ref (q 2), .ref (q 3), .ref (q 4), .int (iI (sc : Int)), .int (iI (tc : Int)), .int (iI (bZ fl)), .int (iI (tl : Int)), .int (iI (tf : Int)), .int (iI (aw : Int))])), (q 1, cI g 200 ST), (q 2, cI g 40 TF), (q 3, cC g 40 TR), (q 4, cI g 40 TN)]) rfl rfl (Nat.le_of_ble_eq_true rfl) dX4_takesRelation_37 (fun H locs h => ?_)
    refine lv_iconst (v := iI (1)) zx zb dX4_takesRelation_40 rfl ?_
    exact r_zret (b := true) zC zQ zr zk h dX4_takesRelation_41 rfl (u := (true, (3, ne, tu, 0, 0, c, fd, op, TB, ST, TF, TR, TN, sc, tc, fl, tl, tf))) rfl (List.Perm.refl _) (by unfold rRelation; simp only []; rw [if_pos hcc]) (Nat.le_of_ble_eq_true rfl) (Nat.le_of_ble_eq_true rfl)
  · skip
    refine lv_iload_n zx zb dX4_takesRelation_6 rfl (lv_at hl 1 rfl) ?_
    refine lv_bipush (v := iI (60)) zx zb dX4_takesRelation_7 rfl ?_
    refine i_ceq (a := c) (b := 60) (tgt := 20) zC dX4_takesRelation_9 (by decide) (by omega) (fun c_2 => ?_) (fun c_2 => ?_)
    · skip
      have hcc : c = 61 ∨ c = 60 ∨ c = 62 := by omega
      refine lv_aload_n zx zb dX4_takesRelation_20 rfl (lv_at hl 0 rfl) ?_
      refine lv_iload_n zx zb dX4_takesRelation_21 rfl (lv_at hl 1 rfl) ?_
      refine pf4_28 (x := iI c) zC h 0 (ws' := [(a 0, .inr (4, [.ref (q 0), .int (iI (bZ mk)), .int (iI st), .int (iI (fd : Int)), .int (iI c), .int (iI nu), .int (iI fg), .int (iI ne), .int (iI tu), .ref (a 1), .int (iI (op : Int))])), (a 1, cI g 20 TB), (q 0, .inr (3, [.ref (q 1), .ref (q 2), .ref (q 3), .ref (q 4), .int (iI (sc : Int)), .int (iI (tc : Int)), .int (iI (bZ fl)), .int (iI (tl : Int)), .int (iI (tf : Int)), .int (iI (aw : Int))])), (q 1, cI g 200 ST), (q 2, cI g 40 TF), (q 3, cC g 40 TR), (q 4, cI g 40 TN)]) rfl rfl (Nat.le_of_ble_eq_true rfl) (by rcases hcc with e | e | e <;> rw [e] <;> decide) (by rcases hcc with e | e | e <;> rw [e] <;> decide) dX4_takesRelation_22 (fun H locs h => ?_)
      refine lv_aload_n zx zb dX4_takesRelation_25 rfl (lv_at hl 0 rfl) ?_
      refine lv_iconst (v := iI (0)) zx zb dX4_takesRelation_26 rfl ?_
      refine pf4_32 (x := iI 0) zC h 0 (ws' := [(a 0, .inr (4, [.ref (q 0), .int (iI (bZ mk)), .int (iI st), .int (iI (fd : Int)), .int (iI c), .int (iI 0), .int (iI fg), .int (iI ne), .int (iI tu), .ref (a 1), .int (iI (op : Int))])), (a 1, cI g 20 TB), (q 0, .inr (3, [.ref (q 1), .ref (q 2), .ref (q 3), .ref (q 4), .int (iI (sc : Int)), .int (iI (tc : Int)), .int (iI (bZ fl)), .int (iI (tl : Int)), .int (iI (tf : Int)), .int (iI (aw : Int))])), (q 1, cI g 200 ST), (q 2, cI g 40 TF), (q 3, cC g 40 TR), (q 4, cI g 40 TN)]) rfl rfl (Nat.le_of_ble_eq_true rfl) dX4_takesRelation_27 (fun H locs h => ?_)
      refine lv_aload_n zx zb dX4_takesRelation_30 rfl (lv_at hl 0 rfl) ?_
      refine lv_iconst (v := iI (0)) zx zb dX4_takesRelation_31 rfl ?_
      refine pf4_35 (x := iI 0) zC h 0 (ws' := [(a 0, .inr (4, [.ref (q 0), .int (iI (bZ mk)), .int (iI st), .int (iI (fd : Int)), .int (iI c), .int (iI 0), .int (iI 0), .int (iI ne), .int (iI tu), .ref (a 1), .int (iI (op : Int))])), (a 1, cI g 20 TB), (q 0, .inr (3, [.ref (q 1), .ref (q 2), .ref (q 3), .ref (q 4), .int (iI (sc : Int)), .int (iI (tc : Int)), .int (iI (bZ fl)), .int (iI (tl : Int)), .int (iI (tf : Int)), .int (iI (aw : Int))])), (q 1, cI g 200 ST), (q 2, cI g 40 TF), (q 3, cC g 40 TR), (q 4, cI g 40 TN)]) rfl rfl (Nat.le_of_ble_eq_true rfl) dX4_takesRelation_32 (fun H locs h => ?_)
      refine lv_aload_n zx zb dX4_takesRelation_35 rfl (lv_at hl 0 rfl) ?_
      refine lv_iconst (v := iI (3)) zx zb dX4_takesRelation_36 rfl ?_
      refine pf4_22 (x := iI 3) zC h 0 (ws' := [(a 0, .inr (4, [.ref (q 0), .int (iI (bZ mk)), .int (iI 3), .int (iI (fd : Int)), .int (iI c), .int (iI 0), .int (iI 0), .int (iI ne), .int (iI tu), .ref (a 1), .int (iI (op : Int))])), (a 1, cI g 20 TB), (q 0, .inr (3, [.ref (q 1), .ref (q 2), .ref (q 3), .ref (q 4), .int (iI (sc : Int)), .int (iI (tc : Int)), .int (iI (bZ fl)), .int (iI (tl : Int)), .int (iI (tf : Int)), .int (iI (aw : Int))])), (q 1, cI g 200 ST), (q 2, cI g 40 TF), (q 3, cC g 40 TR), (q 4, cI g 40 TN)]) rfl rfl (Nat.le_of_ble_eq_true rfl) dX4_takesRelation_37 (fun H locs h => ?_)
      refine lv_iconst (v := iI (1)) zx zb dX4_takesRelation_40 rfl ?_
      exact r_zret (b := true) zC zQ zr zk h dX4_takesRelation_41 rfl (u := (true, (3, ne, tu, 0, 0, c, fd, op, TB, ST, TF, TR, TN, sc, tc, fl, tl, tf))) rfl (List.Perm.refl _) (by unfold rRelation; simp only []; rw [if_pos hcc]) (Nat.le_of_ble_eq_true rfl) (Nat.le_of_ble_eq_true rfl)
    · skip
      refine lv_iload_n zx zb dX4_takesRelation_12 rfl (lv_at hl 1 rfl) ?_
      refine lv_bipush (v := iI (62)) zx zb dX4_takesRelation_13 rfl ?_
      refine i_ceq (a := c) (b := 62) (tgt := 20) zC dX4_takesRelation_15 (by decide) (by omega) (fun c_3 => ?_) (fun c_3 => ?_)
      · skip
        have hcc : c = 61 ∨ c = 60 ∨ c = 62 := by omega
        refine lv_aload_n zx zb dX4_takesRelation_20 rfl (lv_at hl 0 rfl) ?_
        refine lv_iload_n zx zb dX4_takesRelation_21 rfl (lv_at hl 1 rfl) ?_
        refine pf4_28 (x := iI c) zC h 0 (ws' := [(a 0, .inr (4, [.ref (q 0), .int (iI (bZ mk)), .int (iI st), .int (iI (fd : Int)), .int (iI c), .int (iI nu), .int (iI fg), .int (iI ne), .int (iI tu), .ref (a 1), .int (iI (op : Int))])), (a 1, cI g 20 TB), (q 0, .inr (3, [.ref (q 1), .ref (q 2), .ref (q 3), .ref (q 4), .int (iI (sc : Int)), .int (iI (tc : Int)), .int (iI (bZ fl)), .int (iI (tl : Int)), .int (iI (tf : Int)), .int (iI (aw : Int))])), (q 1, cI g 200 ST), (q 2, cI g 40 TF), (q 3, cC g 40 TR), (q 4, cI g 40 TN)]) rfl rfl (Nat.le_of_ble_eq_true rfl) (by rcases hcc with e | e | e <;> rw [e] <;> decide) (by rcases hcc with e | e | e <;> rw [e] <;> decide) dX4_takesRelation_22 (fun H locs h => ?_)
        refine lv_aload_n zx zb dX4_takesRelation_25 rfl (lv_at hl 0 rfl) ?_
        refine lv_iconst (v := iI (0)) zx zb dX4_takesRelation_26 rfl ?_
        refine pf4_32 (x := iI 0) zC h 0 (ws' := [(a 0, .inr (4, [.ref (q 0), .int (iI (bZ mk)), .int (iI st), .int (iI (fd : Int)), .int (iI c), .int (iI 0), .int (iI fg), .int (iI ne), .int (iI tu), .ref (a 1), .int (iI (op : Int))])), (a 1, cI g 20 TB), (q 0, .inr (3, [.ref (q 1), .ref (q 2), .ref (q 3), .ref (q 4), .int (iI (sc : Int)), .int (iI (tc : Int)), .int (iI (bZ fl)), .int (iI (tl : Int)), .int (iI (tf : Int)), .int (iI (aw : Int))])), (q 1, cI g 200 ST), (q 2, cI g 40 TF), (q 3, cC g 40 TR), (q 4, cI g 40 TN)]) rfl rfl (Nat.le_of_ble_eq_true rfl) dX4_takesRelation_27 (fun H locs h => ?_)
        refine lv_aload_n zx zb dX4_takesRelation_30 rfl (lv_at hl 0 rfl) ?_
        refine lv_iconst (v := iI (0)) zx zb dX4_takesRelation_31 rfl ?_
        refine pf4_35 (x := iI 0) zC h 0 (ws' := [(a 0, .inr (4, [.ref (q 0), .int (iI (bZ mk)), .int (iI st), .int (iI (fd : Int)), .int (iI c), .int (iI 0), .int (iI 0), .int (iI ne), .int (iI tu), .ref (a 1), .int (iI (op : Int))])), (a 1, cI g 20 TB), (q 0, .inr (3, [.ref (q 1), .ref (q 2), .ref (q 3), .ref (q 4), .int (iI (sc : Int)), .int (iI (tc : Int)), .int (iI (bZ fl)), .int (iI (tl : Int)), .int (iI (tf : Int)), .int (iI (aw : Int))])), (q 1, cI g 200 ST), (q 2, cI g 40 TF), (q 3, cC g 40 TR), (q 4, cI g 40 TN)]) rfl rfl (Nat.le_of_ble_eq_true rfl) dX4_takesRelation_32 (fun H locs h => ?_)
        refine lv_aload_n zx zb dX4_takesRelation_35 rfl (lv_at hl 0 rfl) ?_
        refine lv_iconst (v := iI (3)) zx zb dX4_takesRelation_36 rfl ?_
        refine pf4_22 (x := iI 3) zC h 0 (ws' := [(a 0, .inr (4, [.ref (q 0), .int (iI (bZ mk)), .int (iI 3), .int (iI (fd : Int)), .int (iI c), .int (iI 0), .int (iI 0), .int (iI ne), .int (iI tu), .ref (a 1), .int (iI (op : Int))])), (a 1, cI g 20 TB), (q 0, .inr (3, [.ref (q 1), .ref (q 2), .ref (q 3), .ref (q 4), .int (iI (sc : Int)), .int (iI (tc : Int)), .int (iI (bZ fl)), .int (iI (tl : Int)), .int (iI (tf : Int)), .int (iI (aw : Int))])), (q 1, cI g 200 ST), (q 2, cI g 40 TF), (q 3, cC g 40 TR), (q 4, cI g 40 TN)]) rfl rfl (Nat.le_of_ble_eq_true rfl) dX4_takesRelation_37 (fun H locs h => ?_)
        refine lv_iconst (v := iI (1)) zx zb dX4_takesRelation_40 rfl ?_
        exact r_zret (b := true) zC zQ zr zk h dX4_takesRelation_41 rfl (u := (true, (3, ne, tu, 0, 0, c, fd, op, TB, ST, TF, TR, TN, sc, tc, fl, tl, tf))) rfl (List.Perm.refl _) (by unfold rRelation; simp only []; rw [if_pos hcc]) (Nat.le_of_ble_eq_true rfl) (Nat.le_of_ble_eq_true rfl)
      · skip
        refine lv_iconst (v := iI (0)) zx zb dX4_takesRelation_18 rfl ?_
        exact r_zret (b := false) zC zQ zr zk h dX4_takesRelation_19 rfl (u := (false, (st, ne, tu, nu, fg, rl, fd, op, TB, ST, TF, TR, TN, sc, tc, fl, tl, tf))) rfl (List.Perm.refl _) (by unfold rRelation; simp only []; rw [if_neg (by omega)]) (Nat.le_of_ble_eq_true rfl) (Nat.le_of_ble_eq_true rfl)

set_option maxHeartbeats 4000000 in
set_option maxRecDepth 100000 in
theorem c_X4_takesFigure (l : Launch) (D : va_G) (g : Nat → ClassId) (a q : Nat → Nat) (mk : Nat → Bool) (r : RS) (aw : Nat) (c : Int) (hc : R32 c) (hg : R32 r.fg) : Ct (S := Bool × RS) l D g yX4_takesFigure cX4_takesFigure 2 (some .boolean) rmX4_takesFigure [.ref (a 0), .int (iI c)] (wRd g a q mk r aw) (fun u => some (.int (bI u.1))) (fun u => u = rFigure c r) (fun u => wRd g a q mk u.2 aw) := by
  obtain ⟨st, ne, tu, nu, fg, rl, fd, op, TB, ST, TF, TR, TN, sc, tc, fl, tl, tf⟩ := r
  try dsimp only [RS.st, RS.ne, RS.tu, RS.nu, RS.fg, RS.rl, RS.fd, RS.op, RS.TB, RS.sc, RS.tc, RS.tl, RS.tf] at *
  refine Ct.of RX4 rfl (by decide +kernel) [(0, .ref (a 0)), (1, .int (iI c))] rfl (Nat.le_of_ble_eq_true rfl) ?_
  intro pg evn sT mI bl mtd cd aA ls ar qQ zC zr zk zi zQ h hl
  have zx := zC.1
  have zb := zC.2.1
  have h : Hx D g sT aA sT.heap ([(a 0, .inr (4, [.ref (q 0), .int (iI (bZ mk)), .int (iI st), .int (iI (fd : Int)), .int (iI rl), .int (iI nu), .int (iI fg), .int (iI ne), .int (iI tu), .ref (a 1), .int (iI (op : Int))])), (a 1, cI g 20 TB), (q 0, .inr (3, [.ref (q 1), .ref (q 2), .ref (q 3), .ref (q 4), .int (iI (sc : Int)), .int (iI (tc : Int)), .int (iI (bZ fl)), .int (iI (tl : Int)), .int (iI (tf : Int)), .int (iI (aw : Int))])), (q 1, cI g 200 ST), (q 2, cI g 40 TF), (q 3, cC g 40 TR), (q 4, cI g 40 TN)]) sT.heap [] := h
  skip
  refine lv_iload_n zx zb dX4_takesFigure_0 rfl (lv_at hl 1 rfl) ?_
  refine lv_bipush (v := iI (48)) zx zb dX4_takesFigure_1 rfl ?_
  refine i_clt (a := c) (b := 48) (tgt := 20) zC dX4_takesFigure_3 (by decide) (by omega) (fun c_1 => ?_) (fun c_1 => ?_)
  · skip
    refine lv_iconst (v := iI (0)) zx zb dX4_takesFigure_20 rfl ?_
    exact r_zret (b := false) zC zQ zr zk h dX4_takesFigure_21 rfl (u := (false, (st, ne, tu, nu, fg, rl, fd, op, TB, ST, TF, TR, TN, sc, tc, fl, tl, tf))) rfl (List.Perm.refl _) (by unfold rFigure; simp only []; rw [if_neg (by omega)]) (Nat.le_of_ble_eq_true rfl) (Nat.le_of_ble_eq_true rfl)
  · skip
    refine lv_iload_n zx zb dX4_takesFigure_6 rfl (lv_at hl 1 rfl) ?_
    refine lv_bipush (v := iI (57)) zx zb dX4_takesFigure_7 rfl ?_
    refine i_cgt (a := c) (b := 57) (tgt := 20) zC dX4_takesFigure_9 (by decide) (by omega) (fun c_2 => ?_) (fun c_2 => ?_)
    · skip
      refine lv_iconst (v := iI (0)) zx zb dX4_takesFigure_20 rfl ?_
      exact r_zret (b := false) zC zQ zr zk h dX4_takesFigure_21 rfl (u := (false, (st, ne, tu, nu, fg, rl, fd, op, TB, ST, TF, TR, TN, sc, tc, fl, tl, tf))) rfl (List.Perm.refl _) (by unfold rFigure; simp only []; rw [if_neg (by omega)]) (Nat.le_of_ble_eq_true rfl) (Nat.le_of_ble_eq_true rfl)
    · skip
      refine lv_aload_n zx zb dX4_takesFigure_12 rfl (lv_at hl 0 rfl) ?_
      refine gf4_35 (v := .int (iI fg)) zC h 0 rfl rfl dX4_takesFigure_13 ?_
      refine lv_iconst (v := iI (5)) zx zb dX4_takesFigure_16 rfl ?_
      refine i_clt (a := fg) (b := 5) (tgt := 22) zC dX4_takesFigure_17 (by decide) (by omega) (fun c_3 => ?_) (fun c_3 => ?_)
      · skip
        refine lv_aload_n zx zb dX4_takesFigure_22 rfl (lv_at hl 0 rfl) ?_
        refine lv_aload_n zx zb dX4_takesFigure_23 rfl (lv_at hl 0 rfl) ?_
        refine gf4_32 (v := .int (iI nu)) zC h 0 rfl rfl dX4_takesFigure_24 ?_
        refine lv_bipush (v := iI (10)) zx zb dX4_takesFigure_27 rfl ?_
        refine i_mul zC (a := nu) (b := 10) dX4_takesFigure_29 ?_
        refine lv_iload_n zx zb dX4_takesFigure_30 rfl (lv_at hl 1 rfl) ?_
        refine lv_bipush (v := iI (48)) zx zb dX4_takesFigure_31 rfl ?_
        refine i_sub zC (a := c) (b := 48) dX4_takesFigure_33 ?_
        refine i_add zC (a := nu * 10) (b := c - 48) dX4_takesFigure_34 ?_
        refine pf4_32 (x := iI (nu * 10 + (c - 48))) zC h 0 (ws' := [(a 0, .inr (4, [.ref (q 0), .int (iI (bZ mk)), .int (iI st), .int (iI (fd : Int)), .int (iI rl), .int (iI (nu * 10 + (c - 48))), .int (iI fg), .int (iI ne), .int (iI tu), .ref (a 1), .int (iI (op : Int))])), (a 1, cI g 20 TB), (q 0, .inr (3, [.ref (q 1), .ref (q 2), .ref (q 3), .ref (q 4), .int (iI (sc : Int)), .int (iI (tc : Int)), .int (iI (bZ fl)), .int (iI (tl : Int)), .int (iI (tf : Int)), .int (iI (aw : Int))])), (q 1, cI g 200 ST), (q 2, cI g 40 TF), (q 3, cC g 40 TR), (q 4, cI g 40 TN)]) rfl rfl (Nat.le_of_ble_eq_true rfl) dX4_takesFigure_35 (fun H locs h => ?_)
        refine lv_aload_n zx zb dX4_takesFigure_38 rfl (lv_at hl 0 rfl) ?_
        refine lv_dup zx zb dX4_takesFigure_39 rfl ?_
        refine gf4_35 (v := .int (iI fg)) zC h 0 rfl rfl dX4_takesFigure_40 ?_
        refine lv_iconst (v := iI (1)) zx zb dX4_takesFigure_43 rfl ?_
        refine i_add zC (a := fg) (b := 1) dX4_takesFigure_44 ?_
        refine pf4_35 (x := iI (fg + 1)) zC h 0 (ws' := [(a 0, .inr (4, [.ref (q 0), .int (iI (bZ mk)), .int (iI st), .int (iI (fd : Int)), .int (iI rl), .int (iI (nu * 10 + (c - 48))), .int (iI (fg + 1)), .int (iI ne), .int (iI tu), .ref (a 1), .int (iI (op : Int))])), (a 1, cI g 20 TB), (q 0, .inr (3, [.ref (q 1), .ref (q 2), .ref (q 3), .ref (q 4), .int (iI (sc : Int)), .int (iI (tc : Int)), .int (iI (bZ fl)), .int (iI (tl : Int)), .int (iI (tf : Int)), .int (iI (aw : Int))])), (q 1, cI g 200 ST), (q 2, cI g 40 TF), (q 3, cC g 40 TR), (q 4, cI g 40 TN)]) rfl rfl (Nat.le_of_ble_eq_true rfl) dX4_takesFigure_45 (fun H locs h => ?_)
        refine lv_aload_n zx zb dX4_takesFigure_48 rfl (lv_at hl 0 rfl) ?_
        refine lv_iconst (v := iI (4)) zx zb dX4_takesFigure_49 rfl ?_
        refine pf4_22 (x := iI 4) zC h 0 (ws' := [(a 0, .inr (4, [.ref (q 0), .int (iI (bZ mk)), .int (iI 4), .int (iI (fd : Int)), .int (iI rl), .int (iI (nu * 10 + (c - 48))), .int (iI (fg + 1)), .int (iI ne), .int (iI tu), .ref (a 1), .int (iI (op : Int))])), (a 1, cI g 20 TB), (q 0, .inr (3, [.ref (q 1), .ref (q 2), .ref (q 3), .ref (q 4), .int (iI (sc : Int)), .int (iI (tc : Int)), .int (iI (bZ fl)), .int (iI (tl : Int)), .int (iI (tf : Int)), .int (iI (aw : Int))])), (q 1, cI g 200 ST), (q 2, cI g 40 TF), (q 3, cC g 40 TR), (q 4, cI g 40 TN)]) rfl rfl (Nat.le_of_ble_eq_true rfl) dX4_takesFigure_50 (fun H locs h => ?_)
        refine lv_iconst (v := iI (1)) zx zb dX4_takesFigure_53 rfl ?_
        exact r_zret (b := true) zC zQ zr zk h dX4_takesFigure_54 rfl (u := (true, (4, ne, tu, nu * 10 + (c - 48), fg + 1, rl, fd, op, TB, ST, TF, TR, TN, sc, tc, fl, tl, tf))) rfl (List.Perm.refl _) (by unfold rFigure; simp only []; rw [if_pos (by omega)]) (Nat.le_of_ble_eq_true rfl) (Nat.le_of_ble_eq_true rfl)
      · skip
        refine lv_iconst (v := iI (0)) zx zb dX4_takesFigure_20 rfl ?_
        exact r_zret (b := false) zC zQ zr zk h dX4_takesFigure_21 rfl (u := (false, (st, ne, tu, nu, fg, rl, fd, op, TB, ST, TF, TR, TN, sc, tc, fl, tl, tf))) rfl (List.Perm.refl _) (by unfold rFigure; simp only []; rw [if_neg (by omega)]) (Nat.le_of_ble_eq_true rfl) (Nat.le_of_ble_eq_true rfl)

set_option maxHeartbeats 4000000 in
set_option maxRecDepth 100000 in
theorem c_X4_takesTail (l : Launch) (D : va_G) (g : Nat → ClassId) (a q : Nat → Nat) (mk : Nat → Bool) (r : RS) (aw : Nat) (c : Int) (hc : R32 c) : Ct (S := Bool × RS) l D g yX4_takesTail cX4_takesTail 3 (some .boolean) rmX4_takesTail [.ref (a 0), .int (iI c)] (wRd g a q mk r aw) (fun u => some (.int (bI u.1))) (fun u => u = rTail c r) (fun u => wRd g a q mk u.2 aw) := by
  obtain ⟨st, ne, tu, nu, fg, rl, fd, op, TB, ST, TF, TR, TN, sc, tc, fl, tl, tf⟩ := r
  try dsimp only [RS.st, RS.ne, RS.tu, RS.nu, RS.fg, RS.rl, RS.fd, RS.op, RS.TB, RS.sc, RS.tc, RS.tl, RS.tf] at *
  refine Ct.of RX4 rfl (by decide +kernel) [(0, .ref (a 0)), (1, .int (iI c))] rfl (Nat.le_of_ble_eq_true rfl) ?_
  intro pg evn sT mI bl mtd cd aA ls ar qQ zC zr zk zi zQ h hl
  have zx := zC.1
  have zb := zC.2.1
  have h : Hx D g sT aA sT.heap ([(a 0, .inr (4, [.ref (q 0), .int (iI (bZ mk)), .int (iI st), .int (iI (fd : Int)), .int (iI rl), .int (iI nu), .int (iI fg), .int (iI ne), .int (iI tu), .ref (a 1), .int (iI (op : Int))])), (a 1, cI g 20 TB), (q 0, .inr (3, [.ref (q 1), .ref (q 2), .ref (q 3), .ref (q 4), .int (iI (sc : Int)), .int (iI (tc : Int)), .int (iI (bZ fl)), .int (iI (tl : Int)), .int (iI (tf : Int)), .int (iI (aw : Int))])), (q 1, cI g 200 ST), (q 2, cI g 40 TF), (q 3, cC g 40 TR), (q 4, cI g 40 TN)]) sT.heap [] := h
  skip
  refine lv_iload_n zx zb dX4_takesTail_0 rfl (lv_at hl 1 rfl) ?_
  refine r_invS (As := [.int (iI c)]) (rest := []) (wr := [(a 0, .inr (4, [.ref (q 0), .int (iI (bZ mk)), .int (iI st), .int (iI (fd : Int)), .int (iI rl), .int (iI nu), .int (iI fg), .int (iI ne), .int (iI tu), .ref (a 1), .int (iI (op : Int))])), (a 1, cI g 20 TB), (q 0, .inr (3, [.ref (q 1), .ref (q 2), .ref (q 3), .ref (q 4), .int (iI (sc : Int)), .int (iI (tc : Int)), .int (iI (bZ fl)), .int (iI (tl : Int)), .int (iI (tf : Int)), .int (iI (aw : Int))])), (q 1, cI g 200 ST), (q 2, cI g 40 TF), (q 3, cC g 40 TR), (q 4, cI g 40 TN)]) (ws2 := fun u_1 => [(a 0, .inr (4, [.ref (q 0), .int (iI (bZ mk)), .int (iI st), .int (iI (fd : Int)), .int (iI rl), .int (iI nu), .int (iI fg), .int (iI ne), .int (iI tu), .ref (a 1), .int (iI (op : Int))])), (a 1, cI g 20 TB), (q 0, .inr (3, [.ref (q 1), .ref (q 2), .ref (q 3), .ref (q 4), .int (iI (sc : Int)), .int (iI (tc : Int)), .int (iI (bZ fl)), .int (iI (tl : Int)), .int (iI (tf : Int)), .int (iI (aw : Int))])), (q 1, cI g 200 ST), (q 2, cI g 40 TF), (q 3, cC g 40 TR), (q 4, cI g 40 TN)]) 0 0 zC h hl.1 (c_X4_tailOf l D g c hc) (cs4_117 zC ⟨(Nat.le_of_ble_eq_true rfl), (Nat.le_of_ble_eq_true rfl)⟩) rfl rfl (Nat.le_of_ble_eq_true rfl) (List.Perm.refl _) (fun u => List.Perm.refl _) ⟨(Nat.le_of_ble_eq_true rfl), (Nat.le_of_ble_eq_true rfl)⟩ (Nat.le_of_ble_eq_true rfl) (Nat.le_of_ble_eq_true rfl) dX4_takesTail_1 (fun u_1 H locs hu_1 hz_1 h => ?_)
  have ht := tOf_R c
  refine lv_istore_n (lv' := [(2, .int (iI (tOf c))), (0, .ref (a 0)), (1, .int (iI c))]) zx zb dX4_takesTail_4 rfl hl (by decide) rfl (fun ls hl => ?_)
  refine lv_iload_n zx zb dX4_takesTail_5 rfl (lv_at hl 0 rfl) ?_
  refine i_zne (a := tOf c) (tgt := 11) zC dX4_takesTail_6 (by decide) (by omega) (fun c_2 => ?_) (fun c_2 => ?_)
  · skip
    refine lv_aload_n zx zb dX4_takesTail_11 rfl (lv_at hl 1 rfl) ?_
    refine gf4_12 (v := .ref (q 0)) zC h 0 rfl rfl dX4_takesTail_12 ?_
    refine lv_iload_n zx zb dX4_takesTail_15 rfl (lv_at hl 0 rfl) ?_
    rw [show tOf c = ((tOf c).toNat : Int) from by omega]
    refine r_invV (As := [.int (iI ((tOf c).toNat : Int))]) (rest := []) (wr := [(a 0, .inr (4, [.ref (q 0), .int (iI (bZ mk)), .int (iI st), .int (iI (fd : Int)), .int (iI rl), .int (iI nu), .int (iI fg), .int (iI ne), .int (iI tu), .ref (a 1), .int (iI (op : Int))])), (a 1, cI g 20 TB)]) (ws2 := fun u_3 => [(a 0, .inr (4, [.ref (q 0), .int (iI (bZ mk)), .int (iI st), .int (iI (fd : Int)), .int (iI rl), .int (iI nu), .int (iI fg), .int (iI ne), .int (iI tu), .ref (a 1), .int (iI (op : Int))])), (a 1, cI g 20 TB), (q 0, .inr (3, [.ref (q 1), .ref (q 2), .ref (q 3), .ref (q 4), .int (iI (sc : Int)), .int (iI (tc : Int)), .int (iI (bZ fl)), .int (iI ((tOf c).toNat : Int)), .int (iI (tf : Int)), .int (iI (aw : Int))])), (q 1, cI g 200 ST), (q 2, cI g 40 TF), (q 3, cC g 40 TR), (q 4, cI g 40 TN)]) 0 0 zC h hl.1 (c_X3_setTail l D g q ST TF TR TN sc tc fl tl tf aw (tOf c).toNat) (cs4_120 zC ⟨(Nat.le_of_ble_eq_true rfl), (Nat.le_of_ble_eq_true rfl)⟩) (.tail _ (.tail _ (.head _))) rfl rfl rfl (Nat.le_of_ble_eq_true rfl) (pm fun cp_q => by simp only [cp_o, List.countP_append, List.countP_nil, wQ] <;> omega) (fun u => (pm fun cp_q => by simp only [cp_o, List.countP_append, List.countP_nil, wQ] <;> omega)) ⟨(Nat.le_of_ble_eq_true rfl), (Nat.le_of_ble_eq_true rfl)⟩ (Nat.le_of_ble_eq_true rfl) (Nat.le_of_ble_eq_true rfl) dX4_takesTail_16 (fun u_3 H locs hu_3 hz_3 h => ?_)
    refine lv_aload_n zx zb dX4_takesTail_19 rfl (lv_at hl 1 rfl) ?_
    refine lv_bipush (v := iI (6)) zx zb dX4_takesTail_20 rfl ?_
    refine pf4_22 (x := iI 6) zC h 0 (ws' := [(a 0, .inr (4, [.ref (q 0), .int (iI (bZ mk)), .int (iI 6), .int (iI (fd : Int)), .int (iI rl), .int (iI nu), .int (iI fg), .int (iI ne), .int (iI tu), .ref (a 1), .int (iI (op : Int))])), (a 1, cI g 20 TB), (q 0, .inr (3, [.ref (q 1), .ref (q 2), .ref (q 3), .ref (q 4), .int (iI (sc : Int)), .int (iI (tc : Int)), .int (iI (bZ fl)), .int (iI ((tOf c).toNat : Int)), .int (iI (tf : Int)), .int (iI (aw : Int))])), (q 1, cI g 200 ST), (q 2, cI g 40 TF), (q 3, cC g 40 TR), (q 4, cI g 40 TN)]) rfl rfl (Nat.le_of_ble_eq_true rfl) dX4_takesTail_22 (fun H locs h => ?_)
    refine lv_iconst (v := iI (1)) zx zb dX4_takesTail_25 rfl ?_
    exact r_zret (b := true) zC zQ zr zk h dX4_takesTail_26 rfl (u := (true, (6, ne, tu, nu, fg, rl, fd, op, TB, ST, TF, TR, TN, sc, tc, fl, (tOf c).toNat, tf))) rfl (List.Perm.refl _) (by unfold rTail; simp only []; rw [if_neg (by omega)]) (Nat.le_of_ble_eq_true rfl) (Nat.le_of_ble_eq_true rfl)
  · skip
    refine lv_iconst (v := iI (0)) zx zb dX4_takesTail_9 rfl ?_
    exact r_zret (b := false) zC zQ zr zk h dX4_takesTail_10 rfl (u := (false, (st, ne, tu, nu, fg, rl, fd, op, TB, ST, TF, TR, TN, sc, tc, fl, tl, tf))) rfl (List.Perm.refl _) (by unfold rTail; simp only []; rw [if_pos (by omega)]) (Nat.le_of_ble_eq_true rfl) (Nat.le_of_ble_eq_true rfl)

set_option maxHeartbeats 4000000 in
set_option maxRecDepth 100000 in
theorem c_X4_takesTailField (l : Launch) (D : va_G) (g : Nat → ClassId) (a q : Nat → Nat) (mk : Nat → Bool) (r : RS) (aw : Nat) (c : Int) (hc : R32 c) : Ct (S := Bool × RS) l D g yX4_takesTailField cX4_takesTailField 3 (some .boolean) rmX4_takesTailField [.ref (a 0), .int (iI c)] (wRd g a q mk r aw) (fun u => some (.int (bI u.1))) (fun u => u = rTailField mk c r) (fun u => wRd g a q mk u.2 aw) := by
  obtain ⟨st, ne, tu, nu, fg, rl, fd, op, TB, ST, TF, TR, TN, sc, tc, fl, tl, tf⟩ := r
  try dsimp only [RS.st, RS.ne, RS.tu, RS.nu, RS.fg, RS.rl, RS.fd, RS.op, RS.TB, RS.sc, RS.tc, RS.tl, RS.tf] at *
  refine Ct.of RX4 rfl (by decide +kernel) [(0, .ref (a 0)), (1, .int (iI c))] rfl (Nat.le_of_ble_eq_true rfl) ?_
  intro pg evn sT mI bl mtd cd aA ls ar qQ zC zr zk zi zQ h hl
  have zx := zC.1
  have zb := zC.2.1
  have h : Hx D g sT aA sT.heap ([(a 0, .inr (4, [.ref (q 0), .int (iI (bZ mk)), .int (iI st), .int (iI (fd : Int)), .int (iI rl), .int (iI nu), .int (iI fg), .int (iI ne), .int (iI tu), .ref (a 1), .int (iI (op : Int))])), (a 1, cI g 20 TB), (q 0, .inr (3, [.ref (q 1), .ref (q 2), .ref (q 3), .ref (q 4), .int (iI (sc : Int)), .int (iI (tc : Int)), .int (iI (bZ fl)), .int (iI (tl : Int)), .int (iI (tf : Int)), .int (iI (aw : Int))])), (q 1, cI g 200 ST), (q 2, cI g 40 TF), (q 3, cC g 40 TR), (q 4, cI g 40 TN)]) sT.heap [] := h
  skip
  refine lv_iload_n zx zb dX4_takesTailField_0 rfl (lv_at hl 1 rfl) ?_
  refine r_invS (As := [.int (iI c)]) (rest := []) (wr := [(a 0, .inr (4, [.ref (q 0), .int (iI (bZ mk)), .int (iI st), .int (iI (fd : Int)), .int (iI rl), .int (iI nu), .int (iI fg), .int (iI ne), .int (iI tu), .ref (a 1), .int (iI (op : Int))])), (a 1, cI g 20 TB), (q 0, .inr (3, [.ref (q 1), .ref (q 2), .ref (q 3), .ref (q 4), .int (iI (sc : Int)), .int (iI (tc : Int)), .int (iI (bZ fl)), .int (iI (tl : Int)), .int (iI (tf : Int)), .int (iI (aw : Int))])), (q 1, cI g 200 ST), (q 2, cI g 40 TF), (q 3, cC g 40 TR), (q 4, cI g 40 TN)]) (ws2 := fun u_1 => [(a 0, .inr (4, [.ref (q 0), .int (iI (bZ mk)), .int (iI st), .int (iI (fd : Int)), .int (iI rl), .int (iI nu), .int (iI fg), .int (iI ne), .int (iI tu), .ref (a 1), .int (iI (op : Int))])), (a 1, cI g 20 TB), (q 0, .inr (3, [.ref (q 1), .ref (q 2), .ref (q 3), .ref (q 4), .int (iI (sc : Int)), .int (iI (tc : Int)), .int (iI (bZ fl)), .int (iI (tl : Int)), .int (iI (tf : Int)), .int (iI (aw : Int))])), (q 1, cI g 200 ST), (q 2, cI g 40 TF), (q 3, cC g 40 TR), (q 4, cI g 40 TN)]) 0 0 zC h hl.1 (c_X4_fieldOf l D g c hc) (cs4_102 zC ⟨(Nat.le_of_ble_eq_true rfl), (Nat.le_of_ble_eq_true rfl)⟩) rfl rfl (Nat.le_of_ble_eq_true rfl) (List.Perm.refl _) (fun u => List.Perm.refl _) ⟨(Nat.le_of_ble_eq_true rfl), (Nat.le_of_ble_eq_true rfl)⟩ (Nat.le_of_ble_eq_true rfl) (Nat.le_of_ble_eq_true rfl) dX4_takesTailField_1 (fun u_1 H locs hu_1 hz_1 h => ?_)
  refine lv_istore_n (lv' := [(2, .int (iI (fOf c))), (0, .ref (a 0)), (1, .int (iI c))]) zx zb dX4_takesTailField_4 rfl hl (by decide) rfl (fun ls hl => ?_)
  refine lv_aload_n zx zb dX4_takesTailField_5 rfl (lv_at hl 1 rfl) ?_
  refine lv_iload_n zx zb dX4_takesTailField_6 rfl (lv_at hl 0 rfl) ?_
  refine r_invV (As := [.int (iI (fOf c))]) (rest := []) (wr := []) (ws2 := fun u_2 => [(a 0, .inr (4, [.ref (q 0), .int (iI (bZ mk)), .int (iI st), .int (iI (fd : Int)), .int (iI rl), .int (iI nu), .int (iI fg), .int (iI ne), .int (iI tu), .ref (a 1), .int (iI (op : Int))])), (a 1, cI g 20 TB), (q 0, .inr (3, [.ref (q 1), .ref (q 2), .ref (q 3), .ref (q 4), .int (iI (sc : Int)), .int (iI (tc : Int)), .int (iI (bZ fl)), .int (iI (tl : Int)), .int (iI (tf : Int)), .int (iI (aw : Int))])), (q 1, cI g 200 ST), (q 2, cI g 40 TF), (q 3, cC g 40 TR), (q 4, cI g 40 TN)]) 0 0 zC h hl.1 (c_X4_isOpenField l D g a q mk (st, ne, tu, nu, fg, rl, fd, op, TB, ST, TF, TR, TN, sc, tc, fl, tl, tf) aw c) (cs4_106 zC ⟨(Nat.le_of_ble_eq_true rfl), (Nat.le_of_ble_eq_true rfl)⟩) (.head _) rfl rfl rfl (Nat.le_of_ble_eq_true rfl) (List.Perm.of_eq (List.append_nil _).symm) (fun u => List.Perm.of_eq (List.append_nil _)) ⟨(Nat.le_of_ble_eq_true rfl), (Nat.le_of_ble_eq_true rfl)⟩ (Nat.le_of_ble_eq_true rfl) (Nat.le_of_ble_eq_true rfl) dX4_takesTailField_7 (fun u_2 H locs hu_2 hz_2 h => ?_)
  refine b_zne (b := opn mk c) (tgt := 15) zC dX4_takesTailField_10 (by decide) (fun c_3 => ?_) (fun c_3 => ?_)
  · skip
    refine lv_aload_n zx zb dX4_takesTailField_15 rfl (lv_at hl 1 rfl) ?_
    refine gf4_12 (v := .ref (q 0)) zC h 0 rfl rfl dX4_takesTailField_16 ?_
    refine lv_iload_n zx zb dX4_takesTailField_19 rfl (lv_at hl 0 rfl) ?_
    have hf := fOf_R c
    have hf2 : fOf c ≠ -1 := by simp_all [opn]
    rw [show fOf c = ((fOf c).toNat : Int) from by omega]
    refine r_invV (As := [.int (iI ((fOf c).toNat : Int))]) (rest := []) (wr := [(a 0, .inr (4, [.ref (q 0), .int (iI (bZ mk)), .int (iI st), .int (iI (fd : Int)), .int (iI rl), .int (iI nu), .int (iI fg), .int (iI ne), .int (iI tu), .ref (a 1), .int (iI (op : Int))])), (a 1, cI g 20 TB)]) (ws2 := fun u_4 => [(a 0, .inr (4, [.ref (q 0), .int (iI (bZ mk)), .int (iI st), .int (iI (fd : Int)), .int (iI rl), .int (iI nu), .int (iI fg), .int (iI ne), .int (iI tu), .ref (a 1), .int (iI (op : Int))])), (a 1, cI g 20 TB), (q 0, .inr (3, [.ref (q 1), .ref (q 2), .ref (q 3), .ref (q 4), .int (iI (sc : Int)), .int (iI (tc : Int)), .int (iI (bZ (bAdd1 fl (fOf c).toNat))), .int (iI (tl : Int)), .int (iI ((fOf c).toNat : Int)), .int (iI (aw : Int))])), (q 1, cI g 200 ST), (q 2, cI g 40 TF), (q 3, cC g 40 TR), (q 4, cI g 40 TN)]) 0 0 zC h hl.1 (c_X3_setTailField l D g q ST TF TR TN sc tc fl tl tf aw (fOf c).toNat (by omega)) (cs4_123 zC ⟨(Nat.le_of_ble_eq_true rfl), (Nat.le_of_ble_eq_true rfl)⟩) (.tail _ (.tail _ (.head _))) rfl rfl rfl (Nat.le_of_ble_eq_true rfl) (pm fun cp_q => by simp only [cp_o, List.countP_append, List.countP_nil, wQ] <;> omega) (fun u => (pm fun cp_q => by simp only [cp_o, List.countP_append, List.countP_nil, wQ] <;> omega)) ⟨(Nat.le_of_ble_eq_true rfl), (Nat.le_of_ble_eq_true rfl)⟩ (Nat.le_of_ble_eq_true rfl) (Nat.le_of_ble_eq_true rfl) dX4_takesTailField_20 (fun u_4 H locs hu_4 hz_4 h => ?_)
    refine lv_aload_n zx zb dX4_takesTailField_23 rfl (lv_at hl 1 rfl) ?_
    refine lv_bipush (v := iI (7)) zx zb dX4_takesTailField_24 rfl ?_
    refine pf4_22 (x := iI 7) zC h 0 (ws' := [(a 0, .inr (4, [.ref (q 0), .int (iI (bZ mk)), .int (iI 7), .int (iI (fd : Int)), .int (iI rl), .int (iI nu), .int (iI fg), .int (iI ne), .int (iI tu), .ref (a 1), .int (iI (op : Int))])), (a 1, cI g 20 TB), (q 0, .inr (3, [.ref (q 1), .ref (q 2), .ref (q 3), .ref (q 4), .int (iI (sc : Int)), .int (iI (tc : Int)), .int (iI (bZ (bAdd1 fl (fOf c).toNat))), .int (iI (tl : Int)), .int (iI ((fOf c).toNat : Int)), .int (iI (aw : Int))])), (q 1, cI g 200 ST), (q 2, cI g 40 TF), (q 3, cC g 40 TR), (q 4, cI g 40 TN)]) rfl rfl (Nat.le_of_ble_eq_true rfl) dX4_takesTailField_26 (fun H locs h => ?_)
    refine lv_iconst (v := iI (1)) zx zb dX4_takesTailField_29 rfl ?_
    exact r_zret (b := true) zC zQ zr zk h dX4_takesTailField_30 rfl (u := (true, (7, ne, tu, nu, fg, rl, fd, op, TB, ST, TF, TR, TN, sc, tc, bAdd1 fl (fOf c).toNat, tl, (fOf c).toNat))) rfl (List.Perm.refl _) (by unfold rTailField; simp only []; rw [if_pos (by simp_all)]) (Nat.le_of_ble_eq_true rfl) (Nat.le_of_ble_eq_true rfl)
  · skip
    refine lv_iconst (v := iI (0)) zx zb dX4_takesTailField_13 rfl ?_
    exact r_zret (b := false) zC zQ zr zk h dX4_takesTailField_14 rfl (u := (false, (st, ne, tu, nu, fg, rl, fd, op, TB, ST, TF, TR, TN, sc, tc, fl, tl, tf))) rfl (List.Perm.refl _) (by unfold rTailField; simp only []; rw [if_neg (by simp_all)]) (Nat.le_of_ble_eq_true rfl) (Nat.le_of_ble_eq_true rfl)
