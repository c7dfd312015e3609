/-! ROWS over the base: ints as iI z, z an Int; longs as lI z; comparisons by Int; arrays at Nat places -/
def iI (z : Int) : Int32 := Int32.ofInt z
def lI (z : Int) : Int64 := Int64.ofInt z
abbrev R32 (z : Int) : Prop := -2147483648 ≤ z ∧ z < 2147483648
abbrev R64 (z : Int) : Prop := -9223372036854775808 ≤ z ∧ z < 9223372036854775808
theorem iI_toInt {z : Int} (h : R32 z) : (iI z).toInt = z := by
  unfold iI
  rw [Int32.toInt_ofInt]
  have e : ((Int32.size : Nat) : Int) = 4294967296 := rfl
  rw [Int.bmod_eq_of_le] <;> omega
theorem lI_toInt {z : Int} (h : R64 z) : (lI z).toInt = z := by
  unfold lI
  rw [Int64.toInt_ofInt]
  have e : ((Int64.size : Nat) : Int) = 18446744073709551616 := rfl
  rw [Int.bmod_eq_of_le] <;> omega
theorem iI_of (x : Int32) : iI x.toInt = x := Int32.ofInt_toInt x
theorem lI_of (x : Int64) : lI x.toInt = x := Int64.ofInt_toInt x
theorem R32_of (x : Int32) : R32 x.toInt := ⟨x.minValue_le_toInt, by have := x.toInt_lt; omega⟩
theorem iI_ex (x : Int32) : ∃ z : Int, x = iI z ∧ R32 z := ⟨x.toInt, (iI_of x).symm, R32_of x⟩
theorem R64_of (x : Int64) : R64 x.toInt := ⟨x.minValue_le_toInt, by have := x.toInt_lt; omega⟩
theorem lI_ex (x : Int64) : ∃ z : Int, x = lI z ∧ R64 z := ⟨x.toInt, (lI_of x).symm, R64_of x⟩
theorem iI_add (a b : Int) : iI a + iI b = iI (a + b) := (Int32.ofInt_add a b).symm
theorem iI_sub (a b : Int) : iI a - iI b = iI (a - b) := (Int32.ofInt_sub a b).symm
theorem iI_mul (a b : Int) : iI a * iI b = iI (a * b) := (Int32.ofInt_mul a b).symm
theorem lI_add (a b : Int) : lI a + lI b = lI (a + b) := (Int64.ofInt_add a b).symm
theorem lI_sub (a b : Int) : lI a - lI b = lI (a - b) := (Int64.ofInt_sub a b).symm
theorem lI_mul (a b : Int) : lI a * lI b = lI (a * b) := (Int64.ofInt_mul a b).symm
theorem iI_le {a b : Int} (ha : R32 a) (hb : R32 b) : iI a ≤ iI b ↔ a ≤ b := by rw [Int32.le_iff_toInt_le, iI_toInt ha, iI_toInt hb]
theorem iI_lt {a b : Int} (ha : R32 a) (hb : R32 b) : iI a < iI b ↔ a < b := by rw [Int32.lt_iff_toInt_lt, iI_toInt ha, iI_toInt hb]
theorem iI_eq {a b : Int} (ha : R32 a) (hb : R32 b) : iI a = iI b ↔ a = b := ⟨fun h => by rw [← iI_toInt ha, h, iI_toInt hb], fun h => by rw [h]⟩
theorem lI_le {a b : Int} (ha : R64 a) (hb : R64 b) : lI a ≤ lI b ↔ a ≤ b := by rw [Int64.le_iff_toInt_le, lI_toInt ha, lI_toInt hb]
theorem lI_lt {a b : Int} (ha : R64 a) (hb : R64 b) : lI a < lI b ↔ a < b := by rw [Int64.lt_iff_toInt_lt, lI_toInt ha, lI_toInt hb]
theorem lI_eq {a b : Int} (ha : R64 a) (hb : R64 b) : lI a = lI b ↔ a = b := ⟨fun h => by rw [← lI_toInt ha, h, lI_toInt hb], fun h => by rw [h]⟩
theorem iI_l {z : Int} (h : R32 z) : (iI z).toInt64 = lI z := by
  rw [← lI_of (iI z).toInt64, Int32.toInt_toInt64, iI_toInt h]
theorem lI_i (z : Int) : (lI z).toInt32 = iI z := by
  unfold lI iI
  rw [Int64.toInt32_ofInt]
theorem iI_0 : iI 0 = 0 := rfl
theorem iI_1 : iI 1 = 1 := rfl
theorem iI_m1 : iI (-1) = -1 := rfl
theorem iI_b0 : iI 0 = bI false := rfl
theorem iI_b1 : iI 1 = bI true := rfl
theorem lI_0 : lI 0 = 0 := rfl
theorem lI_1 : lI 1 = 1 := rfl
theorem iI_in {z : Int} {k n : Nat} (hz : z = k) (hk : k < n) (hn : n < 2147483648) : vp_in (iI z) n ∧ (iI z).toNatClampNeg = k := by
  have hR : R32 z := by constructor <;> omega
  have h1 : (iI z).toInt = (k : Int) := by rw [iI_toInt hR, hz]
  have h2 : (iI z).toNatClampNeg = k := by
    show (iI z).toInt.toNat = k
    rw [h1]
    rfl
  refine ⟨fun h => ?_, h2⟩
  rcases h with h | h
  · rw [Int32.lt_iff_toInt_lt, h1, Int32.toInt_zero] at h
    omega
  · omega
/-- an array's content, one place changed -/
def up {α : Type} (f : Nat → α) (k : Nat) (x : α) : Nat → α := fun j => if j = k then x else f j
theorem up_s {α : Type} {f : Nat → α} {k : Nat} {x : α} : up f k x k = x := if_pos rfl
theorem up_n {α : Type} {f : Nat → α} {k j : Nat} {x : α} (h : j ≠ k) : up f k x j = f j := if_neg h
/-- contents of arrays by Ints, Bools -/
def aI (F : Nat → Int) : Nat → Int32 := fun j => iI (F j)
def aB (F : Nat → Bool) : Nat → Int32 := fun j => bI (F j)
def aL (F : Nat → Int) : Nat → Int64 := fun j => lI (F j)
theorem aI_up (F : Nat → Int) (k : Nat) (z : Int) : up (aI F) k (iI z) = aI (up F k z) := by
  funext j
  show (if j = k then iI z else iI (F j)) = iI (if j = k then z else F j)
  split <;> rfl
theorem aB_up (F : Nat → Bool) (k : Nat) (z : Bool) : up (aB F) k (bI z) = aB (up F k z) := by
  funext j
  show (if j = k then bI z else bI (F j)) = bI (if j = k then z else F j)
  split <;> rfl
theorem aL_up (F : Nat → Int) (k : Nat) (z : Int) : up (aL F) k (lI z) = aL (up F k z) := by
  funext j
  show (if j = k then lI z else lI (F j)) = lI (if j = k then z else F j)
  split <;> rfl
/-- the outer array of a grid -/
def gO (n : Nat) (r : Nat → Nat) : Nat → Option Nat := fun i => if i < n then some (r i) else none
/-- cells: arrays of int, char, boolean, long, int[], Kept -/
def cI (g : Nat → ClassId) (n : Nat) (F : Nat → Int) : va_E := .inl (g 0, n, .inl (aI F))
def cC (g : Nat → ClassId) (n : Nat) (F : Nat → Int) : va_E := .inl (g 1, n, .inl (aI F))
def cZ (g : Nat → ClassId) (n : Nat) (F : Nat → Bool) : va_E := .inl (g 2, n, .inl (aB F))
def cJ (g : Nat → ClassId) (n : Nat) (F : Nat → Int) : va_E := .inl (g 3, n, .inr (.inl (aL F)))
def cG (g : Nat → ClassId) (n : Nat) (r : Nat → Nat) : va_E := .inl (g 4, n, .inr (.inr (.inr (.inr (gO n r)))))
def cQ (g : Nat → ClassId) (n : Nat) (f : Nat → Option Nat) : va_E := .inl (g 5, n, .inr (.inr (.inr (.inr f))))
/-- the rows of a grid -/
def sG (g : Nat → ClassId) (r : Nat → Nat) (n len : Nat) (F : Nat → Nat → Int) : va_W := (List.range n).map (fun i => (r i, cI g len (F i)))
/-- all but one -/
def sGx (g : Nat → ClassId) (r : Nat → Nat) (n len : Nat) (F : Nat → Nat → Int) (i : Nat) : va_W := ((List.range n).erase i).map (fun i => (r i, cI g len (F i)))
theorem sG_split {g : Nat → ClassId} {r : Nat → Nat} {n len : Nat} {F : Nat → Nat → Int} {i : Nat} (h : i < n) : (sG g r n len F).Perm ((r i, cI g len (F i)) :: sGx g r n len F i) := by
  unfold sG sGx
  exact (List.perm_cons_erase (List.mem_range.mpr h)).map _
theorem sGx_up {g : Nat → ClassId} {r : Nat → Nat} {n len : Nat} {F : Nat → Nat → Int} {i : Nat} {f : Nat → Int} : sGx g r n len (up F i f) i = sGx g r n len F i := by
  unfold sGx
  apply List.map_congr_left
  intro j hj
  have : j ≠ i := fun e => by
    subst e
    exact (List.Nodup.not_mem_erase List.nodup_range) hj
  rw [up_n this]
theorem sG_put {g : Nat → ClassId} {r : Nat → Nat} {n len : Nat} {F : Nat → Nat → Int} {i : Nat} {f : Nat → Int} (h : i < n) : (sG g r n len (up F i f)).Perm ((r i, cI g len f) :: sGx g r n len F i) := by
  have h1 := sG_split (g := g) (r := r) (len := len) (F := up F i f) h
  rw [up_s, sGx_up] at h1
  exact h1
theorem sG_get {g : Nat → ClassId} {r : Nat → Nat} {n len : Nat} {F : Nat → Nat → Int} {i : Nat} (h : i < n) : (r i, cI g len (F i)) ∈ sG g r n len F := List.mem_map.mpr ⟨i, List.mem_range.mpr h, rfl⟩
section ROWS
variable {p : Program} {l : Launch} {e : Env} {R : Room} {s : State} {m : MethodId} {args : Array Value} {below : List Frame} {meth : Method} {c : Code} {H H0 : Heap} {locs : List Loc} {cells slots : Nat} {Q : State → Prop}
variable {cc : ByteArray} {pc : Nat} {ls : Array Slot} {rest : List Value} {D : va_G} {g : Nat → ClassId} {A : Nat → Prop} {ws : va_W} {nL : Nat} {own : String}
theorem i_add (C : Cx p m c cc nL s args own) {a b : Int} (hdg : decode cc pc = .ok (.iadd, 1)) (k : W p l e R s m args below meth c H locs cells slots Q (F0 m (pc + 1) ls (.int (iI (a + b)) :: rest))) : W p l e R s m args below meth c H locs cells slots Q (F0 m pc ls (.int (iI b) :: .int (iI a) :: rest)) :=
  lv_iadd C.1 C.2.1 hdg (by rw [iI_add]; exact k)
theorem i_sub (C : Cx p m c cc nL s args own) {a b : Int} (hdg : decode cc pc = .ok (.isub, 1)) (k : W p l e R s m args below meth c H locs cells slots Q (F0 m (pc + 1) ls (.int (iI (a - b)) :: rest))) : W p l e R s m args below meth c H locs cells slots Q (F0 m pc ls (.int (iI b) :: .int (iI a) :: rest)) :=
  lv_isub C.1 C.2.1 hdg (by rw [iI_sub]; exact k)
theorem i_mul (C : Cx p m c cc nL s args own) {a b : Int} (hdg : decode cc pc = .ok (.imul, 1)) (k : W p l e R s m args below meth c H locs cells slots Q (F0 m (pc + 1) ls (.int (iI (a * b)) :: rest))) : W p l e R s m args below meth c H locs cells slots Q (F0 m pc ls (.int (iI b) :: .int (iI a) :: rest)) :=
  lv_imul C.1 C.2.1 hdg (by rw [iI_mul]; exact k)
theorem l_add (C : Cx p m c cc nL s args own) {a b : Int} (hdg : decode cc pc = .ok (.ladd, 1)) (k : W p l e R s m args below meth c H locs cells slots Q (F0 m (pc + 1) ls (.long (lI (a + b)) :: rest))) : W p l e R s m args below meth c H locs cells slots Q (F0 m pc ls (.long (lI b) :: .long (lI a) :: rest)) :=
  lv_ladd C.1 C.2.1 hdg (by rw [lI_add]; exact k)
theorem l_sub (C : Cx p m c cc nL s args own) {a b : Int} (hdg : decode cc pc = .ok (.lsub, 1)) (k : W p l e R s m args below meth c H locs cells slots Q (F0 m (pc + 1) ls (.long (lI (a - b)) :: rest))) : W p l e R s m args below meth c H locs cells slots Q (F0 m pc ls (.long (lI b) :: .long (lI a) :: rest)) :=
  lv_lsub C.1 C.2.1 hdg (by rw [lI_sub]; exact k)
theorem l_mul (C : Cx p m c cc nL s args own) {a b : Int} (hdg : decode cc pc = .ok (.lmul, 1)) (k : W p l e R s m args below meth c H locs cells slots Q (F0 m (pc + 1) ls (.long (lI (a * b)) :: rest))) : W p l e R s m args below meth c H locs cells slots Q (F0 m pc ls (.long (lI b) :: .long (lI a) :: rest)) :=
  lv_lmul C.1 C.2.1 hdg (by rw [lI_mul]; exact k)
theorem i_i2l (C : Cx p m c cc nL s args own) {a : Int} (hdg : decode cc pc = .ok (.i2l, 1)) (h : R32 a) (k : W p l e R s m args below meth c H locs cells slots Q (F0 m (pc + 1) ls (.long (lI a) :: rest))) : W p l e R s m args below meth c H locs cells slots Q (F0 m pc ls (.int (iI a) :: rest)) :=
  lv_i2l C.1 C.2.1 hdg (iI_l h) k
theorem l_l2i (C : Cx p m c cc nL s args own) {a : Int} (hdg : decode cc pc = .ok (.l2i, 1)) (k : W p l e R s m args below meth c H locs cells slots Q (F0 m (pc + 1) ls (.int (iI a) :: rest))) : W p l e R s m args below meth c H locs cells slots Q (F0 m pc ls (.long (lI a) :: rest)) :=
  lv_l2i C.1 C.2.1 hdg (lI_i a) k
theorem i_inc (C : Cx p m c cc nL s args own) {i q : Nat} {n a : Int} {lv lv' : List (Nat × Value)} (hl : lv_has ls nL lv) (hdg : decode cc pc = .ok (.iinc i n, 3)) (hk : lv[q]? = some (i, .int (iI a))) (hn : i < nL) (hl2 : (i, Value.int (iI (a + n))) :: lv.filter (fun q => !(q.1 == i) && !(q.1 + 1 == i && q.2.category == 2)) = lv')
    (kk : ∀ ls' : Array Slot, lv_has ls' nL lv' → W p l e R s m args below meth c H locs cells slots Q (F0 m (pc + 3) ls' rest)) : W p l e R s m args below meth c H locs cells slots Q (F0 m pc ls rest) :=
  lv_iinc (v := iI (a + n)) C.1 C.2.1 hdg hl hk (iI_add a n) hn hl2 kk
/-! comparisons -/
abbrev R2 (a b : Int) : Prop := -2147483648 ≤ a ∧ a < 2147483648 ∧ -2147483648 ≤ b ∧ b < 2147483648
theorem i_ceq (C : Cx p m c cc nL s args own) {a b : Int} {off : Int} {tgt : Nat} (hdg : decode cc pc = .ok (.if_icmp .eq off, 3)) (ht : (pc : Int) + off = (tgt : Int)) (h : R2 a b) (kt : a = b → W p l e R s m args below meth c H locs cells slots Q (F0 m tgt ls rest)) (kf : a ≠ b → W p l e R s m args below meth c H locs cells slots Q (F0 m (pc + 3) ls rest)) : W p l e R s m args below meth c H locs cells slots Q (F0 m pc ls (.int (iI b) :: .int (iI a) :: rest)) :=
  lv_icmp_eq C.1 C.2.1 hdg ht (fun q => kt ((iI_eq ⟨h.1, h.2.1⟩ h.2.2).mp q)) (fun q => kf (fun z => q ((iI_eq ⟨h.1, h.2.1⟩ h.2.2).mpr z)))
theorem i_cne (C : Cx p m c cc nL s args own) {a b : Int} {off : Int} {tgt : Nat} (hdg : decode cc pc = .ok (.if_icmp .ne off, 3)) (ht : (pc : Int) + off = (tgt : Int)) (h : R2 a b) (kt : a ≠ b → W p l e R s m args below meth c H locs cells slots Q (F0 m tgt ls rest)) (kf : a = b → W p l e R s m args below meth c H locs cells slots Q (F0 m (pc + 3) ls rest)) : W p l e R s m args below meth c H locs cells slots Q (F0 m pc ls (.int (iI b) :: .int (iI a) :: rest)) :=
  lv_icmp_ne C.1 C.2.1 hdg ht (fun q => kt (fun z => q ((iI_eq ⟨h.1, h.2.1⟩ h.2.2).mpr z))) (fun q => kf ((iI_eq ⟨h.1, h.2.1⟩ h.2.2).mp q))
theorem i_clt (C : Cx p m c cc nL s args own) {a b : Int} {off : Int} {tgt : Nat} (hdg : decode cc pc = .ok (.if_icmp .lt off, 3)) (ht : (pc : Int) + off = (tgt : Int)) (h : R2 a b) (kt : a < b → W p l e R s m args below meth c H locs cells slots Q (F0 m tgt ls rest)) (kf : b ≤ a → W p l e R s m args below meth c H locs cells slots Q (F0 m (pc + 3) ls rest)) : W p l e R s m args below meth c H locs cells slots Q (F0 m pc ls (.int (iI b) :: .int (iI a) :: rest)) :=
  lv_icmp_lt C.1 C.2.1 hdg ht (fun q => kt ((iI_lt ⟨h.1, h.2.1⟩ h.2.2).mp q)) (fun q => kf (Int.not_lt.mp (fun z => q ((iI_lt ⟨h.1, h.2.1⟩ h.2.2).mpr z))))
theorem i_cge (C : Cx p m c cc nL s args own) {a b : Int} {off : Int} {tgt : Nat} (hdg : decode cc pc = .ok (.if_icmp .ge off, 3)) (ht : (pc : Int) + off = (tgt : Int)) (h : R2 a b) (kt : b ≤ a → W p l e R s m args below meth c H locs cells slots Q (F0 m tgt ls rest)) (kf : a < b → W p l e R s m args below meth c H locs cells slots Q (F0 m (pc + 3) ls rest)) : W p l e R s m args below meth c H locs cells slots Q (F0 m pc ls (.int (iI b) :: .int (iI a) :: rest)) :=
  lv_icmp_ge C.1 C.2.1 hdg ht (fun q => kt ((iI_le h.2.2 ⟨h.1, h.2.1⟩).mp q)) (fun q => kf (Int.not_le.mp (fun z => q ((iI_le h.2.2 ⟨h.1, h.2.1⟩).mpr z))))
theorem i_cgt (C : Cx p m c cc nL s args own) {a b : Int} {off : Int} {tgt : Nat} (hdg : decode cc pc = .ok (.if_icmp .gt off, 3)) (ht : (pc : Int) + off = (tgt : Int)) (h : R2 a b) (kt : b < a → W p l e R s m args below meth c H locs cells slots Q (F0 m tgt ls rest)) (kf : a ≤ b → W p l e R s m args below meth c H locs cells slots Q (F0 m (pc + 3) ls rest)) : W p l e R s m args below meth c H locs cells slots Q (F0 m pc ls (.int (iI b) :: .int (iI a) :: rest)) :=
  lv_icmp_gt C.1 C.2.1 hdg ht (fun q => kt ((iI_lt h.2.2 ⟨h.1, h.2.1⟩).mp q)) (fun q => kf (Int.not_lt.mp (fun z => q ((iI_lt h.2.2 ⟨h.1, h.2.1⟩).mpr z))))
theorem i_cle (C : Cx p m c cc nL s args own) {a b : Int} {off : Int} {tgt : Nat} (hdg : decode cc pc = .ok (.if_icmp .le off, 3)) (ht : (pc : Int) + off = (tgt : Int)) (h : R2 a b) (kt : a ≤ b → W p l e R s m args below meth c H locs cells slots Q (F0 m tgt ls rest)) (kf : b < a → W p l e R s m args below meth c H locs cells slots Q (F0 m (pc + 3) ls rest)) : W p l e R s m args below meth c H locs cells slots Q (F0 m pc ls (.int (iI b) :: .int (iI a) :: rest)) :=
  lv_icmp_le C.1 C.2.1 hdg ht (fun q => kt ((iI_le ⟨h.1, h.2.1⟩ h.2.2).mp q)) (fun q => kf (Int.not_le.mp (fun z => q ((iI_le ⟨h.1, h.2.1⟩ h.2.2).mpr z))))
theorem R2_0 {a : Int} (h : R32 a) : R2 a 0 := ⟨h.1, h.2, by decide, by decide⟩
theorem i_zeq (C : Cx p m c cc nL s args own) {a : Int} {off : Int} {tgt : Nat} (hdg : decode cc pc = .ok (.ifCond .eq off, 3)) (ht : (pc : Int) + off = (tgt : Int)) (h : R32 a) (kt : a = 0 → W p l e R s m args below meth c H locs cells slots Q (F0 m tgt ls rest)) (kf : a ≠ 0 → W p l e R s m args below meth c H locs cells slots Q (F0 m (pc + 3) ls rest)) : W p l e R s m args below meth c H locs cells slots Q (F0 m pc ls (.int (iI a) :: rest)) :=
  lv_if_eq C.1 C.2.1 hdg ht (fun q => kt ((iI_eq h (by decide)).mp q)) (fun q => kf (fun z => q ((iI_eq h (by decide)).mpr z)))
theorem i_zne (C : Cx p m c cc nL s args own) {a : Int} {off : Int} {tgt : Nat} (hdg : decode cc pc = .ok (.ifCond .ne off, 3)) (ht : (pc : Int) + off = (tgt : Int)) (h : R32 a) (kt : a ≠ 0 → W p l e R s m args below meth c H locs cells slots Q (F0 m tgt ls rest)) (kf : a = 0 → W p l e R s m args below meth c H locs cells slots Q (F0 m (pc + 3) ls rest)) : W p l e R s m args below meth c H locs cells slots Q (F0 m pc ls (.int (iI a) :: rest)) :=
  lv_if_ne C.1 C.2.1 hdg ht (fun q => kt (fun z => q ((iI_eq h (by decide)).mpr z))) (fun q => kf ((iI_eq h (by decide)).mp q))
theorem i_zlt (C : Cx p m c cc nL s args own) {a : Int} {off : Int} {tgt : Nat} (hdg : decode cc pc = .ok (.ifCond .lt off, 3)) (ht : (pc : Int) + off = (tgt : Int)) (h : R32 a) (kt : a < 0 → W p l e R s m args below meth c H locs cells slots Q (F0 m tgt ls rest)) (kf : 0 ≤ a → W p l e R s m args below meth c H locs cells slots Q (F0 m (pc + 3) ls rest)) : W p l e R s m args below meth c H locs cells slots Q (F0 m pc ls (.int (iI a) :: rest)) :=
  lv_if_lt C.1 C.2.1 hdg ht (fun q => kt ((iI_lt h (by decide)).mp q)) (fun q => kf (Int.not_lt.mp (fun z => q ((iI_lt h (by decide)).mpr z))))
theorem i_zge (C : Cx p m c cc nL s args own) {a : Int} {off : Int} {tgt : Nat} (hdg : decode cc pc = .ok (.ifCond .ge off, 3)) (ht : (pc : Int) + off = (tgt : Int)) (h : R32 a) (kt : 0 ≤ a → W p l e R s m args below meth c H locs cells slots Q (F0 m tgt ls rest)) (kf : a < 0 → W p l e R s m args below meth c H locs cells slots Q (F0 m (pc + 3) ls rest)) : W p l e R s m args below meth c H locs cells slots Q (F0 m pc ls (.int (iI a) :: rest)) :=
  lv_if_ge C.1 C.2.1 hdg ht (fun q => kt ((iI_le (by decide) h).mp q)) (fun q => kf (Int.not_le.mp (fun z => q ((iI_le (by decide) h).mpr z))))
theorem i_zgt (C : Cx p m c cc nL s args own) {a : Int} {off : Int} {tgt : Nat} (hdg : decode cc pc = .ok (.ifCond .gt off, 3)) (ht : (pc : Int) + off = (tgt : Int)) (h : R32 a) (kt : 0 < a → W p l e R s m args below meth c H locs cells slots Q (F0 m tgt ls rest)) (kf : a ≤ 0 → W p l e R s m args below meth c H locs cells slots Q (F0 m (pc + 3) ls rest)) : W p l e R s m args below meth c H locs cells slots Q (F0 m pc ls (.int (iI a) :: rest)) :=
  lv_if_gt C.1 C.2.1 hdg ht (fun q => kt ((iI_lt (by decide) h).mp q)) (fun q => kf (Int.not_lt.mp (fun z => q ((iI_lt (by decide) h).mpr z))))
theorem i_zle (C : Cx p m c cc nL s args own) {a : Int} {off : Int} {tgt : Nat} (hdg : decode cc pc = .ok (.ifCond .le off, 3)) (ht : (pc : Int) + off = (tgt : Int)) (h : R32 a) (kt : a ≤ 0 → W p l e R s m args below meth c H locs cells slots Q (F0 m tgt ls rest)) (kf : 0 < a → W p l e R s m args below meth c H locs cells slots Q (F0 m (pc + 3) ls rest)) : W p l e R s m args below meth c H locs cells slots Q (F0 m pc ls (.int (iI a) :: rest)) :=
  lv_if_le C.1 C.2.1 hdg ht (fun q => kt ((iI_le h (by decide)).mp q)) (fun q => kf (Int.not_le.mp (fun z => q ((iI_le h (by decide)).mpr z))))
theorem b_zeq (C : Cx p m c cc nL s args own) {b : Bool} {off : Int} {tgt : Nat} (hdg : decode cc pc = .ok (.ifCond .eq off, 3)) (ht : (pc : Int) + off = (tgt : Int)) (kt : b = false → W p l e R s m args below meth c H locs cells slots Q (F0 m tgt ls rest)) (kf : b = true → W p l e R s m args below meth c H locs cells slots Q (F0 m (pc + 3) ls rest)) : W p l e R s m args below meth c H locs cells slots Q (F0 m pc ls (.int (bI b) :: rest)) :=
  lv_if_eq C.1 C.2.1 hdg ht (fun q => kt (bI_0.mp q)) (fun q => kf (by cases b <;> simp_all [bI]))
theorem b_zne (C : Cx p m c cc nL s args own) {b : Bool} {off : Int} {tgt : Nat} (hdg : decode cc pc = .ok (.ifCond .ne off, 3)) (ht : (pc : Int) + off = (tgt : Int)) (kt : b = true → W p l e R s m args below meth c H locs cells slots Q (F0 m tgt ls rest)) (kf : b = false → W p l e R s m args below meth c H locs cells slots Q (F0 m (pc + 3) ls rest)) : W p l e R s m args below meth c H locs cells slots Q (F0 m pc ls (.int (bI b) :: rest)) :=
  lv_if_ne C.1 C.2.1 hdg ht (fun q => kt (by cases b <;> simp_all [bI])) (fun q => kf (bI_0.mp q))
theorem b_ceq (C : Cx p m c cc nL s args own) {a b : Bool} {off : Int} {tgt : Nat} (hdg : decode cc pc = .ok (.if_icmp .eq off, 3)) (ht : (pc : Int) + off = (tgt : Int)) (kt : a = b → W p l e R s m args below meth c H locs cells slots Q (F0 m tgt ls rest)) (kf : a ≠ b → W p l e R s m args below meth c H locs cells slots Q (F0 m (pc + 3) ls rest)) : W p l e R s m args below meth c H locs cells slots Q (F0 m pc ls (.int (bI b) :: .int (bI a) :: rest)) :=
  lv_icmp_eq C.1 C.2.1 hdg ht (fun q => kt (bI_inj.mp q)) (fun q => kf (fun z => q (bI_inj.mpr z)))
theorem b_cne (C : Cx p m c cc nL s args own) {a b : Bool} {off : Int} {tgt : Nat} (hdg : decode cc pc = .ok (.if_icmp .ne off, 3)) (ht : (pc : Int) + off = (tgt : Int)) (kt : a ≠ b → W p l e R s m args below meth c H locs cells slots Q (F0 m tgt ls rest)) (kf : a = b → W p l e R s m args below meth c H locs cells slots Q (F0 m (pc + 3) ls rest)) : W p l e R s m args below meth c H locs cells slots Q (F0 m pc ls (.int (bI b) :: .int (bI a) :: rest)) :=
  lv_icmp_ne C.1 C.2.1 hdg ht (fun q => kt (fun z => q (bI_inj.mpr z))) (fun q => kf (bI_inj.mp q))
/-- long comparisons: the answer of lcmp is -1, 0 or 1 as an Int -/
def lC (a b : Int) : Int := if b < a then 1 else if a = b then 0 else -1
theorem lC_R (a b : Int) : R32 (lC a b) := by unfold lC R32; split <;> (try split) <;> omega
theorem lC_le {a b : Int} : lC a b ≤ 0 ↔ a ≤ b := by unfold lC; split <;> (try split) <;> omega
theorem lC_lt {a b : Int} : lC a b < 0 ↔ a < b := by unfold lC; split <;> (try split) <;> omega
theorem lC_ge {a b : Int} : 0 ≤ lC a b ↔ b ≤ a := by unfold lC; split <;> (try split) <;> omega
theorem lC_gt {a b : Int} : 0 < lC a b ↔ b < a := by unfold lC; split <;> (try split) <;> omega
theorem lC_eq {a b : Int} : lC a b = 0 ↔ a = b := by unfold lC; split <;> (try split) <;> omega
theorem l_cmp (C : Cx p m c cc nL s args own) {a b : Int} (hdg : decode cc pc = .ok (.lcmp, 1)) (ha : R64 a) (hb : R64 b) (k : W p l e R s m args below meth c H locs cells slots Q (F0 m (pc + 1) ls (.int (iI (lC a b)) :: rest))) : W p l e R s m args below meth c H locs cells slots Q (F0 m pc ls (.long (lI b) :: .long (lI a) :: rest)) := by
  refine W.lcmp C.1 C.2.1 hdg ?_
  have e : lg_cmp (lI a) (lI b) = iI (lC a b) := by
    unfold lg_cmp lC
    have h1 : lI a > lI b ↔ b < a := lI_lt hb ha
    have h2 := lI_eq ha hb
    by_cases q1 : b < a
    · rw [if_pos (h1.mpr q1), if_pos q1]; rfl
    · rw [if_neg (fun z => q1 (h1.mp z)), if_neg q1]
      by_cases q2 : a = b
      · rw [if_pos (h2.mpr q2), if_pos q2]; rfl
      · rw [if_neg (fun z => q2 (h2.mp z)), if_neg q2]; rfl
  rw [e]
  exact k
/-! arrays at a Nat place -/
theorem upd_up (f : Nat → Int32) (k : Nat) (x : Int32) : upd f k x = up f k x := rfl
theorem updL_up (f : Nat → Int64) (k : Nat) (x : Int64) : vp_updL f k x = up f k x := rfl
theorem a_ild (C : Cx p m c cc nL s args own) (h : Hx D g s A H0 ws H locs) (q0 : Nat) {a n : Nat} {F : Nat → Int} (he : ws[q0]? = some (a, cI g n F)) {z : Int} (k : Nat) (hz : z = (k : Int)) (hk : k < n) (hn : n < 2147483648) (hdg : decode cc pc = .ok (.iaload, 1))
    (kk : W p l e R s m args below meth c H locs cells slots Q (F0 m (pc + 1) ls (.int (iI (F k)) :: rest))) : W p l e R s m args below meth c H locs cells slots Q (F0 m pc ls (.int (iI z) :: .ref a :: rest)) :=
  va_iald (f := aI F) C.1 C.2.1 h.1.1 h.2.1 q0 0 he rfl (iI_in hz hk hn).1 hdg (by rw [(iI_in hz hk hn).2]; exact kk)
theorem a_cld (C : Cx p m c cc nL s args own) (h : Hx D g s A H0 ws H locs) (q0 : Nat) {a n : Nat} {F : Nat → Int} (he : ws[q0]? = some (a, cC g n F)) {z : Int} (k : Nat) (hz : z = (k : Int)) (hk : k < n) (hn : n < 2147483648) (hdg : decode cc pc = .ok (.caload, 1))
    (kk : W p l e R s m args below meth c H locs cells slots Q (F0 m (pc + 1) ls (.int (iI (F k)) :: rest))) : W p l e R s m args below meth c H locs cells slots Q (F0 m pc ls (.int (iI z) :: .ref a :: rest)) :=
  va_cald (f := aI F) C.1 C.2.1 h.1.1 h.2.1 q0 1 he rfl (iI_in hz hk hn).1 hdg (by rw [(iI_in hz hk hn).2]; exact kk)
theorem a_zld (C : Cx p m c cc nL s args own) (h : Hx D g s A H0 ws H locs) (q0 : Nat) {a n : Nat} {F : Nat → Bool} (he : ws[q0]? = some (a, cZ g n F)) {z : Int} (k : Nat) (hz : z = (k : Int)) (hk : k < n) (hn : n < 2147483648) (hdg : decode cc pc = .ok (.baload, 1))
    (kk : W p l e R s m args below meth c H locs cells slots Q (F0 m (pc + 1) ls (.int (bI (F k)) :: rest))) : W p l e R s m args below meth c H locs cells slots Q (F0 m pc ls (.int (iI z) :: .ref a :: rest)) :=
  va_zald (f := aB F) C.1 C.2.1 h.1.1 h.2.1 q0 2 he rfl (iI_in hz hk hn).1 hdg (by rw [(iI_in hz hk hn).2]; exact kk)
theorem a_lld (C : Cx p m c cc nL s args own) (h : Hx D g s A H0 ws H locs) (q0 : Nat) {a n : Nat} {F : Nat → Int} (he : ws[q0]? = some (a, cJ g n F)) {z : Int} (k : Nat) (hz : z = (k : Int)) (hk : k < n) (hn : n < 2147483648) (hdg : decode cc pc = .ok (.laload, 1))
    (kk : W p l e R s m args below meth c H locs cells slots Q (F0 m (pc + 1) ls (.long (lI (F k)) :: rest))) : W p l e R s m args below meth c H locs cells slots Q (F0 m pc ls (.int (iI z) :: .ref a :: rest)) :=
  va_lald (f := aL F) C.1 C.2.1 h.1.1 h.2.1 q0 3 he rfl (iI_in hz hk hn).1 hdg (by rw [(iI_in hz hk hn).2]; exact kk)
theorem a_ist (C : Cx p m c cc nL s args own) (h : Hx D g s A H0 ws H locs) (q0 : Nat) {a n : Nat} {F : Nat → Int} {x : Int} (ws' : va_W) (he : ws[q0]? = some (a, cI g n F)) {z : Int} (k : Nat) (hw : ws.set q0 (a, cI g n (up F k x)) = ws') (hz : z = (k : Int)) (hk : k < n) (hn : n < 2147483648) (hdg : decode cc pc = .ok (.iastore, 1))
    (kk : ∀ (H1 : Heap) (locs1 : List Loc), Hx D g s A H0 ws' H1 locs1 → W p l e R s m args below meth c H1 locs1 cells slots Q (F0 m (pc + 1) ls rest)) : W p l e R s m args below meth c H locs cells slots Q (F0 m pc ls (.int (iI x) :: .int (iI z) :: .ref a :: rest)) :=
  va_iast (f := aI F) C.1 C.2.1 h.1.1 h.2.1 h.2.2.1 h.2.2.2.1 q0 0 he rfl (iI_in hz hk hn).1 hdg (fun H1 locs1 hP hD hS => kk H1 locs1 (by
    rw [(iI_in hz hk hn).2, upd_up, aI_up] at hP hD
    subst hw
    exact ⟨h.1, hP, hD, hS, h.2.2.2.2⟩))
theorem a_cst (C : Cx p m c cc nL s args own) (h : Hx D g s A H0 ws H locs) (q0 : Nat) {a n : Nat} {F : Nat → Int} {x : Int} (ws' : va_W) (he : ws[q0]? = some (a, cC g n F)) {z : Int} (k : Nat) (hw : ws.set q0 (a, cC g n (up F k x)) = ws') (hc : vp_nar .char (iI x) = iI x) (hz : z = (k : Int)) (hk : k < n) (hn : n < 2147483648) (hdg : decode cc pc = .ok (.castore, 1))
    (kk : ∀ (H1 : Heap) (locs1 : List Loc), Hx D g s A H0 ws' H1 locs1 → W p l e R s m args below meth c H1 locs1 cells slots Q (F0 m (pc + 1) ls rest)) : W p l e R s m args below meth c H locs cells slots Q (F0 m pc ls (.int (iI x) :: .int (iI z) :: .ref a :: rest)) :=
  va_cast (f := aI F) C.1 C.2.1 h.1.1 h.2.1 h.2.2.1 h.2.2.2.1 q0 1 he rfl (iI_in hz hk hn).1 hdg (fun H1 locs1 hP hD hS => kk H1 locs1 (by
    rw [(iI_in hz hk hn).2, hc, upd_up, aI_up] at hP hD
    subst hw
    exact ⟨h.1, hP, hD, hS, h.2.2.2.2⟩))
theorem a_zst (C : Cx p m c cc nL s args own) (h : Hx D g s A H0 ws H locs) (q0 : Nat) {a n : Nat} {F : Nat → Bool} {x : Bool} (ws' : va_W) (he : ws[q0]? = some (a, cZ g n F)) {z : Int} (k : Nat) (hw : ws.set q0 (a, cZ g n (up F k x)) = ws') (hz : z = (k : Int)) (hk : k < n) (hn : n < 2147483648) (hdg : decode cc pc = .ok (.bastore, 1))
    (kk : ∀ (H1 : Heap) (locs1 : List Loc), Hx D g s A H0 ws' H1 locs1 → W p l e R s m args below meth c H1 locs1 cells slots Q (F0 m (pc + 1) ls rest)) : W p l e R s m args below meth c H locs cells slots Q (F0 m pc ls (.int (bI x) :: .int (iI z) :: .ref a :: rest)) :=
  va_zast (f := aB F) C.1 C.2.1 h.1.1 h.2.1 h.2.2.1 h.2.2.2.1 q0 2 he rfl (iI_in hz hk hn).1 hdg (fun H1 locs1 hP hD hS => kk H1 locs1 (by
    rw [(iI_in hz hk hn).2, show vp_nar .boolean (bI x) = bI x from by cases x <;> rfl, upd_up, aB_up] at hP hD
    subst hw
    exact ⟨h.1, hP, hD, hS, h.2.2.2.2⟩))
theorem a_lst (C : Cx p m c cc nL s args own) (h : Hx D g s A H0 ws H locs) (q0 : Nat) {a n : Nat} {F : Nat → Int} {x : Int} (ws' : va_W) (he : ws[q0]? = some (a, cJ g n F)) {z : Int} (k : Nat) (hw : ws.set q0 (a, cJ g n (up F k x)) = ws') (hz : z = (k : Int)) (hk : k < n) (hn : n < 2147483648) (hdg : decode cc pc = .ok (.lastore, 1))
    (kk : ∀ (H1 : Heap) (locs1 : List Loc), Hx D g s A H0 ws' H1 locs1 → W p l e R s m args below meth c H1 locs1 cells slots Q (F0 m (pc + 1) ls rest)) : W p l e R s m args below meth c H locs cells slots Q (F0 m pc ls (.long (lI x) :: .int (iI z) :: .ref a :: rest)) :=
  va_last (f := aL F) C.1 C.2.1 h.1.1 h.2.1 h.2.2.1 h.2.2.2.1 q0 3 he rfl (iI_in hz hk hn).1 hdg (fun H1 locs1 hP hD hS => kk H1 locs1 (by
    rw [(iI_in hz hk hn).2, updL_up, aL_up] at hP hD
    subst hw
    exact ⟨h.1, hP, hD, hS, h.2.2.2.2⟩))
theorem a_len (C : Cx p m c cc nL s args own) (h : Hx D g s A H0 ws H locs) (q0 t0 : Nat) {a : Nat} {x : vp_A} {ty : FieldType} {cA : ClassId} (ht : (tysG g)[t0]? = some (cA, ty)) (he : ws[q0]? = some (a, .inl (cA, x))) (z : Int) (hz : Int32.ofNat x.1 = iI z) (hdg : decode cc pc = .ok (.arraylength, 1))
    (kk : W p l e R s m args below meth c H locs cells slots Q (F0 m (pc + 1) ls (.int (iI z) :: rest))) : W p l e R s m args below meth c H locs cells slots Q (F0 m pc ls (.ref a :: rest)) :=
  va_alen C.1 C.2.1 h.1.1 h.2.1 q0 t0 he ht hz hdg kk
theorem a_gld (C : Cx p m c cc nL s args own) (h : Hx D g s A H0 ws H locs) (q0 : Nat) {a n : Nat} {r : Nat → Nat} (he : ws[q0]? = some (a, cG g n r)) {z : Int} (k : Nat) (hz : z = (k : Int)) (hk : k < n) (hn : n < 2147483648) (hdg : decode cc pc = .ok (.aaload, 1))
    (kk : W p l e R s m args below meth c H locs cells slots Q (F0 m (pc + 1) ls (.ref (r k) :: rest))) : W p l e R s m args below meth c H locs cells slots Q (F0 m pc ls (.int (iI z) :: .ref a :: rest)) := by
  have hlt := (iI_in hz hk hn).2
  have hin := (iI_in hz hk hn).1
  have e : va_rf (gO n r (iI z).toNatClampNeg) = .ref (r k) := by rw [hlt]; unfold gO; rw [if_pos hk]; rfl
  refine W.aald (v := va_rf (gO n r (iI z).toNatClampNeg)) (ty := .array .int) C.1 C.2.1 (h.2.1 q0 _ he) ((h.1.1.2 4 _ rfl).1 n (fun j => va_rf (gO n r j))) rfl (fun q => by cases q) (by show ¬ (iI z < 0 ∨ (arrV _ _ _).slots.size ≤ _); rw [arrV_size]; exact hin) (by show (arrV _ _ _).slots[_]? = _; rw [arrV_read _ _ (by rw [hlt]; exact hk)]) rfl rfl hdg ?_
  rw [e]
  exact kk
theorem a_qld (C : Cx p m c cc nL s args own) (h : Hx D g s A H0 ws H locs) (q0 : Nat) {a n : Nat} {f : Nat → Option Nat} (he : ws[q0]? = some (a, cQ g n f)) {z : Int} (k : Nat) (hz : z = (k : Int)) (hk : k < n) (hn : n < 2147483648) (hdg : decode cc pc = .ok (.aaload, 1))
    (kk : W p l e R s m args below meth c H locs cells slots Q (F0 m (pc + 1) ls (va_rf (f k) :: rest))) : W p l e R s m args below meth c H locs cells slots Q (F0 m pc ls (.int (iI z) :: .ref a :: rest)) :=
  va_aldq (f := f) C.1 C.2.1 h.1.1 h.2.1 q0 5 he rfl (iI_in hz hk hn).1 hdg (by rw [(iI_in hz hk hn).2]; exact kk)
/-- a row of a grid, read and written, wherever the grid stands -/
theorem a_ildM (C : Cx p m c cc nL s args own) (h : Hx D g s A H0 ws H locs) {a n : Nat} {F : Nat → Int} (he : (a, cI g n F) ∈ ws) {z : Int} (k : Nat) (hz : z = (k : Int)) (hk : k < n) (hn : n < 2147483648) (hdg : decode cc pc = .ok (.iaload, 1))
    (kk : W p l e R s m args below meth c H locs cells slots Q (F0 m (pc + 1) ls (.int (iI (F k)) :: rest))) : W p l e R s m args below meth c H locs cells slots Q (F0 m pc ls (.int (iI z) :: .ref a :: rest)) := by
  obtain ⟨q0, hq⟩ := List.getElem?_of_mem he
  exact a_ild C h q0 hq k hz hk hn hdg kk
theorem a_istM (C : Cx p m c cc nL s args own) (h : Hx D g s A H0 ws H locs) {a n : Nat} {F : Nat → Int} {wr : va_W} (he : ws.Perm ((a, cI g n F) :: wr)) {z x : Int} (k : Nat) (ws' : va_W) (hw : ((a, cI g n (up F k x)) :: wr).Perm ws') (hz : z = (k : Int)) (hk : k < n) (hn : n < 2147483648) (hdg : decode cc pc = .ok (.iastore, 1))
    (kk : ∀ (H1 : Heap) (locs1 : List Loc), Hx D g s A H0 ws' H1 locs1 → W p l e R s m args below meth c H1 locs1 cells slots Q (F0 m (pc + 1) ls rest)) : W p l e R s m args below meth c H locs cells slots Q (F0 m pc ls (.int (iI x) :: .int (iI z) :: .ref a :: rest)) :=
  a_ist C (h.perm he) 0 _ rfl k rfl hz hk hn hdg (fun H1 locs1 h1 => kk H1 locs1 (h1.perm hw))
end ROWS
