/-! BITS: an int that is a set of places below 32. The first rows (bt, b_..) began as the kit's family in laws/BITS -/
def bt (x : Int32) (i : Nat) : Bool := x.toBitVec.getLsbD i
theorem b_ext {x y : Int32} (h : ∀ i, i < 32 → bt x i = bt y i) : x = y := Int32.toBitVec_inj.mp (BitVec.eq_of_getLsbD_eq (fun i hi => h i hi))
theorem b_or (x y : Int32) (i : Nat) : bt (x ||| y) i = (bt x i || bt y i) := by unfold bt; rw [Int32.toBitVec_or, BitVec.getLsbD_or]
theorem b_and (x y : Int32) (i : Nat) : bt (x &&& y) i = (bt x i && bt y i) := by unfold bt; rw [Int32.toBitVec_and, BitVec.getLsbD_and]
theorem b_xor (x y : Int32) (i : Nat) : bt (x ^^^ y) i = (bt x i ^^ bt y i) := by unfold bt; rw [Int32.toBitVec_xor, BitVec.getLsbD_xor]
theorem b_m1 : ∀ i, i < 32 → bt (-1) i = true := by decide +kernel
theorem b_1 : ∀ i, i < 32 → bt 1 i = (i == 0) := by decide +kernel
theorem b_0 (i : Nat) : bt 0 i = false := BitVec.getLsbD_zero
theorem s_l : ∀ n, n < 32 → ((nI n &&& 31).toBitVec.smod 32).toNat = n := by decide +kernel
theorem s_u : ∀ n, n < 32 → (((nI n).toUInt32 &&& Int32.toUInt32 31).toBitVec % 32).toNat = n := by decide +kernel
theorem b_shl (n : Nat) (hn : n < 32) (x : Int32) {i : Nat} (hi : i < 32) : bt (x <<< (nI n &&& 31)) i = (decide (n ≤ i) && bt x (i - n)) := by
  unfold bt
  rw [Int32.toBitVec_shiftLeft]
  show (x.toBitVec <<< ((nI n &&& 31).toBitVec.smod 32).toNat).getLsbD i = _
  rw [s_l n hn, BitVec.getLsbD_shiftLeft]
  rcases Nat.lt_or_ge i n with h | h
  · simp [h, Nat.not_le.mpr h]
  · simp [hi, h, Nat.not_lt.mpr h]
theorem b_ushr (n : Nat) (hn : n < 32) (x : Int32) (i : Nat) : bt ((x.toUInt32 >>> ((nI n).toUInt32 &&& Int32.toUInt32 31)).toInt32) i = bt x (n + i) := by
  show (x.toUInt32 >>> ((nI n).toUInt32 &&& Int32.toUInt32 31)).toBitVec.getLsbD i = x.toUInt32.toBitVec.getLsbD (n + i)
  rw [UInt32.toBitVec_shiftRight]
  show (x.toUInt32.toBitVec >>> (((nI n).toUInt32 &&& Int32.toUInt32 31).toBitVec % 32).toNat).getLsbD i = _
  rw [s_u n hn, BitVec.getLsbD_ushiftRight]
theorem b_sshr (n : Nat) (hn : n < 32) (x : Int32) {i : Nat} (hi : i < 32) : bt (x >>> (nI n &&& 31)) i = if n + i < 32 then bt x (n + i) else bt x 31 := by
  unfold bt
  rw [Int32.toBitVec_shiftRight]
  show (x.toBitVec.sshiftRight ((nI n &&& 31).toBitVec.smod 32).toNat).getLsbD i = _
  rw [s_l n hn, BitVec.getLsbD_sshiftRight, BitVec.msb_eq_getLsbD_last]
  simp [hi]
theorem iI_nI {n : Nat} (h : n < 2147483648) : iI (n : Int) = nI n := by
  apply Int32.toInt_inj.mp
  rw [iI_toInt (by constructor <;> omega), nI_toInt (by omega)]
theorem bS_ex (f : Nat → Bool) : ∀ n, ∃ x : Int32, ∀ i, i < 32 → bt x i = (decide (i < n) && f i)
  | 0 => ⟨0, fun i _ => by rw [b_0]; simp⟩
  | n + 1 => by
    obtain ⟨x, hx⟩ := bS_ex f n
    by_cases hn : f n = true ∧ n < 32
    · refine ⟨x ||| ((1 : Int32) <<< (nI n &&& 31)), fun i hi => ?_⟩
      rw [b_or, hx i hi, b_shl n hn.2 1 hi]
      rcases Nat.lt_trichotomy i n with h | h | h
      · simp [h, Nat.not_le.mpr h, Nat.lt_succ_of_lt h]
      · subst h
        simp [hn.1, b_1 0 (by omega)]
      · rw [b_1 (i - n) (by omega)]
        have h1 : ¬ i < n := by omega
        have h2 : ¬ i < n + 1 := by omega
        have h3 : ¬ i - n = 0 := by omega
        simp [h1, h2, h3]
    · refine ⟨x, fun i hi => ?_⟩
      rw [hx i hi]
      by_cases h : i = n
      · subst h
        have : f i = false := by
          cases hf : f i with
          | false => rfl
          | true => exact absurd ⟨hf, hi⟩ hn
        simp [this]
      · have h1 : (i < n) ↔ (i < n + 1) := by omega
        simp [h1]
noncomputable def bS (f : Nat → Bool) : Int32 := Classical.choose (bS_ex f 32)
theorem bS_bt {f : Nat → Bool} {i : Nat} (hi : i < 32) : bt (bS f) i = f i := by
  have h := Classical.choose_spec (bS_ex f 32) i hi
  unfold bS
  rw [h]
  simp [hi]
theorem bS_ext {x : Int32} {f : Nat → Bool} (h : ∀ i, i < 32 → bt x i = f i) : x = bS f := b_ext fun i hi => by rw [h i hi, bS_bt hi]
noncomputable def bZ (f : Nat → Bool) : Int := (bS f).toInt
theorem bZ_I (f : Nat → Bool) : iI (bZ f) = bS f := iI_of _
theorem bZ_R (f : Nat → Bool) : R32 (bZ f) := R32_of _
theorem bZ_of {x : Int32} {f : Nat → Bool} (h : ∀ i, i < 32 → bt x i = f i) : x = iI (bZ f) := by rw [bZ_I]; exact bS_ext h
theorem bZ_bt {f : Nat → Bool} {i : Nat} (hi : i < 32) : bt (iI (bZ f)) i = f i := by rw [bZ_I]; exact bS_bt hi
theorem bZ_congr {f h : Nat → Bool} (e : ∀ i, i < 32 → f i = h i) : bZ f = bZ h := by
  unfold bZ
  rw [show bS f = bS h from bS_ext fun i hi => by rw [bS_bt hi, e i hi]]
theorem bZ_inj {f h : Nat → Bool} (e : bZ f = bZ h) {i : Nat} (hi : i < 32) : f i = h i := by
  rw [← bZ_bt (f := f) hi, e, bZ_bt hi]
theorem bZ_or (f h : Nat → Bool) : iI (bZ f) ||| iI (bZ h) = iI (bZ fun i => f i || h i) := bZ_of fun i hi => by rw [b_or, bZ_bt hi, bZ_bt hi]
theorem bZ_and (f h : Nat → Bool) : iI (bZ f) &&& iI (bZ h) = iI (bZ fun i => f i && h i) := bZ_of fun i hi => by rw [b_and, bZ_bt hi, bZ_bt hi]
theorem bZ_xor (f h : Nat → Bool) : iI (bZ f) ^^^ iI (bZ h) = iI (bZ fun i => f i ^^ h i) := bZ_of fun i hi => by rw [b_xor, bZ_bt hi, bZ_bt hi]
theorem bZ_0 : iI 0 = iI (bZ fun _ => false) := bZ_of fun i _ => b_0 i
theorem bZ_m1 : iI (-1) = iI (bZ fun _ => true) := bZ_of fun i hi => b_m1 i hi
theorem bZ_1 : iI 1 = iI (bZ fun i => i == 0) := bZ_of fun i hi => b_1 i hi
theorem bZ_z : bZ (fun _ => false) = 0 := by
  have h := bZ_0
  rw [iI_eq (by decide) (bZ_R _)] at h
  exact h.symm
theorem bZ_o : bZ (fun i => i == 0) = 1 := by
  have h := bZ_1
  rw [iI_eq (by decide) (bZ_R _)] at h
  exact h.symm
theorem bZ_not (f : Nat → Bool) : iI (bZ f) ^^^ iI (-1) = iI (bZ fun i => !f i) := by
  rw [bZ_m1, bZ_xor]
  refine congrArg iI (bZ_congr fun i _ => ?_)
  cases f i <;> rfl
theorem bZ_sh {k : Nat} (hk : k < 32) : iI 1 <<< (iI (k : Int) &&& 31) = iI (bZ fun i => i == k) := bZ_of fun i hi => by
  rw [iI_nI (by omega), b_shl k hk _ hi]
  show (decide (k ≤ i) && bt 1 (i - k)) = (i == k)
  rw [b_1 (i - k) (by omega)]
  rcases Nat.lt_trichotomy i k with h | h | h
  · have h1 : ¬ k ≤ i := by omega
    have h2 : ¬ i = k := by omega
    simp [h1, h2]
  · subst h; simp
  · rw [decide_eq_true (show k ≤ i by omega), beq_eq_false_iff_ne.mpr (show i - k ≠ 0 by omega), beq_eq_false_iff_ne.mpr (show i ≠ k by omega)]
    rfl
theorem bZ_shl1 {k : Nat} (hk : k + 1 < 32) : iI (bZ fun i => i == k) <<< (iI 1 &&& 31) = iI (bZ fun i => i == k + 1) := bZ_of fun i hi => by
  show bt (iI (bZ fun i => i == k) <<< (nI 1 &&& 31)) i = _
  rw [b_shl 1 (by omega) _ hi, bZ_bt (by omega)]
  cases i with
  | zero => simp
  | succ i => simp
theorem bZ_ushr1 {k : Nat} (hk : k + 1 < 32) : ((iI (bZ fun i => i == k + 1)).toUInt32 >>> ((iI 1).toUInt32 &&& Int32.toUInt32 31)).toInt32 = iI (bZ fun i => i == k) := bZ_of fun i hi => by
  show bt (((iI (bZ fun i => i == k + 1)).toUInt32 >>> ((nI 1).toUInt32 &&& Int32.toUInt32 31)).toInt32) i = _
  rw [b_ushr 1 (by omega)]
  by_cases h : 1 + i < 32
  · rw [bZ_bt h]
    rw [show ((1 + i == k + 1) : Bool) = (i == k) from by rw [Nat.add_comm 1 i]; simp]
  · have h1 : bt (iI (bZ fun i => i == k + 1)) (1 + i) = false := BitVec.getLsbD_of_ge _ _ (by omega)
    have h2 : ¬ i = k := by omega
    rw [h1]
    simp [h2]
theorem bZ_tst {f : Nat → Bool} {k : Nat} (hk : k < 32) : (iI (bZ f) >>> (iI (k : Int) &&& 31)) &&& iI 1 = bI (f k) := by
  apply b_ext
  intro i hi
  rw [b_and, iI_nI (by omega), b_sshr k hk _ hi, show iI 1 = (1 : Int32) from rfl, b_1 i hi]
  by_cases h : i = 0
  · subst h
    rw [if_pos (by omega), show k + 0 = k from rfl, bZ_bt hk]
    cases f k
    · simp [bI, b_0]
    · simp [bI, b_1 0 (by omega)]
  · have e : (i == 0) = false := by simp [h]
    rw [e, Bool.and_false]
    cases f k
    · simp [bI, b_0]
    · simp [bI, b_1 i hi, h]
theorem bZ_eq0 {f : Nat → Bool} : bZ f = 0 ↔ ∀ i, i < 32 → f i = false := by
  constructor
  · intro e i hi
    have h1 : bt (iI (bZ f)) i = f i := bZ_bt hi
    rw [e] at h1
    rw [← h1]
    exact b_0 i
  · intro e
    rw [← bZ_z]
    exact bZ_congr e
theorem bnf {b : Bool} (h : b ≠ false) : b = true := by cases b <;> simp_all
theorem bnt {b : Bool} (h : b ≠ true) : b = false := by cases b <;> simp_all
