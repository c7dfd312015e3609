/-! THE REFERENCE: what is found taken away -/
theorem up_up {α : Type} {f : Nat → α} {k : Nat} {x y : α} : up (up f k x) k y = up f k y := by
  funext j
  by_cases e : j = k
  · subst e; rw [up_s, up_s]
  · rw [up_n e, up_n e, up_n e]
def isf (IS : Nat → Bool) (FI : Nat → Int) (f : Nat) (z : Int) (r : Nat) : Nat → Bool := fun i => IS i && !(decide (1 ≤ i ∧ i ≤ r) && decide (FI (5 * i + f) = z))
def cntG (IS : Nat → Bool) (FI : Nat → Int) (f : Nat) (z : Int) : Nat → Int
  | 0 => 0
  | r + 1 => if IS (r + 1) = true ∧ FI (5 * (r + 1) + f) = z then cntG IS FI f z r + 1 else cntG IS FI f z r
section TAKE
variable {IS : Nat → Bool} {FI : Nat → Int} {f : Nat} {z : Int} {r : Nat}
theorem isf_0 : isf IS FI f z 0 = IS := by
  funext i
  unfold isf
  rw [decide_eq_false (show ¬ (1 ≤ i ∧ i ≤ 0) by omega), Bool.false_and, Bool.not_false, Bool.and_true]
theorem isf_nx : isf IS FI f z r (r + 1) = IS (r + 1) := by
  unfold isf
  rw [decide_eq_false (show ¬ (1 ≤ r + 1 ∧ r + 1 ≤ r) by omega), Bool.false_and, Bool.not_false, Bool.and_true]
theorem isf_ne {i : Nat} (h : i ≠ r + 1) : isf IS FI f z (r + 1) i = isf IS FI f z r i := by
  unfold isf
  rw [decR (show (1 ≤ i ∧ i ≤ r + 1) ↔ (1 ≤ i ∧ i ≤ r) by omega)]
theorem isf_s1 (h : ¬ (IS (r + 1) = true ∧ FI (5 * (r + 1) + f) = z)) : isf IS FI f z (r + 1) = isf IS FI f z r ∧ cntG IS FI f z (r + 1) = cntG IS FI f z r := by
  refine ⟨?_, if_neg h⟩
  funext i
  by_cases e : i = r + 1
  · subst e
    rw [isf_nx]
    unfold isf
    by_cases q : IS (r + 1) = true
    · rw [decide_eq_false (show ¬ FI (5 * (r + 1) + f) = z from fun w => h ⟨q, w⟩), Bool.and_false, Bool.not_false, Bool.and_true]
    · rw [Bool.not_eq_true] at q; rw [q, Bool.false_and]
  · exact isf_ne e
theorem isf_s2 (h1 : IS (r + 1) = true) (h2 : FI (5 * (r + 1) + f) = z) : up (isf IS FI f z r) (r + 1) false = isf IS FI f z (r + 1) ∧ cntG IS FI f z (r + 1) = cntG IS FI f z r + 1 := by
  refine ⟨?_, if_pos ⟨h1, h2⟩⟩
  funext i
  by_cases e : i = r + 1
  · subst e
    rw [up_s]
    unfold isf
    rw [decide_eq_true h2, decide_eq_true (show 1 ≤ r + 1 ∧ r + 1 ≤ r + 1 by omega), Bool.and_true, Bool.not_true, Bool.and_false]
  · rw [up_n e, isf_ne e]
end TAKE
def tkP (gg : Bool) (IS : Nat → Bool) (GF GS : Nat → Int) (FI : Nat → Int) (go best : Nat) (f : Int) (many : Nat) (u : (Nat → Bool) × (Nat → Int) × (Nat → Int)) : Prop :=
  u = if gg = true then (isf IS FI f.toNat (FI (5 * best + f.toNat)) many, up GF go (FI (5 * best + f.toNat)), up GS go (cntG IS FI f.toNat (FI (5 * best + f.toNat)) many)) else (up IS best false, up GF go (best : Int), GS)

set_option maxHeartbeats 4000000 in
set_option maxRecDepth 100000 in
theorem c_X8_take (l : Launch) (D : va_G) (g : Nat → ClassId) (a : Nat → Nat) (mth mrw mrg mbd mnw mlc msz mas mak mkp mfa mte mta mlv mct : Int) (man mgr mgg : Bool) (go : Nat) (IS : Nat → Bool) (GF : Nat → Int) (GS : Nat → Int) (FI : Nat → Int) (best many : Nat) (f : Int) (hgo : go < 300) (hb : best ≤ 300) (hm : many ≤ 300) (hf : R32 f) (hg : mgg = true → 0 ≤ f ∧ f < 5) (hFI : ∀ k, k < 1505 → R32 (FI k)) : Ct (S := (Nat → Bool) × (Nat → Int) × (Nat → Int)) l D g yX8_take cX8_take 5 none rmX8_take [.ref (a 0), .int (iI (best : Int)), .int (iI f), .int (iI (many : Int))] ([(a 0, oM a mth mrw mrg mbd mnw mlc msz man mas mak mkp mfa mte mta mlv mct mgr (go : Int) mgg), (a 21, cZ g 301 IS), (a 19, cI g 300 GF), (a 20, cI g 300 GS), (a 1, cI g 1505 FI)]) (fun u => none) (tkP mgg IS GF GS FI go best f many) (fun u => [(a 0, oM a mth mrw mrg mbd mnw mlc msz man mas mak mkp mfa mte mta mlv mct mgr ((go + 1 : Nat) : Int) mgg), (a 21, cZ g 301 u.1), (a 19, cI g 300 u.2.1), (a 20, cI g 300 u.2.2), (a 1, cI g 1505 FI)]) := by
  refine Ct.of RX8 rfl (by decide +kernel) [(0, .ref (a 0)), (1, .int (iI (best : Int))), (2, .int (iI f)), (3, .int (iI (many : Int)))] rfl (Nat.le_of_ble_eq_true rfl) ?_
  intro pg evn sT mI bl mtd cd aA ls ar qQ zC zr zk zi zQ h hl
  have zx := zC.1
  have zb := zC.2.1
  skip
  refine lv_aload_n zx zb dX8_take_0 rfl (lv_at hl 0 rfl) ?_
  refine gf8_161 (v := .int (bI mgg)) zC h 0 rfl rfl dX8_take_1 ?_
  refine b_zne (b := mgg) (tgt := 35) zC dX8_take_4 (by decide) (fun c_1 => ?_) (fun c_1 => ?_)
  · skip
    have h_gg := c_1; have h_g := hg c_1
    refine lv_aload_n zx zb dX8_take_35 rfl (lv_at hl 0 rfl) ?_
    refine gf8_72 (v := .ref (a 19)) zC h 0 rfl rfl dX8_take_36 ?_
    refine lv_aload_n zx zb dX8_take_39 rfl (lv_at hl 0 rfl) ?_
    refine gf8_158 (v := .int (iI (go : Int))) zC h 0 rfl rfl dX8_take_40 ?_
    refine lv_aload_n zx zb dX8_take_43 rfl (lv_at hl 0 rfl) ?_
    refine lv_iload_n zx zb dX8_take_44 rfl (lv_at hl 1 rfl) ?_
    refine lv_iload_n zx zb dX8_take_45 rfl (lv_at hl 2 rfl) ?_
    have hFz := hFI (5 * best + f.toNat) (by omega)
    rw [show (f : Int) = (f.toNat : Int) from by omega]
    refine r_invV (As := [.int (iI (best : Int)), .int (iI (f.toNat : Int))]) (rest := [.int (iI (go : Int)), .ref (a 19)]) (wr := [(a 21, cZ g 301 IS), (a 19, cI g 300 GF), (a 20, cI g 300 GS)]) (ws2 := fun u_2 => [(a 0, oM a mth mrw mrg mbd mnw mlc msz man mas mak mkp mfa mte mta mlv mct mgr (go : Int) mgg), (a 21, cZ g 301 IS), (a 19, cI g 300 GF), (a 20, cI g 300 GS), (a 1, cI g 1505 FI)]) 0 0 zC h hl.1 (c_X8_field l D g a mth mrw mrg mbd mnw mlc msz mas mak mkp mfa mte mta mlv mct (go : Int) man mgr mgg   FI best f.toNat (by omega) (by omega)) (cs8_151 zC ⟨(Nat.le_of_ble_eq_true rfl), (Nat.le_of_ble_eq_true rfl)⟩) (.head _) rfl rfl rfl (Nat.le_of_ble_eq_true rfl) (pm fun cp_q => by simp only [cp_o, List.countP_append, List.countP_nil] <;> omega) (fun u => (pm fun cp_q => by simp only [cp_o, List.countP_append, List.countP_nil] <;> omega)) ⟨(Nat.le_of_ble_eq_true rfl), (Nat.le_of_ble_eq_true rfl)⟩ (Nat.le_of_ble_eq_true rfl) (Nat.le_of_ble_eq_true rfl) dX8_take_46 (fun u_2 H locs hu_2 hz_2 h => ?_)
    refine a_ist (x := FI (5 * best + f.toNat)) zC h 2 (ws' := [(a 0, oM a mth mrw mrg mbd mnw mlc msz man mas mak mkp mfa mte mta mlv mct mgr (go : Int) mgg), (a 21, cZ g 301 IS), (a 19, cI g 300 (up GF go (FI (5 * best + f.toNat)))), (a 20, cI g 300 GS), (a 1, cI g 1505 FI)]) rfl (z := (go : Int)) go rfl (by omega) (by omega) (by decide) dX8_take_49 (fun H locs h => ?_)
    refine lv_aload_n zx zb dX8_take_50 rfl (lv_at hl 0 rfl) ?_
    refine gf8_75 (v := .ref (a 20)) zC h 0 rfl rfl dX8_take_51 ?_
    refine lv_aload_n zx zb dX8_take_54 rfl (lv_at hl 0 rfl) ?_
    refine gf8_158 (v := .int (iI (go : Int))) zC h 0 rfl rfl dX8_take_55 ?_
    refine lv_iconst (v := iI (0)) zx zb dX8_take_58 rfl ?_
    refine a_ist (x := 0) zC h 3 (ws' := [(a 0, oM a mth mrw mrg mbd mnw mlc msz man mas mak mkp mfa mte mta mlv mct mgr (go : Int) mgg), (a 21, cZ g 301 IS), (a 19, cI g 300 (up GF go (FI (5 * best + f.toNat)))), (a 20, cI g 300 (up GS go 0)), (a 1, cI g 1505 FI)]) rfl (z := (go : Int)) go rfl (by omega) (by omega) (by decide) dX8_take_59 (fun H locs h => ?_)
    refine lv_iconst (v := iI (1)) zx zb dX8_take_60 rfl ?_
    refine lv_istore (lv' := [(4, .int (iI 1)), (0, .ref (a 0)), (1, .int (iI (best : Int))), (2, .int (iI f)), (3, .int (iI (many : Int)))]) zx zb dX8_take_61 hl (by decide) rfl (fun ls hl => ?_)
    have L63_3 : ∀ (fuel : Nat) (k : Nat) (H : Heap) (locs : List Loc) (ls : Array Slot), many - k < fuel → (k ≤ many) → Hx D g sT aA sT.heap ([(a 0, oM a mth mrw mrg mbd mnw mlc msz man mas mak mkp mfa mte mta mlv mct mgr (go : Int) mgg), (a 21, cZ g 301 (isf IS FI f.toNat (FI (5 * best + f.toNat)) k)), (a 19, cI g 300 (up GF go (FI (5 * best + f.toNat)))), (a 20, cI g 300 (up GS go (cntG IS FI f.toNat (FI (5 * best + f.toNat)) k))), (a 1, cI g 1505 FI)]) H locs → lv_has ls 5 [(0, .ref (a 0)), (1, .int (iI (best : Int))), (2, .int (iI f)), (3, .int (iI (many : Int))), (4, .int (iI ((k : Int) + 1)))] → W pg l evn rmX8_take sT mI ar bl mtd cd H locs 0 0 qQ (F0 mI 63 ls []) := by
      intro fuel
      induction fuel with
      | zero => intro k H locs ls hm; exact absurd hm (Nat.not_lt_zero _)
      | succ fuel ih63 =>
        intro k H locs ls hm hk h hl
        refine lv_iload zx zb dX8_take_63 (lv_at hl 4 rfl) ?_
        refine lv_iload_n zx zb dX8_take_65 rfl (lv_at hl 3 rfl) ?_
        refine i_cgt (a := ((k : Int) + 1)) (b := (many : Int)) (tgt := 125) zC dX8_take_66 (by decide) (by omega) (fun c_4 => ?_) (fun c_4 => ?_)
        · skip
          have e_k : k = many := by omega
          refine lv_aload_n zx zb dX8_take_125 rfl (lv_at hl 0 rfl) ?_
          refine lv_dup zx zb dX8_take_126 rfl ?_
          refine gf8_158 (v := .int (iI (go : Int))) zC h 0 rfl rfl dX8_take_127 ?_
          refine lv_iconst (v := iI (1)) zx zb dX8_take_130 rfl ?_
          refine i_add zC (a := (go : Int)) (b := 1) dX8_take_131 ?_
          rw [show ((go : Int) + 1 : Int) = ((go + 1 : Nat) : Int) from by omega]
          refine pf8_158 (x := iI ((go + 1 : Nat) : Int)) zC h 0 (ws' := [(a 0, oM a mth mrw mrg mbd mnw mlc msz man mas mak mkp mfa mte mta mlv mct mgr ((go + 1 : Nat) : Int) mgg), (a 21, cZ g 301 (isf IS FI f.toNat (FI (5 * best + f.toNat)) k)), (a 19, cI g 300 (up GF go (FI (5 * best + f.toNat)))), (a 20, cI g 300 (up GS go (cntG IS FI f.toNat (FI (5 * best + f.toNat)) k))), (a 1, cI g 1505 FI)]) rfl rfl (Nat.le_of_ble_eq_true rfl) dX8_take_132 (fun H locs h => ?_)
          exact r_vret zC zQ zr zk h dX8_take_135 (u := (isf IS FI f.toNat (FI (5 * best + f.toNat)) k, up GF go (FI (5 * best + f.toNat)), up GS go (cntG IS FI f.toNat (FI (5 * best + f.toNat)) k))) rfl (List.Perm.refl _) (by unfold tkP; rw [h_gg, e_k]; rfl) (Nat.le_of_ble_eq_true rfl) (Nat.le_of_ble_eq_true rfl)
        · skip
          have hk1 : k < many := by omega
          have hFk := hFI (5 * (k + 1) + f.toNat) (by omega)
          refine lv_aload_n zx zb dX8_take_69 rfl (lv_at hl 0 rfl) ?_
          refine gf8_78 (v := .ref (a 21)) zC h 0 rfl rfl dX8_take_70 ?_
          refine lv_iload zx zb dX8_take_73 (lv_at hl 4 rfl) ?_
          refine a_zld zC h 1 rfl (z := ((k : Int) + 1)) (k + 1) (by omega) (by omega) (by decide) dX8_take_75 ?_
          refine b_zeq (b := (isf IS FI f.toNat (FI (5 * best + f.toNat)) k) (k + 1)) (tgt := 119) zC dX8_take_76 (by decide) (fun c_5 => ?_) (fun c_5 => ?_)
          · skip
            have e_s := isf_s1 (IS := IS) (FI := FI) (f := f.toNat) (z := FI (5 * best + f.toNat)) (r := k) (fun q => by rw [isf_nx] at c_5; rw [c_5] at q; exact absurd q.1 (by decide))
            refine i_inc (q := 4) (a := ((k : Int) + 1)) (lv' := [(4, .int (iI (((k : Int) + 1) + 1))), (0, .ref (a 0)), (1, .int (iI (best : Int))), (2, .int (iI f)), (3, .int (iI (many : Int)))]) zC hl dX8_take_119 rfl (by decide) rfl (fun ls hl => ?_)
            refine lv_goto (tgt := 63) zx zb dX8_take_122 (by decide) ?_
            exact ih63 (k + 1) _ _ _ (by omega) (by omega) (by rw [e_s.1, e_s.2]; exact h) (lv_sub hl [1, 2, 3, 4, 0] rfl)
          · skip
            have h_76 : IS (k + 1) = true := by rw [← isf_nx (IS := IS) (FI := FI) (f := f.toNat) (z := FI (5 * best + f.toNat)) (r := k)]; exact c_5
            refine lv_aload_n zx zb dX8_take_79 rfl (lv_at hl 0 rfl) ?_
            refine lv_iload zx zb dX8_take_80 (lv_at hl 4 rfl) ?_
            refine lv_iload_n zx zb dX8_take_82 rfl (lv_at hl 2 rfl) ?_
            rw [show ((k : Int) + 1 : Int) = ((k + 1 : Nat) : Int) from by omega]
            rw [show (f : Int) = (f.toNat : Int) from by omega]
            refine r_invV (As := [.int (iI ((k + 1 : Nat) : Int)), .int (iI (f.toNat : Int))]) (rest := []) (wr := [(a 21, cZ g 301 (isf IS FI f.toNat (FI (5 * best + f.toNat)) k)), (a 19, cI g 300 (up GF go (FI (5 * best + f.toNat)))), (a 20, cI g 300 (up GS go (cntG IS FI f.toNat (FI (5 * best + f.toNat)) k)))]) (ws2 := fun u_6 => [(a 0, oM a mth mrw mrg mbd mnw mlc msz man mas mak mkp mfa mte mta mlv mct mgr (go : Int) mgg), (a 21, cZ g 301 (isf IS FI f.toNat (FI (5 * best + f.toNat)) k)), (a 19, cI g 300 (up GF go (FI (5 * best + f.toNat)))), (a 20, cI g 300 (up GS go (cntG IS FI f.toNat (FI (5 * best + f.toNat)) k))), (a 1, cI g 1505 FI)]) 0 0 zC h hl.1 (c_X8_field l D g a mth mrw mrg mbd mnw mlc msz mas mak mkp mfa mte mta mlv mct (go : Int) man mgr mgg   FI (k + 1) f.toNat (by omega) (by omega)) (cs8_151 zC ⟨(Nat.le_of_ble_eq_true rfl), (Nat.le_of_ble_eq_true rfl)⟩) (.head _) rfl rfl rfl (Nat.le_of_ble_eq_true rfl) (pm fun cp_q => by simp only [cp_o, List.countP_append, List.countP_nil] <;> omega) (fun u => (pm fun cp_q => by simp only [cp_o, List.countP_append, List.countP_nil] <;> omega)) ⟨(Nat.le_of_ble_eq_true rfl), (Nat.le_of_ble_eq_true rfl)⟩ (Nat.le_of_ble_eq_true rfl) (Nat.le_of_ble_eq_true rfl) dX8_take_83 (fun u_6 H locs hu_6 hz_6 h => ?_)
            refine lv_aload_n zx zb dX8_take_86 rfl (lv_at hl 0 rfl) ?_
            refine gf8_72 (v := .ref (a 19)) zC h 0 rfl rfl dX8_take_87 ?_
            refine lv_aload_n zx zb dX8_take_90 rfl (lv_at hl 0 rfl) ?_
            refine gf8_158 (v := .int (iI (go : Int))) zC h 0 rfl rfl dX8_take_91 ?_
            refine a_ild zC h 2 rfl (z := (go : Int)) go (by omega) (by omega) (by decide) dX8_take_94 ?_
            rw [show up GF go (FI (5 * best + f.toNat)) go = FI (5 * best + f.toNat) from up_s]
            refine i_cne (a := FI (5 * (k + 1) + f.toNat)) (b := FI (5 * best + f.toNat)) (tgt := 119) zC dX8_take_95 (by decide) (by omega) (fun c_7 => ?_) (fun c_7 => ?_)
            · skip
              have e_s := isf_s1 (IS := IS) (FI := FI) (f := f.toNat) (z := FI (5 * best + f.toNat)) (r := k) (fun q => c_7 q.2)
              refine i_inc (q := 4) (a := ((k : Int) + 1)) (lv' := [(4, .int (iI (((k : Int) + 1) + 1))), (0, .ref (a 0)), (1, .int (iI (best : Int))), (2, .int (iI f)), (3, .int (iI (many : Int)))]) zC hl dX8_take_119 rfl (by decide) rfl (fun ls hl => ?_)
              refine lv_goto (tgt := 63) zx zb dX8_take_122 (by decide) ?_
              exact ih63 (k + 1) _ _ _ (by omega) (by omega) (by rw [e_s.1, e_s.2]; exact h) (lv_sub hl [1, 2, 3, 4, 0] rfl)
            · skip
              have e_s := isf_s2 (IS := IS) (FI := FI) (f := f.toNat) (z := FI (5 * best + f.toNat)) (r := k) h_76 c_7
              refine lv_aload_n zx zb dX8_take_98 rfl (lv_at hl 0 rfl) ?_
              refine gf8_78 (v := .ref (a 21)) zC h 0 rfl rfl dX8_take_99 ?_
              refine lv_iload zx zb dX8_take_102 (lv_at hl 4 rfl) ?_
              refine lv_iconst (v := iI (0)) zx zb dX8_take_104 rfl ?_
              refine a_zst (x := false) zC h 1 (ws' := [(a 0, oM a mth mrw mrg mbd mnw mlc msz man mas mak mkp mfa mte mta mlv mct mgr (go : Int) mgg), (a 21, cZ g 301 (isf IS FI f.toNat (FI (5 * best + f.toNat)) (k + 1))), (a 19, cI g 300 (up GF go (FI (5 * best + f.toNat)))), (a 20, cI g 300 (up GS go (cntG IS FI f.toNat (FI (5 * best + f.toNat)) k))), (a 1, cI g 1505 FI)]) rfl (z := ((k : Int) + 1)) (k + 1) (by rw [show up (isf IS FI f.toNat (FI (5 * best + f.toNat)) k) (k + 1) false = isf IS FI f.toNat (FI (5 * best + f.toNat)) (k + 1) from e_s.1]; rfl) (by omega) (by omega) (by decide) dX8_take_105 (fun H locs h => ?_)
              refine lv_aload_n zx zb dX8_take_106 rfl (lv_at hl 0 rfl) ?_
              refine gf8_75 (v := .ref (a 20)) zC h 0 rfl rfl dX8_take_107 ?_
              refine lv_aload_n zx zb dX8_take_110 rfl (lv_at hl 0 rfl) ?_
              refine gf8_158 (v := .int (iI (go : Int))) zC h 0 rfl rfl dX8_take_111 ?_
              refine lv_dup2_11 zx zb dX8_take_114 rfl rfl ?_
              refine a_ild zC h 3 rfl (z := (go : Int)) go (by omega) (by omega) (by decide) dX8_take_115 ?_
              rw [show up GS go (cntG IS FI f.toNat (FI (5 * best + f.toNat)) k) go = cntG IS FI f.toNat (FI (5 * best + f.toNat)) k from up_s]
              refine lv_iconst (v := iI (1)) zx zb dX8_take_116 rfl ?_
              refine i_add zC (a := cntG IS FI f.toNat (FI (5 * best + f.toNat)) k) (b := 1) dX8_take_117 ?_
              refine a_ist (x := cntG IS FI f.toNat (FI (5 * best + f.toNat)) k + 1) zC h 3 (ws' := [(a 0, oM a mth mrw mrg mbd mnw mlc msz man mas mak mkp mfa mte mta mlv mct mgr (go : Int) mgg), (a 21, cZ g 301 (isf IS FI f.toNat (FI (5 * best + f.toNat)) (k + 1))), (a 19, cI g 300 (up GF go (FI (5 * best + f.toNat)))), (a 20, cI g 300 (up GS go (cntG IS FI f.toNat (FI (5 * best + f.toNat)) (k + 1)))), (a 1, cI g 1505 FI)]) rfl (z := (go : Int)) go (by rw [show up (up GS go (cntG IS FI f.toNat (FI (5 * best + f.toNat)) k)) go (cntG IS FI f.toNat (FI (5 * best + f.toNat)) k + 1) = up GS go (cntG IS FI f.toNat (FI (5 * best + f.toNat)) (k + 1)) from (by rw [up_up, e_s.2])]; rfl) (by omega) (by omega) (by decide) dX8_take_118 (fun H locs h => ?_)
              refine i_inc (q := 4) (a := ((k : Int) + 1)) (lv' := [(4, .int (iI (((k : Int) + 1) + 1))), (0, .ref (a 0)), (1, .int (iI (best : Int))), (2, .int (iI f)), (3, .int (iI (many : Int)))]) zC hl dX8_take_119 rfl (by decide) rfl (fun ls hl => ?_)
              refine lv_goto (tgt := 63) zx zb dX8_take_122 (by decide) ?_
              exact ih63 (k + 1) _ _ _ (by omega) (by omega) h (lv_sub hl [1, 2, 3, 4, 0] rfl)
    exact L63_3 _ 0 _ _ _ (Nat.lt_succ_self _) (by omega) (by rw [isf_0]; exact h) (lv_sub hl [1, 2, 3, 4, 0] rfl)
  · skip
    refine lv_aload_n zx zb dX8_take_7 rfl (lv_at hl 0 rfl) ?_
    refine gf8_78 (v := .ref (a 21)) zC h 0 rfl rfl dX8_take_8 ?_
    refine lv_iload_n zx zb dX8_take_11 rfl (lv_at hl 1 rfl) ?_
    refine lv_iconst (v := iI (0)) zx zb dX8_take_12 rfl ?_
    refine a_zst (x := false) zC h 1 (ws' := [(a 0, oM a mth mrw mrg mbd mnw mlc msz man mas mak mkp mfa mte mta mlv mct mgr (go : Int) mgg), (a 21, cZ g 301 (up IS best false)), (a 19, cI g 300 GF), (a 20, cI g 300 GS), (a 1, cI g 1505 FI)]) rfl (z := (best : Int)) best rfl rfl (by omega) (by decide) dX8_take_13 (fun H locs h => ?_)
    refine lv_aload_n zx zb dX8_take_14 rfl (lv_at hl 0 rfl) ?_
    refine gf8_72 (v := .ref (a 19)) zC h 0 rfl rfl dX8_take_15 ?_
    refine lv_aload_n zx zb dX8_take_18 rfl (lv_at hl 0 rfl) ?_
    refine gf8_158 (v := .int (iI (go : Int))) zC h 0 rfl rfl dX8_take_19 ?_
    refine lv_iload_n zx zb dX8_take_22 rfl (lv_at hl 1 rfl) ?_
    refine a_ist (x := (best : Int)) zC h 2 (ws' := [(a 0, oM a mth mrw mrg mbd mnw mlc msz man mas mak mkp mfa mte mta mlv mct mgr (go : Int) mgg), (a 21, cZ g 301 (up IS best false)), (a 19, cI g 300 (up GF go (best : Int))), (a 20, cI g 300 GS), (a 1, cI g 1505 FI)]) rfl (z := (go : Int)) go rfl (by omega) (by omega) (by decide) dX8_take_23 (fun H locs h => ?_)
    refine lv_aload_n zx zb dX8_take_24 rfl (lv_at hl 0 rfl) ?_
    refine lv_dup zx zb dX8_take_25 rfl ?_
    refine gf8_158 (v := .int (iI (go : Int))) zC h 0 rfl rfl dX8_take_26 ?_
    refine lv_iconst (v := iI (1)) zx zb dX8_take_29 rfl ?_
    refine i_add zC (a := (go : Int)) (b := 1) dX8_take_30 ?_
    rw [show ((go : Int) + 1 : Int) = ((go + 1 : Nat) : Int) from by omega]
    refine pf8_158 (x := iI ((go + 1 : Nat) : Int)) zC h 0 (ws' := [(a 0, oM a mth mrw mrg mbd mnw mlc msz man mas mak mkp mfa mte mta mlv mct mgr ((go + 1 : Nat) : Int) mgg), (a 21, cZ g 301 (up IS best false)), (a 19, cI g 300 (up GF go (best : Int))), (a 20, cI g 300 GS), (a 1, cI g 1505 FI)]) rfl rfl (Nat.le_of_ble_eq_true rfl) dX8_take_31 (fun H locs h => ?_)
    exact r_vret zC zQ zr zk h dX8_take_34 (u := (up IS best false, up GF go (best : Int), GS)) rfl (List.Perm.refl _) (by unfold tkP; rw [c_1]; rfl) (Nat.le_of_ble_eq_true rfl) (Nat.le_of_ble_eq_true rfl)
