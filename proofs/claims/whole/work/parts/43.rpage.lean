/-! THE REFERENCE: a page; a kept question asked; a question kept -/
def clF (A : Nat → Bool) (k : Nat) : Nat → Bool := fun i => if i < k then false else A i
theorem clF_0 {A : Nat → Bool} : clF A 0 = A := by funext i; exact if_neg (Nat.not_lt_zero i)
theorem clF_s {A : Nat → Bool} {k : Nat} : up (clF A k) k false = clF A (k + 1) := by
  funext i
  by_cases e : i = k
  · subst e; rw [up_s]; exact (if_pos (Nat.lt_succ_self i)).symm
  · rw [up_n e]
    unfold clF
    by_cases q : i < k
    · rw [if_pos q, if_pos (by omega)]
    · rw [if_neg q, if_neg (by omega)]
theorem clF_5 {A : Nat → Bool} (h : ∀ i, 5 ≤ i → A i = false) : clF A 5 = noM := by
  funext i
  unfold clF noM
  by_cases q : i < 5
  · rw [if_pos q]
  · rw [if_neg q]; exact h i (by omega)
theorem mk5 {A : Nat → Bool} (h : ∀ i, 5 ≤ i → A i = false) : up (up (up (up (up noM 0 (A 0)) 1 (A 1)) 2 (A 2)) 3 (A 3)) 4 (A 4) = A := by
  funext i
  rcases (show i = 0 ∨ i = 1 ∨ i = 2 ∨ i = 3 ∨ i = 4 ∨ 5 ≤ i by omega) with q | q | q | q | q | q
  · subst q; rfl
  · subst q; rfl
  · subst q; rfl
  · subst q; rfl
  · subst q; rfl
  · rw [up_n (by omega), up_n (by omega), up_n (by omega), up_n (by omega), up_n (by omega), h i q]; rfl
def pgO (n : Nat) (nn mo ii : Int) : Prop := nn < 0 ∨ mo < 0 ∨ (n : Int) < mo ∨ ¬ (0 ≤ ii ∧ ii < 10)
def pageM (n : Nat) (an : Bool) (AQ : Nat → Int) (ak : Nat) (FI RO RW RK : Nat → Int) (rg : Nat) (who : Int) (r : RS) (nn mo ii z : Int) : Prop :=
  (pgO n nn mo ii → z = -1000002) ∧ (¬ pgO n nn mo ii → an = false → z = -1) ∧ (¬ pgO n nn mo ii → an = true → ∃ (te ta N : Nat) (sl : SL), LQ noM AQ ak (rBegin r) (-1) te ta ∧ fndP FI RO RW RK rg noM AQ ak r ta who mo.toNat N sl ∧ (10 * nn + ii < (N : Int) → z = sl.2.1 (10 * nn + ii).toNat) ∧ ((N : Int) ≤ 10 * nn + ii → z = -1))

set_option maxHeartbeats 4000000 in
set_option maxRecDepth 100000 in
theorem c_X8_page (l : Launch) (D : va_G) (g : Nat → ClassId) (a : Nat → Nat) (mth mbd mnw mlc msz mak mkp mfa mte mta mlv mct mgo : Int) (man mgr mgg : Bool) (n : Nat) (rg : Nat) (ak : Nat) (MK : Nat → Bool) (AQ : Nat → Int) (NO : Nat → Int) (RO : Nat → Int) (RW : Nat → Int) (RK : Nat → Int) (FI : Nat → Int) (OR : Nat → Bool) (AN : Nat → Bool) (IS : Nat → Bool) (GF : Nat → Int) (GS : Nat → Int) (nn mo ii : Int) (r : RS) (h0 : R32 nn ∧ R64 mo ∧ R32 ii) (hn : n ≤ 300) (hak : ak ≤ 200) (hAQ : ∀ k, k < ak → R32 (AQ k)) (hmak : R32 mak) (hM5 : ∀ i, 5 ≤ i → MK i = false) (hQ : man = true → ∃ v, rFF noM AQ ak (rBegin r) (-1, v)) (hg : rg ≤ 100) (hRR : ∀ k, k < rg → R32 (RO k) ∧ R32 (RW k) ∧ R32 (RK k)) (hFI : ∀ k, k < 1505 → R32 (FI k)) (hfg : R32 r.fg) : Ct (S := Int × SM) l D g yX8_page cX8_page 12 (some .int) rmX8_page [.ref (a 0), .int (iI nn), .long (lI mo), .int (iI ii)] ([(a 0, oM a mth (n : Int) (rg : Int) mbd mnw mlc msz man (ak : Int) mak mkp mfa mte mta mlv mct mgr mgo mgg), (a 5, cZ g 5 MK), (a 7, cI g 200 AQ), (a 14, cI g 22 NO), (a 2, cI g 100 RO), (a 3, cI g 100 RW), (a 4, cI g 100 RK), (a 1, cI g 1505 FI), (a 15, cZ g 22 OR), (a 16, cZ g 22 AN), (a 21, cZ g 301 IS), (a 19, cI g 300 GF), (a 20, cI g 300 GS)]) (fun u => some (.int (iI u.1))) (fun u => pageM n man AQ ak FI RO RW RK rg mak r nn mo ii u.1) (fun u => [(a 0, oM a 0 (n : Int) (rg : Int) mbd mnw mlc msz man (ak : Int) mak mkp u.2.1 u.2.2.1 u.2.2.2.1 u.2.2.2.2.1 mct mgr u.2.2.2.2.2.1 u.2.2.2.2.2.2.1), (a 5, cZ g 5 MK), (a 7, cI g 200 AQ), (a 14, cI g 22 u.2.2.2.2.2.2.2.1), (a 2, cI g 100 RO), (a 3, cI g 100 RW), (a 4, cI g 100 RK), (a 1, cI g 1505 FI), (a 15, cZ g 22 u.2.2.2.2.2.2.2.2.1), (a 16, cZ g 22 u.2.2.2.2.2.2.2.2.2.1), (a 21, cZ g 301 u.2.2.2.2.2.2.2.2.2.2.1), (a 19, cI g 300 u.2.2.2.2.2.2.2.2.2.2.2.1), (a 20, cI g 300 u.2.2.2.2.2.2.2.2.2.2.2.2)]) := by
  refine Ct.of RX8 rfl (by decide +kernel) [(0, .ref (a 0)), (1, .int (iI nn)), (2, .long (lI mo)), (4, .int (iI ii))] rfl (Nat.le_of_ble_eq_true rfl) ?_
  intro pg evn sT mI bl mtd cd aA ls ar qQ zC zr zk zi zQ h hl
  have zx := zC.1
  have zb := zC.2.1
  skip
  refine lv_aload_n zx zb dX8_page_0 rfl (lv_at hl 0 rfl) ?_
  refine lv_iconst (v := iI (0)) zx zb dX8_page_1 rfl ?_
  refine pf8_85 (x := iI 0) zC h 0 (ws' := [(a 0, oM a 0 (n : Int) (rg : Int) mbd mnw mlc msz man (ak : Int) mak mkp mfa mte mta mlv mct mgr mgo mgg), (a 5, cZ g 5 MK), (a 7, cI g 200 AQ), (a 14, cI g 22 NO), (a 2, cI g 100 RO), (a 3, cI g 100 RW), (a 4, cI g 100 RK), (a 1, cI g 1505 FI), (a 15, cZ g 22 OR), (a 16, cZ g 22 AN), (a 21, cZ g 301 IS), (a 19, cI g 300 GF), (a 20, cI g 300 GS)]) rfl rfl (Nat.le_of_ble_eq_true rfl) dX8_page_2 (fun H locs h => ?_)
  refine lv_iload_n zx zb dX8_page_5 rfl (lv_at hl 1 rfl) ?_
  refine i_zlt (a := nn) (tgt := 35) zC dX8_page_6 (by decide) (by omega) (fun c_1 => ?_) (fun c_1 => ?_)
  · skip
    refine kc8_102 zC dX8_page_35 ?_
    exact r_iret zC zQ zr zk h dX8_page_37 (u := (-1000002, (mfa, mte, mta, mlv, mgo, mgg, NO, OR, AN, IS, GF, GS))) rfl (List.Perm.refl _) ⟨fun _ => rfl, fun q => absurd (by unfold pgO; omega) q, fun q => absurd (by unfold pgO; omega) q⟩ (Nat.le_of_ble_eq_true rfl) (Nat.le_of_ble_eq_true rfl)
  · skip
    refine lv_lload_n zx zb dX8_page_9 rfl (lv_at hl 2 rfl) ?_
    refine lv_lconst (v := lI 0) zx zb dX8_page_10 rfl ?_
    refine lv_aload_n zx zb dX8_page_11 rfl (lv_at hl 0 rfl) ?_
    refine gf8_81 (v := .int (iI (n : Int))) zC h 0 rfl rfl dX8_page_12 ?_
    refine i_i2l zC (a := (n : Int)) dX8_page_15 (by omega) ?_
    refine r_invS (As := [.long (lI mo), .long (lI 0), .long (lI (n : Int))]) (rest := []) (wr := [(a 0, oM a 0 (n : Int) (rg : Int) mbd mnw mlc msz man (ak : Int) mak mkp mfa mte mta mlv mct mgr mgo mgg), (a 5, cZ g 5 MK), (a 7, cI g 200 AQ), (a 14, cI g 22 NO), (a 2, cI g 100 RO), (a 3, cI g 100 RW), (a 4, cI g 100 RK), (a 1, cI g 1505 FI), (a 15, cZ g 22 OR), (a 16, cZ g 22 AN), (a 21, cZ g 301 IS), (a 19, cI g 300 GF), (a 20, cI g 300 GS)]) (ws2 := fun u_2 => [(a 0, oM a 0 (n : Int) (rg : Int) mbd mnw mlc msz man (ak : Int) mak mkp mfa mte mta mlv mct mgr mgo mgg), (a 5, cZ g 5 MK), (a 7, cI g 200 AQ), (a 14, cI g 22 NO), (a 2, cI g 100 RO), (a 3, cI g 100 RW), (a 4, cI g 100 RK), (a 1, cI g 1505 FI), (a 15, cZ g 22 OR), (a 16, cZ g 22 AN), (a 21, cZ g 301 IS), (a 19, cI g 300 GF), (a 20, cI g 300 GS)]) 0 0 zC h hl.1 (c_X8_within l D g mo 0 (n : Int) (by omega) (by omega) (by omega)) (cs8_90 zC ⟨(Nat.le_of_ble_eq_true rfl), (Nat.le_of_ble_eq_true rfl)⟩) rfl rfl (Nat.le_of_ble_eq_true rfl) (List.Perm.refl _) (fun u => List.Perm.refl _) ⟨(Nat.le_of_ble_eq_true rfl), (Nat.le_of_ble_eq_true rfl)⟩ (Nat.le_of_ble_eq_true rfl) (Nat.le_of_ble_eq_true rfl) dX8_page_16 (fun u_2 H locs hu_2 hz_2 h => ?_)
    refine b_zeq (b := decide (0 ≤ mo ∧ mo ≤ (n : Int))) (tgt := 35) zC dX8_page_19 (by decide) (fun c_3 => ?_) (fun c_3 => ?_)
    · skip
      simp only [decide_eq_true_eq, decide_eq_false_iff_not] at c_3
      refine kc8_102 zC dX8_page_35 ?_
      exact r_iret zC zQ zr zk h dX8_page_37 (u := (-1000002, (mfa, mte, mta, mlv, mgo, mgg, NO, OR, AN, IS, GF, GS))) rfl (List.Perm.refl _) ⟨fun _ => rfl, fun q => absurd (by unfold pgO; omega) q, fun q => absurd (by unfold pgO; omega) q⟩ (Nat.le_of_ble_eq_true rfl) (Nat.le_of_ble_eq_true rfl)
    · skip
      simp only [decide_eq_true_eq, decide_eq_false_iff_not] at c_3
      refine lv_iload zx zb dX8_page_22 (lv_at hl 3 rfl) ?_
      refine i_i2l zC (a := ii) dX8_page_24 (by omega) ?_
      refine lv_lconst (v := lI 0) zx zb dX8_page_25 rfl ?_
      refine kl8_215 zC dX8_page_26 ?_
      refine r_invS (As := [.long (lI ii), .long (lI 0), .long (lI 9)]) (rest := []) (wr := [(a 0, oM a 0 (n : Int) (rg : Int) mbd mnw mlc msz man (ak : Int) mak mkp mfa mte mta mlv mct mgr mgo mgg), (a 5, cZ g 5 MK), (a 7, cI g 200 AQ), (a 14, cI g 22 NO), (a 2, cI g 100 RO), (a 3, cI g 100 RW), (a 4, cI g 100 RK), (a 1, cI g 1505 FI), (a 15, cZ g 22 OR), (a 16, cZ g 22 AN), (a 21, cZ g 301 IS), (a 19, cI g 300 GF), (a 20, cI g 300 GS)]) (ws2 := fun u_4 => [(a 0, oM a 0 (n : Int) (rg : Int) mbd mnw mlc msz man (ak : Int) mak mkp mfa mte mta mlv mct mgr mgo mgg), (a 5, cZ g 5 MK), (a 7, cI g 200 AQ), (a 14, cI g 22 NO), (a 2, cI g 100 RO), (a 3, cI g 100 RW), (a 4, cI g 100 RK), (a 1, cI g 1505 FI), (a 15, cZ g 22 OR), (a 16, cZ g 22 AN), (a 21, cZ g 301 IS), (a 19, cI g 300 GF), (a 20, cI g 300 GS)]) 0 0 zC h hl.1 (c_X8_within l D g ii 0 9 (by omega) (by omega) (by omega)) (cs8_90 zC ⟨(Nat.le_of_ble_eq_true rfl), (Nat.le_of_ble_eq_true rfl)⟩) rfl rfl (Nat.le_of_ble_eq_true rfl) (List.Perm.refl _) (fun u => List.Perm.refl _) ⟨(Nat.le_of_ble_eq_true rfl), (Nat.le_of_ble_eq_true rfl)⟩ (Nat.le_of_ble_eq_true rfl) (Nat.le_of_ble_eq_true rfl) dX8_page_29 (fun u_4 H locs hu_4 hz_4 h => ?_)
      refine b_zne (b := decide (0 ≤ ii ∧ ii ≤ 9)) (tgt := 38) zC dX8_page_32 (by decide) (fun c_5 => ?_) (fun c_5 => ?_)
      · skip
        simp only [decide_eq_true_eq, decide_eq_false_iff_not] at c_5
        refine lv_aload_n zx zb dX8_page_38 rfl (lv_at hl 0 rfl) ?_
        refine gf8_196 (v := .int (bI man)) zC h 0 rfl rfl dX8_page_39 ?_
        refine b_zne (b := man) (tgt := 47) zC dX8_page_42 (by decide) (fun c_6 => ?_) (fun c_6 => ?_)
        · skip
          have h_an := c_6
          refine lv_aload_n zx zb dX8_page_47 rfl (lv_at hl 0 rfl) ?_
          refine gf8_22 (v := .ref (a 5)) zC h 0 rfl rfl dX8_page_48 ?_
          refine lv_iconst (v := iI (0)) zx zb dX8_page_51 rfl ?_
          refine a_zld zC h 1 rfl (z := 0) 0 rfl (by decide) (by decide) dX8_page_52 ?_
          refine lv_istore (lv' := [(5, .int (bI (MK 0))), (0, .ref (a 0)), (1, .int (iI nn)), (2, .long (lI mo)), (4, .int (iI ii))]) zx zb dX8_page_53 hl (by decide) rfl (fun ls hl => ?_)
          refine lv_aload_n zx zb dX8_page_55 rfl (lv_at hl 1 rfl) ?_
          refine gf8_22 (v := .ref (a 5)) zC h 0 rfl rfl dX8_page_56 ?_
          refine lv_iconst (v := iI (1)) zx zb dX8_page_59 rfl ?_
          refine a_zld zC h 1 rfl (z := 1) 1 rfl (by decide) (by decide) dX8_page_60 ?_
          refine lv_istore (lv' := [(6, .int (bI (MK 1))), (5, .int (bI (MK 0))), (0, .ref (a 0)), (1, .int (iI nn)), (2, .long (lI mo)), (4, .int (iI ii))]) zx zb dX8_page_61 hl (by decide) rfl (fun ls hl => ?_)
          refine lv_aload_n zx zb dX8_page_63 rfl (lv_at hl 2 rfl) ?_
          refine gf8_22 (v := .ref (a 5)) zC h 0 rfl rfl dX8_page_64 ?_
          refine lv_iconst (v := iI (2)) zx zb dX8_page_67 rfl ?_
          refine a_zld zC h 1 rfl (z := 2) 2 rfl (by decide) (by decide) dX8_page_68 ?_
          refine lv_istore (lv' := [(7, .int (bI (MK 2))), (6, .int (bI (MK 1))), (5, .int (bI (MK 0))), (0, .ref (a 0)), (1, .int (iI nn)), (2, .long (lI mo)), (4, .int (iI ii))]) zx zb dX8_page_69 hl (by decide) rfl (fun ls hl => ?_)
          refine lv_aload_n zx zb dX8_page_71 rfl (lv_at hl 3 rfl) ?_
          refine gf8_22 (v := .ref (a 5)) zC h 0 rfl rfl dX8_page_72 ?_
          refine lv_iconst (v := iI (3)) zx zb dX8_page_75 rfl ?_
          refine a_zld zC h 1 rfl (z := 3) 3 rfl (by decide) (by decide) dX8_page_76 ?_
          refine lv_istore (lv' := [(8, .int (bI (MK 3))), (7, .int (bI (MK 2))), (6, .int (bI (MK 1))), (5, .int (bI (MK 0))), (0, .ref (a 0)), (1, .int (iI nn)), (2, .long (lI mo)), (4, .int (iI ii))]) zx zb dX8_page_77 hl (by decide) rfl (fun ls hl => ?_)
          refine lv_aload_n zx zb dX8_page_79 rfl (lv_at hl 4 rfl) ?_
          refine gf8_22 (v := .ref (a 5)) zC h 0 rfl rfl dX8_page_80 ?_
          refine lv_iconst (v := iI (4)) zx zb dX8_page_83 rfl ?_
          refine a_zld zC h 1 rfl (z := 4) 4 rfl (by decide) (by decide) dX8_page_84 ?_
          refine lv_istore (lv' := [(9, .int (bI (MK 4))), (8, .int (bI (MK 3))), (7, .int (bI (MK 2))), (6, .int (bI (MK 1))), (5, .int (bI (MK 0))), (0, .ref (a 0)), (1, .int (iI nn)), (2, .long (lI mo)), (4, .int (iI ii))]) zx zb dX8_page_85 hl (by decide) rfl (fun ls hl => ?_)
          refine lv_iconst (v := iI (0)) zx zb dX8_page_87 rfl ?_
          refine lv_istore (lv' := [(10, .int (iI 0)), (9, .int (bI (MK 4))), (8, .int (bI (MK 3))), (7, .int (bI (MK 2))), (6, .int (bI (MK 1))), (5, .int (bI (MK 0))), (0, .ref (a 0)), (1, .int (iI nn)), (2, .long (lI mo)), (4, .int (iI ii))]) zx zb dX8_page_88 hl (by decide) rfl (fun ls hl => ?_)
          have L90_7 : ∀ (fuel : Nat) (k : Nat) (H : Heap) (locs : List Loc) (ls : Array Slot), 5 - k < fuel → (k ≤ 5) → Hx D g sT aA sT.heap ([(a 0, oM a 0 (n : Int) (rg : Int) mbd mnw mlc msz man (ak : Int) mak mkp mfa mte mta mlv mct mgr mgo mgg), (a 5, cZ g 5 (clF MK k)), (a 7, cI g 200 AQ), (a 14, cI g 22 NO), (a 2, cI g 100 RO), (a 3, cI g 100 RW), (a 4, cI g 100 RK), (a 1, cI g 1505 FI), (a 15, cZ g 22 OR), (a 16, cZ g 22 AN), (a 21, cZ g 301 IS), (a 19, cI g 300 GF), (a 20, cI g 300 GS)]) H locs → lv_has ls 12 [(0, .ref (a 0)), (1, .int (iI nn)), (2, .long (lI mo)), (4, .int (iI ii)), (5, .int (bI (MK 0))), (6, .int (bI (MK 1))), (7, .int (bI (MK 2))), (8, .int (bI (MK 3))), (9, .int (bI (MK 4))), (10, .int (iI (k : Int)))] → W pg l evn rmX8_page sT mI ar bl mtd cd H locs 0 0 qQ (F0 mI 90 ls []) := by
            intro fuel
            induction fuel with
            | zero => intro k H locs ls hm; exact absurd hm (Nat.not_lt_zero _)
            | succ fuel ih90 =>
              intro k H locs ls hm hk h hl
              refine lv_iload zx zb dX8_page_90 (lv_at hl 9 rfl) ?_
              refine lv_iconst (v := iI (5)) zx zb dX8_page_92 rfl ?_
              refine i_cge (a := (k : Int)) (b := 5) (tgt := 110) zC dX8_page_93 (by decide) (by omega) (fun c_8 => ?_) (fun c_8 => ?_)
              · skip
                have e_k : k = 5 := by omega
                rw [e_k, clF_5 hM5] at h
                refine lv_aload_n zx zb dX8_page_110 rfl (lv_at hl 0 rfl) ?_
                refine lv_aload_n zx zb dX8_page_111 rfl (lv_at hl 0 rfl) ?_
                refine gf8_35 (v := .ref (a 7)) zC h 0 rfl rfl dX8_page_112 ?_
                refine lv_iconst (v := iI (0)) zx zb dX8_page_115 rfl ?_
                refine lv_aload_n zx zb dX8_page_116 rfl (lv_at hl 0 rfl) ?_
                refine gf8_202 (v := .int (iI (ak : Int))) zC h 0 rfl rfl dX8_page_117 ?_
                refine r_invV (As := [.ref (a 7), .int (iI 0), .int (iI (ak : Int))]) (rest := []) (wr := [(a 2, cI g 100 RO), (a 3, cI g 100 RW), (a 4, cI g 100 RK), (a 1, cI g 1505 FI), (a 15, cZ g 22 OR), (a 16, cZ g 22 AN), (a 21, cZ g 301 IS), (a 19, cI g 300 GF), (a 20, cI g 300 GS)]) (ws2 := fun u_9 => [(a 0, oM a 0 (n : Int) (rg : Int) mbd mnw mlc msz man (ak : Int) mak mkp u_9.1 (u_9.2.1 : Int) (u_9.2.2.1 : Int) (u_9.2.2.2.1 : Int) mct mgr mgo mgg), (a 5, cZ g 5 noM), (a 7, cI g 200 AQ), (a 14, cI g 22 u_9.2.2.2.2), (a 2, cI g 100 RO), (a 3, cI g 100 RW), (a 4, cI g 100 RK), (a 1, cI g 1505 FI), (a 15, cZ g 22 OR), (a 16, cZ g 22 AN), (a 21, cZ g 301 IS), (a 19, cI g 300 GF), (a 20, cI g 300 GS)]) 0 0 zC h hl.1 (c_X8_look l D g a 0 (n : Int) (rg : Int) mbd mnw mlc msz (ak : Int) mak mkp mfa mte mta mlv mct mgo man mgr mgg  (a 7) 200 AQ NO noM 0 ak r (by omega) (by decide) (z0R hAQ)) (cs8_181 zC ⟨(Nat.le_of_ble_eq_true rfl), (Nat.le_of_ble_eq_true rfl)⟩) (.head _) rfl rfl rfl (Nat.le_of_ble_eq_true rfl) (pm fun cp_q => by simp only [cp_o, List.countP_append, List.countP_nil] <;> omega) (fun u => (pm fun cp_q => by simp only [cp_o, List.countP_append, List.countP_nil] <;> omega)) ⟨(Nat.le_of_ble_eq_true rfl), (Nat.le_of_ble_eq_true rfl)⟩ (Nat.le_of_ble_eq_true rfl) (Nat.le_of_ble_eq_true rfl) dX8_page_120 (fun u_9 H locs hu_9 hz_9 h => ?_)
                have hlk := hu_9
                have hle := LQ_R hu_9
                have h_v : u_9.1 = -1 := by obtain ⟨v0, hv0⟩ := hQ h_an; obtain ⟨v1, hv1, -⟩ := hlk; rw [z0] at hv1; exact congrArg Prod.fst (rFF_u hv1 hv0)
                obtain ⟨-, hte, hE, hTa, hSS⟩ := LQ_go hlk (by omega) hfg
                refine lv_aload_n zx zb dX8_page_123 rfl (lv_at hl 0 rfl) ?_
                refine gf8_22 (v := .ref (a 5)) zC h 0 rfl rfl dX8_page_124 ?_
                refine lv_iconst (v := iI (0)) zx zb dX8_page_127 rfl ?_
                refine lv_iload zx zb dX8_page_128 (lv_at hl 4 rfl) ?_
                refine a_zst (x := MK 0) zC h 1 (ws' := [(a 0, oM a 0 (n : Int) (rg : Int) mbd mnw mlc msz man (ak : Int) mak mkp u_9.1 (u_9.2.1 : Int) (u_9.2.2.1 : Int) (u_9.2.2.2.1 : Int) mct mgr mgo mgg), (a 5, cZ g 5 (up noM 0 (MK 0))), (a 7, cI g 200 AQ), (a 14, cI g 22 u_9.2.2.2.2), (a 2, cI g 100 RO), (a 3, cI g 100 RW), (a 4, cI g 100 RK), (a 1, cI g 1505 FI), (a 15, cZ g 22 OR), (a 16, cZ g 22 AN), (a 21, cZ g 301 IS), (a 19, cI g 300 GF), (a 20, cI g 300 GS)]) rfl (z := 0) 0 rfl rfl (by decide) (by decide) dX8_page_130 (fun H locs h => ?_)
                refine lv_aload_n zx zb dX8_page_131 rfl (lv_at hl 0 rfl) ?_
                refine gf8_22 (v := .ref (a 5)) zC h 0 rfl rfl dX8_page_132 ?_
                refine lv_iconst (v := iI (1)) zx zb dX8_page_135 rfl ?_
                refine lv_iload zx zb dX8_page_136 (lv_at hl 5 rfl) ?_
                refine a_zst (x := MK 1) zC h 1 (ws' := [(a 0, oM a 0 (n : Int) (rg : Int) mbd mnw mlc msz man (ak : Int) mak mkp u_9.1 (u_9.2.1 : Int) (u_9.2.2.1 : Int) (u_9.2.2.2.1 : Int) mct mgr mgo mgg), (a 5, cZ g 5 (up (up noM 0 (MK 0)) 1 (MK 1))), (a 7, cI g 200 AQ), (a 14, cI g 22 u_9.2.2.2.2), (a 2, cI g 100 RO), (a 3, cI g 100 RW), (a 4, cI g 100 RK), (a 1, cI g 1505 FI), (a 15, cZ g 22 OR), (a 16, cZ g 22 AN), (a 21, cZ g 301 IS), (a 19, cI g 300 GF), (a 20, cI g 300 GS)]) rfl (z := 1) 1 rfl rfl (by decide) (by decide) dX8_page_138 (fun H locs h => ?_)
                refine lv_aload_n zx zb dX8_page_139 rfl (lv_at hl 0 rfl) ?_
                refine gf8_22 (v := .ref (a 5)) zC h 0 rfl rfl dX8_page_140 ?_
                refine lv_iconst (v := iI (2)) zx zb dX8_page_143 rfl ?_
                refine lv_iload zx zb dX8_page_144 (lv_at hl 6 rfl) ?_
                refine a_zst (x := MK 2) zC h 1 (ws' := [(a 0, oM a 0 (n : Int) (rg : Int) mbd mnw mlc msz man (ak : Int) mak mkp u_9.1 (u_9.2.1 : Int) (u_9.2.2.1 : Int) (u_9.2.2.2.1 : Int) mct mgr mgo mgg), (a 5, cZ g 5 (up (up (up noM 0 (MK 0)) 1 (MK 1)) 2 (MK 2))), (a 7, cI g 200 AQ), (a 14, cI g 22 u_9.2.2.2.2), (a 2, cI g 100 RO), (a 3, cI g 100 RW), (a 4, cI g 100 RK), (a 1, cI g 1505 FI), (a 15, cZ g 22 OR), (a 16, cZ g 22 AN), (a 21, cZ g 301 IS), (a 19, cI g 300 GF), (a 20, cI g 300 GS)]) rfl (z := 2) 2 rfl rfl (by decide) (by decide) dX8_page_146 (fun H locs h => ?_)
                refine lv_aload_n zx zb dX8_page_147 rfl (lv_at hl 0 rfl) ?_
                refine gf8_22 (v := .ref (a 5)) zC h 0 rfl rfl dX8_page_148 ?_
                refine lv_iconst (v := iI (3)) zx zb dX8_page_151 rfl ?_
                refine lv_iload zx zb dX8_page_152 (lv_at hl 7 rfl) ?_
                refine a_zst (x := MK 3) zC h 1 (ws' := [(a 0, oM a 0 (n : Int) (rg : Int) mbd mnw mlc msz man (ak : Int) mak mkp u_9.1 (u_9.2.1 : Int) (u_9.2.2.1 : Int) (u_9.2.2.2.1 : Int) mct mgr mgo mgg), (a 5, cZ g 5 (up (up (up (up noM 0 (MK 0)) 1 (MK 1)) 2 (MK 2)) 3 (MK 3))), (a 7, cI g 200 AQ), (a 14, cI g 22 u_9.2.2.2.2), (a 2, cI g 100 RO), (a 3, cI g 100 RW), (a 4, cI g 100 RK), (a 1, cI g 1505 FI), (a 15, cZ g 22 OR), (a 16, cZ g 22 AN), (a 21, cZ g 301 IS), (a 19, cI g 300 GF), (a 20, cI g 300 GS)]) rfl (z := 3) 3 rfl rfl (by decide) (by decide) dX8_page_154 (fun H locs h => ?_)
                refine lv_aload_n zx zb dX8_page_155 rfl (lv_at hl 0 rfl) ?_
                refine gf8_22 (v := .ref (a 5)) zC h 0 rfl rfl dX8_page_156 ?_
                refine lv_iconst (v := iI (4)) zx zb dX8_page_159 rfl ?_
                refine lv_iload zx zb dX8_page_160 (lv_at hl 8 rfl) ?_
                refine a_zst (x := MK 4) zC h 1 (ws' := [(a 0, oM a 0 (n : Int) (rg : Int) mbd mnw mlc msz man (ak : Int) mak mkp u_9.1 (u_9.2.1 : Int) (u_9.2.2.1 : Int) (u_9.2.2.2.1 : Int) mct mgr mgo mgg), (a 5, cZ g 5 (up (up (up (up (up noM 0 (MK 0)) 1 (MK 1)) 2 (MK 2)) 3 (MK 3)) 4 (MK 4))), (a 7, cI g 200 AQ), (a 14, cI g 22 u_9.2.2.2.2), (a 2, cI g 100 RO), (a 3, cI g 100 RW), (a 4, cI g 100 RK), (a 1, cI g 1505 FI), (a 15, cZ g 22 OR), (a 16, cZ g 22 AN), (a 21, cZ g 301 IS), (a 19, cI g 300 GF), (a 20, cI g 300 GS)]) rfl (z := 4) 4 rfl rfl (by decide) (by decide) dX8_page_162 (fun H locs h => ?_)
                rw [mk5 hM5] at h
                refine lv_aload_n zx zb dX8_page_163 rfl (lv_at hl 0 rfl) ?_
                refine lv_aload_n zx zb dX8_page_164 rfl (lv_at hl 0 rfl) ?_
                refine gf8_35 (v := .ref (a 7)) zC h 0 rfl rfl dX8_page_165 ?_
                refine lv_iconst (v := iI (0)) zx zb dX8_page_168 rfl ?_
                refine lv_aload_n zx zb dX8_page_169 rfl (lv_at hl 0 rfl) ?_
                refine gf8_202 (v := .int (iI (ak : Int))) zC h 0 rfl rfl dX8_page_170 ?_
                refine lv_aload_n zx zb dX8_page_173 rfl (lv_at hl 0 rfl) ?_
                refine gf8_199 (v := .int (iI mak)) zC h 0 rfl rfl dX8_page_174 ?_
                refine lv_lload_n zx zb dX8_page_177 rfl (lv_at hl 2 rfl) ?_
                refine l_l2i zC (a := mo) dX8_page_178 ?_
                rw [show (mo : Int) = (mo.toNat : Int) from by omega]
                refine r_invV (As := [.ref (a 7), .int (iI 0), .int (iI (ak : Int)), .int (iI mak), .int (iI (mo.toNat : Int))]) (rest := []) (wr := [(a 5, cZ g 5 MK)]) (ws2 := fun u_10 => [(a 0, oM a 0 (n : Int) (rg : Int) mbd mnw mlc msz man (ak : Int) mak mkp u_9.1 (u_9.2.1 : Int) (u_9.2.2.1 : Int) u_10.1 mct mgr (u_10.2.2.2.2.1 : Int) (decide (atX (fun k => AQ (0 + k)) ak u_9.2.2.1 = 35))), (a 5, cZ g 5 MK), (a 7, cI g 200 AQ), (a 14, cI g 22 u_10.2.1), (a 2, cI g 100 RO), (a 3, cI g 100 RW), (a 4, cI g 100 RK), (a 1, cI g 1505 FI), (a 15, cZ g 22 u_10.2.2.1), (a 16, cZ g 22 u_10.2.2.2.1), (a 21, cZ g 301 u_10.2.2.2.2.2.1), (a 19, cI g 300 u_10.2.2.2.2.2.2.1), (a 20, cI g 300 u_10.2.2.2.2.2.2.2)]) 0 0 zC h hl.1 (c_X8_find l D g a 0 (n : Int) mbd mnw mlc msz (ak : Int) mak mkp u_9.1 (u_9.2.1 : Int) (u_9.2.2.2.1 : Int) mct mgo man mgr mgg u_9.2.2.1 rg (a 7) 200 AQ RO RW RK FI u_9.2.2.2.2 OR AN IS GF GS 0 ak u_9.2.1 mo.toNat mak r noM (by omega) (by decide) (z0R hAQ) hE hTa (by omega) hmak hg hRR hSS hFI) (cs8_192 zC ⟨(Nat.le_of_ble_eq_true rfl), (Nat.le_of_ble_eq_true rfl)⟩) (.head _) rfl rfl rfl (Nat.le_of_ble_eq_true rfl) (pm fun cp_q => by simp only [cp_o, List.countP_append, List.countP_nil] <;> omega) (fun u => (pm fun cp_q => by simp only [cp_o, List.countP_append, List.countP_nil] <;> omega)) ⟨(Nat.le_of_ble_eq_true rfl), (Nat.le_of_ble_eq_true rfl)⟩ (Nat.le_of_ble_eq_true rfl) (Nat.le_of_ble_eq_true rfl) dX8_page_179 (fun u_10 H locs hu_10 hz_10 h => ?_)
                have hfd := hu_10
                have hNle := selP_le hfd
                refine kl8_217 zC dX8_page_182 ?_
                refine lv_iload_n zx zb dX8_page_185 rfl (lv_at hl 1 rfl) ?_
                refine i_i2l zC (a := nn) dX8_page_186 (by omega) ?_
                refine l_mul zC (a := 10) (b := nn) dX8_page_187 ?_
                refine lv_iload zx zb dX8_page_188 (lv_at hl 3 rfl) ?_
                refine i_i2l zC (a := ii) dX8_page_190 (by omega) ?_
                refine l_add zC (a := 10 * nn) (b := ii) dX8_page_191 ?_
                refine lv_lstore (lv' := [(10, .long (lI (10 * nn + ii))), (0, .ref (a 0)), (1, .int (iI nn)), (2, .long (lI mo)), (4, .int (iI ii)), (5, .int (bI (MK 0))), (6, .int (bI (MK 1))), (7, .int (bI (MK 2))), (8, .int (bI (MK 3))), (9, .int (bI (MK 4)))]) zx zb dX8_page_192 hl (by decide) rfl (fun ls hl => ?_)
                refine lv_lload zx zb dX8_page_194 (lv_at hl 0 rfl) ?_
                refine lv_aload_n zx zb dX8_page_196 rfl (lv_at hl 1 rfl) ?_
                refine gf8_158 (v := .int (iI (u_10.2.2.2.2.1 : Int))) zC h 0 rfl rfl dX8_page_197 ?_
                refine i_i2l zC (a := (u_10.2.2.2.2.1 : Int)) dX8_page_200 (by omega) ?_
                refine l_cmp zC (a := 10 * nn + ii) (b := (u_10.2.2.2.2.1 : Int)) dX8_page_201 (by omega) (by omega) ?_
                refine i_zge (a := lC (10 * nn + ii) (u_10.2.2.2.2.1 : Int)) (tgt := 216) zC dX8_page_202 (by decide) (lC_R _ _) (fun c_11 => ?_) (fun c_11 => ?_)
                · have c_11 := lC_ge.mp c_11
                  refine lv_iconst (v := iI (-1)) zx zb dX8_page_216 rfl ?_
                  exact r_iret zC zQ zr zk h dX8_page_217 (u := (-1, (u_9.1, (u_9.2.1 : Int), (u_9.2.2.1 : Int), u_10.1, (u_10.2.2.2.2.1 : Int), decide (atX (fun k => AQ (0 + k)) ak u_9.2.2.1 = 35), u_10.2.1, u_10.2.2.1, u_10.2.2.2.1, u_10.2.2.2.2.2.1, u_10.2.2.2.2.2.2.1, u_10.2.2.2.2.2.2.2))) rfl (List.Perm.refl _) ⟨fun q => absurd q (by unfold pgO; omega), fun _ q => absurd q (by rw [h_an]; decide), fun _ _ => ⟨u_9.2.1, u_9.2.2.1, u_10.2.2.2.2.1, u_10.2.2.2.2.2, (by rw [← h_v, ← z0 AQ]; exact hlk), ⟨IS, GF, GS, by rw [← z0 AQ]; exact hfd⟩, fun q => absurd q (by omega), fun _ => rfl⟩⟩ (Nat.le_of_ble_eq_true rfl) (Nat.le_of_ble_eq_true rfl)
                · have c_11 := lC_lt.mp c_11
                  refine lv_aload_n zx zb dX8_page_205 rfl (lv_at hl 1 rfl) ?_
                  refine gf8_72 (v := .ref (a 19)) zC h 0 rfl rfl dX8_page_206 ?_
                  refine lv_lload zx zb dX8_page_209 (lv_at hl 0 rfl) ?_
                  refine l_l2i zC (a := 10 * nn + ii) dX8_page_211 ?_
                  refine a_ild zC h 11 rfl (z := 10 * nn + ii) ((10 * nn + ii).toNat) (by omega) (by omega) (by decide) dX8_page_212 ?_
                  refine lv_goto (tgt := 217) zx zb dX8_page_213 (by decide) ?_
                  exact r_iret zC zQ zr zk h dX8_page_217 (u := (u_10.2.2.2.2.2.2.1 ((10 * nn + ii).toNat), (u_9.1, (u_9.2.1 : Int), (u_9.2.2.1 : Int), u_10.1, (u_10.2.2.2.2.1 : Int), decide (atX (fun k => AQ (0 + k)) ak u_9.2.2.1 = 35), u_10.2.1, u_10.2.2.1, u_10.2.2.2.1, u_10.2.2.2.2.2.1, u_10.2.2.2.2.2.2.1, u_10.2.2.2.2.2.2.2))) rfl (List.Perm.refl _) ⟨fun q => absurd q (by unfold pgO; omega), fun _ q => absurd q (by rw [h_an]; decide), fun _ _ => ⟨u_9.2.1, u_9.2.2.1, u_10.2.2.2.2.1, u_10.2.2.2.2.2, (by rw [← h_v, ← z0 AQ]; exact hlk), ⟨IS, GF, GS, by rw [← z0 AQ]; exact hfd⟩, fun _ => rfl, fun q => absurd q (by omega)⟩⟩ (Nat.le_of_ble_eq_true rfl) (Nat.le_of_ble_eq_true rfl)
              · skip
                refine lv_aload_n zx zb dX8_page_96 rfl (lv_at hl 0 rfl) ?_
                refine gf8_22 (v := .ref (a 5)) zC h 0 rfl rfl dX8_page_97 ?_
                refine lv_iload zx zb dX8_page_100 (lv_at hl 9 rfl) ?_
                refine lv_iconst (v := iI (0)) zx zb dX8_page_102 rfl ?_
                refine a_zst (x := false) zC h 1 (ws' := [(a 0, oM a 0 (n : Int) (rg : Int) mbd mnw mlc msz man (ak : Int) mak mkp mfa mte mta mlv mct mgr mgo mgg), (a 5, cZ g 5 (clF MK (k + 1))), (a 7, cI g 200 AQ), (a 14, cI g 22 NO), (a 2, cI g 100 RO), (a 3, cI g 100 RW), (a 4, cI g 100 RK), (a 1, cI g 1505 FI), (a 15, cZ g 22 OR), (a 16, cZ g 22 AN), (a 21, cZ g 301 IS), (a 19, cI g 300 GF), (a 20, cI g 300 GS)]) rfl (z := (k : Int)) k (by rw [show up (clF MK k) k false = clF MK (k + 1) from clF_s]; rfl) (by omega) (by omega) (by decide) dX8_page_103 (fun H locs h => ?_)
                refine i_inc (q := 9) (a := (k : Int)) (lv' := [(10, .int (iI ((k : Int) + 1))), (0, .ref (a 0)), (1, .int (iI nn)), (2, .long (lI mo)), (4, .int (iI ii)), (5, .int (bI (MK 0))), (6, .int (bI (MK 1))), (7, .int (bI (MK 2))), (8, .int (bI (MK 3))), (9, .int (bI (MK 4)))]) zC hl dX8_page_104 rfl (by decide) rfl (fun ls hl => ?_)
                refine lv_goto (tgt := 90) zx zb dX8_page_107 (by decide) ?_
                exact ih90 (k + 1) _ _ _ (by omega) (by omega) h (lv_sub hl [1, 2, 3, 4, 5, 6, 7, 8, 9, 0] rfl)
          exact L90_7 _ 0 _ _ _ (Nat.lt_succ_self _) (by omega) (by rw [clF_0]; exact h) (lv_sub hl [6, 7, 8, 9, 5, 4, 3, 2, 1, 0] rfl)
        · skip
          have h_an := c_6
          refine lv_iconst (v := iI (-1)) zx zb dX8_page_45 rfl ?_
          exact r_iret zC zQ zr zk h dX8_page_46 (u := (-1, (mfa, mte, mta, mlv, mgo, mgg, NO, OR, AN, IS, GF, GS))) rfl (List.Perm.refl _) ⟨fun q => absurd q (by unfold pgO; omega), fun _ _ => rfl, fun _ q => absurd q (by rw [h_an]; decide)⟩ (Nat.le_of_ble_eq_true rfl) (Nat.le_of_ble_eq_true rfl)
      · skip
        simp only [decide_eq_true_eq, decide_eq_false_iff_not] at c_5
        refine kc8_102 zC dX8_page_35 ?_
        exact r_iret zC zQ zr zk h dX8_page_37 (u := (-1000002, (mfa, mte, mta, mlv, mgo, mgg, NO, OR, AN, IS, GF, GS))) rfl (List.Perm.refl _) ⟨fun _ => rfl, fun q => absurd (by unfold pgO; omega) q, fun q => absurd (by unfold pgO; omega) q⟩ (Nat.le_of_ble_eq_true rfl) (Nat.le_of_ble_eq_true rfl)

def kpM (mk : Nat → Bool) (tx : Nat → Int) (sz n : Nat) (cb : Int) (FI RO RW RK : Nat → Int) (rg : Nat) (w : Int) (r : RS) (z : Int) : Prop :=
  ∃ (fa : Int) (te ta : Nat), LQ mk tx sz (rBegin r) fa te ta ∧ (fa ≠ -1 → z = -1) ∧ (fa = -1 → cb < ((te : Int) + 1) * (n : Int) → z = -1) ∧ (fa = -1 → ((te : Int) + 1) * (n : Int) ≤ cb → ∃ (N : Nat) (sl : SL), fndP FI RO RW RK rg mk tx sz r ta w n N sl ∧ z = (N : Int))

set_option maxHeartbeats 4000000 in
set_option maxRecDepth 100000 in
theorem c_X8_askKept (l : Launch) (D : va_G) (g : Nat → ClassId) (a : Nat → Nat) (mth mbd mnw mlc msz mas mak mkp mfa mte mta mlv mct mgo : Int) (man mgr mgg : Bool) (n : Nat) (rg : Nat) (KT : Nat → Int) (KS : Nat → Int) (SA : Nat → Int) (KO : Nat → Int) (NO : Nat → Int) (MK : Nat → Bool) (RO : Nat → Int) (RW : Nat → Int) (RK : Nat → Int) (FI : Nat → Int) (OR : Nat → Bool) (AN : Nat → Bool) (IS : Nat → Bool) (GF : Nat → Int) (GS : Nat → Int) (q sz : Nat) (r : RS) (hq : q < 20) (hsz : KS q = (sz : Int)) (hs2 : sz ≤ 200) (hKT : ∀ k, k < sz → R32 ((fun k => KT (200 * q + k)) k)) (hKO : R32 (KO q)) (hn : n ≤ 300) (hcb : 0 ≤ mbd ∧ mbd ≤ 1000000) (hg : rg ≤ 100) (hRR : ∀ k, k < rg → R32 (RO k) ∧ R32 (RW k) ∧ R32 (RK k)) (hFI : ∀ k, k < 1505 → R32 (FI k)) (hfg : R32 r.fg) : Ct (S := Int × SM) l D g yX8_askKept cX8_askKept 2 none rmX8_askKept [.ref (a 0), .int (iI (q : Int))] ([(a 0, oM a mth (n : Int) (rg : Int) mbd mnw mlc msz man mas mak mkp mfa mte mta mlv mct mgr mgo mgg), (a 9, cI g 4000 KT), (a 8, cI g 20 KS), (a 13, cI g 20 SA), (a 10, cI g 20 KO), (a 14, cI g 22 NO), (a 5, cZ g 5 MK), (a 2, cI g 100 RO), (a 3, cI g 100 RW), (a 4, cI g 100 RK), (a 1, cI g 1505 FI), (a 15, cZ g 22 OR), (a 16, cZ g 22 AN), (a 21, cZ g 301 IS), (a 19, cI g 300 GF), (a 20, cI g 300 GS)]) (fun u => none) (fun u => kpM MK (fun k => KT (200 * q + k)) sz n mbd FI RO RW RK rg (KO q) r u.1) (fun u => [(a 0, oM a mth (n : Int) (rg : Int) mbd mnw mlc msz man mas mak mkp u.2.1 u.2.2.1 u.2.2.2.1 u.2.2.2.2.1 mct mgr u.2.2.2.2.2.1 u.2.2.2.2.2.2.1), (a 9, cI g 4000 KT), (a 8, cI g 20 KS), (a 13, cI g 20 (up SA q u.1)), (a 10, cI g 20 KO), (a 14, cI g 22 u.2.2.2.2.2.2.2.1), (a 5, cZ g 5 MK), (a 2, cI g 100 RO), (a 3, cI g 100 RW), (a 4, cI g 100 RK), (a 1, cI g 1505 FI), (a 15, cZ g 22 u.2.2.2.2.2.2.2.2.1), (a 16, cZ g 22 u.2.2.2.2.2.2.2.2.2.1), (a 21, cZ g 301 u.2.2.2.2.2.2.2.2.2.2.1), (a 19, cI g 300 u.2.2.2.2.2.2.2.2.2.2.2.1), (a 20, cI g 300 u.2.2.2.2.2.2.2.2.2.2.2.2)]) := by
  refine Ct.of RX8 rfl (by decide +kernel) [(0, .ref (a 0)), (1, .int (iI (q : Int)))] rfl (Nat.le_of_ble_eq_true rfl) ?_
  intro pg evn sT mI bl mtd cd aA ls ar qQ zC zr zk zi zQ h hl
  have zx := zC.1
  have zb := zC.2.1
  skip
  refine lv_aload_n zx zb dX8_askKept_0 rfl (lv_at hl 0 rfl) ?_
  refine lv_aload_n zx zb dX8_askKept_1 rfl (lv_at hl 0 rfl) ?_
  refine gf8_41 (v := .ref (a 9)) zC h 0 rfl rfl dX8_askKept_2 ?_
  refine lv_sipush (v := iI (200)) zx zb dX8_askKept_5 rfl ?_
  refine lv_iload_n zx zb dX8_askKept_8 rfl (lv_at hl 1 rfl) ?_
  refine i_mul zC (a := 200) (b := (q : Int)) dX8_askKept_9 ?_
  rw [show (200 * (q : Int) : Int) = ((200 * q : Nat) : Int) from (by omega)]
  refine lv_aload_n zx zb dX8_askKept_10 rfl (lv_at hl 0 rfl) ?_
  refine gf8_38 (v := .ref (a 8)) zC h 0 rfl rfl dX8_askKept_11 ?_
  refine lv_iload_n zx zb dX8_askKept_14 rfl (lv_at hl 1 rfl) ?_
  refine a_ild zC h 2 rfl (z := (q : Int)) q rfl (by omega) (by decide) dX8_askKept_15 ?_
  rw [hsz]
  refine r_invV (As := [.ref (a 9), .int (iI ((200 * q : Nat) : Int)), .int (iI (sz : Int))]) (rest := []) (wr := [(a 8, cI g 20 KS), (a 13, cI g 20 SA), (a 10, cI g 20 KO), (a 2, cI g 100 RO), (a 3, cI g 100 RW), (a 4, cI g 100 RK), (a 1, cI g 1505 FI), (a 15, cZ g 22 OR), (a 16, cZ g 22 AN), (a 21, cZ g 301 IS), (a 19, cI g 300 GF), (a 20, cI g 300 GS)]) (ws2 := fun u_1 => [(a 0, oM a mth (n : Int) (rg : Int) mbd mnw mlc msz man mas mak mkp u_1.1 (u_1.2.1 : Int) (u_1.2.2.1 : Int) (u_1.2.2.2.1 : Int) mct mgr mgo mgg), (a 9, cI g 4000 KT), (a 8, cI g 20 KS), (a 13, cI g 20 SA), (a 10, cI g 20 KO), (a 14, cI g 22 u_1.2.2.2.2), (a 5, cZ g 5 MK), (a 2, cI g 100 RO), (a 3, cI g 100 RW), (a 4, cI g 100 RK), (a 1, cI g 1505 FI), (a 15, cZ g 22 OR), (a 16, cZ g 22 AN), (a 21, cZ g 301 IS), (a 19, cI g 300 GF), (a 20, cI g 300 GS)]) 0 0 zC h hl.1 (c_X8_look l D g a mth (n : Int) (rg : Int) mbd mnw mlc msz mas mak mkp mfa mte mta mlv mct mgo man mgr mgg  (a 9) 4000 KT NO MK (200 * q) sz r (by omega) (by decide) hKT) (cs8_181 zC ⟨(Nat.le_of_ble_eq_true rfl), (Nat.le_of_ble_eq_true rfl)⟩) (.head _) rfl rfl rfl (Nat.le_of_ble_eq_true rfl) (pm fun cp_q => by simp only [cp_o, List.countP_append, List.countP_nil] <;> omega) (fun u => (pm fun cp_q => by simp only [cp_o, List.countP_append, List.countP_nil] <;> omega)) ⟨(Nat.le_of_ble_eq_true rfl), (Nat.le_of_ble_eq_true rfl)⟩ (Nat.le_of_ble_eq_true rfl) (Nat.le_of_ble_eq_true rfl) dX8_askKept_16 (fun u_1 H locs hu_1 hz_1 h => ?_)
  have hlk := hu_1
  have hle := LQ_R hu_1
  refine lv_aload_n zx zb dX8_askKept_19 rfl (lv_at hl 0 rfl) ?_
  refine gf8_54 (v := .ref (a 13)) zC h 0 rfl rfl dX8_askKept_20 ?_
  refine lv_iload_n zx zb dX8_askKept_23 rfl (lv_at hl 1 rfl) ?_
  refine lv_iconst (v := iI (-1)) zx zb dX8_askKept_24 rfl ?_
  refine a_ist (x := -1) zC h 3 (ws' := [(a 0, oM a mth (n : Int) (rg : Int) mbd mnw mlc msz man mas mak mkp u_1.1 (u_1.2.1 : Int) (u_1.2.2.1 : Int) (u_1.2.2.2.1 : Int) mct mgr mgo mgg), (a 9, cI g 4000 KT), (a 8, cI g 20 KS), (a 13, cI g 20 (up SA q (-1))), (a 10, cI g 20 KO), (a 14, cI g 22 u_1.2.2.2.2), (a 5, cZ g 5 MK), (a 2, cI g 100 RO), (a 3, cI g 100 RW), (a 4, cI g 100 RK), (a 1, cI g 1505 FI), (a 15, cZ g 22 OR), (a 16, cZ g 22 AN), (a 21, cZ g 301 IS), (a 19, cI g 300 GF), (a 20, cI g 300 GS)]) rfl (z := (q : Int)) q rfl rfl (by omega) (by decide) dX8_askKept_25 (fun H locs h => ?_)
  refine lv_aload_n zx zb dX8_askKept_26 rfl (lv_at hl 0 rfl) ?_
  refine gf8_114 (v := .int (iI u_1.1)) zC h 0 rfl rfl dX8_askKept_27 ?_
  refine i_zge (a := u_1.1) (tgt := 84) zC dX8_askKept_30 (by decide) (by omega) (fun c_2 => ?_) (fun c_2 => ?_)
  · skip
    exact r_vret zC zQ zr zk h dX8_askKept_84 (u := ((-1), (u_1.1, (u_1.2.1 : Int), (u_1.2.2.1 : Int), (u_1.2.2.2.1 : Int), mgo, mgg, u_1.2.2.2.2, OR, AN, IS, GF, GS))) rfl (List.Perm.refl _) ⟨u_1.1, u_1.2.1, u_1.2.2.1, hlk, fun _ => rfl, fun _ _ => rfl, fun q1 q2 => absurd q1 (by omega)⟩ (Nat.le_of_ble_eq_true rfl) (Nat.le_of_ble_eq_true rfl)
  · skip
    obtain ⟨h_v, hte, hE, hTa, hSS⟩ := LQ_go hlk c_2 hfg
    have hcA : 0 ≤ ((u_1.2.1 : Int) + 1) * (n : Int) ∧ ((u_1.2.1 : Int) + 1) * (n : Int) ≤ 41 * 300 := ⟨Int.mul_nonneg (by omega) (by omega), Int.mul_le_mul (by omega) (by omega) (by omega) (by omega)⟩
    refine lv_aload_n zx zb dX8_askKept_33 rfl (lv_at hl 0 rfl) ?_
    refine r_invV (As := []) (rest := []) (wr := [(a 9, cI g 4000 KT), (a 8, cI g 20 KS), (a 13, cI g 20 (up SA q (-1))), (a 10, cI g 20 KO), (a 14, cI g 22 u_1.2.2.2.2), (a 5, cZ g 5 MK), (a 2, cI g 100 RO), (a 3, cI g 100 RW), (a 4, cI g 100 RK), (a 1, cI g 1505 FI), (a 15, cZ g 22 OR), (a 16, cZ g 22 AN), (a 21, cZ g 301 IS), (a 19, cI g 300 GF), (a 20, cI g 300 GS)]) (ws2 := fun u_3 => [(a 0, oM a mth (n : Int) (rg : Int) mbd mnw mlc msz man mas mak mkp u_1.1 (u_1.2.1 : Int) (u_1.2.2.1 : Int) (u_1.2.2.2.1 : Int) mct mgr mgo mgg), (a 9, cI g 4000 KT), (a 8, cI g 20 KS), (a 13, cI g 20 (up SA q (-1))), (a 10, cI g 20 KO), (a 14, cI g 22 u_1.2.2.2.2), (a 5, cZ g 5 MK), (a 2, cI g 100 RO), (a 3, cI g 100 RW), (a 4, cI g 100 RK), (a 1, cI g 1505 FI), (a 15, cZ g 22 OR), (a 16, cZ g 22 AN), (a 21, cZ g 301 IS), (a 19, cI g 300 GF), (a 20, cI g 300 GS)]) 0 0 zC h hl.1 (c_X8_costNow l D g a mth (rg : Int) mbd mnw mlc msz mas mak mkp u_1.1 (u_1.2.2.1 : Int) (u_1.2.2.2.1 : Int) mct mgo man mgr mgg u_1.2.1 n    (by omega) hn) (cs8_184 zC ⟨(Nat.le_of_ble_eq_true rfl), (Nat.le_of_ble_eq_true rfl)⟩) (.head _) rfl rfl rfl (Nat.le_of_ble_eq_true rfl) (pm fun cp_q => by simp only [cp_o, List.countP_append, List.countP_nil] <;> omega) (fun u => (pm fun cp_q => by simp only [cp_o, List.countP_append, List.countP_nil] <;> omega)) ⟨(Nat.le_of_ble_eq_true rfl), (Nat.le_of_ble_eq_true rfl)⟩ (Nat.le_of_ble_eq_true rfl) (Nat.le_of_ble_eq_true rfl) dX8_askKept_34 (fun u_3 H locs hu_3 hz_3 h => ?_)
    refine lv_aload_n zx zb dX8_askKept_37 rfl (lv_at hl 0 rfl) ?_
    refine gf8_28 (v := .long (lI mbd)) zC h 0 rfl rfl dX8_askKept_38 ?_
    refine l_cmp zC (a := ((u_1.2.1 : Int) + 1) * (n : Int)) (b := mbd) dX8_askKept_41 (by omega) (by omega) ?_
    refine i_zgt (a := lC (((u_1.2.1 : Int) + 1) * (n : Int)) mbd) (tgt := 84) zC dX8_askKept_42 (by decide) (lC_R _ _) (fun c_4 => ?_) (fun c_4 => ?_)
    · have c_4 := lC_gt.mp c_4
      exact r_vret zC zQ zr zk h dX8_askKept_84 (u := ((-1), (u_1.1, (u_1.2.1 : Int), (u_1.2.2.1 : Int), (u_1.2.2.2.1 : Int), mgo, mgg, u_1.2.2.2.2, OR, AN, IS, GF, GS))) rfl (List.Perm.refl _) ⟨u_1.1, u_1.2.1, u_1.2.2.1, hlk, fun _ => rfl, fun _ _ => rfl, fun _ q2 => absurd q2 (by omega)⟩ (Nat.le_of_ble_eq_true rfl) (Nat.le_of_ble_eq_true rfl)
    · have c_4 := lC_le.mp c_4
      refine lv_aload_n zx zb dX8_askKept_45 rfl (lv_at hl 0 rfl) ?_
      refine lv_aload_n zx zb dX8_askKept_46 rfl (lv_at hl 0 rfl) ?_
      refine gf8_41 (v := .ref (a 9)) zC h 0 rfl rfl dX8_askKept_47 ?_
      refine lv_sipush (v := iI (200)) zx zb dX8_askKept_50 rfl ?_
      refine lv_iload_n zx zb dX8_askKept_53 rfl (lv_at hl 1 rfl) ?_
      refine i_mul zC (a := 200) (b := (q : Int)) dX8_askKept_54 ?_
      rw [show (200 * (q : Int) : Int) = ((200 * q : Nat) : Int) from (by omega)]
      refine lv_aload_n zx zb dX8_askKept_55 rfl (lv_at hl 0 rfl) ?_
      refine gf8_38 (v := .ref (a 8)) zC h 0 rfl rfl dX8_askKept_56 ?_
      refine lv_iload_n zx zb dX8_askKept_59 rfl (lv_at hl 1 rfl) ?_
      refine a_ild zC h 2 rfl (z := (q : Int)) q rfl (by omega) (by decide) dX8_askKept_60 ?_
      rw [hsz]
      refine lv_aload_n zx zb dX8_askKept_61 rfl (lv_at hl 0 rfl) ?_
      refine gf8_44 (v := .ref (a 10)) zC h 0 rfl rfl dX8_askKept_62 ?_
      refine lv_iload_n zx zb dX8_askKept_65 rfl (lv_at hl 1 rfl) ?_
      refine a_ild zC h 4 rfl (z := (q : Int)) q rfl (by omega) (by decide) dX8_askKept_66 ?_
      refine lv_aload_n zx zb dX8_askKept_67 rfl (lv_at hl 0 rfl) ?_
      refine gf8_81 (v := .int (iI (n : Int))) zC h 0 rfl rfl dX8_askKept_68 ?_
      refine r_invV (As := [.ref (a 9), .int (iI ((200 * q : Nat) : Int)), .int (iI (sz : Int)), .int (iI (KO q)), .int (iI (n : Int))]) (rest := []) (wr := [(a 8, cI g 20 KS), (a 13, cI g 20 (up SA q (-1))), (a 10, cI g 20 KO), (a 5, cZ g 5 MK)]) (ws2 := fun u_5 => [(a 0, oM a mth (n : Int) (rg : Int) mbd mnw mlc msz man mas mak mkp u_1.1 (u_1.2.1 : Int) (u_1.2.2.1 : Int) u_5.1 mct mgr (u_5.2.2.2.2.1 : Int) (decide (atX (fun k => KT (200 * q + k)) sz u_1.2.2.1 = 35))), (a 9, cI g 4000 KT), (a 8, cI g 20 KS), (a 13, cI g 20 (up SA q (-1))), (a 10, cI g 20 KO), (a 14, cI g 22 u_5.2.1), (a 5, cZ g 5 MK), (a 2, cI g 100 RO), (a 3, cI g 100 RW), (a 4, cI g 100 RK), (a 1, cI g 1505 FI), (a 15, cZ g 22 u_5.2.2.1), (a 16, cZ g 22 u_5.2.2.2.1), (a 21, cZ g 301 u_5.2.2.2.2.2.1), (a 19, cI g 300 u_5.2.2.2.2.2.2.1), (a 20, cI g 300 u_5.2.2.2.2.2.2.2)]) 0 0 zC h hl.1 (c_X8_find l D g a mth (n : Int) mbd mnw mlc msz mas mak mkp u_1.1 (u_1.2.1 : Int) (u_1.2.2.2.1 : Int) mct mgo man mgr mgg u_1.2.2.1 rg (a 9) 4000 KT RO RW RK FI u_1.2.2.2.2 OR AN IS GF GS (200 * q) sz u_1.2.1 n (KO q) r MK (by omega) (by decide) hKT hE hTa hn hKO hg hRR hSS hFI) (cs8_192 zC ⟨(Nat.le_of_ble_eq_true rfl), (Nat.le_of_ble_eq_true rfl)⟩) (.head _) rfl rfl rfl (Nat.le_of_ble_eq_true rfl) (pm fun cp_q => by simp only [cp_o, List.countP_append, List.countP_nil] <;> omega) (fun u => (pm fun cp_q => by simp only [cp_o, List.countP_append, List.countP_nil] <;> omega)) ⟨(Nat.le_of_ble_eq_true rfl), (Nat.le_of_ble_eq_true rfl)⟩ (Nat.le_of_ble_eq_true rfl) (Nat.le_of_ble_eq_true rfl) dX8_askKept_71 (fun u_5 H locs hu_5 hz_5 h => ?_)
      have hfd := hu_5
      have hNle := selP_le hfd
      refine lv_aload_n zx zb dX8_askKept_74 rfl (lv_at hl 0 rfl) ?_
      refine gf8_54 (v := .ref (a 13)) zC h 0 rfl rfl dX8_askKept_75 ?_
      refine lv_iload_n zx zb dX8_askKept_78 rfl (lv_at hl 1 rfl) ?_
      refine lv_aload_n zx zb dX8_askKept_79 rfl (lv_at hl 0 rfl) ?_
      refine gf8_158 (v := .int (iI (u_5.2.2.2.2.1 : Int))) zC h 0 rfl rfl dX8_askKept_80 ?_
      refine a_ist (x := (u_5.2.2.2.2.1 : Int)) zC h 3 (ws' := [(a 0, oM a mth (n : Int) (rg : Int) mbd mnw mlc msz man mas mak mkp u_1.1 (u_1.2.1 : Int) (u_1.2.2.1 : Int) u_5.1 mct mgr (u_5.2.2.2.2.1 : Int) (decide (atX (fun k => KT (200 * q + k)) sz u_1.2.2.1 = 35))), (a 9, cI g 4000 KT), (a 8, cI g 20 KS), (a 13, cI g 20 (up SA q (u_5.2.2.2.2.1 : Int))), (a 10, cI g 20 KO), (a 14, cI g 22 u_5.2.1), (a 5, cZ g 5 MK), (a 2, cI g 100 RO), (a 3, cI g 100 RW), (a 4, cI g 100 RK), (a 1, cI g 1505 FI), (a 15, cZ g 22 u_5.2.2.1), (a 16, cZ g 22 u_5.2.2.2.1), (a 21, cZ g 301 u_5.2.2.2.2.2.1), (a 19, cI g 300 u_5.2.2.2.2.2.2.1), (a 20, cI g 300 u_5.2.2.2.2.2.2.2)]) rfl (z := (q : Int)) q (by rw [show up (up SA q (-1)) q (u_5.2.2.2.2.1 : Int) = up SA q (u_5.2.2.2.2.1 : Int) from up_up]; rfl) rfl (by omega) (by decide) dX8_askKept_83 (fun H locs h => ?_)
      exact r_vret zC zQ zr zk h dX8_askKept_84 (u := ((u_5.2.2.2.2.1 : Int), (u_1.1, (u_1.2.1 : Int), (u_1.2.2.1 : Int), u_5.1, (u_5.2.2.2.2.1 : Int), decide (atX (fun k => KT (200 * q + k)) sz u_1.2.2.1 = 35), u_5.2.1, u_5.2.2.1, u_5.2.2.2.1, u_5.2.2.2.2.2.1, u_5.2.2.2.2.2.2.1, u_5.2.2.2.2.2.2.2))) rfl (List.Perm.refl _) ⟨u_1.1, u_1.2.1, u_1.2.2.1, hlk, fun q1 => absurd h_v q1, fun _ q2 => absurd q2 (by omega), fun _ _ => ⟨u_5.2.2.2.2.1, u_5.2.2.2.2.2, ⟨IS, GF, GS, hfd⟩, rfl⟩⟩ (Nat.le_of_ble_eq_true rfl) (Nat.le_of_ble_eq_true rfl)
