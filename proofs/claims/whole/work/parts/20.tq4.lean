/-! TRACEQUESTIONS: pages, kept questions, the clock -/
theorem fRun_le (num : Nat → Int) (ok : Int → Bool) (grp : Bool) (val : Int → Int) (u0 : FS) (h : u0.2.2 = 0) : ∀ p, (fRun num ok grp val u0 p).2.2 ≤ p
  | 0 => by show u0.2.2 ≤ 0; omega
  | p + 1 => by
    have ih := fRun_le num ok grp val u0 h p
    show (if ok (num p) = true then (if grp = true then fGrp (fRun num ok grp val u0 p) (val (num p)) else fAdd (fRun num ok grp val u0 p) (num p)) else fRun num ok grp val u0 p).2.2 ≤ p + 1
    split
    · split
      · have := fGrp_le (fRun num ok grp val u0 p) (val (num p)); omega
      · show (fRun num ok grp val u0 p).2.2 + 1 ≤ p + 1; omega
    · omega
theorem runQ_le (B : Nat → Nat → Nat → Bool) (Vv U Dn : Nat → Nat → Int) (A : QC) (mm : Int) (n : Nat) (u0 : FS) : (runQ B Vv U Dn A mm n u0).2.2 ≤ n := fRun_le _ _ _ _ _ rfl n
/-- what was found, whatever stood there before -/
def fEq (u v : FS) : Prop := u.2.2 = v.2.2 ∧ ∀ k, k < u.2.2 → u.1 k = v.1 k ∧ u.2.1 k = v.2.1 k
theorem fAdd_eq {u v : FS} {z : Int} (h : fEq u v) : fEq (fAdd u z) (fAdd v z) := by
  obtain ⟨h1, h2⟩ := h
  refine ⟨by show u.2.2 + 1 = v.2.2 + 1; rw [h1], fun k hk => ?_⟩
  show up u.1 u.2.2 z k = up v.1 v.2.2 z k ∧ up u.2.1 u.2.2 1 k = up v.2.1 v.2.2 1 k
  rw [← h1]
  by_cases e : k = u.2.2
  · subst e; exact ⟨by rw [up_s, up_s], by rw [up_s, up_s]⟩
  · have := h2 k (by have : k < u.2.2 + 1 := hk; omega)
    rw [up_n e, up_n e, up_n e, up_n e]; exact this
theorem fGrp_eq {u v : FS} {z : Int} (h : fEq u v) : fEq (fGrp u z) (fGrp v z) := by
  obtain ⟨h1, h2⟩ := id h
  unfold fGrp
  by_cases e : 0 < u.2.2 ∧ u.1 (u.2.2 - 1) = z
  · have h3 := h2 (u.2.2 - 1) (by omega)
    rw [if_pos e, if_pos ⟨by omega, by rw [← h1, ← h3.1]; exact e.2⟩]
    refine ⟨h1, fun k hk => ⟨(h2 k hk).1, ?_⟩⟩
    show up u.2.1 (u.2.2 - 1) (u.2.1 (u.2.2 - 1) + 1) k = up v.2.1 (v.2.2 - 1) (v.2.1 (v.2.2 - 1) + 1) k
    rw [← h1, ← h3.2]
    by_cases e2 : k = u.2.2 - 1
    · subst e2; rw [up_s, up_s]
    · rw [up_n e2, up_n e2]; exact (h2 k hk).2
  · rw [if_neg e, if_neg (fun q => e ⟨by omega, by
      have h3 := h2 (u.2.2 - 1) (by omega)
      rw [h3.1, h1]; exact q.2⟩)]
    exact fAdd_eq h
theorem fRun_eq (num : Nat → Int) (ok : Int → Bool) (grp : Bool) (val : Int → Int) {u v : FS} (h : fEq u v) : ∀ p, fEq (fRun num ok grp val u p) (fRun num ok grp val v p)
  | 0 => h
  | p + 1 => by
    have ih := fRun_eq num ok grp val h p
    show fEq (if ok (num p) = true then (if grp = true then fGrp (fRun num ok grp val u p) (val (num p)) else fAdd (fRun num ok grp val u p) (num p)) else fRun num ok grp val u p) (if ok (num p) = true then (if grp = true then fGrp (fRun num ok grp val v p) (val (num p)) else fAdd (fRun num ok grp val v p) (num p)) else fRun num ok grp val v p)
    split
    · split
      · exact fGrp_eq ih
      · exact fAdd_eq ih
    · exact ih
def rQ0 (B : Nat → Nat → Nat → Bool) (Vv U Dn : Nat → Nat → Int) (A : QC) (mm : Int) (n : Nat) : FS := runQ B Vv U Dn A mm n (fun _ => 0, fun _ => 0, 0)
theorem runQ_0 (B : Nat → Nat → Nat → Bool) (Vv U Dn : Nat → Nat → Int) (A : QC) (mm : Int) (n : Nat) (u0 : FS) : fEq (runQ B Vv U Dn A mm n u0) (rQ0 B Vv U Dn A mm n) := by
  unfold rQ0 runQ
  exact fRun_eq _ _ _ _ (u := (u0.1, u0.2.1, 0)) (v := (fun _ => 0, fun _ => 0, 0)) ⟨rfl, fun k hk => absurd hk (Nat.not_lt_zero k)⟩ n
def pageP (n : Nat) (an : Bool) (B : Nat → Nat → Nat → Bool) (Vv U Dn : Nat → Nat → Int) (A : QC) (nn mo i : Int) (u : Int) : Prop :=
  u = if nn < 0 ∨ mo < 0 ∨ (n : Int) < mo ∨ ¬ (0 ≤ i ∧ i < 10) then -1000002 else if an = false then -1 else if nn * 10 + i < ((rQ0 B Vv U Dn A mo n).2.2 : Int) then (rQ0 B Vv U Dn A mo n).1 (nn * 10 + i).toNat else -1
/-- how many a kept question finds now -/
noncomputable def cntM (mk : Nat → Bool) (cb : Int) (B : Nat → Nat → Nat → Bool) (Vv U Dn : Nat → Nat → Int) (n : Nat) (A : QC) : Int :=
  if (bZ fun i => A.fl i && mk i) ≠ 0 ∨ cb < ((A.tc : Int) + 1) * (n : Int) then -1 else ((rQ0 B Vv U Dn A (n : Int) n).2.2 : Int)
abbrev KD : Type := QC × Int × Int × Int
noncomputable def kUp (mk : Nat → Bool) (cb : Int) (B : Nat → Nat → Nat → Bool) (Vv U Dn : Nat → Nat → Int) (n : Nat) (tm : Int) (d : KD) : Int × KD :=
  ((passU d.2.1 d.2.2.1 tm).1, d.1, d.2.1, (passU d.2.1 d.2.2.1 tm).2, if (passU d.2.1 d.2.2.1 tm).1 ≤ 0 then d.2.2.2 else cntM mk cb B Vv U Dn n d.1)

set_option maxHeartbeats 4000000 in
set_option maxRecDepth 100000 in
theorem c_X7_page (l : Launch) (D : va_G) (g : Nat → ClassId) (x j ta ka : Nat) (ra ga da qa fa pa : Nat → Nat) (sg kc : Nat) (mk : Nat → Bool) (cb lc tm : Int) (an : Bool) (gr : Nat → Nat) (gn : Nat) (B : Nat → Nat → Nat → Bool) (Cn : Nat → Int) (r1 r2 r3 : Nat → Nat) (n : Nat) (Vv U Dn : Nat → Nat → Int) (A : QC) (J : JS4) (F : FS) (nn mo i : Int) (h0 : R32 nn ∧ R64 mo ∧ R32 i) (hn : n ≤ 300) (hv : vOK n Vv) (ho : oOK n U Dn) (hA : qOK A) : Ct (S := Int × JS4 × FS) l D g yX7_page cX7_page 7 (some .int) rmX7_page [.ref x, .int (iI nn), .long (lI mo), .int (iI i)] (wX x j ta ka ra ga da qa fa pa sg kc mk cb lc tm an ++ (wJ4 j J ++ (wRights g ga gr gn B Cn ++ (wRows g ra r1 r2 r3 n Vv U Dn ++ (wQc g qa A ++ wF4 g pa F))))) (fun u => some (.int (iI u.1))) (fun u => pageP n an B Vv U Dn A nn mo i u.1) (fun u => wX x j ta ka ra ga da qa fa pa sg kc mk cb lc tm an ++ (wJ4 j u.2.1 ++ (wRights g ga gr gn B Cn ++ (wRows g ra r1 r2 r3 n Vv U Dn ++ (wQc g qa A ++ wF4 g pa u.2.2))))) := by
  refine Ct.of RX7 rfl (by decide +kernel) [(0, .ref x), (1, .int (iI nn)), (2, .long (lI mo)), (4, .int (iI i))] rfl (Nat.le_of_ble_eq_true rfl) ?_
  intro pg evn sT mI bl mtd cd aA ls ar qQ zC zr zk zi zQ h hl
  have zx := zC.1
  have zb := zC.2.1
  have h : Hx D g sT aA sT.heap ((x, .inr (7, [.ref (ra 0), .ref (ga 0), .ref (da 0), .ref j, .ref ta, .int (iI (sg : Int)), .int (iI (bZ mk)), .int (iI cb), .long (lI lc), .ref (qa 0), .int (bI an), .ref (fa 0), .ref (pa 0), .ref ka, .int (iI (kc : Int)), .long (lI tm)])) :: ((wJ4 j J) ++ ((wRights g ga gr gn B Cn) ++ ((wRows g ra r1 r2 r3 n Vv U Dn) ++ ((wQc g qa A) ++ (wF4 g pa F)))))) sT.heap [] := h
  skip
  refine lv_iload_n zx zb dX7_page_0 rfl (lv_at hl 1 rfl) ?_
  refine i_zlt (a := nn) (tgt := 34) zC dX7_page_1 (by decide) (by omega) (fun c_1 => ?_) (fun c_1 => ?_)
  · skip
    refine kc7_93 zC dX7_page_34 ?_
    exact r_iret zC zQ zr zk h dX7_page_36 (u := (-1000002, J, F)) rfl (List.Perm.refl _) (by unfold pageP; rw [if_pos (by omega)]) (Nat.le_of_ble_eq_true rfl) (Nat.le_of_ble_eq_true rfl)
  · skip
    refine lv_lload_n zx zb dX7_page_4 rfl (lv_at hl 2 rfl) ?_
    refine lv_lconst (v := lI 0) zx zb dX7_page_5 rfl ?_
    refine l_cmp zC (a := mo) (b := 0) dX7_page_6 (by omega) (by omega) ?_
    refine i_zlt (a := lC mo 0) (tgt := 34) zC dX7_page_7 (by decide) (lC_R _ _) (fun c_2 => ?_) (fun c_2 => ?_)
    · have c_2 := lC_lt.mp c_2
      refine kc7_93 zC dX7_page_34 ?_
      exact r_iret zC zQ zr zk h dX7_page_36 (u := (-1000002, J, F)) rfl (List.Perm.refl _) (by unfold pageP; rw [if_pos (by omega)]) (Nat.le_of_ble_eq_true rfl) (Nat.le_of_ble_eq_true rfl)
    · have c_2 := lC_ge.mp c_2
      refine lv_lload_n zx zb dX7_page_10 rfl (lv_at hl 2 rfl) ?_
      refine lv_aload_n zx zb dX7_page_11 rfl (lv_at hl 0 rfl) ?_
      refine gf7_10 (v := .ref (ra 0)) zC h 0 rfl rfl dX7_page_12 ?_
      refine r_invV (As := []) (rest := [.long (lI mo)]) (wr := (x, .inr (7, [.ref (ra 0), .ref (ga 0), .ref (da 0), .ref j, .ref ta, .int (iI (sg : Int)), .int (iI (bZ mk)), .int (iI cb), .long (lI lc), .ref (qa 0), .int (bI an), .ref (fa 0), .ref (pa 0), .ref ka, .int (iI (kc : Int)), .long (lI tm)])) :: ((wJ4 j J) ++ ((wRights g ga gr gn B Cn) ++ ((wQc g qa A) ++ (wF4 g pa F))))) (ws2 := fun u_3 => (x, .inr (7, [.ref (ra 0), .ref (ga 0), .ref (da 0), .ref j, .ref ta, .int (iI (sg : Int)), .int (iI (bZ mk)), .int (iI cb), .long (lI lc), .ref (qa 0), .int (bI an), .ref (fa 0), .ref (pa 0), .ref ka, .int (iI (kc : Int)), .long (lI tm)])) :: ((wJ4 j J) ++ ((wRights g ga gr gn B Cn) ++ ((wRows g ra r1 r2 r3 n Vv U Dn) ++ ((wQc g qa A) ++ (wF4 g pa F)))))) 0 0 zC h hl.1 (c_X6_count l D g ra r1 r2 r3 n Vv U Dn) (cs7_94 zC ⟨(Nat.le_of_ble_eq_true rfl), (Nat.le_of_ble_eq_true rfl)⟩) (.tail _ (List.mem_append_right _ (List.mem_append_right _ (List.mem_append_left _ wRows_mem)))) rfl rfl rfl (Nat.le_of_ble_eq_true rfl) (pm fun cp_q => by simp only [cp_o, List.countP_append, List.countP_nil] <;> omega) (fun u => (pm fun cp_q => by simp only [cp_o, List.countP_append, List.countP_nil] <;> omega)) ⟨(Nat.le_of_ble_eq_true rfl), (Nat.le_of_ble_eq_true rfl)⟩ (Nat.le_of_ble_eq_true rfl) (Nat.le_of_ble_eq_true rfl) dX7_page_15 (fun u_3 H locs hu_3 hz_3 h => ?_)
      refine i_i2l zC (a := (n : Int)) dX7_page_18 (by omega) ?_
      refine l_cmp zC (a := mo) (b := (n : Int)) dX7_page_19 (by omega) (by omega) ?_
      refine i_zgt (a := lC mo (n : Int)) (tgt := 34) zC dX7_page_20 (by decide) (lC_R _ _) (fun c_4 => ?_) (fun c_4 => ?_)
      · have c_4 := lC_gt.mp c_4
        refine kc7_93 zC dX7_page_34 ?_
        exact r_iret zC zQ zr zk h dX7_page_36 (u := (-1000002, J, F)) rfl (List.Perm.refl _) (by unfold pageP; rw [if_pos (by omega)]) (Nat.le_of_ble_eq_true rfl) (Nat.le_of_ble_eq_true rfl)
      · have c_4 := lC_le.mp c_4
        refine lv_iload zx zb dX7_page_23 (lv_at hl 3 rfl) ?_
        refine i_i2l zC (a := i) dX7_page_25 (by omega) ?_
        refine lv_bipush (v := iI (10)) zx zb dX7_page_26 rfl ?_
        refine r_invS (As := [.long (lI i), .int (iI 10)]) (rest := []) (wr := (x, .inr (7, [.ref (ra 0), .ref (ga 0), .ref (da 0), .ref j, .ref ta, .int (iI (sg : Int)), .int (iI (bZ mk)), .int (iI cb), .long (lI lc), .ref (qa 0), .int (bI an), .ref (fa 0), .ref (pa 0), .ref ka, .int (iI (kc : Int)), .long (lI tm)])) :: ((wJ4 j J) ++ ((wRights g ga gr gn B Cn) ++ ((wRows g ra r1 r2 r3 n Vv U Dn) ++ ((wQc g qa A) ++ (wF4 g pa F)))))) (ws2 := fun u_5 => (x, .inr (7, [.ref (ra 0), .ref (ga 0), .ref (da 0), .ref j, .ref ta, .int (iI (sg : Int)), .int (iI (bZ mk)), .int (iI cb), .long (lI lc), .ref (qa 0), .int (bI an), .ref (fa 0), .ref (pa 0), .ref ka, .int (iI (kc : Int)), .long (lI tm)])) :: ((wJ4 j J) ++ ((wRights g ga gr gn B Cn) ++ ((wRows g ra r1 r2 r3 n Vv U Dn) ++ ((wQc g qa A) ++ (wF4 g pa F)))))) 0 0 zC h hl.1 (c_X7_isBelow l D g i 10 (by omega) (by decide)) (cs7_89 zC ⟨(Nat.le_of_ble_eq_true rfl), (Nat.le_of_ble_eq_true rfl)⟩) rfl rfl (Nat.le_of_ble_eq_true rfl) (List.Perm.refl _) (fun u => List.Perm.refl _) ⟨(Nat.le_of_ble_eq_true rfl), (Nat.le_of_ble_eq_true rfl)⟩ (Nat.le_of_ble_eq_true rfl) (Nat.le_of_ble_eq_true rfl) dX7_page_28 (fun u_5 H locs hu_5 hz_5 h => ?_)
        refine b_zne (b := decide (0 ≤ i ∧ i < 10)) (tgt := 37) zC dX7_page_31 (by decide) (fun c_6 => ?_) (fun c_6 => ?_)
        · skip
          simp only [decide_eq_true_eq, decide_eq_false_iff_not] at c_6
          refine lv_aload_n zx zb dX7_page_37 rfl (lv_at hl 0 rfl) ?_
          refine gf7_63 (v := .int (bI an)) zC h 0 rfl rfl dX7_page_38 ?_
          refine b_zne (b := an) (tgt := 46) zC dX7_page_41 (by decide) (fun c_7 => ?_) (fun c_7 => ?_)
          · skip
            have h_an : an = true := c_7
            have hle := runQ_le B Vv U Dn A mo n F
            refine lv_aload_n zx zb dX7_page_46 rfl (lv_at hl 0 rfl) ?_
            refine lv_aload_n zx zb dX7_page_47 rfl (lv_at hl 0 rfl) ?_
            refine gf7_59 (v := .ref (qa 0)) zC h 0 rfl rfl dX7_page_48 ?_
            refine lv_lload_n zx zb dX7_page_51 rfl (lv_at hl 2 rfl) ?_
            refine l_l2i zC (a := mo) dX7_page_52 ?_
            refine lv_aload_n zx zb dX7_page_53 rfl (lv_at hl 0 rfl) ?_
            refine gf7_74 (v := .ref (pa 0)) zC h 0 rfl rfl dX7_page_54 ?_
            refine r_invV (As := [.ref (qa 0), .int (iI mo), .ref (pa 0)]) (rest := []) (wr := []) (ws2 := fun u_8 => (x, .inr (7, [.ref (ra 0), .ref (ga 0), .ref (da 0), .ref j, .ref ta, .int (iI (sg : Int)), .int (iI (bZ mk)), .int (iI cb), .long (lI lc), .ref (qa 0), .int (bI an), .ref (fa 0), .ref (pa 0), .ref ka, .int (iI (kc : Int)), .long (lI tm)])) :: ((wJ4 j u_8) ++ ((wRights g ga gr gn B Cn) ++ ((wRows g ra r1 r2 r3 n Vv U Dn) ++ ((wQc g qa A) ++ (wF4 g pa (runQ B Vv U Dn A mo n F))))))) 0 0 zC h hl.1 (c_X7_searchA l D g x j ta ka ra ga da qa fa pa sg kc mk cb lc tm an J.1 J.2.1 J.2.2.1 J.2.2.2 gr gn B Cn r1 r2 r3 n Vv U Dn qa A pa F mo (by omega) hn hv ho hA) (cs7_117 zC ⟨(Nat.le_of_ble_eq_true rfl), (Nat.le_of_ble_eq_true rfl)⟩) (.head _) rfl rfl rfl (Nat.le_of_ble_eq_true rfl) (pm fun cp_q => by simp only [cp_o, List.countP_append, List.countP_nil, wX, wJ4, wF4] <;> omega) (fun u => (pm fun cp_q => by simp only [cp_o, List.countP_append, List.countP_nil, wX, wJ4, wF4] <;> omega)) ⟨(Nat.le_of_ble_eq_true rfl), (Nat.le_of_ble_eq_true rfl)⟩ (Nat.le_of_ble_eq_true rfl) (Nat.le_of_ble_eq_true rfl) dX7_page_57 (fun u_8 H locs hu_8 hz_8 h => ?_)
            refine lv_iload_n zx zb dX7_page_60 rfl (lv_at hl 1 rfl) ?_
            refine i_i2l zC (a := nn) dX7_page_61 (by omega) ?_
            refine kl7_145 zC dX7_page_62 ?_
            refine l_mul zC (a := nn) (b := 10) dX7_page_65 ?_
            refine lv_iload zx zb dX7_page_66 (lv_at hl 3 rfl) ?_
            refine i_i2l zC (a := i) dX7_page_68 (by omega) ?_
            refine l_add zC (a := nn * 10) (b := i) dX7_page_69 ?_
            refine lv_lstore (lv' := [(5, .long (lI (nn * 10 + i))), (0, .ref x), (1, .int (iI nn)), (2, .long (lI mo)), (4, .int (iI i))]) zx zb dX7_page_70 hl (by decide) rfl (fun ls hl => ?_)
            refine lv_lload zx zb dX7_page_72 (lv_at hl 0 rfl) ?_
            refine lv_aload_n zx zb dX7_page_74 rfl (lv_at hl 1 rfl) ?_
            refine gf7_74 (v := .ref (pa 0)) zC h 0 rfl rfl dX7_page_75 ?_
            refine r_invV (As := []) (rest := [.long (lI (nn * 10 + i))]) (wr := (x, .inr (7, [.ref (ra 0), .ref (ga 0), .ref (da 0), .ref j, .ref ta, .int (iI (sg : Int)), .int (iI (bZ mk)), .int (iI cb), .long (lI lc), .ref (qa 0), .int (bI an), .ref (fa 0), .ref (pa 0), .ref ka, .int (iI (kc : Int)), .long (lI tm)])) :: ((wJ4 j u_8) ++ ((wRights g ga gr gn B Cn) ++ ((wRows g ra r1 r2 r3 n Vv U Dn) ++ (wQc g qa A))))) (ws2 := fun u_9 => (x, .inr (7, [.ref (ra 0), .ref (ga 0), .ref (da 0), .ref j, .ref ta, .int (iI (sg : Int)), .int (iI (bZ mk)), .int (iI cb), .long (lI lc), .ref (qa 0), .int (bI an), .ref (fa 0), .ref (pa 0), .ref ka, .int (iI (kc : Int)), .long (lI tm)])) :: ((wJ4 j u_8) ++ ((wRights g ga gr gn B Cn) ++ ((wRows g ra r1 r2 r3 n Vv U Dn) ++ ((wQc g qa A) ++ (wF4 g pa (runQ B Vv U Dn A mo n F))))))) 0 0 zC h hl.1 (c_X0_count l D g pa (runQ B Vv U Dn A mo n F).1 (runQ B Vv U Dn A mo n F).2.1 (runQ B Vv U Dn A mo n F).2.2) (cs7_125 zC ⟨(Nat.le_of_ble_eq_true rfl), (Nat.le_of_ble_eq_true rfl)⟩) (.tail _ (List.mem_append_right _ (List.mem_append_right _ (List.mem_append_right _ (List.mem_append_right _ wF4_mem))))) rfl rfl rfl (Nat.le_of_ble_eq_true rfl) (pm fun cp_q => by simp only [cp_o, List.countP_append, List.countP_nil, wF4] <;> omega) (fun u => (pm fun cp_q => by simp only [cp_o, List.countP_append, List.countP_nil, wF4] <;> omega)) ⟨(Nat.le_of_ble_eq_true rfl), (Nat.le_of_ble_eq_true rfl)⟩ (Nat.le_of_ble_eq_true rfl) (Nat.le_of_ble_eq_true rfl) dX7_page_78 (fun u_9 H locs hu_9 hz_9 h => ?_)
            refine i_i2l zC (a := ((runQ B Vv U Dn A mo n F).2.2 : Int)) dX7_page_81 (by omega) ?_
            refine l_cmp zC (a := nn * 10 + i) (b := ((runQ B Vv U Dn A mo n F).2.2 : Int)) dX7_page_82 (by omega) (by omega) ?_
            refine i_zge (a := lC (nn * 10 + i) ((runQ B Vv U Dn A mo n F).2.2 : Int)) (tgt := 99) zC dX7_page_83 (by decide) (lC_R _ _) (fun c_10 => ?_) (fun c_10 => ?_)
            · have c_10 := lC_ge.mp c_10
              refine lv_iconst (v := iI (-1)) zx zb dX7_page_99 rfl ?_
              exact r_iret zC zQ zr zk h dX7_page_100 (u := (-1, u_8, (runQ B Vv U Dn A mo n F))) rfl (List.Perm.refl _) (by unfold pageP; rw [if_neg (by omega), if_neg (by simp [h_an]), if_neg (by rw [← (runQ_0 B Vv U Dn A mo n F).1]; omega)]) (Nat.le_of_ble_eq_true rfl) (Nat.le_of_ble_eq_true rfl)
            · have c_10 := lC_lt.mp c_10
              refine lv_aload_n zx zb dX7_page_86 rfl (lv_at hl 1 rfl) ?_
              refine gf7_74 (v := .ref (pa 0)) zC h 0 rfl rfl dX7_page_87 ?_
              refine lv_lload zx zb dX7_page_90 (lv_at hl 0 rfl) ?_
              refine l_l2i zC (a := nn * 10 + i) dX7_page_92 ?_
              rw [show (nn * 10 + i : Int) = ((nn * 10 + i).toNat : Int) from by omega]
              refine r_invV (As := [.int (iI ((nn * 10 + i).toNat : Int))]) (rest := []) (wr := (x, .inr (7, [.ref (ra 0), .ref (ga 0), .ref (da 0), .ref j, .ref ta, .int (iI (sg : Int)), .int (iI (bZ mk)), .int (iI cb), .long (lI lc), .ref (qa 0), .int (bI an), .ref (fa 0), .ref (pa 0), .ref ka, .int (iI (kc : Int)), .long (lI tm)])) :: ((wJ4 j u_8) ++ ((wRights g ga gr gn B Cn) ++ ((wRows g ra r1 r2 r3 n Vv U Dn) ++ (wQc g qa A))))) (ws2 := fun u_11 => (x, .inr (7, [.ref (ra 0), .ref (ga 0), .ref (da 0), .ref j, .ref ta, .int (iI (sg : Int)), .int (iI (bZ mk)), .int (iI cb), .long (lI lc), .ref (qa 0), .int (bI an), .ref (fa 0), .ref (pa 0), .ref ka, .int (iI (kc : Int)), .long (lI tm)])) :: ((wJ4 j u_8) ++ ((wRights g ga gr gn B Cn) ++ ((wRows g ra r1 r2 r3 n Vv U Dn) ++ ((wQc g qa A) ++ (wF4 g pa (runQ B Vv U Dn A mo n F))))))) 0 0 zC h hl.1 (c_X0_first l D g pa (runQ B Vv U Dn A mo n F).1 (runQ B Vv U Dn A mo n F).2.1 (runQ B Vv U Dn A mo n F).2.2 (nn * 10 + i).toNat (by omega)) (cs7_128 zC ⟨(Nat.le_of_ble_eq_true rfl), (Nat.le_of_ble_eq_true rfl)⟩) (.tail _ (List.mem_append_right _ (List.mem_append_right _ (List.mem_append_right _ (List.mem_append_right _ wF4_mem))))) rfl rfl rfl (Nat.le_of_ble_eq_true rfl) (pm fun cp_q => by simp only [cp_o, List.countP_append, List.countP_nil, wF4] <;> omega) (fun u => (pm fun cp_q => by simp only [cp_o, List.countP_append, List.countP_nil, wF4] <;> omega)) ⟨(Nat.le_of_ble_eq_true rfl), (Nat.le_of_ble_eq_true rfl)⟩ (Nat.le_of_ble_eq_true rfl) (Nat.le_of_ble_eq_true rfl) dX7_page_93 (fun u_11 H locs hu_11 hz_11 h => ?_)
              refine lv_goto (tgt := 100) zx zb dX7_page_96 (by decide) ?_
              exact r_iret zC zQ zr zk h dX7_page_100 (u := ((runQ B Vv U Dn A mo n F).1 (nn * 10 + i).toNat, u_8, (runQ B Vv U Dn A mo n F))) rfl (List.Perm.refl _) (by unfold pageP; rw [if_neg (by omega), if_neg (by simp [h_an]), if_pos (by rw [← (runQ_0 B Vv U Dn A mo n F).1]; omega)]; exact ((runQ_0 B Vv U Dn A mo n F).2 _ (by omega)).1) (Nat.le_of_ble_eq_true rfl) (Nat.le_of_ble_eq_true rfl)
          · skip
            have h_an : an = false := c_7
            refine lv_iconst (v := iI (-1)) zx zb dX7_page_44 rfl ?_
            exact r_iret zC zQ zr zk h dX7_page_45 (u := (-1, J, F)) rfl (List.Perm.refl _) (by unfold pageP; rw [if_neg (by omega), if_pos c_7]) (Nat.le_of_ble_eq_true rfl) (Nat.le_of_ble_eq_true rfl)
        · skip
          simp only [decide_eq_true_eq, decide_eq_false_iff_not] at c_6
          refine kc7_93 zC dX7_page_34 ?_
          exact r_iret zC zQ zr zk h dX7_page_36 (u := (-1000002, J, F)) rfl (List.Perm.refl _) (by unfold pageP; rw [if_pos (by omega)]) (Nat.le_of_ble_eq_true rfl) (Nat.le_of_ble_eq_true rfl)

set_option maxHeartbeats 4000000 in
set_option maxRecDepth 100000 in
theorem c_X7_countFound (l : Launch) (D : va_G) (g : Nat → ClassId) (x j ta ka : Nat) (ra ga da qa fa pa : Nat → Nat) (sg kc : Nat) (mk : Nat → Bool) (cb lc tm : Int) (an : Bool) (gr : Nat → Nat) (gn : Nat) (B : Nat → Nat → Nat → Bool) (Cn : Nat → Int) (r1 r2 r3 : Nat → Nat) (n : Nat) (Vv U Dn : Nat → Nat → Int) (q : Nat → Nat) (A : QC) (J : JS4) (F : FS) (hcb : 0 ≤ cb ∧ cb ≤ 1000000) (hn : n ≤ 300) (hv : vOK n Vv) (ho : oOK n U Dn) (hA : qOK A) : Ct (S := Int × JS4 × FS) l D g yX7_countFound cX7_countFound 2 (some .int) rmX7_countFound [.ref x, .ref (q 0)] (wX x j ta ka ra ga da qa fa pa sg kc mk cb lc tm an ++ (wJ4 j J ++ (wRights g ga gr gn B Cn ++ (wRows g ra r1 r2 r3 n Vv U Dn ++ (wQc g q A ++ wF4 g pa F))))) (fun u => some (.int (iI u.1))) (fun u => u.1 = cntM mk cb B Vv U Dn n A) (fun u => wX x j ta ka ra ga da qa fa pa sg kc mk cb lc tm an ++ (wJ4 j u.2.1 ++ (wRights g ga gr gn B Cn ++ (wRows g ra r1 r2 r3 n Vv U Dn ++ (wQc g q A ++ wF4 g pa u.2.2))))) := by
  refine Ct.of RX7 rfl (by decide +kernel) [(0, .ref x), (1, .ref (q 0))] rfl (Nat.le_of_ble_eq_true rfl) ?_
  intro pg evn sT mI bl mtd cd aA ls ar qQ zC zr zk zi zQ h hl
  have zx := zC.1
  have zb := zC.2.1
  have h : Hx D g sT aA sT.heap ((x, .inr (7, [.ref (ra 0), .ref (ga 0), .ref (da 0), .ref j, .ref ta, .int (iI (sg : Int)), .int (iI (bZ mk)), .int (iI cb), .long (lI lc), .ref (qa 0), .int (bI an), .ref (fa 0), .ref (pa 0), .ref ka, .int (iI (kc : Int)), .long (lI tm)])) :: ((wJ4 j J) ++ ((wRights g ga gr gn B Cn) ++ ((wRows g ra r1 r2 r3 n Vv U Dn) ++ ((wQc g q A) ++ (wF4 g pa F)))))) sT.heap [] := h
  have htc := hA.2.2.2.1
  have hmul : 0 ≤ ((A.tc : Int) + 1) * (n : Int) ∧ ((A.tc : Int) + 1) * (n : Int) ≤ 201 * 300 := ⟨Int.mul_nonneg (by omega) (by omega), Int.mul_le_mul (by omega) (by omega) (by omega) (by omega)⟩
  skip
  refine lv_aload_n zx zb dX7_countFound_0 rfl (lv_at hl 1 rfl) ?_
  refine r_invV (As := []) (rest := []) (wr := (x, .inr (7, [.ref (ra 0), .ref (ga 0), .ref (da 0), .ref j, .ref ta, .int (iI (sg : Int)), .int (iI (bZ mk)), .int (iI cb), .long (lI lc), .ref (qa 0), .int (bI an), .ref (fa 0), .ref (pa 0), .ref ka, .int (iI (kc : Int)), .long (lI tm)])) :: ((wJ4 j J) ++ ((wRights g ga gr gn B Cn) ++ ((wRows g ra r1 r2 r3 n Vv U Dn) ++ (wF4 g pa F))))) (ws2 := fun u_1 => (x, .inr (7, [.ref (ra 0), .ref (ga 0), .ref (da 0), .ref j, .ref ta, .int (iI (sg : Int)), .int (iI (bZ mk)), .int (iI cb), .long (lI lc), .ref (qa 0), .int (bI an), .ref (fa 0), .ref (pa 0), .ref ka, .int (iI (kc : Int)), .long (lI tm)])) :: ((wJ4 j J) ++ ((wRights g ga gr gn B Cn) ++ ((wRows g ra r1 r2 r3 n Vv U Dn) ++ ((wQc g q A) ++ (wF4 g pa F)))))) 0 0 zC h hl.1 (c_X3_fields l D g q A.ST A.TF A.TR A.TN A.sc A.tc A.fl A.tl A.tf A.aw) (cs7_226 zC ⟨(Nat.le_of_ble_eq_true rfl), (Nat.le_of_ble_eq_true rfl)⟩) (.tail _ (List.mem_append_right _ (List.mem_append_right _ (List.mem_append_right _ (List.mem_append_left _ wQc_mem))))) rfl rfl rfl (Nat.le_of_ble_eq_true rfl) (pm fun cp_q => by simp only [cp_o, List.countP_append, List.countP_nil, wQc] <;> omega) (fun u => (pm fun cp_q => by simp only [cp_o, List.countP_append, List.countP_nil, wQc] <;> omega)) ⟨(Nat.le_of_ble_eq_true rfl), (Nat.le_of_ble_eq_true rfl)⟩ (Nat.le_of_ble_eq_true rfl) (Nat.le_of_ble_eq_true rfl) dX7_countFound_1 (fun u_1 H locs hu_1 hz_1 h => ?_)
  refine lv_aload_n zx zb dX7_countFound_4 rfl (lv_at hl 0 rfl) ?_
  refine gf7_45 (v := .int (iI (bZ mk))) zC h 0 rfl rfl dX7_countFound_5 ?_
  refine lv_iand zx zb dX7_countFound_8 ?_
  rw [bZ_and A.fl mk]
  refine i_zne (a := bZ fun i => A.fl i && mk i) (tgt := 26) zC dX7_countFound_9 (by decide) (bZ_R _) (fun c_2 => ?_) (fun c_2 => ?_)
  · skip
    refine lv_iconst (v := iI (-1)) zx zb dX7_countFound_26 rfl ?_
    exact r_iret zC zQ zr zk h dX7_countFound_27 (u := (-1, J, F)) rfl (List.Perm.refl _) (by unfold cntM; rw [if_pos (Or.inl c_2)]) (Nat.le_of_ble_eq_true rfl) (Nat.le_of_ble_eq_true rfl)
  · skip
    refine lv_aload_n zx zb dX7_countFound_12 rfl (lv_at hl 0 rfl) ?_
    refine lv_aload_n zx zb dX7_countFound_13 rfl (lv_at hl 1 rfl) ?_
    refine r_invV (As := [.ref (q 0)]) (rest := []) (wr := ((wJ4 j J) ++ ((wRights g ga gr gn B Cn) ++ (wF4 g pa F)))) (ws2 := fun u_3 => (x, .inr (7, [.ref (ra 0), .ref (ga 0), .ref (da 0), .ref j, .ref ta, .int (iI (sg : Int)), .int (iI (bZ mk)), .int (iI cb), .long (lI lc), .ref (qa 0), .int (bI an), .ref (fa 0), .ref (pa 0), .ref ka, .int (iI (kc : Int)), .long (lI tm)])) :: ((wJ4 j J) ++ ((wRights g ga gr gn B Cn) ++ ((wRows g ra r1 r2 r3 n Vv U Dn) ++ ((wQc g q A) ++ (wF4 g pa F)))))) 0 0 zC h hl.1 (c_X7_costOfA l D g x j ta ka ra ga da qa fa pa sg kc mk cb lc tm an r1 r2 r3 n Vv U Dn q A hn htc) (cs7_112 zC ⟨(Nat.le_of_ble_eq_true rfl), (Nat.le_of_ble_eq_true rfl)⟩) (.head _) rfl rfl rfl (Nat.le_of_ble_eq_true rfl) (pm fun cp_q => by simp only [cp_o, List.countP_append, List.countP_nil, wX] <;> omega) (fun u => (pm fun cp_q => by simp only [cp_o, List.countP_append, List.countP_nil, wX] <;> omega)) ⟨(Nat.le_of_ble_eq_true rfl), (Nat.le_of_ble_eq_true rfl)⟩ (Nat.le_of_ble_eq_true rfl) (Nat.le_of_ble_eq_true rfl) dX7_countFound_14 (fun u_3 H locs hu_3 hz_3 h => ?_)
    refine lv_aload_n zx zb dX7_countFound_17 rfl (lv_at hl 0 rfl) ?_
    refine gf7_49 (v := .int (iI cb)) zC h 0 rfl rfl dX7_countFound_18 ?_
    refine i_i2l zC (a := cb) dX7_countFound_21 (by omega) ?_
    refine l_cmp zC (a := ((A.tc : Int) + 1) * (n : Int)) (b := cb) dX7_countFound_22 (by omega) (by omega) ?_
    refine i_zle (a := lC (((A.tc : Int) + 1) * (n : Int)) cb) (tgt := 28) zC dX7_countFound_23 (by decide) (lC_R _ _) (fun c_4 => ?_) (fun c_4 => ?_)
    · have c_4 := lC_le.mp c_4
      refine lv_aload_n zx zb dX7_countFound_28 rfl (lv_at hl 0 rfl) ?_
      refine lv_aload_n zx zb dX7_countFound_29 rfl (lv_at hl 1 rfl) ?_
      refine lv_aload_n zx zb dX7_countFound_30 rfl (lv_at hl 0 rfl) ?_
      refine gf7_10 (v := .ref (ra 0)) zC h 0 rfl rfl dX7_countFound_31 ?_
      refine r_invV (As := []) (rest := [.ref (q 0), .ref x]) (wr := (x, .inr (7, [.ref (ra 0), .ref (ga 0), .ref (da 0), .ref j, .ref ta, .int (iI (sg : Int)), .int (iI (bZ mk)), .int (iI cb), .long (lI lc), .ref (qa 0), .int (bI an), .ref (fa 0), .ref (pa 0), .ref ka, .int (iI (kc : Int)), .long (lI tm)])) :: ((wJ4 j J) ++ ((wRights g ga gr gn B Cn) ++ ((wQc g q A) ++ (wF4 g pa F))))) (ws2 := fun u_5 => (x, .inr (7, [.ref (ra 0), .ref (ga 0), .ref (da 0), .ref j, .ref ta, .int (iI (sg : Int)), .int (iI (bZ mk)), .int (iI cb), .long (lI lc), .ref (qa 0), .int (bI an), .ref (fa 0), .ref (pa 0), .ref ka, .int (iI (kc : Int)), .long (lI tm)])) :: ((wJ4 j J) ++ ((wRights g ga gr gn B Cn) ++ ((wRows g ra r1 r2 r3 n Vv U Dn) ++ ((wQc g q A) ++ (wF4 g pa F)))))) 0 0 zC h hl.1 (c_X6_count l D g ra r1 r2 r3 n Vv U Dn) (cs7_94 zC ⟨(Nat.le_of_ble_eq_true rfl), (Nat.le_of_ble_eq_true rfl)⟩) (.tail _ (List.mem_append_right _ (List.mem_append_right _ (List.mem_append_left _ wRows_mem)))) rfl rfl rfl (Nat.le_of_ble_eq_true rfl) (pm fun cp_q => by simp only [cp_o, List.countP_append, List.countP_nil] <;> omega) (fun u => (pm fun cp_q => by simp only [cp_o, List.countP_append, List.countP_nil] <;> omega)) ⟨(Nat.le_of_ble_eq_true rfl), (Nat.le_of_ble_eq_true rfl)⟩ (Nat.le_of_ble_eq_true rfl) (Nat.le_of_ble_eq_true rfl) dX7_countFound_34 (fun u_5 H locs hu_5 hz_5 h => ?_)
      refine lv_aload_n zx zb dX7_countFound_37 rfl (lv_at hl 0 rfl) ?_
      refine gf7_74 (v := .ref (pa 0)) zC h 0 rfl rfl dX7_countFound_38 ?_
      refine r_invV (As := [.ref (q 0), .int (iI (n : Int)), .ref (pa 0)]) (rest := []) (wr := []) (ws2 := fun u_6 => (x, .inr (7, [.ref (ra 0), .ref (ga 0), .ref (da 0), .ref j, .ref ta, .int (iI (sg : Int)), .int (iI (bZ mk)), .int (iI cb), .long (lI lc), .ref (qa 0), .int (bI an), .ref (fa 0), .ref (pa 0), .ref ka, .int (iI (kc : Int)), .long (lI tm)])) :: ((wJ4 j u_6) ++ ((wRights g ga gr gn B Cn) ++ ((wRows g ra r1 r2 r3 n Vv U Dn) ++ ((wQc g q A) ++ (wF4 g pa (runQ B Vv U Dn A (n : Int) n F))))))) 0 0 zC h hl.1 (c_X7_searchA l D g x j ta ka ra ga da qa fa pa sg kc mk cb lc tm an J.1 J.2.1 J.2.2.1 J.2.2.2 gr gn B Cn r1 r2 r3 n Vv U Dn q A pa F (n : Int) (by omega) hn hv ho hA) (cs7_117 zC ⟨(Nat.le_of_ble_eq_true rfl), (Nat.le_of_ble_eq_true rfl)⟩) (.head _) rfl rfl rfl (Nat.le_of_ble_eq_true rfl) (pm fun cp_q => by simp only [cp_o, List.countP_append, List.countP_nil, wX, wJ4, wF4] <;> omega) (fun u => (pm fun cp_q => by simp only [cp_o, List.countP_append, List.countP_nil, wX, wJ4, wF4] <;> omega)) ⟨(Nat.le_of_ble_eq_true rfl), (Nat.le_of_ble_eq_true rfl)⟩ (Nat.le_of_ble_eq_true rfl) (Nat.le_of_ble_eq_true rfl) dX7_countFound_41 (fun u_6 H locs hu_6 hz_6 h => ?_)
      refine lv_aload_n zx zb dX7_countFound_44 rfl (lv_at hl 0 rfl) ?_
      refine gf7_74 (v := .ref (pa 0)) zC h 0 rfl rfl dX7_countFound_45 ?_
      refine r_invV (As := []) (rest := []) (wr := (x, .inr (7, [.ref (ra 0), .ref (ga 0), .ref (da 0), .ref j, .ref ta, .int (iI (sg : Int)), .int (iI (bZ mk)), .int (iI cb), .long (lI lc), .ref (qa 0), .int (bI an), .ref (fa 0), .ref (pa 0), .ref ka, .int (iI (kc : Int)), .long (lI tm)])) :: ((wJ4 j u_6) ++ ((wRights g ga gr gn B Cn) ++ ((wRows g ra r1 r2 r3 n Vv U Dn) ++ (wQc g q A))))) (ws2 := fun u_7 => (x, .inr (7, [.ref (ra 0), .ref (ga 0), .ref (da 0), .ref j, .ref ta, .int (iI (sg : Int)), .int (iI (bZ mk)), .int (iI cb), .long (lI lc), .ref (qa 0), .int (bI an), .ref (fa 0), .ref (pa 0), .ref ka, .int (iI (kc : Int)), .long (lI tm)])) :: ((wJ4 j u_6) ++ ((wRights g ga gr gn B Cn) ++ ((wRows g ra r1 r2 r3 n Vv U Dn) ++ ((wQc g q A) ++ (wF4 g pa (runQ B Vv U Dn A (n : Int) n F))))))) 0 0 zC h hl.1 (c_X0_count l D g pa (runQ B Vv U Dn A (n : Int) n F).1 (runQ B Vv U Dn A (n : Int) n F).2.1 (runQ B Vv U Dn A (n : Int) n F).2.2) (cs7_125 zC ⟨(Nat.le_of_ble_eq_true rfl), (Nat.le_of_ble_eq_true rfl)⟩) (.tail _ (List.mem_append_right _ (List.mem_append_right _ (List.mem_append_right _ (List.mem_append_right _ wF4_mem))))) rfl rfl rfl (Nat.le_of_ble_eq_true rfl) (pm fun cp_q => by simp only [cp_o, List.countP_append, List.countP_nil, wF4] <;> omega) (fun u => (pm fun cp_q => by simp only [cp_o, List.countP_append, List.countP_nil, wF4] <;> omega)) ⟨(Nat.le_of_ble_eq_true rfl), (Nat.le_of_ble_eq_true rfl)⟩ (Nat.le_of_ble_eq_true rfl) (Nat.le_of_ble_eq_true rfl) dX7_countFound_48 (fun u_7 H locs hu_7 hz_7 h => ?_)
      exact r_iret zC zQ zr zk h dX7_countFound_51 (u := (((runQ B Vv U Dn A (n : Int) n F).2.2 : Int), u_6, (runQ B Vv U Dn A (n : Int) n F))) rfl (List.Perm.refl _) (by unfold cntM; rw [if_neg (fun q => by rcases q with q | q; (· exact q c_2); (· omega)), (runQ_0 B Vv U Dn A (n : Int) n F).1]) (Nat.le_of_ble_eq_true rfl) (Nat.le_of_ble_eq_true rfl)
    · have c_4 := lC_gt.mp c_4
      refine lv_iconst (v := iI (-1)) zx zb dX7_countFound_26 rfl ?_
      exact r_iret zC zQ zr zk h dX7_countFound_27 (u := (-1, J, F)) rfl (List.Perm.refl _) (by unfold cntM; rw [if_pos (Or.inr (by omega))]) (Nat.le_of_ble_eq_true rfl) (Nat.le_of_ble_eq_true rfl)

theorem wKept_mem {k q : Nat} {ev nx lc : Int} : (k, .inr (2, [.ref q, .long (lI ev), .long (lI nx), .int (iI lc)])) ∈ wKept k q ev nx lc := .head _
theorem passU_R {ev nx t : Int} (he : 1 ≤ ev) (ht : t - nx ≤ 100000) : 0 ≤ (passU ev nx t).1 ∧ (passU ev nx t).1 ≤ 100001 := by
  unfold passU
  split
  · show (0 : Int) ≤ 0 ∧ (0 : Int) ≤ 100001
    omega
  · next h =>
    have h1 : 0 ≤ (t - nx) / ev := Int.ediv_nonneg (by omega) (by omega)
    have h2 : (t - nx) / ev ≤ t - nx := Int.ediv_le_self _ (by omega)
    constructor
    · show 0 ≤ (t - nx) / ev + 1; omega
    · show (t - nx) / ev + 1 ≤ 100001; omega

set_option maxHeartbeats 4000000 in
set_option maxRecDepth 100000 in
theorem c_X7_askKept (l : Launch) (D : va_G) (g : Nat → ClassId) (x j ta ka : Nat) (ra ga da qa fa pa : Nat → Nat) (sg kc : Nat) (mk : Nat → Bool) (cb lc tm : Int) (an : Bool) (gr : Nat → Nat) (gn : Nat) (B : Nat → Nat → Nat → Bool) (Cn : Nat → Int) (r1 r2 r3 : Nat → Nat) (n : Nat) (Vv U Dn : Nat → Nat → Int) (k : Nat) (q : Nat → Nat) (A : QC) (ev nx lk : Int) (J : JS4) (F : FS) (hcb : 0 ≤ cb ∧ cb ≤ 1000000) (he : 1 ≤ ev ∧ ev ≤ 1000) (hx : 0 ≤ nx ∧ nx < 1000000000) (htm : 0 ≤ tm ∧ tm < 1000000000) (hxt : tm - nx ≤ 100000) (hn : n ≤ 300) (hv : vOK n Vv) (ho : oOK n U Dn) (hA : qOK A) : Ct (S := (Int × KD) × JS4 × FS) l D g yX7_askKept cX7_askKept 3 (some .int) rmX7_askKept [.ref x, .ref k] (wX x j ta ka ra ga da qa fa pa sg kc mk cb lc tm an ++ (wJ4 j J ++ (wRights g ga gr gn B Cn ++ (wRows g ra r1 r2 r3 n Vv U Dn ++ (wKept k (q 0) ev nx lk ++ (wQc g q A ++ wF4 g pa F)))))) (fun u => some (.int (iI u.1.1))) (fun u => u.1 = kUp mk cb B Vv U Dn n tm (A, ev, nx, lk)) (fun u => wX x j ta ka ra ga da qa fa pa sg kc mk cb lc tm an ++ (wJ4 j u.2.1 ++ (wRights g ga gr gn B Cn ++ (wRows g ra r1 r2 r3 n Vv U Dn ++ (wKept k (q 0) ev u.1.2.2.2.1 u.1.2.2.2.2 ++ (wQc g q A ++ wF4 g pa u.2.2)))))) := by
  refine Ct.of RX7 rfl (by decide +kernel) [(0, .ref x), (1, .ref k)] rfl (Nat.le_of_ble_eq_true rfl) ?_
  intro pg evn sT mI bl mtd cd aA ls ar qQ zC zr zk zi zQ h hl
  have zx := zC.1
  have zb := zC.2.1
  have h : Hx D g sT aA sT.heap ((x, .inr (7, [.ref (ra 0), .ref (ga 0), .ref (da 0), .ref j, .ref ta, .int (iI (sg : Int)), .int (iI (bZ mk)), .int (iI cb), .long (lI lc), .ref (qa 0), .int (bI an), .ref (fa 0), .ref (pa 0), .ref ka, .int (iI (kc : Int)), .long (lI tm)])) :: ((wJ4 j J) ++ ((wRights g ga gr gn B Cn) ++ ((wRows g ra r1 r2 r3 n Vv U Dn) ++ ((wKept k (q 0) ev nx lk) ++ ((wQc g q A) ++ (wF4 g pa F))))))) sT.heap [] := h
  skip
  refine lv_aload_n zx zb dX7_askKept_0 rfl (lv_at hl 1 rfl) ?_
  refine lv_ifnonnull (tgt := 6) zx zb dX7_askKept_1 (by decide) ?_
  refine lv_aload_n zx zb dX7_askKept_6 rfl (lv_at hl 1 rfl) ?_
  refine lv_aload_n zx zb dX7_askKept_7 rfl (lv_at hl 0 rfl) ?_
  refine gf7_86 (v := .long (lI tm)) zC h 0 rfl rfl dX7_askKept_8 ?_
  refine r_invV (As := [.long (lI tm)]) (rest := []) (wr := (x, .inr (7, [.ref (ra 0), .ref (ga 0), .ref (da 0), .ref j, .ref ta, .int (iI (sg : Int)), .int (iI (bZ mk)), .int (iI cb), .long (lI lc), .ref (qa 0), .int (bI an), .ref (fa 0), .ref (pa 0), .ref ka, .int (iI (kc : Int)), .long (lI tm)])) :: ((wJ4 j J) ++ ((wRights g ga gr gn B Cn) ++ ((wRows g ra r1 r2 r3 n Vv U Dn) ++ ((wQc g q A) ++ (wF4 g pa F)))))) (ws2 := fun u_1 => (x, .inr (7, [.ref (ra 0), .ref (ga 0), .ref (da 0), .ref j, .ref ta, .int (iI (sg : Int)), .int (iI (bZ mk)), .int (iI cb), .long (lI lc), .ref (qa 0), .int (bI an), .ref (fa 0), .ref (pa 0), .ref ka, .int (iI (kc : Int)), .long (lI tm)])) :: ((wJ4 j J) ++ ((wRights g ga gr gn B Cn) ++ ((wRows g ra r1 r2 r3 n Vv U Dn) ++ ((wKept k (q 0) ev u_1.2 lk) ++ ((wQc g q A) ++ (wF4 g pa F))))))) 0 0 zC h hl.1 (c_X2_passTo l D g k (q 0) ev nx lk tm he hx htm) (cs7_212 zC ⟨(Nat.le_of_ble_eq_true rfl), (Nat.le_of_ble_eq_true rfl)⟩) (.tail _ (List.mem_append_right _ (List.mem_append_right _ (List.mem_append_right _ (List.mem_append_left _ wKept_mem))))) rfl rfl rfl (Nat.le_of_ble_eq_true rfl) (pm fun cp_q => by simp only [cp_o, List.countP_append, List.countP_nil] <;> omega) (fun u => (pm fun cp_q => by simp only [cp_o, List.countP_append, List.countP_nil] <;> omega)) ⟨(Nat.le_of_ble_eq_true rfl), (Nat.le_of_ble_eq_true rfl)⟩ (Nat.le_of_ble_eq_true rfl) (Nat.le_of_ble_eq_true rfl) dX7_askKept_11 (fun u_1 H locs hu_1 hz_1 h => ?_)
  have hpR := passU_R (nx := nx) (t := tm) he.1 hxt
  rw [← hu_1] at hpR
  refine lv_istore_n (lv' := [(2, .int (iI u_1.1)), (0, .ref x), (1, .ref k)]) zx zb dX7_askKept_14 rfl hl (by decide) rfl (fun ls hl => ?_)
  refine lv_iload_n zx zb dX7_askKept_15 rfl (lv_at hl 0 rfl) ?_
  refine i_zle (a := u_1.1) (tgt := 31) zC dX7_askKept_16 (by decide) (by omega) (fun c_2 => ?_) (fun c_2 => ?_)
  · skip
    refine lv_iload_n zx zb dX7_askKept_31 rfl (lv_at hl 0 rfl) ?_
    exact r_iret zC zQ zr zk h dX7_askKept_32 (u := (kUp mk cb B Vv U Dn n tm (A, ev, nx, lk), J, F)) (by rw [hu_1]; rfl) (List.Perm.of_eq (by have e1 : (kUp mk cb B Vv U Dn n tm (A, ev, nx, lk)).2.2.2.2 = lk := (by show (if (passU ev nx tm).1 ≤ 0 then lk else cntM mk cb B Vv U Dn n A) = _; rw [← hu_1, if_pos (by omega)]); have e2 : (kUp mk cb B Vv U Dn n tm (A, ev, nx, lk)).2.2.2.1 = u_1.2 := (by rw [hu_1]; rfl); show _ = wX x j ta ka ra ga da qa fa pa sg kc mk cb lc tm an ++ (wJ4 j J ++ (wRights g ga gr gn B Cn ++ (wRows g ra r1 r2 r3 n Vv U Dn ++ (wKept k (q 0) ev (kUp mk cb B Vv U Dn n tm (A, ev, nx, lk)).2.2.2.1 (kUp mk cb B Vv U Dn n tm (A, ev, nx, lk)).2.2.2.2 ++ (wQc g q A ++ wF4 g pa F))))); rw [e1, e2]; rfl)) rfl (Nat.le_of_ble_eq_true rfl) (Nat.le_of_ble_eq_true rfl)
  · skip
    refine lv_aload_n zx zb dX7_askKept_19 rfl (lv_at hl 2 rfl) ?_
    refine lv_aload_n zx zb dX7_askKept_20 rfl (lv_at hl 1 rfl) ?_
    refine lv_aload_n zx zb dX7_askKept_21 rfl (lv_at hl 2 rfl) ?_
    refine r_invV (As := []) (rest := [.ref x, .ref k]) (wr := (x, .inr (7, [.ref (ra 0), .ref (ga 0), .ref (da 0), .ref j, .ref ta, .int (iI (sg : Int)), .int (iI (bZ mk)), .int (iI cb), .long (lI lc), .ref (qa 0), .int (bI an), .ref (fa 0), .ref (pa 0), .ref ka, .int (iI (kc : Int)), .long (lI tm)])) :: ((wJ4 j J) ++ ((wRights g ga gr gn B Cn) ++ ((wRows g ra r1 r2 r3 n Vv U Dn) ++ ((wQc g q A) ++ (wF4 g pa F)))))) (ws2 := fun u_3 => (x, .inr (7, [.ref (ra 0), .ref (ga 0), .ref (da 0), .ref j, .ref ta, .int (iI (sg : Int)), .int (iI (bZ mk)), .int (iI cb), .long (lI lc), .ref (qa 0), .int (bI an), .ref (fa 0), .ref (pa 0), .ref ka, .int (iI (kc : Int)), .long (lI tm)])) :: ((wJ4 j J) ++ ((wRights g ga gr gn B Cn) ++ ((wRows g ra r1 r2 r3 n Vv U Dn) ++ ((wKept k (q 0) ev u_1.2 lk) ++ ((wQc g q A) ++ (wF4 g pa F))))))) 0 0 zC h hl.1 (c_X2_question l D g k (q 0) ev u_1.2 lk) (cs7_216 zC ⟨(Nat.le_of_ble_eq_true rfl), (Nat.le_of_ble_eq_true rfl)⟩) (.tail _ (List.mem_append_right _ (List.mem_append_right _ (List.mem_append_right _ (List.mem_append_left _ wKept_mem))))) rfl rfl rfl (Nat.le_of_ble_eq_true rfl) (pm fun cp_q => by simp only [cp_o, List.countP_append, List.countP_nil] <;> omega) (fun u => (pm fun cp_q => by simp only [cp_o, List.countP_append, List.countP_nil] <;> omega)) ⟨(Nat.le_of_ble_eq_true rfl), (Nat.le_of_ble_eq_true rfl)⟩ (Nat.le_of_ble_eq_true rfl) (Nat.le_of_ble_eq_true rfl) dX7_askKept_22 (fun u_3 H locs hu_3 hz_3 h => ?_)
    refine r_invV (As := [.ref (q 0)]) (rest := [.ref k]) (wr := wKept k (q 0) ev u_1.2 lk) (ws2 := fun u_4 => (x, .inr (7, [.ref (ra 0), .ref (ga 0), .ref (da 0), .ref j, .ref ta, .int (iI (sg : Int)), .int (iI (bZ mk)), .int (iI cb), .long (lI lc), .ref (qa 0), .int (bI an), .ref (fa 0), .ref (pa 0), .ref ka, .int (iI (kc : Int)), .long (lI tm)])) :: ((wJ4 j u_4.2.1) ++ ((wRights g ga gr gn B Cn) ++ ((wRows g ra r1 r2 r3 n Vv U Dn) ++ ((wKept k (q 0) ev u_1.2 lk) ++ ((wQc g q A) ++ (wF4 g pa u_4.2.2))))))) 0 0 zC h hl.1 (c_X7_countFound l D g x j ta ka ra ga da qa fa pa sg kc mk cb lc tm an gr gn B Cn r1 r2 r3 n Vv U Dn q A J F hcb hn hv ho hA) (cs7_219 zC ⟨(Nat.le_of_ble_eq_true rfl), (Nat.le_of_ble_eq_true rfl)⟩) (.head _) rfl rfl rfl (Nat.le_of_ble_eq_true rfl) (pm fun cp_q => by simp only [cp_o, List.countP_append, List.countP_nil, wX] <;> omega) (fun u => (pm fun cp_q => by simp only [cp_o, List.countP_append, List.countP_nil, wX] <;> omega)) ⟨(Nat.le_of_ble_eq_true rfl), (Nat.le_of_ble_eq_true rfl)⟩ (Nat.le_of_ble_eq_true rfl) (Nat.le_of_ble_eq_true rfl) dX7_askKept_25 (fun u_4 H locs hu_4 hz_4 h => ?_)
    refine r_invV (As := [.int (iI u_4.1)]) (rest := []) (wr := (x, .inr (7, [.ref (ra 0), .ref (ga 0), .ref (da 0), .ref j, .ref ta, .int (iI (sg : Int)), .int (iI (bZ mk)), .int (iI cb), .long (lI lc), .ref (qa 0), .int (bI an), .ref (fa 0), .ref (pa 0), .ref ka, .int (iI (kc : Int)), .long (lI tm)])) :: ((wJ4 j u_4.2.1) ++ ((wRights g ga gr gn B Cn) ++ ((wRows g ra r1 r2 r3 n Vv U Dn) ++ ((wQc g q A) ++ (wF4 g pa u_4.2.2)))))) (ws2 := fun u_5 => (x, .inr (7, [.ref (ra 0), .ref (ga 0), .ref (da 0), .ref j, .ref ta, .int (iI (sg : Int)), .int (iI (bZ mk)), .int (iI cb), .long (lI lc), .ref (qa 0), .int (bI an), .ref (fa 0), .ref (pa 0), .ref ka, .int (iI (kc : Int)), .long (lI tm)])) :: ((wJ4 j u_4.2.1) ++ ((wRights g ga gr gn B Cn) ++ ((wRows g ra r1 r2 r3 n Vv U Dn) ++ ((wKept k (q 0) ev u_1.2 u_4.1) ++ ((wQc g q A) ++ (wF4 g pa u_4.2.2))))))) 0 0 zC h hl.1 (c_X2_setLatestCount l D g k (q 0) ev u_1.2 lk u_4.1) (cs7_223 zC ⟨(Nat.le_of_ble_eq_true rfl), (Nat.le_of_ble_eq_true rfl)⟩) (.tail _ (List.mem_append_right _ (List.mem_append_right _ (List.mem_append_right _ (List.mem_append_left _ wKept_mem))))) rfl rfl rfl (Nat.le_of_ble_eq_true rfl) (pm fun cp_q => by simp only [cp_o, List.countP_append, List.countP_nil] <;> omega) (fun u => (pm fun cp_q => by simp only [cp_o, List.countP_append, List.countP_nil] <;> omega)) ⟨(Nat.le_of_ble_eq_true rfl), (Nat.le_of_ble_eq_true rfl)⟩ (Nat.le_of_ble_eq_true rfl) (Nat.le_of_ble_eq_true rfl) dX7_askKept_28 (fun u_5 H locs hu_5 hz_5 h => ?_)
    refine lv_iload_n zx zb dX7_askKept_31 rfl (lv_at hl 0 rfl) ?_
    exact r_iret zC zQ zr zk h dX7_askKept_32 (u := (kUp mk cb B Vv U Dn n tm (A, ev, nx, lk), u_4.2.1, u_4.2.2)) (by rw [hu_1]; rfl) (List.Perm.of_eq (by have e1 : (kUp mk cb B Vv U Dn n tm (A, ev, nx, lk)).2.2.2.2 = u_4.1 := (by show (if (passU ev nx tm).1 ≤ 0 then lk else cntM mk cb B Vv U Dn n A) = _; rw [← hu_1, if_neg (by omega), hu_4]); have e2 : (kUp mk cb B Vv U Dn n tm (A, ev, nx, lk)).2.2.2.1 = u_1.2 := (by rw [hu_1]; rfl); show _ = wX x j ta ka ra ga da qa fa pa sg kc mk cb lc tm an ++ (wJ4 j u_4.2.1 ++ (wRights g ga gr gn B Cn ++ (wRows g ra r1 r2 r3 n Vv U Dn ++ (wKept k (q 0) ev (kUp mk cb B Vv U Dn n tm (A, ev, nx, lk)).2.2.2.1 (kUp mk cb B Vv U Dn n tm (A, ev, nx, lk)).2.2.2.2 ++ (wQc g q A ++ wF4 g pa u_4.2.2))))); rw [e1, e2]; rfl)) rfl (Nat.le_of_ble_eq_true rfl) (Nat.le_of_ble_eq_true rfl)
