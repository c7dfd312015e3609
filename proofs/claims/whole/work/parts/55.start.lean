/-! THE LAW, FROM ITS ENTRY -/
theorem init_rows : rowI 0 (fun _ _ => 0) (fun _ _ => 0) (fun _ _ => 0) (fun _ => 0) :=
  ⟨fun k hk => absurd hk (Nat.not_lt_zero k), fun f _ => ⟨⟨fun p hp => absurd hp (Nat.not_lt_zero p), fun i j _ hj => absurd hj (Nat.not_lt_zero j), fun r h1 h2 => by omega⟩, ⟨fun p hp => absurd hp (Nat.not_lt_zero p), fun i j _ hj => absurd hj (Nat.not_lt_zero j), fun r h1 h2 => by omega⟩⟩, fun f k _ hk => absurd hk (Nat.not_lt_zero k), fun _ _ => by show R32 0; decide⟩
theorem init_rights : rgtI 0 (fun _ _ _ => false) (fun _ => 0) (fun _ => 0) (fun _ => 0) (fun _ => 0) :=
  ⟨fun k hk => absurd hk (Nat.not_lt_zero k), fun w o q => ⟨fun h => absurd h Bool.false_ne_true, fun ⟨k, hk, _⟩ => absurd hk (Nat.not_lt_zero k)⟩, fun w _ => rfl⟩
theorem init_q : qOK A00 := ⟨⟨Nat.zero_le _, fun s hs => absurd hs (Nat.not_lt_zero s)⟩, Nat.zero_le _, by show 0 < 5; decide, Nat.zero_le _, by show 0 < 50; decide⟩
def F00 : FS := (fun _ => 0, fun _ => 0, 0)
def K00 : Nat → KD := fun _ => (A00, 0, 0, 0)
theorem init_inv : LInv 0 0 0 (fun _ => false) 100000 0 false 0 (fun _ _ _ => false) (fun _ => 0) 0 (fun _ _ => 0) (fun _ _ => 0) (fun _ _ => 0) (fun _ => 0) r0S A00 F00 K00 0 0 0 false (fun _ => 0) (fun _ => 0) (fun _ => 0) (fun _ => 0) (fun _ => 0) (fun _ => 0) (fun _ => 0) (fun _ => 0) (fun _ => 0) (fun _ => 0) (fun _ => 0) (fun _ => 0) (fun _ => 0) r0S (fun _ => r0S) := by
  refine ⟨init_rows, init_rights, ⟨Nat.le_refl 0, Nat.le_refl 0, Nat.le_refl 0⟩, fun _ _ => rfl, by decide, by decide, fun k hk => absurd hk (Nat.not_lt_zero k), by decide, ⟨init_q, by decide, Nat.zero_le _, fun k hk => absurd hk (Nat.not_lt_zero k), by decide, fun q => absurd q Bool.false_ne_true⟩, ⟨rfl, Nat.zero_le _, fun k hk => absurd hk (Nat.not_lt_zero k), ⟨fun q => absurd q Bool.false_ne_true, fun q => absurd q (by show ¬ 0 = 1; decide)⟩, Nat.zero_le _, fun _ => by show R32 0; decide⟩, Nat.zero_le _, fun j hj => absurd hj (Nat.not_lt_zero j)⟩
theorem kA_00 (kk : Nat → Nat) : kA kk 0 = fun _ => none := by funext i; exact if_neg (Nat.not_lt_zero i)
theorem sK_00 {g : Nat → ClassId} {kk : Nat → Nat} {kq : Nat → Nat → Nat} {Kf : Nat → KD} : sK g kk kq Kf 0 = [] := rfl

set_option maxHeartbeats 8000000 in
set_option maxRecDepth 100000 in
theorem whole_start {p : Program} {e : Env} {s : State} {m : MethodId} {below : List Frame} {meth : Method} {c : Code} (l : Launch) (hflags : l.flags = flags0) {b L : Nat} {xs : Nat → Int32} (hL : L ≤ 448) (C0 : lw_At p s m meth c b L xs) : W p l e room_1 s m #[Value.ref b] below meth c s.heap [] 0 0 (lw_Z below #[Value.ref b] s) (entryFrame m ([Value.ref b] : List Value).toArray 4) := by
  obtain ⟨zx, zb, hr, hml, hown, hts, hX, hbl, hlocks, hgv⟩ := id C0
  have htsL : ∀ w ∈ wsL_law, w.before #[Value.ref b] s = true := fun w h => hts w (wsL_in w h)
  have zC : Cx p m c cL_law 4 s #[Value.ref b] RL := ⟨zx, zb, hml, hown, htsL⟩
  obtain ⟨c0, iS0, hKn0⟩ := u_known (C := RX0) (T := TX0) (N := 3) (n := 3) htsL inlX0 (htsL (.instantiable RX0 3) (List.mem_of_getElem? (i := 42) (by decide +kernel)))
  obtain ⟨c1, iS1, hKn1⟩ := u_known (C := RX1) (T := TX1) (N := 4) (n := 4) htsL inlX1 (htsL (.instantiable RX1 4) (List.mem_of_getElem? (i := 26) (by decide +kernel)))
  obtain ⟨c2, iS2, hKn2⟩ := u_known (C := RX2) (T := TX2) (N := 4) (n := 4) htsL inlX2 (htsL (.instantiable RX2 4) (List.mem_of_getElem? (i := 570) (by decide +kernel)))
  obtain ⟨c3, iS3, hKn3⟩ := u_known (C := RX3) (T := TX3) (N := 10) (n := 10) htsL inlX3 (htsL (.instantiable RX3 10) (List.mem_of_getElem? (i := 37) (by decide +kernel)))
  obtain ⟨c4, iS4, hKn4⟩ := u_known (C := RX4) (T := TX4) (N := 11) (n := 11) htsL inlX4 (htsL (.instantiable RX4 11) (List.mem_of_getElem? (i := 22) (by decide +kernel)))
  obtain ⟨c5, iS5, hKn5⟩ := u_known (C := RX5) (T := TX5) (N := 3) (n := 3) htsL inlX5 (htsL (.instantiable RX5 3) (List.mem_of_getElem? (i := 18) (by decide +kernel)))
  obtain ⟨c6, iS6, hKn6⟩ := u_known (C := RX6) (T := TX6) (N := 4) (n := 4) htsL inlX6 (htsL (.instantiable RX6 4) (List.mem_of_getElem? (i := 14) (by decide +kernel)))
  obtain ⟨c7, iS7, hKn7⟩ := u_known (C := RX7) (T := TX7) (N := 16) (n := 16) htsL inlX7 (htsL (.instantiable RX7 16) (List.mem_of_getElem? (i := 1) (by decide +kernel)))
  obtain ⟨c8, iS8, hKn8⟩ := u_known (C := RX8) (T := TX8) (N := 40) (n := 40) htsL inlX8 (htsL (.instantiable RX8 40) (List.mem_of_getElem? (i := 4) (by decide +kernel)))
  obtain ⟨dC, dI, hKc⟩ : ∃ (dC : Nat → ClassId) (dI : Nat → Nat → Nat), ∀ (k : Nat) (q : vw_C), vwCl[k]? = some q → u_Kn s q.1 q.2.1 q.2.2 (dC k) (dI k) := by
    refine ⟨fun k => if k = 0 then c0 else if k = 1 then c1 else if k = 2 then c2 else if k = 3 then c3 else if k = 4 then c4 else if k = 5 then c5 else if k = 6 then c6 else if k = 7 then c7 else c8, fun k => if k = 0 then iS0 else if k = 1 then iS1 else if k = 2 then iS2 else if k = 3 then iS3 else if k = 4 then iS4 else if k = 5 then iS5 else if k = 6 then iS6 else if k = 7 then iS7 else iS8, ?_⟩
    intro k q hq
    match k, hq with
    | 0, hq => cases hq; exact hKn0
    | 1, hq => cases hq; exact hKn1
    | 2, hq => cases hq; exact hKn2
    | 3, hq => cases hq; exact hKn3
    | 4, hq => cases hq; exact hKn4
    | 5, hq => cases hq; exact hKn5
    | 6, hq => cases hq; exact hKn6
    | 7, hq => cases hq; exact hKn7
    | 8, hq => cases hq; exact hKn8
    | k + 9, hq => simp [vwCl] at hq
  obtain ⟨a0, kA0, cm0, fa0, ga0, ha0⟩ := Cond.arrayClass_spec (htsL (.arrayClass .int) (List.mem_of_getElem? (i := 54) (by decide +kernel)))
  obtain ⟨a1, kA1, cm1, fa1, ga1, ha1⟩ := Cond.arrayClass_spec (htsL (.arrayClass .char) (List.mem_of_getElem? (i := 29) (by decide +kernel)))
  obtain ⟨a2, kA2, cm2, fa2, ga2, ha2⟩ := Cond.arrayClass_spec (htsL (.arrayClass .boolean) (List.mem_of_getElem? (i := 115) (by decide +kernel)))
  obtain ⟨a3, kA3, cm3, fa3, ga3, ha3⟩ := Cond.arrayClass_spec (htsL (.arrayClass .long) (List.mem_of_getElem? (i := 124) (by decide +kernel)))
  have hAOA : va_AOA .int s := (hts (.arrayOver (.array .int)) (List.mem_append_right _ (List.mem_of_getElem? (i := 25) (by decide +kernel))))
  have hAO : va_AO "TraceQuestions$Kept" s := (hts (.arrayOver (.object "TraceQuestions$Kept")) (List.mem_append_right _ (List.mem_of_getElem? (i := 174) (by decide +kernel))))
  obtain ⟨cm4, a4, kA4, fc4, -, ga4, ha4, fa4⟩ := va_AOA.parts hAOA
  obtain ⟨cm5, a5, kA5, fc5, -, ga5, ha5, fa5⟩ := Cond.arrayOver_spec hAO
  have hN : Nst s := by
    refine ⟨fun q hq => ?_, hAO, hAOA⟩
    have hq2 : q = ("TraceQuestions", 9, yX6_init, "TraceQuestions") ∨ q = ("TraceQuestions", 18, yX5_init, "TraceQuestions") ∨ q = ("TraceQuestions", 25, yX4_init, "TraceQuestions") ∨ q = ("TraceQuestions", 32, yX1_init, "TraceQuestions") ∨ q = ("TraceQuestions", 58, yX3_init, "TraceQuestions") ∨ q = ("TraceQuestions", 69, yX0_init, "TraceQuestions") ∨ q = ("TraceQuestions$Reader", 11, yX3_init, "TraceQuestions") := by simpa [nstW] using hq
    rcases hq2 with rfl | rfl | rfl | rfl | rfl | rfl | rfl
    · exact va_Nw.of rfl (hts (.methodLinkNest "TraceQuestions" 9 yX6_init "TraceQuestions") (List.mem_append_right _ (List.mem_of_getElem? (i := 20) (by decide +kernel))))
    · exact va_Nw.of rfl (hts (.methodLinkNest "TraceQuestions" 18 yX5_init "TraceQuestions") (List.mem_append_right _ (List.mem_of_getElem? (i := 42) (by decide +kernel))))
    · exact va_Nw.of rfl (hts (.methodLinkNest "TraceQuestions" 25 yX4_init "TraceQuestions") (List.mem_append_right _ (List.mem_of_getElem? (i := 59) (by decide +kernel))))
    · exact va_Nw.of rfl (hts (.methodLinkNest "TraceQuestions" 32 yX1_init "TraceQuestions") (List.mem_append_right _ (List.mem_of_getElem? (i := 137) (by decide +kernel))))
    · exact va_Nw.of rfl (hts (.methodLinkNest "TraceQuestions" 58 yX3_init "TraceQuestions") (List.mem_append_right _ (List.mem_of_getElem? (i := 156) (by decide +kernel))))
    · exact va_Nw.of rfl (hts (.methodLinkNest "TraceQuestions" 69 yX0_init "TraceQuestions") (List.mem_append_right _ (List.mem_of_getElem? (i := 159) (by decide +kernel))))
    · exact va_Nw.of rfl (hts (.methodLinkNest "TraceQuestions$Reader" 11 yX3_init "TraceQuestions") (List.mem_append_right _ (List.mem_of_getElem? (i := 65) (by decide +kernel))))
  let g : Nat → ClassId := fun k => if k = 0 then a0 else if k = 1 then a1 else if k = 2 then a2 else if k = 3 then a3 else if k = 4 then a4 else a5
  have hAr : ∀ (k : Nat) (q : ClassId × FieldType), (tysG g)[k]? = some q → ArrOfT s q.1 q.2 ∧ va_RA s q.1 q.2 := by
    intro k q hq
    match k, hq with
    | 0, hq => cases hq; exact ⟨fun n z => ⟨fun k h => (by cases h), kA0, ga0, cm0, ha0⟩, fa0⟩
    | 1, hq => cases hq; exact ⟨fun n z => ⟨fun k h => (by cases h), kA1, ga1, cm1, ha1⟩, fa1⟩
    | 2, hq => cases hq; exact ⟨fun n z => ⟨fun k h => (by cases h), kA2, ga2, cm2, ha2⟩, fa2⟩
    | 3, hq => cases hq; exact ⟨fun n z => ⟨fun k h => (by cases h), kA3, ga3, cm3, ha3⟩, fa3⟩
    | 4, hq => cases hq; exact ⟨fun n z => ⟨fun k h => (by cases h), kA4, ga4, cm4, ha4⟩, fa4⟩
    | 5, hq => cases hq; exact ⟨fun n z => ⟨fun k h => (by cases h), kA5, ga5, cm5, ha5⟩, kA5, cm5, ga5, ha5, fc5, fa5⟩
    | k + 6, hq => simp [tysG] at hq
  have hK : Kx (dC, dI) g s := ⟨⟨hKc, hAr⟩, hN⟩
  clear_value g
  have h : Hx (dC, dI) g s (fun q => s.heap.size ≤ q) s.heap [] s.heap [] := ⟨hK, fun k q h => by simp at h, ⟨fun i j p q h => by simp at h, fun k q h => by simp at h⟩, va_S.rf, fun _ h => h⟩
  have hl := lv_entry ([.ref b]) (n := 4) (Nat.le_of_ble_eq_true rfl)
  rw [lg_entry_eq]
  generalize (lg_sl ([.ref b]) ++ List.replicate (4 - (lg_sl ([.ref b])).length) Slot.unset).toArray = ls at hl ⊢
  have hl : lv_has ls 4 [(0, .ref b)] := hl
  refine r_new (ci := 7) (ty := tyX7) (fs := [.null, .null, .null, .null, .null, .int (iI 0), .int (iI 0), .int (iI 0), .long (lI 0), .null, .int (bI false), .null, .null, .null, .int (iI 0), .long (lI 0)]) 1 16 zC h inlX7 tyX7_ok (List.mem_of_getElem? (i := 0) (by decide +kernel)) (List.mem_of_getElem? (i := 1) (by decide +kernel)) (List.mem_of_getElem? (i := 2) (by decide +kernel)) rfl (fun j hj => by rcases (show j = 0 ∨ j = 1 ∨ j = 2 ∨ j = 3 ∨ j = 4 ∨ j = 5 ∨ j = 6 ∨ j = 7 ∨ j = 8 ∨ j = 9 ∨ j = 10 ∨ j = 11 ∨ j = 12 ∨ j = 13 ∨ j = 14 ∨ j = 15 by omega) with rfl | rfl | rfl | rfl | rfl | rfl | rfl | rfl | rfl | rfl | rfl | rfl | rfl | rfl | rfl | rfl <;> rfl) (Nat.le_of_ble_eq_true rfl) (Nat.le_of_ble_eq_true rfl) (Nat.le_of_ble_eq_true rfl) (Nat.le_of_ble_eq_true rfl) dL_law_0 (fun x H h => ?_)
  refine lv_dup zx zb dL_law_3 rfl ?_
  refine r_invI (As := []) (rest := [.ref x]) (wr := []) (ws2 := fun u => wI7 g x u) 94 11809 zC h hl.1 (c_X7_init l (dC, dI) g x) (csL_9 zC ⟨(Nat.le_of_ble_eq_true rfl), (Nat.le_of_ble_eq_true rfl)⟩) rfl rfl (Nat.le_of_ble_eq_true rfl) (List.Perm.of_eq (List.append_nil _).symm) (fun u => List.Perm.of_eq (List.append_nil _)) ⟨(Nat.le_of_ble_eq_true rfl), (Nat.le_of_ble_eq_true rfl)⟩ (Nat.le_of_ble_eq_true rfl) (Nat.le_of_ble_eq_true rfl) dL_law_4 (fun u H locs hu hz h => ?_)
  refine lv_astore_n (lv' := [(1, .ref x), (0, .ref b)]) zx zb dL_law_7 rfl hl (by decide) rfl (fun ls hl => ?_)
  refine r_new (ci := 8) (ty := tyX8) (fs := [.int (iI 0), .int (iI 0), .null, .int (iI 0), .null, .null, .null, .null, .long (lI 0), .long (lI 0), .long (lI 0), .int (iI 0), .null, .int (bI false), .int (iI 0), .null, .int (iI 0), .int (iI 0), .null, .null, .null, .null, .null, .null, .int (iI 0), .int (iI 0), .int (iI 0), .int (iI 0), .null, .null, .null, .int (iI 0), .int (bI false), .null, .null, .int (iI 0), .int (bI false), .null, .null, .null]) 95 11849 zC h inlX8 tyX8_ok (List.mem_of_getElem? (i := 3) (by decide +kernel)) (List.mem_of_getElem? (i := 4) (by decide +kernel)) (List.mem_of_getElem? (i := 5) (by decide +kernel)) rfl (fun j hj => by rcases (show j = 0 ∨ j = 1 ∨ j = 2 ∨ j = 3 ∨ j = 4 ∨ j = 5 ∨ j = 6 ∨ j = 7 ∨ j = 8 ∨ j = 9 ∨ j = 10 ∨ j = 11 ∨ j = 12 ∨ j = 13 ∨ j = 14 ∨ j = 15 ∨ j = 16 ∨ j = 17 ∨ j = 18 ∨ j = 19 ∨ j = 20 ∨ j = 21 ∨ j = 22 ∨ j = 23 ∨ j = 24 ∨ j = 25 ∨ j = 26 ∨ j = 27 ∨ j = 28 ∨ j = 29 ∨ j = 30 ∨ j = 31 ∨ j = 32 ∨ j = 33 ∨ j = 34 ∨ j = 35 ∨ j = 36 ∨ j = 37 ∨ j = 38 ∨ j = 39 by omega) with rfl | rfl | rfl | rfl | rfl | rfl | rfl | rfl | rfl | rfl | rfl | rfl | rfl | rfl | rfl | rfl | rfl | rfl | rfl | rfl | rfl | rfl | rfl | rfl | rfl | rfl | rfl | rfl | rfl | rfl | rfl | rfl | rfl | rfl | rfl | rfl | rfl | rfl | rfl | rfl <;> rfl) (Nat.le_of_ble_eq_true rfl) (Nat.le_of_ble_eq_true rfl) (Nat.le_of_ble_eq_true rfl) (Nat.le_of_ble_eq_true rfl) dL_law_8 (fun x8 H h => ?_)
  refine lv_dup zx zb dL_law_11 rfl ?_
  refine r_invI (As := []) (rest := [.ref x8]) (wr := wI7 g x u) (ws2 := fun a => wM0 g a ++ wI7 g x u) 116 19726 zC h hl.1 (c_X8_init l (dC, dI) g x8) (csL_12 zC ⟨(Nat.le_of_ble_eq_true rfl), (Nat.le_of_ble_eq_true rfl)⟩) rfl rfl (Nat.le_of_ble_eq_true rfl) (List.Perm.refl _) (fun u => List.Perm.refl _) ⟨(Nat.le_of_ble_eq_true rfl), (Nat.le_of_ble_eq_true rfl)⟩ (Nat.le_of_ble_eq_true rfl) (Nat.le_of_ble_eq_true rfl) dL_law_12 (fun a H locs ha hz h => ?_)
  have ha : a 0 = x8 := ha
  refine lv_astore_n (lv' := [(2, .ref x8), (1, .ref x), (0, .ref b)]) zx zb dL_law_15 rfl hl (by decide) rfl (fun ls hl => ?_)
  refine lv_iconst (v := iI (0)) zx zb dL_law_16 rfl ?_
  refine lv_istore_n (lv' := [(3, .int (iI 0)), (2, .ref x8), (1, .ref x), (0, .ref b)]) zx zb dL_law_17 rfl hl (by decide) rfl (fun ls hl => ?_)
  rw [← ha] at hl
  obtain ⟨ee, ra, r1, r2, r3, ga, gr, da, qd, qa, fa, pa⟩ := u
  have hp7 : (wI7 g x (ee, ra, r1, r2, r3, ga, gr, da, qd, qa, fa, pa)).Perm (wXA g x (ee 0) (ee 1) (ee 2) ra ga da fa pa gr r1 r2 r3 qa qd 0 0 (fun _ => false) 100000 0 0 false 0 (fun _ _ _ => false) (fun _ => 0) 0 (fun _ _ => 0) (fun _ _ => 0) (fun _ _ => 0) (fun _ => 0) J0 (fun _ => false) r0S 0 A00 F00 F00 (fun _ => 0) (fun _ _ => 0) K00) := by
    refine pm fun cp_q => ?_
    show List.countP cp_q (wX x (ee 0) (ee 1) (ee 2) ra ga da qa fa pa 0 0 (fun _ => false) 100000 0 0 false ++ ([(ee 1, cC g 200 (fun _ => 0))] ++ ([(ee 2, cQ g 20 (fun _ => none))] ++ (wJ4 (ee 0) J0 ++ (wRights g ga gr 0 (fun _ _ _ => false) (fun _ => 0) ++ (wRows g ra r1 r2 r3 0 (fun _ _ => 0) (fun _ _ => 0) (fun _ _ => 0) ++ (wRd g da qd (fun _ => false) r0S 0 ++ (wQc g qa A00 ++ (wF4 g fa F00 ++ wF4 g pa F00))))))))) = _
    unfold wXA
    rw [kA_00, sK_00]
    simp only [List.countP_append, List.countP_nil]
    omega
  have hm0 : wM0 g a = wMA g a 0 0 0 100000 0 0 0 0 0 0 0 0 0 0 0 0 false false false (fun _ => 0) (fun _ => 0) (fun _ => 0) (fun _ => 0) (fun _ => false) (fun _ => 0) (fun _ => 0) (fun _ => 0) (fun _ => 0) (fun _ => 0) (fun _ => 0) (fun _ => 0) (fun _ => 0) (fun _ => 0) (fun _ => false) (fun _ => false) (fun _ => 0) (fun _ => 0) (fun _ => 0) (fun _ => 0) (fun _ => false) := rfl
  have h2 := h.perm (ws' := wXA g x (ee 0) (ee 1) (ee 2) ra ga da fa pa gr r1 r2 r3 qa qd 0 0 (fun _ => false) 100000 0 0 false 0 (fun _ _ _ => false) (fun _ => 0) 0 (fun _ _ => 0) (fun _ _ => 0) (fun _ _ => 0) (fun _ => 0) J0 (fun _ => false) r0S 0 A00 F00 F00 (fun _ => 0) (fun _ _ => 0) K00 ++ wMA g a 0 0 0 100000 0 0 0 0 0 0 0 0 0 0 0 0 false false false (fun _ => 0) (fun _ => 0) (fun _ => 0) (fun _ => 0) (fun _ => false) (fun _ => 0) (fun _ => 0) (fun _ => 0) (fun _ => 0) (fun _ => 0) (fun _ => 0) (fun _ => 0) (fun _ => 0) (fun _ => 0) (fun _ => false) (fun _ => false) (fun _ => 0) (fun _ => 0) (fun _ => 0) (fun _ => 0) (fun _ => false)) ((List.perm_append_comm).trans (List.Perm.append hp7 (List.Perm.of_eq hm0)))
  exact law_loop l hL C0 zC (L + 1) 0 qa qd 0 0 (fun _ => false) 100000 0 0 false 0 (fun _ _ _ => false) (fun _ => 0) 0 (fun _ _ => 0) (fun _ _ => 0) (fun _ _ => 0) (fun _ => 0) J0 (fun _ => false) r0S 0 A00 F00 F00 (fun _ => 0) (fun _ _ => 0) K00 0 0 0 0 0 0 0 0 0 false false (fun _ => 0) (fun _ => 0) (fun _ => 0) (fun _ => 0) (fun _ => 0) (fun _ => 0) (fun _ => 0) (fun _ => 0) (fun _ => 0) (fun _ => 0) (fun _ => 0) (fun _ => 0) (fun _ => false) (fun _ => false) (fun _ => 0) (fun _ => 0) (fun _ => 0) (fun _ => 0) (fun _ => false) r0S (fun _ => r0S) H locs ls 116 19726 (by omega) (by omega) (by omega) (by omega) init_inv h2 (lv_sub hl [3, 2, 1, 0] rfl)
