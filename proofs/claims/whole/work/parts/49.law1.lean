/-! THE LAW: the reference's calls in it -/
theorem pmL_row (X : va_W) (q0 q1 q2 q3 q4 q5 q6 q7 q8 q9 q10 q11 q12 q13 q14 q15 q16 q17 q18 q19 q20 q21 : Nat × va_E) : (X ++ [q0, q1, q2, q3, q4, q5, q6, q7, q8, q9, q10, q11, q12, q13, q14, q15, q16, q17, q18, q19, q20, q21]).Perm ([q0, q1] ++ (X ++ [q2, q3, q4, q5, q6, q7, q8, q9, q10, q11, q12, q13, q14, q15, q16, q17, q18, q19, q20, q21])) := pm fun cp_q => by
  simp only [cp_o, List.countP_append, List.countP_nil]
  generalize List.countP cp_q (wOne q0) = n0
  generalize List.countP cp_q (wOne q1) = n1
  generalize List.countP cp_q (wOne q2) = n2
  generalize List.countP cp_q (wOne q3) = n3
  generalize List.countP cp_q (wOne q4) = n4
  generalize List.countP cp_q (wOne q5) = n5
  generalize List.countP cp_q (wOne q6) = n6
  generalize List.countP cp_q (wOne q7) = n7
  generalize List.countP cp_q (wOne q8) = n8
  generalize List.countP cp_q (wOne q9) = n9
  generalize List.countP cp_q (wOne q10) = n10
  generalize List.countP cp_q (wOne q11) = n11
  generalize List.countP cp_q (wOne q12) = n12
  generalize List.countP cp_q (wOne q13) = n13
  generalize List.countP cp_q (wOne q14) = n14
  generalize List.countP cp_q (wOne q15) = n15
  generalize List.countP cp_q (wOne q16) = n16
  generalize List.countP cp_q (wOne q17) = n17
  generalize List.countP cp_q (wOne q18) = n18
  generalize List.countP cp_q (wOne q19) = n19
  generalize List.countP cp_q (wOne q20) = n20
  generalize List.countP cp_q (wOne q21) = n21
  generalize List.countP cp_q X = nX
  omega
set_option maxHeartbeats 4000000 in
set_option maxRecDepth 100000 in
theorem LM_row {pg : Program} {l : Launch} {evn : Env} {sT : State} {mI : MethodId} {bl : List Frame} {mtd : Method} {cd : Code} {H H0 : Heap} {locs : List Loc} {cells slots : Nat} {qQ : State → Prop} {ls : Array Slot} {rest : List Value} {D : va_G} {g : Nat → ClassId} {Aa : Nat → Prop} {ar : Array Value} {wX0 : va_W} {a : Nat → Nat} {mth mrg mbd mnw mlc msz mas mak mkp mfa mte mta mlv mct mgo : Int} {man mgr mgg : Bool} {n : Nat} {FI : Nat → Int} {RO : Nat → Int} {RW : Nat → Int} {RK : Nat → Int} {MK : Nat → Bool} {TX : Nat → Int} {AQ : Nat → Int} {KS : Nat → Int} {KT : Nat → Int} {KO : Nat → Int} {EV : Nat → Int} {DU : Nat → Int} {SA : Nat → Int} {NO : Nat → Int} {OR : Nat → Bool} {AN : Nat → Bool} {FR : Nat → Int} {SE : Nat → Int} {GF : Nat → Int} {GS : Nat → Int} {IS : Nat → Bool} (x0 x1 x2 x3 x4 : Int) (h0 : R32 x0 ∧ R32 x1 ∧ R32 x2 ∧ R64 x3 ∧ R32 x4) (hn : n ≤ 300) (C : Cx pg mI cd cL_law 4 sT ar RL) (hl : ls.size = 4) (hro : (rest.map fun v => v.category).sum ≤ 8) (hcl : cells ≤ 500000) (hsl : slots ≤ 7000000) (h : Hx D g sT Aa H0 (wX0 ++ wMA g a mth (n : Int) mrg mbd mnw mlc msz mas mak mkp mfa mte mta mlv mct mgo man mgr mgg FI RO RW RK MK TX AQ KS KT KO EV DU SA NO OR AN FR SE GF GS IS) H locs)
    (kont : ∀ (u : Int × Nat × (Nat → Int)) (H1 : Heap) (locs1 : List Loc), rowM FI n x0 x1 x2 x3 x4 u → Hx D g sT Aa H0 (wX0 ++ wMA g a 0 (u.2.1 : Int) mrg mbd mnw mlc msz mas mak mkp mfa mte mta mlv mct mgo man mgr mgg u.2.2 RO RW RK MK TX AQ KS KT KO EV DU SA NO OR AN FR SE GF GS IS) H1 locs1 → W pg l evn room_1 sT mI ar bl mtd cd H1 locs1 cells slots qQ (F0 mI 190 ls ((some (.int (iI u.1)) : Option Value).toList ++ rest))) : W pg l evn room_1 sT mI ar bl mtd cd H locs cells slots qQ (F0 mI 187 ls (.int (iI x4) :: .long (lI x3) :: .int (iI x2) :: .int (iI x1) :: .int (iI x0) :: .ref (a 0) :: rest)) := by
  have hmem : (a 0, oM a mth (n : Int) mrg mbd mnw mlc msz man mas mak mkp mfa mte mta mlv mct mgr mgo mgg) ∈ wX0 ++ wMA g a mth (n : Int) mrg mbd mnw mlc msz mas mak mkp mfa mte mta mlv mct mgo man mgr mgg FI RO RW RK MK TX AQ KS KT KO EV DU SA NO OR AN FR SE GF GS IS := List.mem_append_right _ (.head _)
  refine r_invV (As := [.int (iI x0), .int (iI x1), .int (iI x2), .long (lI x3), .int (iI x4)]) (rest := rest) (wr := wX0 ++ [(a 2, cI g 100 RO), (a 3, cI g 100 RW), (a 4, cI g 100 RK), (a 5, cZ g 5 MK), (a 6, cI g 200 TX), (a 7, cI g 200 AQ), (a 8, cI g 20 KS), (a 9, cI g 4000 KT), (a 10, cI g 20 KO), (a 11, cJ g 20 EV), (a 12, cJ g 20 DU), (a 13, cI g 20 SA), (a 14, cI g 22 NO), (a 15, cZ g 22 OR), (a 16, cZ g 22 AN), (a 17, cI g 300 FR), (a 18, cI g 300 SE), (a 19, cI g 300 GF), (a 20, cI g 300 GS), (a 21, cZ g 301 IS)]) (ws2 := fun u => wX0 ++ wMA g a 0 (u.2.1 : Int) mrg mbd mnw mlc msz mas mak mkp mfa mte mta mlv mct mgo man mgr mgg u.2.2 RO RW RK MK TX AQ KS KT KO EV DU SA NO OR AN FR SE GF GS IS) cells slots C h hl (c_X8_row l D g a mth mrg mbd mnw mlc msz mas mak mkp mfa mte mta mlv mct mgo man mgr mgg n FI x0 x1 x2 x3 x4 h0 hn) (csL_19 C ⟨(Nat.le_of_ble_eq_true rfl), (Nat.le_of_ble_eq_true rfl)⟩) hmem rfl rfl rfl hro ?_ ?_ ?_ (Nat.le_refl _) (Nat.le_refl _) dL_law_187 (fun u H1 locs1 hu hz h => ?_)
  · exact pmL_row wX0 _ _ _ _ _ _ _ _ _ _ _ _ _ _ _ _ _ _ _ _ _ _
  · exact fun u => (pmL_row wX0 _ _ _ _ _ _ _ _ _ _ _ _ _ _ _ _ _ _ _ _ _ _).symm
  · exact ⟨by show cells + 0 ≤ 600000; omega, by show slots + 0 ≤ 7302250; omega⟩
  · exact kont u H1 locs1 hu h

theorem pmL_sign (X : va_W) (q0 q1 q2 q3 q4 q5 q6 q7 q8 q9 q10 q11 q12 q13 q14 q15 q16 q17 q18 q19 q20 q21 : Nat × va_E) : (X ++ [q0, q1, q2, q3, q4, q5, q6, q7, q8, q9, q10, q11, q12, q13, q14, q15, q16, q17, q18, q19, q20, q21]).Perm ([q0, q6] ++ (X ++ [q1, q2, q3, q4, q5, q7, q8, q9, q10, q11, q12, q13, q14, q15, q16, q17, q18, q19, q20, q21])) := pm fun cp_q => by
  simp only [cp_o, List.countP_append, List.countP_nil]
  generalize List.countP cp_q (wOne q0) = n0
  generalize List.countP cp_q (wOne q1) = n1
  generalize List.countP cp_q (wOne q2) = n2
  generalize List.countP cp_q (wOne q3) = n3
  generalize List.countP cp_q (wOne q4) = n4
  generalize List.countP cp_q (wOne q5) = n5
  generalize List.countP cp_q (wOne q6) = n6
  generalize List.countP cp_q (wOne q7) = n7
  generalize List.countP cp_q (wOne q8) = n8
  generalize List.countP cp_q (wOne q9) = n9
  generalize List.countP cp_q (wOne q10) = n10
  generalize List.countP cp_q (wOne q11) = n11
  generalize List.countP cp_q (wOne q12) = n12
  generalize List.countP cp_q (wOne q13) = n13
  generalize List.countP cp_q (wOne q14) = n14
  generalize List.countP cp_q (wOne q15) = n15
  generalize List.countP cp_q (wOne q16) = n16
  generalize List.countP cp_q (wOne q17) = n17
  generalize List.countP cp_q (wOne q18) = n18
  generalize List.countP cp_q (wOne q19) = n19
  generalize List.countP cp_q (wOne q20) = n20
  generalize List.countP cp_q (wOne q21) = n21
  generalize List.countP cp_q X = nX
  omega
set_option maxHeartbeats 4000000 in
set_option maxRecDepth 100000 in
theorem LM_sign {pg : Program} {l : Launch} {evn : Env} {sT : State} {mI : MethodId} {bl : List Frame} {mtd : Method} {cd : Code} {H H0 : Heap} {locs : List Loc} {cells slots : Nat} {qQ : State → Prop} {ls : Array Slot} {rest : List Value} {D : va_G} {g : Nat → ClassId} {Aa : Nat → Prop} {ar : Array Value} {wX0 : va_W} {a : Nat → Nat} {mth mrw mrg mbd mnw mlc mas mak mkp mfa mte mta mlv mct mgo : Int} {man mgr mgg : Bool} {sg : Nat} {TX : Nat → Int} {FI : Nat → Int} {RO : Nat → Int} {RW : Nat → Int} {RK : Nat → Int} {MK : Nat → Bool} {AQ : Nat → Int} {KS : Nat → Int} {KT : Nat → Int} {KO : Nat → Int} {EV : Nat → Int} {DU : Nat → Int} {SA : Nat → Int} {NO : Nat → Int} {OR : Nat → Bool} {AN : Nat → Bool} {FR : Nat → Int} {SE : Nat → Int} {GF : Nat → Int} {GS : Nat → Int} {IS : Nat → Bool} (c : Int) (hc : R32 c) (hs : sg ≤ 200) (C : Cx pg mI cd cL_law 4 sT ar RL) (hl : ls.size = 4) (hro : (rest.map fun v => v.category).sum ≤ 8) (hcl : cells ≤ 500000) (hsl : slots ≤ 7000000) (h : Hx D g sT Aa H0 (wX0 ++ wMA g a mth mrw mrg mbd mnw mlc (sg : Int) mas mak mkp mfa mte mta mlv mct mgo man mgr mgg FI RO RW RK MK TX AQ KS KT KO EV DU SA NO OR AN FR SE GF GS IS) H locs)
    (kont : ∀ (u : (Nat → Int) × Nat) (H1 : Heap) (locs1 : List Loc), u = signU TX sg c → Hx D g sT Aa H0 (wX0 ++ wMA g a 0 mrw mrg mbd mnw mlc (u.2 : Int) mas mak mkp mfa mte mta mlv mct mgo man mgr mgg FI RO RW RK MK u.1 AQ KS KT KO EV DU SA NO OR AN FR SE GF GS IS) H1 locs1 → W pg l evn room_1 sT mI ar bl mtd cd H1 locs1 cells slots qQ (F0 mI 213 ls ((none : Option Value).toList ++ rest))) : W pg l evn room_1 sT mI ar bl mtd cd H locs cells slots qQ (F0 mI 210 ls (.int (iI c) :: .ref (a 0) :: rest)) := by
  have hmem : (a 0, oM a mth mrw mrg mbd mnw mlc (sg : Int) man mas mak mkp mfa mte mta mlv mct mgr mgo mgg) ∈ wX0 ++ wMA g a mth mrw mrg mbd mnw mlc (sg : Int) mas mak mkp mfa mte mta mlv mct mgo man mgr mgg FI RO RW RK MK TX AQ KS KT KO EV DU SA NO OR AN FR SE GF GS IS := List.mem_append_right _ (.head _)
  refine r_invV (As := [.int (iI c)]) (rest := rest) (wr := wX0 ++ [(a 1, cI g 1505 FI), (a 2, cI g 100 RO), (a 3, cI g 100 RW), (a 4, cI g 100 RK), (a 5, cZ g 5 MK), (a 7, cI g 200 AQ), (a 8, cI g 20 KS), (a 9, cI g 4000 KT), (a 10, cI g 20 KO), (a 11, cJ g 20 EV), (a 12, cJ g 20 DU), (a 13, cI g 20 SA), (a 14, cI g 22 NO), (a 15, cZ g 22 OR), (a 16, cZ g 22 AN), (a 17, cI g 300 FR), (a 18, cI g 300 SE), (a 19, cI g 300 GF), (a 20, cI g 300 GS), (a 21, cZ g 301 IS)]) (ws2 := fun u => wX0 ++ wMA g a 0 mrw mrg mbd mnw mlc (u.2 : Int) mas mak mkp mfa mte mta mlv mct mgo man mgr mgg FI RO RW RK MK u.1 AQ KS KT KO EV DU SA NO OR AN FR SE GF GS IS) cells slots C h hl (c_X8_sign l D g a mth mrw mrg mbd mnw mlc mas mak mkp mfa mte mta mlv mct mgo man mgr mgg sg TX c hc hs) (csL_24 C ⟨(Nat.le_of_ble_eq_true rfl), (Nat.le_of_ble_eq_true rfl)⟩) hmem rfl rfl rfl hro ?_ ?_ ?_ (Nat.le_refl _) (Nat.le_refl _) dL_law_210 (fun u H1 locs1 hu hz h => ?_)
  · exact pmL_sign wX0 _ _ _ _ _ _ _ _ _ _ _ _ _ _ _ _ _ _ _ _ _ _
  · exact fun u => (pmL_sign wX0 _ _ _ _ _ _ _ _ _ _ _ _ _ _ _ _ _ _ _ _ _ _).symm
  · exact ⟨by show cells + 0 ≤ 600000; omega, by show slots + 0 ≤ 7302250; omega⟩
  · exact kont u H1 locs1 hu h

theorem pmL_ask (X : va_W) (q0 q1 q2 q3 q4 q5 q6 q7 q8 q9 q10 q11 q12 q13 q14 q15 q16 q17 q18 q19 q20 q21 : Nat × va_E) : (X ++ [q0, q1, q2, q3, q4, q5, q6, q7, q8, q9, q10, q11, q12, q13, q14, q15, q16, q17, q18, q19, q20, q21]).Perm ([q0, q6, q14, q5, q2, q3, q4, q1, q15, q16, q21, q19, q20, q7, q17, q18] ++ (X ++ [q8, q9, q10, q11, q12, q13])) := pm fun cp_q => by
  simp only [cp_o, List.countP_append, List.countP_nil]
  generalize List.countP cp_q (wOne q0) = n0
  generalize List.countP cp_q (wOne q1) = n1
  generalize List.countP cp_q (wOne q2) = n2
  generalize List.countP cp_q (wOne q3) = n3
  generalize List.countP cp_q (wOne q4) = n4
  generalize List.countP cp_q (wOne q5) = n5
  generalize List.countP cp_q (wOne q6) = n6
  generalize List.countP cp_q (wOne q7) = n7
  generalize List.countP cp_q (wOne q8) = n8
  generalize List.countP cp_q (wOne q9) = n9
  generalize List.countP cp_q (wOne q10) = n10
  generalize List.countP cp_q (wOne q11) = n11
  generalize List.countP cp_q (wOne q12) = n12
  generalize List.countP cp_q (wOne q13) = n13
  generalize List.countP cp_q (wOne q14) = n14
  generalize List.countP cp_q (wOne q15) = n15
  generalize List.countP cp_q (wOne q16) = n16
  generalize List.countP cp_q (wOne q17) = n17
  generalize List.countP cp_q (wOne q18) = n18
  generalize List.countP cp_q (wOne q19) = n19
  generalize List.countP cp_q (wOne q20) = n20
  generalize List.countP cp_q (wOne q21) = n21
  generalize List.countP cp_q X = nX
  omega
set_option maxHeartbeats 4000000 in
set_option maxRecDepth 100000 in
theorem LM_ask {pg : Program} {l : Launch} {evn : Env} {sT : State} {mI : MethodId} {bl : List Frame} {mtd : Method} {cd : Code} {H H0 : Heap} {locs : List Loc} {cells slots : Nat} {qQ : State → Prop} {ls : Array Slot} {rest : List Value} {D : va_G} {g : Nat → ClassId} {Aa : Nat → Prop} {ar : Array Value} {wX0 : va_W} {a : Nat → Nat} {mth mbd mnw mlc mas mak mkp mfa mte mta mlv mct mgo : Int} {man mgr mgg : Bool} {n : Nat} {rg : Nat} {sg : Nat} {TX : Nat → Int} {NO : Nat → Int} {MK : Nat → Bool} {RO : Nat → Int} {RW : Nat → Int} {RK : Nat → Int} {FI : Nat → Int} {OR : Nat → Bool} {AN : Nat → Bool} {IS : Nat → Bool} {GF : Nat → Int} {GS : Nat → Int} {AQ : Nat → Int} {FR : Nat → Int} {SE : Nat → Int} {KS : Nat → Int} {KT : Nat → Int} {KO : Nat → Int} {EV : Nat → Int} {DU : Nat → Int} {SA : Nat → Int} (w : Int) (r : RS) (hw : R32 w) (hn : n ≤ 300) (hsg : sg ≤ 200) (hcb : 0 ≤ mbd ∧ mbd ≤ 1000000) (hTX : ∀ k, k < sg → R32 (TX k)) (hg : rg ≤ 100) (hRR : ∀ k, k < rg → R32 (RO k) ∧ R32 (RW k) ∧ R32 (RK k)) (hFI : ∀ k, k < 1505 → R32 (FI k)) (hfg : R32 r.fg) (C : Cx pg mI cd cL_law 4 sT ar RL) (hl : ls.size = 4) (hro : (rest.map fun v => v.category).sum ≤ 8) (hcl : cells ≤ 500000) (hsl : slots ≤ 7000000) (h : Hx D g sT Aa H0 (wX0 ++ wMA g a mth (n : Int) (rg : Int) mbd mnw mlc (sg : Int) mas mak mkp mfa mte mta mlv mct mgo man mgr mgg FI RO RW RK MK TX AQ KS KT KO EV DU SA NO OR AN FR SE GF GS IS) H locs)
    (kont : ∀ (u : Int × VM × SM) (H1 : Heap) (locs1 : List Loc), askM MK TX sg n mbd FI RO RW RK rg w r ((sg : Int), mlc, man, mak, mas, mct, mgr, AQ, FR, SE) u.1 u.2.1 → Hx D g sT Aa H0 (wX0 ++ wMA g a 0 (n : Int) (rg : Int) mbd mnw u.2.1.2.1 u.2.1.1 u.2.1.2.2.2.2.1 u.2.1.2.2.2.1 mkp u.2.2.1 u.2.2.2.1 u.2.2.2.2.1 u.2.2.2.2.2.1 u.2.1.2.2.2.2.2.1 u.2.2.2.2.2.2.1 u.2.1.2.2.1 u.2.1.2.2.2.2.2.2.1 u.2.2.2.2.2.2.2.1 FI RO RW RK MK TX u.2.1.2.2.2.2.2.2.2.1 KS KT KO EV DU SA u.2.2.2.2.2.2.2.2.1 u.2.2.2.2.2.2.2.2.2.1 u.2.2.2.2.2.2.2.2.2.2.1 u.2.1.2.2.2.2.2.2.2.2.1 u.2.1.2.2.2.2.2.2.2.2.2 u.2.2.2.2.2.2.2.2.2.2.2.2.1 u.2.2.2.2.2.2.2.2.2.2.2.2.2 u.2.2.2.2.2.2.2.2.2.2.2.1) H1 locs1 → W pg l evn room_1 sT mI ar bl mtd cd H1 locs1 cells slots qQ (F0 mI 234 ls ((some (.int (iI u.1)) : Option Value).toList ++ rest))) : W pg l evn room_1 sT mI ar bl mtd cd H locs cells slots qQ (F0 mI 231 ls (.int (iI w) :: .ref (a 0) :: rest)) := by
  have hmem : (a 0, oM a mth (n : Int) (rg : Int) mbd mnw mlc (sg : Int) man mas mak mkp mfa mte mta mlv mct mgr mgo mgg) ∈ wX0 ++ wMA g a mth (n : Int) (rg : Int) mbd mnw mlc (sg : Int) mas mak mkp mfa mte mta mlv mct mgo man mgr mgg FI RO RW RK MK TX AQ KS KT KO EV DU SA NO OR AN FR SE GF GS IS := List.mem_append_right _ (.head _)
  refine r_invV (As := [.int (iI w)]) (rest := rest) (wr := wX0 ++ [(a 8, cI g 20 KS), (a 9, cI g 4000 KT), (a 10, cI g 20 KO), (a 11, cJ g 20 EV), (a 12, cJ g 20 DU), (a 13, cI g 20 SA)]) (ws2 := fun u => wX0 ++ wMA g a 0 (n : Int) (rg : Int) mbd mnw u.2.1.2.1 u.2.1.1 u.2.1.2.2.2.2.1 u.2.1.2.2.2.1 mkp u.2.2.1 u.2.2.2.1 u.2.2.2.2.1 u.2.2.2.2.2.1 u.2.1.2.2.2.2.2.1 u.2.2.2.2.2.2.1 u.2.1.2.2.1 u.2.1.2.2.2.2.2.2.1 u.2.2.2.2.2.2.2.1 FI RO RW RK MK TX u.2.1.2.2.2.2.2.2.2.1 KS KT KO EV DU SA u.2.2.2.2.2.2.2.2.1 u.2.2.2.2.2.2.2.2.2.1 u.2.2.2.2.2.2.2.2.2.2.1 u.2.1.2.2.2.2.2.2.2.2.1 u.2.1.2.2.2.2.2.2.2.2.2 u.2.2.2.2.2.2.2.2.2.2.2.2.1 u.2.2.2.2.2.2.2.2.2.2.2.2.2 u.2.2.2.2.2.2.2.2.2.2.2.1) cells slots C h hl (c_X8_ask l D g a mth mbd mnw mlc mas mak mkp mfa mte mta mlv mct mgo man mgr mgg n rg sg TX NO MK RO RW RK FI OR AN IS GF GS AQ FR SE w r hw hn hsg hcb hTX hg hRR hFI hfg) (csL_29 C ⟨(Nat.le_of_ble_eq_true rfl), (Nat.le_of_ble_eq_true rfl)⟩) hmem rfl rfl rfl hro ?_ ?_ ?_ (Nat.le_refl _) (Nat.le_refl _) dL_law_231 (fun u H1 locs1 hu hz h => ?_)
  · exact pmL_ask wX0 _ _ _ _ _ _ _ _ _ _ _ _ _ _ _ _ _ _ _ _ _ _
  · exact fun u => (pmL_ask wX0 _ _ _ _ _ _ _ _ _ _ _ _ _ _ _ _ _ _ _ _ _ _).symm
  · exact ⟨by show cells + 0 ≤ 600000; omega, by show slots + 0 ≤ 7302250; omega⟩
  · exact kont u H1 locs1 hu h

theorem pmL_found (X : va_W) (q0 q1 q2 q3 q4 q5 q6 q7 q8 q9 q10 q11 q12 q13 q14 q15 q16 q17 q18 q19 q20 q21 : Nat × va_E) : (X ++ [q0, q1, q2, q3, q4, q5, q6, q7, q8, q9, q10, q11, q12, q13, q14, q15, q16, q17, q18, q19, q20, q21]).Perm ([q0, q17, q18, q5, q1] ++ (X ++ [q2, q3, q4, q6, q7, q8, q9, q10, q11, q12, q13, q14, q15, q16, q19, q20, q21])) := pm fun cp_q => by
  simp only [cp_o, List.countP_append, List.countP_nil]
  generalize List.countP cp_q (wOne q0) = n0
  generalize List.countP cp_q (wOne q1) = n1
  generalize List.countP cp_q (wOne q2) = n2
  generalize List.countP cp_q (wOne q3) = n3
  generalize List.countP cp_q (wOne q4) = n4
  generalize List.countP cp_q (wOne q5) = n5
  generalize List.countP cp_q (wOne q6) = n6
  generalize List.countP cp_q (wOne q7) = n7
  generalize List.countP cp_q (wOne q8) = n8
  generalize List.countP cp_q (wOne q9) = n9
  generalize List.countP cp_q (wOne q10) = n10
  generalize List.countP cp_q (wOne q11) = n11
  generalize List.countP cp_q (wOne q12) = n12
  generalize List.countP cp_q (wOne q13) = n13
  generalize List.countP cp_q (wOne q14) = n14
  generalize List.countP cp_q (wOne q15) = n15
  generalize List.countP cp_q (wOne q16) = n16
  generalize List.countP cp_q (wOne q17) = n17
  generalize List.countP cp_q (wOne q18) = n18
  generalize List.countP cp_q (wOne q19) = n19
  generalize List.countP cp_q (wOne q20) = n20
  generalize List.countP cp_q (wOne q21) = n21
  generalize List.countP cp_q X = nX
  omega
set_option maxHeartbeats 4000000 in
set_option maxRecDepth 100000 in
theorem LM_found {pg : Program} {l : Launch} {evn : Env} {sT : State} {mI : MethodId} {bl : List Frame} {mtd : Method} {cd : Code} {H H0 : Heap} {locs : List Loc} {cells slots : Nat} {qQ : State → Prop} {ls : Array Slot} {rest : List Value} {D : va_G} {g : Nat → ClassId} {Aa : Nat → Prop} {ar : Array Value} {wX0 : va_W} {a : Nat → Nat} {mth mrw mrg mbd mnw mlc msz mas mak mkp mfa mte mta mlv mgo : Int} {man mgr mgg : Bool} {ct : Nat} {FR : Nat → Int} {SE : Nat → Int} {MK : Nat → Bool} {FI : Nat → Int} {RO : Nat → Int} {RW : Nat → Int} {RK : Nat → Int} {TX : Nat → Int} {AQ : Nat → Int} {KS : Nat → Int} {KT : Nat → Int} {KO : Nat → Int} {EV : Nat → Int} {DU : Nat → Int} {SA : Nat → Int} {NO : Nat → Int} {OR : Nat → Bool} {AN : Nat → Bool} {GF : Nat → Int} {GS : Nat → Int} {IS : Nat → Bool} (i w : Int) (hi : R32 i) (hw : R32 w) (hc : ct ≤ 300) (hF : ∀ k, k < ct → R32 (FR k) ∧ R32 (SE k)) (hG : mgr = false → ∀ k, k < ct → 1 ≤ FR k ∧ FR k ≤ 300) (hFI : ∀ k, k < 1505 → R32 (FI k)) (C : Cx pg mI cd cL_law 4 sT ar RL) (hl : ls.size = 4) (hro : (rest.map fun v => v.category).sum ≤ 8) (hcl : cells ≤ 500000) (hsl : slots ≤ 7000000) (h : Hx D g sT Aa H0 (wX0 ++ wMA g a mth mrw mrg mbd mnw mlc msz mas mak mkp mfa mte mta mlv (ct : Int) mgo man mgr mgg FI RO RW RK MK TX AQ KS KT KO EV DU SA NO OR AN FR SE GF GS IS) H locs)
    (kont : ∀ (u : Unit) (H1 : Heap) (locs1 : List Loc), True → Hx D g sT Aa H0 (wX0 ++ wMA g a 0 mrw mrg mbd mnw mlc msz mas mak mkp mfa mte mta mlv (ct : Int) mgo man mgr mgg FI RO RW RK MK TX AQ KS KT KO EV DU SA NO OR AN FR SE GF GS IS) H1 locs1 → W pg l evn room_1 sT mI ar bl mtd cd H1 locs1 cells slots qQ (F0 mI 267 ls ((some (.long (lI (fndM FR SE ct mgr MK FI i w))) : Option Value).toList ++ rest))) : W pg l evn room_1 sT mI ar bl mtd cd H locs cells slots qQ (F0 mI 264 ls (.int (iI w) :: .int (iI i) :: .ref (a 0) :: rest)) := by
  have hmem : (a 0, oM a mth mrw mrg mbd mnw mlc msz man mas mak mkp mfa mte mta mlv (ct : Int) mgr mgo mgg) ∈ wX0 ++ wMA g a mth mrw mrg mbd mnw mlc msz mas mak mkp mfa mte mta mlv (ct : Int) mgo man mgr mgg FI RO RW RK MK TX AQ KS KT KO EV DU SA NO OR AN FR SE GF GS IS := List.mem_append_right _ (.head _)
  refine r_invV (As := [.int (iI i), .int (iI w)]) (rest := rest) (wr := wX0 ++ [(a 2, cI g 100 RO), (a 3, cI g 100 RW), (a 4, cI g 100 RK), (a 6, cI g 200 TX), (a 7, cI g 200 AQ), (a 8, cI g 20 KS), (a 9, cI g 4000 KT), (a 10, cI g 20 KO), (a 11, cJ g 20 EV), (a 12, cJ g 20 DU), (a 13, cI g 20 SA), (a 14, cI g 22 NO), (a 15, cZ g 22 OR), (a 16, cZ g 22 AN), (a 19, cI g 300 GF), (a 20, cI g 300 GS), (a 21, cZ g 301 IS)]) (ws2 := fun u => wX0 ++ wMA g a 0 mrw mrg mbd mnw mlc msz mas mak mkp mfa mte mta mlv (ct : Int) mgo man mgr mgg FI RO RW RK MK TX AQ KS KT KO EV DU SA NO OR AN FR SE GF GS IS) cells slots C h hl (c_X8_found l D g a mth mrw mrg mbd mnw mlc msz mas mak mkp mfa mte mta mlv mgo man mgr mgg ct FR SE MK FI i w hi hw hc hF hG hFI) (csL_34 C ⟨(Nat.le_of_ble_eq_true rfl), (Nat.le_of_ble_eq_true rfl)⟩) hmem rfl rfl rfl hro ?_ ?_ ?_ (Nat.le_refl _) (Nat.le_refl _) dL_law_264 (fun u H1 locs1 hu hz h => ?_)
  · exact pmL_found wX0 _ _ _ _ _ _ _ _ _ _ _ _ _ _ _ _ _ _ _ _ _ _
  · exact fun u => (pmL_found wX0 _ _ _ _ _ _ _ _ _ _ _ _ _ _ _ _ _ _ _ _ _ _).symm
  · exact ⟨by show cells + 0 ≤ 600000; omega, by show slots + 0 ≤ 7302250; omega⟩
  · exact kont u H1 locs1 hu h

theorem pmL_page (X : va_W) (q0 q1 q2 q3 q4 q5 q6 q7 q8 q9 q10 q11 q12 q13 q14 q15 q16 q17 q18 q19 q20 q21 : Nat × va_E) : (X ++ [q0, q1, q2, q3, q4, q5, q6, q7, q8, q9, q10, q11, q12, q13, q14, q15, q16, q17, q18, q19, q20, q21]).Perm ([q0, q5, q7, q14, q2, q3, q4, q1, q15, q16, q21, q19, q20] ++ (X ++ [q6, q8, q9, q10, q11, q12, q13, q17, q18])) := pm fun cp_q => by
  simp only [cp_o, List.countP_append, List.countP_nil]
  generalize List.countP cp_q (wOne q0) = n0
  generalize List.countP cp_q (wOne q1) = n1
  generalize List.countP cp_q (wOne q2) = n2
  generalize List.countP cp_q (wOne q3) = n3
  generalize List.countP cp_q (wOne q4) = n4
  generalize List.countP cp_q (wOne q5) = n5
  generalize List.countP cp_q (wOne q6) = n6
  generalize List.countP cp_q (wOne q7) = n7
  generalize List.countP cp_q (wOne q8) = n8
  generalize List.countP cp_q (wOne q9) = n9
  generalize List.countP cp_q (wOne q10) = n10
  generalize List.countP cp_q (wOne q11) = n11
  generalize List.countP cp_q (wOne q12) = n12
  generalize List.countP cp_q (wOne q13) = n13
  generalize List.countP cp_q (wOne q14) = n14
  generalize List.countP cp_q (wOne q15) = n15
  generalize List.countP cp_q (wOne q16) = n16
  generalize List.countP cp_q (wOne q17) = n17
  generalize List.countP cp_q (wOne q18) = n18
  generalize List.countP cp_q (wOne q19) = n19
  generalize List.countP cp_q (wOne q20) = n20
  generalize List.countP cp_q (wOne q21) = n21
  generalize List.countP cp_q X = nX
  omega
set_option maxHeartbeats 4000000 in
set_option maxRecDepth 100000 in
theorem LM_page {pg : Program} {l : Launch} {evn : Env} {sT : State} {mI : MethodId} {bl : List Frame} {mtd : Method} {cd : Code} {H H0 : Heap} {locs : List Loc} {cells slots : Nat} {qQ : State → Prop} {ls : Array Slot} {rest : List Value} {D : va_G} {g : Nat → ClassId} {Aa : Nat → Prop} {ar : Array Value} {wX0 : va_W} {a : Nat → Nat} {mth mbd mnw mlc msz mak mkp mfa mte mta mlv mct mgo : Int} {man mgr mgg : Bool} {n : Nat} {rg : Nat} {ak : Nat} {MK : Nat → Bool} {AQ : Nat → Int} {NO : Nat → Int} {RO : Nat → Int} {RW : Nat → Int} {RK : Nat → Int} {FI : Nat → Int} {OR : Nat → Bool} {AN : Nat → Bool} {IS : Nat → Bool} {GF : Nat → Int} {GS : Nat → Int} {TX : Nat → Int} {KS : Nat → Int} {KT : Nat → Int} {KO : Nat → Int} {EV : Nat → Int} {DU : Nat → Int} {SA : Nat → Int} {FR : Nat → Int} {SE : Nat → Int} (nn mo ii : Int) (r : RS) (h0 : R32 nn ∧ R64 mo ∧ R32 ii) (hn : n ≤ 300) (hak : ak ≤ 200) (hAQ : ∀ k, k < ak → R32 (AQ k)) (hmak : R32 mak) (hM5 : ∀ i, 5 ≤ i → MK i = false) (hQ : man = true → ∃ v, rFF noM AQ ak (rBegin r) (-1, v)) (hg : rg ≤ 100) (hRR : ∀ k, k < rg → R32 (RO k) ∧ R32 (RW k) ∧ R32 (RK k)) (hFI : ∀ k, k < 1505 → R32 (FI k)) (hfg : R32 r.fg) (C : Cx pg mI cd cL_law 4 sT ar RL) (hl : ls.size = 4) (hro : (rest.map fun v => v.category).sum ≤ 8) (hcl : cells ≤ 500000) (hsl : slots ≤ 7000000) (h : Hx D g sT Aa H0 (wX0 ++ wMA g a mth (n : Int) (rg : Int) mbd mnw mlc msz (ak : Int) mak mkp mfa mte mta mlv mct mgo man mgr mgg FI RO RW RK MK TX AQ KS KT KO EV DU SA NO OR AN FR SE GF GS IS) H locs)
    (kont : ∀ (u : Int × SM) (H1 : Heap) (locs1 : List Loc), pageM n man AQ ak FI RO RW RK rg mak r nn mo ii u.1 → Hx D g sT Aa H0 (wX0 ++ wMA g a 0 (n : Int) (rg : Int) mbd mnw mlc msz (ak : Int) mak mkp u.2.1 u.2.2.1 u.2.2.2.1 u.2.2.2.2.1 mct u.2.2.2.2.2.1 man mgr u.2.2.2.2.2.2.1 FI RO RW RK MK TX AQ KS KT KO EV DU SA u.2.2.2.2.2.2.2.1 u.2.2.2.2.2.2.2.2.1 u.2.2.2.2.2.2.2.2.2.1 FR SE u.2.2.2.2.2.2.2.2.2.2.2.1 u.2.2.2.2.2.2.2.2.2.2.2.2 u.2.2.2.2.2.2.2.2.2.2.1) H1 locs1 → W pg l evn room_1 sT mI ar bl mtd cd H1 locs1 cells slots qQ (F0 mI 341 ls ((some (.int (iI u.1)) : Option Value).toList ++ rest))) : W pg l evn room_1 sT mI ar bl mtd cd H locs cells slots qQ (F0 mI 338 ls (.int (iI ii) :: .long (lI mo) :: .int (iI nn) :: .ref (a 0) :: rest)) := by
  have hmem : (a 0, oM a mth (n : Int) (rg : Int) mbd mnw mlc msz man (ak : Int) mak mkp mfa mte mta mlv mct mgr mgo mgg) ∈ wX0 ++ wMA g a mth (n : Int) (rg : Int) mbd mnw mlc msz (ak : Int) mak mkp mfa mte mta mlv mct mgo man mgr mgg FI RO RW RK MK TX AQ KS KT KO EV DU SA NO OR AN FR SE GF GS IS := List.mem_append_right _ (.head _)
  refine r_invV (As := [.int (iI nn), .long (lI mo), .int (iI ii)]) (rest := rest) (wr := wX0 ++ [(a 6, cI g 200 TX), (a 8, cI g 20 KS), (a 9, cI g 4000 KT), (a 10, cI g 20 KO), (a 11, cJ g 20 EV), (a 12, cJ g 20 DU), (a 13, cI g 20 SA), (a 17, cI g 300 FR), (a 18, cI g 300 SE)]) (ws2 := fun u => wX0 ++ wMA g a 0 (n : Int) (rg : Int) mbd mnw mlc msz (ak : Int) mak mkp u.2.1 u.2.2.1 u.2.2.2.1 u.2.2.2.2.1 mct u.2.2.2.2.2.1 man mgr u.2.2.2.2.2.2.1 FI RO RW RK MK TX AQ KS KT KO EV DU SA u.2.2.2.2.2.2.2.1 u.2.2.2.2.2.2.2.2.1 u.2.2.2.2.2.2.2.2.2.1 FR SE u.2.2.2.2.2.2.2.2.2.2.2.1 u.2.2.2.2.2.2.2.2.2.2.2.2 u.2.2.2.2.2.2.2.2.2.2.1) cells slots C h hl (c_X8_page l D g a mth mbd mnw mlc msz mak mkp mfa mte mta mlv mct mgo man mgr mgg n rg ak MK AQ NO RO RW RK FI OR AN IS GF GS nn mo ii r h0 hn hak hAQ hmak hM5 hQ hg hRR hFI hfg) (csL_39 C ⟨(Nat.le_of_ble_eq_true rfl), (Nat.le_of_ble_eq_true rfl)⟩) hmem rfl rfl rfl hro ?_ ?_ ?_ (Nat.le_refl _) (Nat.le_refl _) dL_law_338 (fun u H1 locs1 hu hz h => ?_)
  · exact pmL_page wX0 _ _ _ _ _ _ _ _ _ _ _ _ _ _ _ _ _ _ _ _ _ _
  · exact fun u => (pmL_page wX0 _ _ _ _ _ _ _ _ _ _ _ _ _ _ _ _ _ _ _ _ _ _).symm
  · exact ⟨by show cells + 0 ≤ 600000; omega, by show slots + 0 ≤ 7302250; omega⟩
  · exact kont u H1 locs1 hu h

theorem pmL_right (X : va_W) (q0 q1 q2 q3 q4 q5 q6 q7 q8 q9 q10 q11 q12 q13 q14 q15 q16 q17 q18 q19 q20 q21 : Nat × va_E) : (X ++ [q0, q1, q2, q3, q4, q5, q6, q7, q8, q9, q10, q11, q12, q13, q14, q15, q16, q17, q18, q19, q20, q21]).Perm ([q0, q2, q3, q4] ++ (X ++ [q1, q5, q6, q7, q8, q9, q10, q11, q12, q13, q14, q15, q16, q17, q18, q19, q20, q21])) := pm fun cp_q => by
  simp only [cp_o, List.countP_append, List.countP_nil]
  generalize List.countP cp_q (wOne q0) = n0
  generalize List.countP cp_q (wOne q1) = n1
  generalize List.countP cp_q (wOne q2) = n2
  generalize List.countP cp_q (wOne q3) = n3
  generalize List.countP cp_q (wOne q4) = n4
  generalize List.countP cp_q (wOne q5) = n5
  generalize List.countP cp_q (wOne q6) = n6
  generalize List.countP cp_q (wOne q7) = n7
  generalize List.countP cp_q (wOne q8) = n8
  generalize List.countP cp_q (wOne q9) = n9
  generalize List.countP cp_q (wOne q10) = n10
  generalize List.countP cp_q (wOne q11) = n11
  generalize List.countP cp_q (wOne q12) = n12
  generalize List.countP cp_q (wOne q13) = n13
  generalize List.countP cp_q (wOne q14) = n14
  generalize List.countP cp_q (wOne q15) = n15
  generalize List.countP cp_q (wOne q16) = n16
  generalize List.countP cp_q (wOne q17) = n17
  generalize List.countP cp_q (wOne q18) = n18
  generalize List.countP cp_q (wOne q19) = n19
  generalize List.countP cp_q (wOne q20) = n20
  generalize List.countP cp_q (wOne q21) = n21
  generalize List.countP cp_q X = nX
  omega
set_option maxHeartbeats 4000000 in
set_option maxRecDepth 100000 in
theorem LM_right {pg : Program} {l : Launch} {evn : Env} {sT : State} {mI : MethodId} {bl : List Frame} {mtd : Method} {cd : Code} {H H0 : Heap} {locs : List Loc} {cells slots : Nat} {qQ : State → Prop} {ls : Array Slot} {rest : List Value} {D : va_G} {g : Nat → ClassId} {Aa : Nat → Prop} {ar : Array Value} {wX0 : va_W} {a : Nat → Nat} {mth mrw mbd mnw mlc msz mas mak mkp mfa mte mta mlv mct mgo : Int} {man mgr mgg : Bool} {rg : Nat} {RO : Nat → Int} {RW : Nat → Int} {RK : Nat → Int} {FI : Nat → Int} {MK : Nat → Bool} {TX : Nat → Int} {AQ : Nat → Int} {KS : Nat → Int} {KT : Nat → Int} {KO : Nat → Int} {EV : Nat → Int} {DU : Nat → Int} {SA : Nat → Int} {NO : Nat → Int} {OR : Nat → Bool} {AN : Nat → Bool} {FR : Nat → Int} {SE : Nat → Int} {GF : Nat → Int} {GS : Nat → Int} {IS : Nat → Bool} (w o kd : Int) (h0 : R32 w ∧ R32 o ∧ R32 kd) (hg : rg ≤ 100) (hR : ∀ k, k < rg → R32 (RO k) ∧ R32 (RW k) ∧ R32 (RK k)) (C : Cx pg mI cd cL_law 4 sT ar RL) (hl : ls.size = 4) (hro : (rest.map fun v => v.category).sum ≤ 8) (hcl : cells ≤ 500000) (hsl : slots ≤ 7000000) (h : Hx D g sT Aa H0 (wX0 ++ wMA g a mth mrw (rg : Int) mbd mnw mlc msz mas mak mkp mfa mte mta mlv mct mgo man mgr mgg FI RO RW RK MK TX AQ KS KT KO EV DU SA NO OR AN FR SE GF GS IS) H locs)
    (kont : ∀ (u : Int × Nat × (Nat → Int) × (Nat → Int) × (Nat → Int)) (H1 : Heap) (locs1 : List Loc), rgtM RO RW RK rg w o kd u → Hx D g sT Aa H0 (wX0 ++ wMA g a 0 mrw (u.2.1 : Int) mbd mnw mlc msz mas mak mkp mfa mte mta mlv mct mgo man mgr mgg FI u.2.2.1 u.2.2.2.1 u.2.2.2.2 MK TX AQ KS KT KO EV DU SA NO OR AN FR SE GF GS IS) H1 locs1 → W pg l evn room_1 sT mI ar bl mtd cd H1 locs1 cells slots qQ (F0 mI 384 ls ((some (.int (iI u.1)) : Option Value).toList ++ rest))) : W pg l evn room_1 sT mI ar bl mtd cd H locs cells slots qQ (F0 mI 381 ls (.int (iI kd) :: .int (iI o) :: .int (iI w) :: .ref (a 0) :: rest)) := by
  have hmem : (a 0, oM a mth mrw (rg : Int) mbd mnw mlc msz man mas mak mkp mfa mte mta mlv mct mgr mgo mgg) ∈ wX0 ++ wMA g a mth mrw (rg : Int) mbd mnw mlc msz mas mak mkp mfa mte mta mlv mct mgo man mgr mgg FI RO RW RK MK TX AQ KS KT KO EV DU SA NO OR AN FR SE GF GS IS := List.mem_append_right _ (.head _)
  refine r_invV (As := [.int (iI w), .int (iI o), .int (iI kd)]) (rest := rest) (wr := wX0 ++ [(a 1, cI g 1505 FI), (a 5, cZ g 5 MK), (a 6, cI g 200 TX), (a 7, cI g 200 AQ), (a 8, cI g 20 KS), (a 9, cI g 4000 KT), (a 10, cI g 20 KO), (a 11, cJ g 20 EV), (a 12, cJ g 20 DU), (a 13, cI g 20 SA), (a 14, cI g 22 NO), (a 15, cZ g 22 OR), (a 16, cZ g 22 AN), (a 17, cI g 300 FR), (a 18, cI g 300 SE), (a 19, cI g 300 GF), (a 20, cI g 300 GS), (a 21, cZ g 301 IS)]) (ws2 := fun u => wX0 ++ wMA g a 0 mrw (u.2.1 : Int) mbd mnw mlc msz mas mak mkp mfa mte mta mlv mct mgo man mgr mgg FI u.2.2.1 u.2.2.2.1 u.2.2.2.2 MK TX AQ KS KT KO EV DU SA NO OR AN FR SE GF GS IS) cells slots C h hl (c_X8_right l D g a mth mrw mbd mnw mlc msz mas mak mkp mfa mte mta mlv mct mgo man mgr mgg rg RO RW RK w o kd h0 hg hR) (csL_44 C ⟨(Nat.le_of_ble_eq_true rfl), (Nat.le_of_ble_eq_true rfl)⟩) hmem rfl rfl rfl hro ?_ ?_ ?_ (Nat.le_refl _) (Nat.le_refl _) dL_law_381 (fun u H1 locs1 hu hz h => ?_)
  · exact pmL_right wX0 _ _ _ _ _ _ _ _ _ _ _ _ _ _ _ _ _ _ _ _ _ _
  · exact fun u => (pmL_right wX0 _ _ _ _ _ _ _ _ _ _ _ _ _ _ _ _ _ _ _ _ _ _).symm
  · exact ⟨by show cells + 0 ≤ 600000; omega, by show slots + 0 ≤ 7302250; omega⟩
  · exact kont u H1 locs1 hu h

theorem pmL_masked (X : va_W) (q0 q1 q2 q3 q4 q5 q6 q7 q8 q9 q10 q11 q12 q13 q14 q15 q16 q17 q18 q19 q20 q21 : Nat × va_E) : (X ++ [q0, q1, q2, q3, q4, q5, q6, q7, q8, q9, q10, q11, q12, q13, q14, q15, q16, q17, q18, q19, q20, q21]).Perm ([q0, q5] ++ (X ++ [q1, q2, q3, q4, q6, q7, q8, q9, q10, q11, q12, q13, q14, q15, q16, q17, q18, q19, q20, q21])) := pm fun cp_q => by
  simp only [cp_o, List.countP_append, List.countP_nil]
  generalize List.countP cp_q (wOne q0) = n0
  generalize List.countP cp_q (wOne q1) = n1
  generalize List.countP cp_q (wOne q2) = n2
  generalize List.countP cp_q (wOne q3) = n3
  generalize List.countP cp_q (wOne q4) = n4
  generalize List.countP cp_q (wOne q5) = n5
  generalize List.countP cp_q (wOne q6) = n6
  generalize List.countP cp_q (wOne q7) = n7
  generalize List.countP cp_q (wOne q8) = n8
  generalize List.countP cp_q (wOne q9) = n9
  generalize List.countP cp_q (wOne q10) = n10
  generalize List.countP cp_q (wOne q11) = n11
  generalize List.countP cp_q (wOne q12) = n12
  generalize List.countP cp_q (wOne q13) = n13
  generalize List.countP cp_q (wOne q14) = n14
  generalize List.countP cp_q (wOne q15) = n15
  generalize List.countP cp_q (wOne q16) = n16
  generalize List.countP cp_q (wOne q17) = n17
  generalize List.countP cp_q (wOne q18) = n18
  generalize List.countP cp_q (wOne q19) = n19
  generalize List.countP cp_q (wOne q20) = n20
  generalize List.countP cp_q (wOne q21) = n21
  generalize List.countP cp_q X = nX
  omega
set_option maxHeartbeats 4000000 in
set_option maxRecDepth 100000 in
theorem LM_masked {pg : Program} {l : Launch} {evn : Env} {sT : State} {mI : MethodId} {bl : List Frame} {mtd : Method} {cd : Code} {H H0 : Heap} {locs : List Loc} {cells slots : Nat} {qQ : State → Prop} {ls : Array Slot} {rest : List Value} {D : va_G} {g : Nat → ClassId} {Aa : Nat → Prop} {ar : Array Value} {wX0 : va_W} {a : Nat → Nat} {mth mrw mrg mbd mnw mlc msz mas mak mkp mfa mte mta mlv mct mgo : Int} {man mgr mgg : Bool} {MK : Nat → Bool} {FI : Nat → Int} {RO : Nat → Int} {RW : Nat → Int} {RK : Nat → Int} {TX : Nat → Int} {AQ : Nat → Int} {KS : Nat → Int} {KT : Nat → Int} {KO : Nat → Int} {EV : Nat → Int} {DU : Nat → Int} {SA : Nat → Int} {NO : Nat → Int} {OR : Nat → Bool} {AN : Nat → Bool} {FR : Nat → Int} {SE : Nat → Int} {GF : Nat → Int} {GS : Nat → Int} {IS : Nat → Bool} (f : Int) (b : Bool) (hf : R32 f) (C : Cx pg mI cd cL_law 4 sT ar RL) (hl : ls.size = 4) (hro : (rest.map fun v => v.category).sum ≤ 8) (hcl : cells ≤ 500000) (hsl : slots ≤ 7000000) (h : Hx D g sT Aa H0 (wX0 ++ wMA g a mth mrw mrg mbd mnw mlc msz mas mak mkp mfa mte mta mlv mct mgo man mgr mgg FI RO RW RK MK TX AQ KS KT KO EV DU SA NO OR AN FR SE GF GS IS) H locs)
    (kont : ∀ (u : Int × (Nat → Bool)) (H1 : Heap) (locs1 : List Loc), u = maskX MK f b → Hx D g sT Aa H0 (wX0 ++ wMA g a 0 mrw mrg mbd mnw mlc msz mas mak mkp mfa mte mta mlv mct mgo man mgr mgg FI RO RW RK u.2 TX AQ KS KT KO EV DU SA NO OR AN FR SE GF GS IS) H1 locs1 → W pg l evn room_1 sT mI ar bl mtd cd H1 locs1 cells slots qQ (F0 mI 433 ls ((some (.int (iI u.1)) : Option Value).toList ++ rest))) : W pg l evn room_1 sT mI ar bl mtd cd H locs cells slots qQ (F0 mI 430 ls (.int (bI b) :: .int (iI f) :: .ref (a 0) :: rest)) := by
  have hmem : (a 0, oM a mth mrw mrg mbd mnw mlc msz man mas mak mkp mfa mte mta mlv mct mgr mgo mgg) ∈ wX0 ++ wMA g a mth mrw mrg mbd mnw mlc msz mas mak mkp mfa mte mta mlv mct mgo man mgr mgg FI RO RW RK MK TX AQ KS KT KO EV DU SA NO OR AN FR SE GF GS IS := List.mem_append_right _ (.head _)
  refine r_invV (As := [.int (iI f), .int (bI b)]) (rest := rest) (wr := wX0 ++ [(a 1, cI g 1505 FI), (a 2, cI g 100 RO), (a 3, cI g 100 RW), (a 4, cI g 100 RK), (a 6, cI g 200 TX), (a 7, cI g 200 AQ), (a 8, cI g 20 KS), (a 9, cI g 4000 KT), (a 10, cI g 20 KO), (a 11, cJ g 20 EV), (a 12, cJ g 20 DU), (a 13, cI g 20 SA), (a 14, cI g 22 NO), (a 15, cZ g 22 OR), (a 16, cZ g 22 AN), (a 17, cI g 300 FR), (a 18, cI g 300 SE), (a 19, cI g 300 GF), (a 20, cI g 300 GS), (a 21, cZ g 301 IS)]) (ws2 := fun u => wX0 ++ wMA g a 0 mrw mrg mbd mnw mlc msz mas mak mkp mfa mte mta mlv mct mgo man mgr mgg FI RO RW RK u.2 TX AQ KS KT KO EV DU SA NO OR AN FR SE GF GS IS) cells slots C h hl (c_X8_masked l D g a mth mrw mrg mbd mnw mlc msz mas mak mkp mfa mte mta mlv mct mgo man mgr mgg MK f b hf) (csL_49 C ⟨(Nat.le_of_ble_eq_true rfl), (Nat.le_of_ble_eq_true rfl)⟩) hmem rfl rfl rfl hro ?_ ?_ ?_ (Nat.le_refl _) (Nat.le_refl _) dL_law_430 (fun u H1 locs1 hu hz h => ?_)
  · exact pmL_masked wX0 _ _ _ _ _ _ _ _ _ _ _ _ _ _ _ _ _ _ _ _ _ _
  · exact fun u => (pmL_masked wX0 _ _ _ _ _ _ _ _ _ _ _ _ _ _ _ _ _ _ _ _ _ _).symm
  · exact ⟨by show cells + 0 ≤ 600000; omega, by show slots + 0 ≤ 7302250; omega⟩
  · exact kont u H1 locs1 hu h

theorem pmL_cost (X : va_W) (q0 q1 q2 q3 q4 q5 q6 q7 q8 q9 q10 q11 q12 q13 q14 q15 q16 q17 q18 q19 q20 q21 : Nat × va_E) : (X ++ [q0, q1, q2, q3, q4, q5, q6, q7, q8, q9, q10, q11, q12, q13, q14, q15, q16, q17, q18, q19, q20, q21]).Perm ([q0] ++ (X ++ [q1, q2, q3, q4, q5, q6, q7, q8, q9, q10, q11, q12, q13, q14, q15, q16, q17, q18, q19, q20, q21])) := pm fun cp_q => by
  simp only [cp_o, List.countP_append, List.countP_nil]
  generalize List.countP cp_q (wOne q0) = n0
  generalize List.countP cp_q (wOne q1) = n1
  generalize List.countP cp_q (wOne q2) = n2
  generalize List.countP cp_q (wOne q3) = n3
  generalize List.countP cp_q (wOne q4) = n4
  generalize List.countP cp_q (wOne q5) = n5
  generalize List.countP cp_q (wOne q6) = n6
  generalize List.countP cp_q (wOne q7) = n7
  generalize List.countP cp_q (wOne q8) = n8
  generalize List.countP cp_q (wOne q9) = n9
  generalize List.countP cp_q (wOne q10) = n10
  generalize List.countP cp_q (wOne q11) = n11
  generalize List.countP cp_q (wOne q12) = n12
  generalize List.countP cp_q (wOne q13) = n13
  generalize List.countP cp_q (wOne q14) = n14
  generalize List.countP cp_q (wOne q15) = n15
  generalize List.countP cp_q (wOne q16) = n16
  generalize List.countP cp_q (wOne q17) = n17
  generalize List.countP cp_q (wOne q18) = n18
  generalize List.countP cp_q (wOne q19) = n19
  generalize List.countP cp_q (wOne q20) = n20
  generalize List.countP cp_q (wOne q21) = n21
  generalize List.countP cp_q X = nX
  omega
set_option maxHeartbeats 4000000 in
set_option maxRecDepth 100000 in
theorem LM_cost {pg : Program} {l : Launch} {evn : Env} {sT : State} {mI : MethodId} {bl : List Frame} {mtd : Method} {cd : Code} {H H0 : Heap} {locs : List Loc} {cells slots : Nat} {qQ : State → Prop} {ls : Array Slot} {rest : List Value} {D : va_G} {g : Nat → ClassId} {Aa : Nat → Prop} {ar : Array Value} {wX0 : va_W} {a : Nat → Nat} {mth mrw mrg mbd mnw mlc msz mas mak mkp mfa mte mta mlv mct mgo : Int} {man mgr mgg : Bool} {FI : Nat → Int} {RO : Nat → Int} {RW : Nat → Int} {RK : Nat → Int} {MK : Nat → Bool} {TX : Nat → Int} {AQ : Nat → Int} {KS : Nat → Int} {KT : Nat → Int} {KO : Nat → Int} {EV : Nat → Int} {DU : Nat → Int} {SA : Nat → Int} {NO : Nat → Int} {OR : Nat → Bool} {AN : Nat → Bool} {FR : Nat → Int} {SE : Nat → Int} {GF : Nat → Int} {GS : Nat → Int} {IS : Nat → Bool}  (C : Cx pg mI cd cL_law 4 sT ar RL) (hl : ls.size = 4) (hro : (rest.map fun v => v.category).sum ≤ 8) (hcl : cells ≤ 500000) (hsl : slots ≤ 7000000) (h : Hx D g sT Aa H0 (wX0 ++ wMA g a mth mrw mrg mbd mnw mlc msz mas mak mkp mfa mte mta mlv mct mgo man mgr mgg FI RO RW RK MK TX AQ KS KT KO EV DU SA NO OR AN FR SE GF GS IS) H locs)
    (kont : ∀ (u : Unit) (H1 : Heap) (locs1 : List Loc), True → Hx D g sT Aa H0 (wX0 ++ wMA g a 0 mrw mrg mbd mnw mlc msz mas mak mkp mfa mte mta mlv mct mgo man mgr mgg FI RO RW RK MK TX AQ KS KT KO EV DU SA NO OR AN FR SE GF GS IS) H1 locs1 → W pg l evn room_1 sT mI ar bl mtd cd H1 locs1 cells slots qQ (F0 mI 446 ls ((some (.long (lI mlc)) : Option Value).toList ++ rest))) : W pg l evn room_1 sT mI ar bl mtd cd H locs cells slots qQ (F0 mI 443 ls (.ref (a 0) :: rest)) := by
  have hmem : (a 0, oM a mth mrw mrg mbd mnw mlc msz man mas mak mkp mfa mte mta mlv mct mgr mgo mgg) ∈ wX0 ++ wMA g a mth mrw mrg mbd mnw mlc msz mas mak mkp mfa mte mta mlv mct mgo man mgr mgg FI RO RW RK MK TX AQ KS KT KO EV DU SA NO OR AN FR SE GF GS IS := List.mem_append_right _ (.head _)
  refine r_invV (As := []) (rest := rest) (wr := wX0 ++ [(a 1, cI g 1505 FI), (a 2, cI g 100 RO), (a 3, cI g 100 RW), (a 4, cI g 100 RK), (a 5, cZ g 5 MK), (a 6, cI g 200 TX), (a 7, cI g 200 AQ), (a 8, cI g 20 KS), (a 9, cI g 4000 KT), (a 10, cI g 20 KO), (a 11, cJ g 20 EV), (a 12, cJ g 20 DU), (a 13, cI g 20 SA), (a 14, cI g 22 NO), (a 15, cZ g 22 OR), (a 16, cZ g 22 AN), (a 17, cI g 300 FR), (a 18, cI g 300 SE), (a 19, cI g 300 GF), (a 20, cI g 300 GS), (a 21, cZ g 301 IS)]) (ws2 := fun u => wX0 ++ wMA g a 0 mrw mrg mbd mnw mlc msz mas mak mkp mfa mte mta mlv mct mgo man mgr mgg FI RO RW RK MK TX AQ KS KT KO EV DU SA NO OR AN FR SE GF GS IS) cells slots C h hl (c_X8_cost l D g a mth mrw mrg mbd mnw mlc msz mas mak mkp mfa mte mta mlv mct mgo man mgr mgg) (csL_54 C ⟨(Nat.le_of_ble_eq_true rfl), (Nat.le_of_ble_eq_true rfl)⟩) hmem rfl rfl rfl hro ?_ ?_ ?_ (Nat.le_refl _) (Nat.le_refl _) dL_law_443 (fun u H1 locs1 hu hz h => ?_)
  · exact pmL_cost wX0 _ _ _ _ _ _ _ _ _ _ _ _ _ _ _ _ _ _ _ _ _ _
  · exact fun u => (pmL_cost wX0 _ _ _ _ _ _ _ _ _ _ _ _ _ _ _ _ _ _ _ _ _ _).symm
  · exact ⟨by show cells + 0 ≤ 600000; omega, by show slots + 0 ≤ 7302250; omega⟩
  · exact kont u H1 locs1 hu h

theorem pmL_bound (X : va_W) (q0 q1 q2 q3 q4 q5 q6 q7 q8 q9 q10 q11 q12 q13 q14 q15 q16 q17 q18 q19 q20 q21 : Nat × va_E) : (X ++ [q0, q1, q2, q3, q4, q5, q6, q7, q8, q9, q10, q11, q12, q13, q14, q15, q16, q17, q18, q19, q20, q21]).Perm ([q0] ++ (X ++ [q1, q2, q3, q4, q5, q6, q7, q8, q9, q10, q11, q12, q13, q14, q15, q16, q17, q18, q19, q20, q21])) := pm fun cp_q => by
  simp only [cp_o, List.countP_append, List.countP_nil]
  generalize List.countP cp_q (wOne q0) = n0
  generalize List.countP cp_q (wOne q1) = n1
  generalize List.countP cp_q (wOne q2) = n2
  generalize List.countP cp_q (wOne q3) = n3
  generalize List.countP cp_q (wOne q4) = n4
  generalize List.countP cp_q (wOne q5) = n5
  generalize List.countP cp_q (wOne q6) = n6
  generalize List.countP cp_q (wOne q7) = n7
  generalize List.countP cp_q (wOne q8) = n8
  generalize List.countP cp_q (wOne q9) = n9
  generalize List.countP cp_q (wOne q10) = n10
  generalize List.countP cp_q (wOne q11) = n11
  generalize List.countP cp_q (wOne q12) = n12
  generalize List.countP cp_q (wOne q13) = n13
  generalize List.countP cp_q (wOne q14) = n14
  generalize List.countP cp_q (wOne q15) = n15
  generalize List.countP cp_q (wOne q16) = n16
  generalize List.countP cp_q (wOne q17) = n17
  generalize List.countP cp_q (wOne q18) = n18
  generalize List.countP cp_q (wOne q19) = n19
  generalize List.countP cp_q (wOne q20) = n20
  generalize List.countP cp_q (wOne q21) = n21
  generalize List.countP cp_q X = nX
  omega
set_option maxHeartbeats 4000000 in
set_option maxRecDepth 100000 in
theorem LM_bound {pg : Program} {l : Launch} {evn : Env} {sT : State} {mI : MethodId} {bl : List Frame} {mtd : Method} {cd : Code} {H H0 : Heap} {locs : List Loc} {cells slots : Nat} {qQ : State → Prop} {ls : Array Slot} {rest : List Value} {D : va_G} {g : Nat → ClassId} {Aa : Nat → Prop} {ar : Array Value} {wX0 : va_W} {a : Nat → Nat} {mth mrw mrg mbd mnw mlc msz mas mak mkp mfa mte mta mlv mct mgo : Int} {man mgr mgg : Bool} {FI : Nat → Int} {RO : Nat → Int} {RW : Nat → Int} {RK : Nat → Int} {MK : Nat → Bool} {TX : Nat → Int} {AQ : Nat → Int} {KS : Nat → Int} {KT : Nat → Int} {KO : Nat → Int} {EV : Nat → Int} {DU : Nat → Int} {SA : Nat → Int} {NO : Nat → Int} {OR : Nat → Bool} {AN : Nat → Bool} {FR : Nat → Int} {SE : Nat → Int} {GF : Nat → Int} {GS : Nat → Int} {IS : Nat → Bool} (z : Int) (hz : R64 z) (C : Cx pg mI cd cL_law 4 sT ar RL) (hl : ls.size = 4) (hro : (rest.map fun v => v.category).sum ≤ 8) (hcl : cells ≤ 500000) (hsl : slots ≤ 7000000) (h : Hx D g sT Aa H0 (wX0 ++ wMA g a mth mrw mrg mbd mnw mlc msz mas mak mkp mfa mte mta mlv mct mgo man mgr mgg FI RO RW RK MK TX AQ KS KT KO EV DU SA NO OR AN FR SE GF GS IS) H locs)
    (kont : ∀ (u : Int × Int) (H1 : Heap) (locs1 : List Loc), u = boundX mbd z → Hx D g sT Aa H0 (wX0 ++ wMA g a 0 mrw mrg u.2 mnw mlc msz mas mak mkp mfa mte mta mlv mct mgo man mgr mgg FI RO RW RK MK TX AQ KS KT KO EV DU SA NO OR AN FR SE GF GS IS) H1 locs1 → W pg l evn room_1 sT mI ar bl mtd cd H1 locs1 cells slots qQ (F0 mI 500 ls ((some (.int (iI u.1)) : Option Value).toList ++ rest))) : W pg l evn room_1 sT mI ar bl mtd cd H locs cells slots qQ (F0 mI 497 ls (.long (lI z) :: .ref (a 0) :: rest)) := by
  have hmem : (a 0, oM a mth mrw mrg mbd mnw mlc msz man mas mak mkp mfa mte mta mlv mct mgr mgo mgg) ∈ wX0 ++ wMA g a mth mrw mrg mbd mnw mlc msz mas mak mkp mfa mte mta mlv mct mgo man mgr mgg FI RO RW RK MK TX AQ KS KT KO EV DU SA NO OR AN FR SE GF GS IS := List.mem_append_right _ (.head _)
  refine r_invV (As := [.long (lI z)]) (rest := rest) (wr := wX0 ++ [(a 1, cI g 1505 FI), (a 2, cI g 100 RO), (a 3, cI g 100 RW), (a 4, cI g 100 RK), (a 5, cZ g 5 MK), (a 6, cI g 200 TX), (a 7, cI g 200 AQ), (a 8, cI g 20 KS), (a 9, cI g 4000 KT), (a 10, cI g 20 KO), (a 11, cJ g 20 EV), (a 12, cJ g 20 DU), (a 13, cI g 20 SA), (a 14, cI g 22 NO), (a 15, cZ g 22 OR), (a 16, cZ g 22 AN), (a 17, cI g 300 FR), (a 18, cI g 300 SE), (a 19, cI g 300 GF), (a 20, cI g 300 GS), (a 21, cZ g 301 IS)]) (ws2 := fun u => wX0 ++ wMA g a 0 mrw mrg u.2 mnw mlc msz mas mak mkp mfa mte mta mlv mct mgo man mgr mgg FI RO RW RK MK TX AQ KS KT KO EV DU SA NO OR AN FR SE GF GS IS) cells slots C h hl (c_X8_bound l D g a mth mrw mrg mbd mnw mlc msz mas mak mkp mfa mte mta mlv mct mgo man mgr mgg z hz) (csL_59 C ⟨(Nat.le_of_ble_eq_true rfl), (Nat.le_of_ble_eq_true rfl)⟩) hmem rfl rfl rfl hro ?_ ?_ ?_ (Nat.le_refl _) (Nat.le_refl _) dL_law_497 (fun u H1 locs1 hu hz h => ?_)
  · exact pmL_bound wX0 _ _ _ _ _ _ _ _ _ _ _ _ _ _ _ _ _ _ _ _ _ _
  · exact fun u => (pmL_bound wX0 _ _ _ _ _ _ _ _ _ _ _ _ _ _ _ _ _ _ _ _ _ _).symm
  · exact ⟨by show cells + 0 ≤ 600000; omega, by show slots + 0 ≤ 7302250; omega⟩
  · exact kont u H1 locs1 hu h

theorem pmL_save (X : va_W) (q0 q1 q2 q3 q4 q5 q6 q7 q8 q9 q10 q11 q12 q13 q14 q15 q16 q17 q18 q19 q20 q21 : Nat × va_E) : (X ++ [q0, q1, q2, q3, q4, q5, q6, q7, q8, q9, q10, q11, q12, q13, q14, q15, q16, q17, q18, q19, q20, q21]).Perm ([q0, q6, q14, q5, q9, q8, q10, q11, q12, q13] ++ (X ++ [q1, q2, q3, q4, q7, q15, q16, q17, q18, q19, q20, q21])) := pm fun cp_q => by
  simp only [cp_o, List.countP_append, List.countP_nil]
  generalize List.countP cp_q (wOne q0) = n0
  generalize List.countP cp_q (wOne q1) = n1
  generalize List.countP cp_q (wOne q2) = n2
  generalize List.countP cp_q (wOne q3) = n3
  generalize List.countP cp_q (wOne q4) = n4
  generalize List.countP cp_q (wOne q5) = n5
  generalize List.countP cp_q (wOne q6) = n6
  generalize List.countP cp_q (wOne q7) = n7
  generalize List.countP cp_q (wOne q8) = n8
  generalize List.countP cp_q (wOne q9) = n9
  generalize List.countP cp_q (wOne q10) = n10
  generalize List.countP cp_q (wOne q11) = n11
  generalize List.countP cp_q (wOne q12) = n12
  generalize List.countP cp_q (wOne q13) = n13
  generalize List.countP cp_q (wOne q14) = n14
  generalize List.countP cp_q (wOne q15) = n15
  generalize List.countP cp_q (wOne q16) = n16
  generalize List.countP cp_q (wOne q17) = n17
  generalize List.countP cp_q (wOne q18) = n18
  generalize List.countP cp_q (wOne q19) = n19
  generalize List.countP cp_q (wOne q20) = n20
  generalize List.countP cp_q (wOne q21) = n21
  generalize List.countP cp_q X = nX
  omega
set_option maxHeartbeats 4000000 in
set_option maxRecDepth 100000 in
theorem LM_save {pg : Program} {l : Launch} {evn : Env} {sT : State} {mI : MethodId} {bl : List Frame} {mtd : Method} {cd : Code} {H H0 : Heap} {locs : List Loc} {cells slots : Nat} {qQ : State → Prop} {ls : Array Slot} {rest : List Value} {D : va_G} {g : Nat → ClassId} {Aa : Nat → Prop} {ar : Array Value} {wX0 : va_W} {a : Nat → Nat} {mth mrw mrg mbd mnw mlc mas mak mfa mte mta mlv mct mgo : Int} {man mgr mgg : Bool} {kp : Nat} {sg : Nat} {TX : Nat → Int} {NO : Nat → Int} {MK : Nat → Bool} {KT : Nat → Int} {KS : Nat → Int} {KO : Nat → Int} {EV : Nat → Int} {DU : Nat → Int} {SA : Nat → Int} {FI : Nat → Int} {RO : Nat → Int} {RW : Nat → Int} {RK : Nat → Int} {AQ : Nat → Int} {OR : Nat → Bool} {AN : Nat → Bool} {FR : Nat → Int} {SE : Nat → Int} {GF : Nat → Int} {GS : Nat → Int} {IS : Nat → Bool} (w z : Int) (r : RS) (hw : R32 w) (hz : R64 z) (hkp : kp ≤ 20) (hsg : sg ≤ 200) (hTX : ∀ k, k < sg → R32 (TX k)) (C : Cx pg mI cd cL_law 4 sT ar RL) (hl : ls.size = 4) (hro : (rest.map fun v => v.category).sum ≤ 8) (hcl : cells ≤ 500000) (hsl : slots ≤ 7000000) (h : Hx D g sT Aa H0 (wX0 ++ wMA g a mth mrw mrg mbd mnw mlc (sg : Int) mas mak (kp : Int) mfa mte mta mlv mct mgo man mgr mgg FI RO RW RK MK TX AQ KS KT KO EV DU SA NO OR AN FR SE GF GS IS) H locs)
    (kont : ∀ (u : Int × SVM × Int × Int × Int × Int × (Nat → Int)) (H1 : Heap) (locs1 : List Loc), saveM MK TX sg mnw w z r ((sg : Int), kp, KT, KS, KO, EV, DU, SA) u.1 u.2.1 → Hx D g sT Aa H0 (wX0 ++ wMA g a 0 mrw mrg mbd mnw mlc u.2.1.1 mas mak (u.2.1.2.1 : Int) u.2.2.1 u.2.2.2.1 u.2.2.2.2.1 u.2.2.2.2.2.1 mct mgo man mgr mgg FI RO RW RK MK TX AQ u.2.1.2.2.2.1 u.2.1.2.2.1 u.2.1.2.2.2.2.1 u.2.1.2.2.2.2.2.1 u.2.1.2.2.2.2.2.2.1 u.2.1.2.2.2.2.2.2.2 u.2.2.2.2.2.2 OR AN FR SE GF GS IS) H1 locs1 → W pg l evn room_1 sT mI ar bl mtd cd H1 locs1 cells slots qQ (F0 mI 563 ls ((some (.int (iI u.1)) : Option Value).toList ++ rest))) : W pg l evn room_1 sT mI ar bl mtd cd H locs cells slots qQ (F0 mI 560 ls (.long (lI z) :: .int (iI w) :: .ref (a 0) :: rest)) := by
  have hmem : (a 0, oM a mth mrw mrg mbd mnw mlc (sg : Int) man mas mak (kp : Int) mfa mte mta mlv mct mgr mgo mgg) ∈ wX0 ++ wMA g a mth mrw mrg mbd mnw mlc (sg : Int) mas mak (kp : Int) mfa mte mta mlv mct mgo man mgr mgg FI RO RW RK MK TX AQ KS KT KO EV DU SA NO OR AN FR SE GF GS IS := List.mem_append_right _ (.head _)
  refine r_invV (As := [.int (iI w), .long (lI z)]) (rest := rest) (wr := wX0 ++ [(a 1, cI g 1505 FI), (a 2, cI g 100 RO), (a 3, cI g 100 RW), (a 4, cI g 100 RK), (a 7, cI g 200 AQ), (a 15, cZ g 22 OR), (a 16, cZ g 22 AN), (a 17, cI g 300 FR), (a 18, cI g 300 SE), (a 19, cI g 300 GF), (a 20, cI g 300 GS), (a 21, cZ g 301 IS)]) (ws2 := fun u => wX0 ++ wMA g a 0 mrw mrg mbd mnw mlc u.2.1.1 mas mak (u.2.1.2.1 : Int) u.2.2.1 u.2.2.2.1 u.2.2.2.2.1 u.2.2.2.2.2.1 mct mgo man mgr mgg FI RO RW RK MK TX AQ u.2.1.2.2.2.1 u.2.1.2.2.1 u.2.1.2.2.2.2.1 u.2.1.2.2.2.2.2.1 u.2.1.2.2.2.2.2.2.1 u.2.1.2.2.2.2.2.2.2 u.2.2.2.2.2.2 OR AN FR SE GF GS IS) cells slots C h hl (c_X8_save l D g a mth mrw mrg mbd mnw mlc mas mak mfa mte mta mlv mct mgo man mgr mgg kp sg TX NO MK KT KS KO EV DU SA w z r hw hz hkp hsg hTX) (csL_64 C ⟨(Nat.le_of_ble_eq_true rfl), (Nat.le_of_ble_eq_true rfl)⟩) hmem rfl rfl rfl hro ?_ ?_ ?_ (Nat.le_refl _) (Nat.le_refl _) dL_law_560 (fun u H1 locs1 hu hz h => ?_)
  · exact pmL_save wX0 _ _ _ _ _ _ _ _ _ _ _ _ _ _ _ _ _ _ _ _ _ _
  · exact fun u => (pmL_save wX0 _ _ _ _ _ _ _ _ _ _ _ _ _ _ _ _ _ _ _ _ _ _).symm
  · exact ⟨by show cells + 0 ≤ 600000; omega, by show slots + 0 ≤ 7302250; omega⟩
  · exact kont u H1 locs1 hu h

theorem pmL_tick (X : va_W) (q0 q1 q2 q3 q4 q5 q6 q7 q8 q9 q10 q11 q12 q13 q14 q15 q16 q17 q18 q19 q20 q21 : Nat × va_E) : (X ++ [q0, q1, q2, q3, q4, q5, q6, q7, q8, q9, q10, q11, q12, q13, q14, q15, q16, q17, q18, q19, q20, q21]).Perm ([q0, q11, q12, q13, q9, q8, q10, q14, q5, q2, q3, q4, q1, q15, q16, q21, q19, q20] ++ (X ++ [q6, q7, q17, q18])) := pm fun cp_q => by
  simp only [cp_o, List.countP_append, List.countP_nil]
  generalize List.countP cp_q (wOne q0) = n0
  generalize List.countP cp_q (wOne q1) = n1
  generalize List.countP cp_q (wOne q2) = n2
  generalize List.countP cp_q (wOne q3) = n3
  generalize List.countP cp_q (wOne q4) = n4
  generalize List.countP cp_q (wOne q5) = n5
  generalize List.countP cp_q (wOne q6) = n6
  generalize List.countP cp_q (wOne q7) = n7
  generalize List.countP cp_q (wOne q8) = n8
  generalize List.countP cp_q (wOne q9) = n9
  generalize List.countP cp_q (wOne q10) = n10
  generalize List.countP cp_q (wOne q11) = n11
  generalize List.countP cp_q (wOne q12) = n12
  generalize List.countP cp_q (wOne q13) = n13
  generalize List.countP cp_q (wOne q14) = n14
  generalize List.countP cp_q (wOne q15) = n15
  generalize List.countP cp_q (wOne q16) = n16
  generalize List.countP cp_q (wOne q17) = n17
  generalize List.countP cp_q (wOne q18) = n18
  generalize List.countP cp_q (wOne q19) = n19
  generalize List.countP cp_q (wOne q20) = n20
  generalize List.countP cp_q (wOne q21) = n21
  generalize List.countP cp_q X = nX
  omega
set_option maxHeartbeats 4000000 in
set_option maxRecDepth 100000 in
theorem LM_tick {pg : Program} {l : Launch} {evn : Env} {sT : State} {mI : MethodId} {bl : List Frame} {mtd : Method} {cd : Code} {H H0 : Heap} {locs : List Loc} {cells slots : Nat} {qQ : State → Prop} {ls : Array Slot} {rest : List Value} {D : va_G} {g : Nat → ClassId} {Aa : Nat → Prop} {ar : Array Value} {wX0 : va_W} {a : Nat → Nat} {mth mbd mnw mlc msz mas mak mfa mte mta mlv mct mgo : Int} {man mgr mgg : Bool} {n : Nat} {rg : Nat} {kp : Nat} {EV : Nat → Int} {DU : Nat → Int} {SA : Nat → Int} {KT : Nat → Int} {KS : Nat → Int} {KO : Nat → Int} {NO : Nat → Int} {MK : Nat → Bool} {RO : Nat → Int} {RW : Nat → Int} {RK : Nat → Int} {FI : Nat → Int} {OR : Nat → Bool} {AN : Nat → Bool} {IS : Nat → Bool} {GF : Nat → Int} {GS : Nat → Int} {TX : Nat → Int} {AQ : Nat → Int} {FR : Nat → Int} {SE : Nat → Int} (t : Int) (rr : Nat → RS) (ht : R64 t) (hnw : 0 ≤ mnw ∧ mnw < 900000000) (hkp : kp ≤ 20) (hn : n ≤ 300) (hcb : 0 ≤ mbd ∧ mbd ≤ 1000000) (hK : ∀ k, k < kp → (1 ≤ EV k ∧ EV k ≤ 1000) ∧ (0 ≤ DU k ∧ DU k < 1000000000) ∧ (0 ≤ KS k ∧ KS k ≤ 200) ∧ R32 (KO k) ∧ (∀ i, i < (KS k).toNat → R32 ((fun i => KT (200 * k + i)) i)) ∧ R32 (rr k).fg) (hg : rg ≤ 100) (hRR : ∀ k, k < rg → R32 (RO k) ∧ R32 (RW k) ∧ R32 (RK k)) (hFI : ∀ k, k < 1505 → R32 (FI k)) (C : Cx pg mI cd cL_law 4 sT ar RL) (hl : ls.size = 4) (hro : (rest.map fun v => v.category).sum ≤ 8) (hcl : cells ≤ 500000) (hsl : slots ≤ 7000000) (h : Hx D g sT Aa H0 (wX0 ++ wMA g a mth (n : Int) (rg : Int) mbd mnw mlc msz mas mak (kp : Int) mfa mte mta mlv mct mgo man mgr mgg FI RO RW RK MK TX AQ KS KT KO EV DU SA NO OR AN FR SE GF GS IS) H locs)
    (kont : ∀ (u : Int × (Int × (Nat → Int) × (Nat → Int)) × SM) (H1 : Heap) (locs1 : List Loc), tickM MK KT KS KO EV DU kp n mbd mnw FI RO RW RK rg rr t SA u.1 u.2.1.1 u.2.1.2.1 u.2.1.2.2 → Hx D g sT Aa H0 (wX0 ++ wMA g a 0 (n : Int) (rg : Int) mbd u.2.1.1 mlc msz mas mak (kp : Int) u.2.2.1 u.2.2.2.1 u.2.2.2.2.1 u.2.2.2.2.2.1 mct u.2.2.2.2.2.2.1 man mgr u.2.2.2.2.2.2.2.1 FI RO RW RK MK TX AQ KS KT KO EV u.2.1.2.1 u.2.1.2.2 u.2.2.2.2.2.2.2.2.1 u.2.2.2.2.2.2.2.2.2.1 u.2.2.2.2.2.2.2.2.2.2.1 FR SE u.2.2.2.2.2.2.2.2.2.2.2.2.1 u.2.2.2.2.2.2.2.2.2.2.2.2.2 u.2.2.2.2.2.2.2.2.2.2.2.1) H1 locs1 → W pg l evn room_1 sT mI ar bl mtd cd H1 locs1 cells slots qQ (F0 mI 616 ls ((some (.int (iI u.1)) : Option Value).toList ++ rest))) : W pg l evn room_1 sT mI ar bl mtd cd H locs cells slots qQ (F0 mI 613 ls (.long (lI t) :: .ref (a 0) :: rest)) := by
  have hmem : (a 0, oM a mth (n : Int) (rg : Int) mbd mnw mlc msz man mas mak (kp : Int) mfa mte mta mlv mct mgr mgo mgg) ∈ wX0 ++ wMA g a mth (n : Int) (rg : Int) mbd mnw mlc msz mas mak (kp : Int) mfa mte mta mlv mct mgo man mgr mgg FI RO RW RK MK TX AQ KS KT KO EV DU SA NO OR AN FR SE GF GS IS := List.mem_append_right _ (.head _)
  refine r_invV (As := [.long (lI t)]) (rest := rest) (wr := wX0 ++ [(a 6, cI g 200 TX), (a 7, cI g 200 AQ), (a 17, cI g 300 FR), (a 18, cI g 300 SE)]) (ws2 := fun u => wX0 ++ wMA g a 0 (n : Int) (rg : Int) mbd u.2.1.1 mlc msz mas mak (kp : Int) u.2.2.1 u.2.2.2.1 u.2.2.2.2.1 u.2.2.2.2.2.1 mct u.2.2.2.2.2.2.1 man mgr u.2.2.2.2.2.2.2.1 FI RO RW RK MK TX AQ KS KT KO EV u.2.1.2.1 u.2.1.2.2 u.2.2.2.2.2.2.2.2.1 u.2.2.2.2.2.2.2.2.2.1 u.2.2.2.2.2.2.2.2.2.2.1 FR SE u.2.2.2.2.2.2.2.2.2.2.2.2.1 u.2.2.2.2.2.2.2.2.2.2.2.2.2 u.2.2.2.2.2.2.2.2.2.2.2.1) cells slots C h hl (c_X8_tick l D g a mth mbd mnw mlc msz mas mak mfa mte mta mlv mct mgo man mgr mgg n rg kp EV DU SA KT KS KO NO MK RO RW RK FI OR AN IS GF GS t rr ht hnw hkp hn hcb hK hg hRR hFI) (csL_68 C ⟨(Nat.le_of_ble_eq_true rfl), (Nat.le_of_ble_eq_true rfl)⟩) hmem rfl rfl rfl hro ?_ ?_ ?_ (Nat.le_refl _) (Nat.le_refl _) dL_law_613 (fun u H1 locs1 hu hz h => ?_)
  · exact pmL_tick wX0 _ _ _ _ _ _ _ _ _ _ _ _ _ _ _ _ _ _ _ _ _ _
  · exact fun u => (pmL_tick wX0 _ _ _ _ _ _ _ _ _ _ _ _ _ _ _ _ _ _ _ _ _ _).symm
  · exact ⟨by show cells + 0 ≤ 600000; omega, by show slots + 0 ≤ 7302250; omega⟩
  · exact kont u H1 locs1 hu h

theorem pmL_saved (X : va_W) (q0 q1 q2 q3 q4 q5 q6 q7 q8 q9 q10 q11 q12 q13 q14 q15 q16 q17 q18 q19 q20 q21 : Nat × va_E) : (X ++ [q0, q1, q2, q3, q4, q5, q6, q7, q8, q9, q10, q11, q12, q13, q14, q15, q16, q17, q18, q19, q20, q21]).Perm ([q0, q13] ++ (X ++ [q1, q2, q3, q4, q5, q6, q7, q8, q9, q10, q11, q12, q14, q15, q16, q17, q18, q19, q20, q21])) := pm fun cp_q => by
  simp only [cp_o, List.countP_append, List.countP_nil]
  generalize List.countP cp_q (wOne q0) = n0
  generalize List.countP cp_q (wOne q1) = n1
  generalize List.countP cp_q (wOne q2) = n2
  generalize List.countP cp_q (wOne q3) = n3
  generalize List.countP cp_q (wOne q4) = n4
  generalize List.countP cp_q (wOne q5) = n5
  generalize List.countP cp_q (wOne q6) = n6
  generalize List.countP cp_q (wOne q7) = n7
  generalize List.countP cp_q (wOne q8) = n8
  generalize List.countP cp_q (wOne q9) = n9
  generalize List.countP cp_q (wOne q10) = n10
  generalize List.countP cp_q (wOne q11) = n11
  generalize List.countP cp_q (wOne q12) = n12
  generalize List.countP cp_q (wOne q13) = n13
  generalize List.countP cp_q (wOne q14) = n14
  generalize List.countP cp_q (wOne q15) = n15
  generalize List.countP cp_q (wOne q16) = n16
  generalize List.countP cp_q (wOne q17) = n17
  generalize List.countP cp_q (wOne q18) = n18
  generalize List.countP cp_q (wOne q19) = n19
  generalize List.countP cp_q (wOne q20) = n20
  generalize List.countP cp_q (wOne q21) = n21
  generalize List.countP cp_q X = nX
  omega
set_option maxHeartbeats 4000000 in
set_option maxRecDepth 100000 in
theorem LM_saved {pg : Program} {l : Launch} {evn : Env} {sT : State} {mI : MethodId} {bl : List Frame} {mtd : Method} {cd : Code} {H H0 : Heap} {locs : List Loc} {cells slots : Nat} {qQ : State → Prop} {ls : Array Slot} {rest : List Value} {D : va_G} {g : Nat → ClassId} {Aa : Nat → Prop} {ar : Array Value} {wX0 : va_W} {a : Nat → Nat} {mth mrw mrg mbd mnw mlc msz mas mak mfa mte mta mlv mct mgo : Int} {man mgr mgg : Bool} {kp : Nat} {SA : Nat → Int} {FI : Nat → Int} {RO : Nat → Int} {RW : Nat → Int} {RK : Nat → Int} {MK : Nat → Bool} {TX : Nat → Int} {AQ : Nat → Int} {KS : Nat → Int} {KT : Nat → Int} {KO : Nat → Int} {EV : Nat → Int} {DU : Nat → Int} {NO : Nat → Int} {OR : Nat → Bool} {AN : Nat → Bool} {FR : Nat → Int} {SE : Nat → Int} {GF : Nat → Int} {GS : Nat → Int} {IS : Nat → Bool} (i : Int) (hi : R32 i) (hk : kp ≤ 20) (C : Cx pg mI cd cL_law 4 sT ar RL) (hl : ls.size = 4) (hro : (rest.map fun v => v.category).sum ≤ 8) (hcl : cells ≤ 500000) (hsl : slots ≤ 7000000) (h : Hx D g sT Aa H0 (wX0 ++ wMA g a mth mrw mrg mbd mnw mlc msz mas mak (kp : Int) mfa mte mta mlv mct mgo man mgr mgg FI RO RW RK MK TX AQ KS KT KO EV DU SA NO OR AN FR SE GF GS IS) H locs)
    (kont : ∀ (u : Unit) (H1 : Heap) (locs1 : List Loc), True → Hx D g sT Aa H0 (wX0 ++ wMA g a 0 mrw mrg mbd mnw mlc msz mas mak (kp : Int) mfa mte mta mlv mct mgo man mgr mgg FI RO RW RK MK TX AQ KS KT KO EV DU SA NO OR AN FR SE GF GS IS) H1 locs1 → W pg l evn room_1 sT mI ar bl mtd cd H1 locs1 cells slots qQ (F0 mI 639 ls ((some (.int (iI (savM SA kp i))) : Option Value).toList ++ rest))) : W pg l evn room_1 sT mI ar bl mtd cd H locs cells slots qQ (F0 mI 636 ls (.int (iI i) :: .ref (a 0) :: rest)) := by
  have hmem : (a 0, oM a mth mrw mrg mbd mnw mlc msz man mas mak (kp : Int) mfa mte mta mlv mct mgr mgo mgg) ∈ wX0 ++ wMA g a mth mrw mrg mbd mnw mlc msz mas mak (kp : Int) mfa mte mta mlv mct mgo man mgr mgg FI RO RW RK MK TX AQ KS KT KO EV DU SA NO OR AN FR SE GF GS IS := List.mem_append_right _ (.head _)
  refine r_invV (As := [.int (iI i)]) (rest := rest) (wr := wX0 ++ [(a 1, cI g 1505 FI), (a 2, cI g 100 RO), (a 3, cI g 100 RW), (a 4, cI g 100 RK), (a 5, cZ g 5 MK), (a 6, cI g 200 TX), (a 7, cI g 200 AQ), (a 8, cI g 20 KS), (a 9, cI g 4000 KT), (a 10, cI g 20 KO), (a 11, cJ g 20 EV), (a 12, cJ g 20 DU), (a 14, cI g 22 NO), (a 15, cZ g 22 OR), (a 16, cZ g 22 AN), (a 17, cI g 300 FR), (a 18, cI g 300 SE), (a 19, cI g 300 GF), (a 20, cI g 300 GS), (a 21, cZ g 301 IS)]) (ws2 := fun u => wX0 ++ wMA g a 0 mrw mrg mbd mnw mlc msz mas mak (kp : Int) mfa mte mta mlv mct mgo man mgr mgg FI RO RW RK MK TX AQ KS KT KO EV DU SA NO OR AN FR SE GF GS IS) cells slots C h hl (c_X8_saved l D g a mth mrw mrg mbd mnw mlc msz mas mak mfa mte mta mlv mct mgo man mgr mgg kp SA i hi hk) (csL_72 C ⟨(Nat.le_of_ble_eq_true rfl), (Nat.le_of_ble_eq_true rfl)⟩) hmem rfl rfl rfl hro ?_ ?_ ?_ (Nat.le_refl _) (Nat.le_refl _) dL_law_636 (fun u H1 locs1 hu hz h => ?_)
  · exact pmL_saved wX0 _ _ _ _ _ _ _ _ _ _ _ _ _ _ _ _ _ _ _ _ _ _
  · exact fun u => (pmL_saved wX0 _ _ _ _ _ _ _ _ _ _ _ _ _ _ _ _ _ _ _ _ _ _).symm
  · exact ⟨by show cells + 0 ≤ 600000; omega, by show slots + 0 ≤ 7302250; omega⟩
  · exact kont u H1 locs1 hu h

theorem pmL_scan (X : va_W) (q0 q1 q2 q3 q4 q5 q6 q7 q8 q9 q10 q11 q12 q13 q14 q15 q16 q17 q18 q19 q20 q21 : Nat × va_E) : (X ++ [q0, q1, q2, q3, q4, q5, q6, q7, q8, q9, q10, q11, q12, q13, q14, q15, q16, q17, q18, q19, q20, q21]).Perm ([q0, q2, q3, q4, q1] ++ (X ++ [q5, q6, q7, q8, q9, q10, q11, q12, q13, q14, q15, q16, q17, q18, q19, q20, q21])) := pm fun cp_q => by
  simp only [cp_o, List.countP_append, List.countP_nil]
  generalize List.countP cp_q (wOne q0) = n0
  generalize List.countP cp_q (wOne q1) = n1
  generalize List.countP cp_q (wOne q2) = n2
  generalize List.countP cp_q (wOne q3) = n3
  generalize List.countP cp_q (wOne q4) = n4
  generalize List.countP cp_q (wOne q5) = n5
  generalize List.countP cp_q (wOne q6) = n6
  generalize List.countP cp_q (wOne q7) = n7
  generalize List.countP cp_q (wOne q8) = n8
  generalize List.countP cp_q (wOne q9) = n9
  generalize List.countP cp_q (wOne q10) = n10
  generalize List.countP cp_q (wOne q11) = n11
  generalize List.countP cp_q (wOne q12) = n12
  generalize List.countP cp_q (wOne q13) = n13
  generalize List.countP cp_q (wOne q14) = n14
  generalize List.countP cp_q (wOne q15) = n15
  generalize List.countP cp_q (wOne q16) = n16
  generalize List.countP cp_q (wOne q17) = n17
  generalize List.countP cp_q (wOne q18) = n18
  generalize List.countP cp_q (wOne q19) = n19
  generalize List.countP cp_q (wOne q20) = n20
  generalize List.countP cp_q (wOne q21) = n21
  generalize List.countP cp_q X = nX
  omega
set_option maxHeartbeats 4000000 in
set_option maxRecDepth 100000 in
theorem LM_scan {pg : Program} {l : Launch} {evn : Env} {sT : State} {mI : MethodId} {bl : List Frame} {mtd : Method} {cd : Code} {H H0 : Heap} {locs : List Loc} {cells slots : Nat} {qQ : State → Prop} {ls : Array Slot} {rest : List Value} {D : va_G} {g : Nat → ClassId} {Aa : Nat → Prop} {ar : Array Value} {wX0 : va_W} {a : Nat → Nat} {mth mbd mnw mlc msz mas mak mkp mfa mte mta mlv mct mgo : Int} {man mgr mgg : Bool} {rg : Nat} {n : Nat} {RO : Nat → Int} {RW : Nat → Int} {RK : Nat → Int} {FI : Nat → Int} {MK : Nat → Bool} {TX : Nat → Int} {AQ : Nat → Int} {KS : Nat → Int} {KT : Nat → Int} {KO : Nat → Int} {EV : Nat → Int} {DU : Nat → Int} {SA : Nat → Int} {NO : Nat → Int} {OR : Nat → Bool} {AN : Nat → Bool} {FR : Nat → Int} {SE : Nat → Int} {GF : Nat → Int} {GS : Nat → Int} {IS : Nat → Bool} (w : Int) (hw : R32 w) (hn : n ≤ 300) (hg : rg ≤ 100) (hR : ∀ k, k < rg → R32 (RO k) ∧ R32 (RW k) ∧ R32 (RK k)) (hFI : ∀ k, k < 1505 → R32 (FI k)) (C : Cx pg mI cd cL_law 4 sT ar RL) (hl : ls.size = 4) (hro : (rest.map fun v => v.category).sum ≤ 8) (hcl : cells ≤ 500000) (hsl : slots ≤ 7000000) (h : Hx D g sT Aa H0 (wX0 ++ wMA g a mth (n : Int) (rg : Int) mbd mnw mlc msz mas mak mkp mfa mte mta mlv mct mgo man mgr mgg FI RO RW RK MK TX AQ KS KT KO EV DU SA NO OR AN FR SE GF GS IS) H locs)
    (kont : ∀ (u : Unit) (H1 : Heap) (locs1 : List Loc), True → Hx D g sT Aa H0 (wX0 ++ wMA g a 0 (n : Int) (rg : Int) mbd mnw mlc msz mas mak mkp mfa mte mta mlv mct mgo man mgr mgg FI RO RW RK MK TX AQ KS KT KO EV DU SA NO OR AN FR SE GF GS IS) H1 locs1 → W pg l evn room_1 sT mI ar bl mtd cd H1 locs1 cells slots qQ (F0 mI 662 ls ((some (.int (iI (if 0 ≤ w ∧ w < 50 then (scnM RO RW RK FI w rg n : Int) else -1000001))) : Option Value).toList ++ rest))) : W pg l evn room_1 sT mI ar bl mtd cd H locs cells slots qQ (F0 mI 659 ls (.int (iI w) :: .ref (a 0) :: rest)) := by
  have hmem : (a 0, oM a mth (n : Int) (rg : Int) mbd mnw mlc msz man mas mak mkp mfa mte mta mlv mct mgr mgo mgg) ∈ wX0 ++ wMA g a mth (n : Int) (rg : Int) mbd mnw mlc msz mas mak mkp mfa mte mta mlv mct mgo man mgr mgg FI RO RW RK MK TX AQ KS KT KO EV DU SA NO OR AN FR SE GF GS IS := List.mem_append_right _ (.head _)
  refine r_invV (As := [.int (iI w)]) (rest := rest) (wr := wX0 ++ [(a 5, cZ g 5 MK), (a 6, cI g 200 TX), (a 7, cI g 200 AQ), (a 8, cI g 20 KS), (a 9, cI g 4000 KT), (a 10, cI g 20 KO), (a 11, cJ g 20 EV), (a 12, cJ g 20 DU), (a 13, cI g 20 SA), (a 14, cI g 22 NO), (a 15, cZ g 22 OR), (a 16, cZ g 22 AN), (a 17, cI g 300 FR), (a 18, cI g 300 SE), (a 19, cI g 300 GF), (a 20, cI g 300 GS), (a 21, cZ g 301 IS)]) (ws2 := fun u => wX0 ++ wMA g a 0 (n : Int) (rg : Int) mbd mnw mlc msz mas mak mkp mfa mte mta mlv mct mgo man mgr mgg FI RO RW RK MK TX AQ KS KT KO EV DU SA NO OR AN FR SE GF GS IS) cells slots C h hl (c_X8_scan l D g a mth mbd mnw mlc msz mas mak mkp mfa mte mta mlv mct mgo man mgr mgg rg n RO RW RK FI w hw hn hg hR hFI) (csL_76 C ⟨(Nat.le_of_ble_eq_true rfl), (Nat.le_of_ble_eq_true rfl)⟩) hmem rfl rfl rfl hro ?_ ?_ ?_ (Nat.le_refl _) (Nat.le_refl _) dL_law_659 (fun u H1 locs1 hu hz h => ?_)
  · exact pmL_scan wX0 _ _ _ _ _ _ _ _ _ _ _ _ _ _ _ _ _ _ _ _ _ _
  · exact fun u => (pmL_scan wX0 _ _ _ _ _ _ _ _ _ _ _ _ _ _ _ _ _ _ _ _ _ _).symm
  · exact ⟨by show cells + 0 ≤ 600000; omega, by show slots + 0 ≤ 7302250; omega⟩
  · exact kont u H1 locs1 hu h
