/-! THE REFERENCE: whether a text is true of a row -/

set_option maxHeartbeats 4000000 in
set_option maxRecDepth 100000 in
theorem c_X8_isTrue (l : Launch) (D : va_G) (g : Nat → ClassId) (a : Nat → Nat) (mth mrw mrg mbd mnw mlc msz mas mak mkp mfa mte mlv mct mgo : Int) (man mgr mgg : Bool) (ta : Nat) (s len : Nat) (F : Nat → Int) (NO : Nat → Int) (OR : Nat → Bool) (AN : Nat → Bool) (FI : Nat → Int) (fr n te0 row : Nat) (r : RS) (mk : Nat → Bool) (hfn : fr + n ≤ len) (hlen : len < 100000) (hR : ∀ k, k < n → R32 ((fun k => F (fr + k)) k)) (hE : LE mk (fun k => F (fr + k)) n (rBegin r) ta 0 te0) (hTa : ta < n → tOf (atX (fun k => F (fr + k)) n ta) ≠ 0) (hrow : row ≤ 300) (hFI : ∀ k, k < 1505 → R32 (FI k)) : Ct (S := Nat × (Nat → Int) × (Nat → Bool) × (Nat → Bool)) l D g yX8_isTrue cX8_isTrue 9 (some .boolean) rmX8_isTrue [.ref (a 0), .ref s, .int (iI (fr : Int)), .int (iI (row : Int))] ([(a 0, oM a mth mrw mrg mbd mnw mlc msz man mas mak mkp mfa mte (ta : Int) mlv mct mgr mgo mgg), (s, cI g len F), (a 14, cI g 22 NO), (a 15, cZ g 22 OR), (a 16, cZ g 22 AN), (a 1, cI g 1505 FI)]) (fun u => some (.int (bI (jV (jL (fun f _ => FI (5 * row + f)) 0 (rEndS (rGo mk (fun k => F (fr + k)) (rBegin r) ta))))))) (fun _ => True) (fun u => [(a 0, oM a mth mrw mrg mbd mnw mlc msz man mas mak mkp mfa mte (ta : Int) (u.1 : Int) mct mgr mgo mgg), (s, cI g len F), (a 14, cI g 22 u.2.1), (a 15, cZ g 22 u.2.2.1), (a 16, cZ g 22 u.2.2.2), (a 1, cI g 1505 FI)]) := by
  refine Ct.of RX8 rfl (by decide +kernel) [(0, .ref (a 0)), (1, .ref s), (2, .int (iI (fr : Int))), (3, .int (iI (row : Int)))] rfl (Nat.le_of_ble_eq_true rfl) ?_
  intro pg evn sT mI bl mtd cd aA ls ar qQ zC zr zk zi zQ h hl
  have zx := zC.1
  have zb := zC.2.1
  have hEn := hE.1
  skip
  refine lv_aload_n zx zb dX8_isTrue_0 rfl (lv_at hl 0 rfl) ?_
  refine lv_iconst (v := iI (0)) zx zb dX8_isTrue_1 rfl ?_
  refine pf8_111 (x := iI 0) zC h 0 (ws' := [(a 0, oM a mth mrw mrg mbd mnw mlc msz man mas mak mkp mfa mte (ta : Int) 0 mct mgr mgo mgg), (s, cI g len F), (a 14, cI g 22 NO), (a 15, cZ g 22 OR), (a 16, cZ g 22 AN), (a 1, cI g 1505 FI)]) rfl rfl (Nat.le_of_ble_eq_true rfl) dX8_isTrue_2 (fun H locs h => ?_)
  refine lv_aload_n zx zb dX8_isTrue_5 rfl (lv_at hl 0 rfl) ?_
  refine gf8_57 (v := .ref (a 14)) zC h 0 rfl rfl dX8_isTrue_6 ?_
  refine lv_iconst (v := iI (0)) zx zb dX8_isTrue_9 rfl ?_
  refine lv_iconst (v := iI (0)) zx zb dX8_isTrue_10 rfl ?_
  refine a_ist (x := 0) zC h 2 (ws' := [(a 0, oM a mth mrw mrg mbd mnw mlc msz man mas mak mkp mfa mte (ta : Int) 0 mct mgr mgo mgg), (s, cI g len F), (a 14, cI g 22 (up NO 0 0)), (a 15, cZ g 22 OR), (a 16, cZ g 22 AN), (a 1, cI g 1505 FI)]) rfl (z := 0) 0 rfl rfl (by decide) (by decide) dX8_isTrue_11 (fun H locs h => ?_)
  refine lv_aload_n zx zb dX8_isTrue_12 rfl (lv_at hl 0 rfl) ?_
  refine gf8_60 (v := .ref (a 15)) zC h 0 rfl rfl dX8_isTrue_13 ?_
  refine lv_iconst (v := iI (0)) zx zb dX8_isTrue_16 rfl ?_
  refine lv_iconst (v := iI (0)) zx zb dX8_isTrue_17 rfl ?_
  refine a_zst (x := false) zC h 3 (ws' := [(a 0, oM a mth mrw mrg mbd mnw mlc msz man mas mak mkp mfa mte (ta : Int) 0 mct mgr mgo mgg), (s, cI g len F), (a 14, cI g 22 (up NO 0 0)), (a 15, cZ g 22 (up OR 0 false)), (a 16, cZ g 22 AN), (a 1, cI g 1505 FI)]) rfl (z := 0) 0 rfl rfl (by decide) (by decide) dX8_isTrue_18 (fun H locs h => ?_)
  refine lv_aload_n zx zb dX8_isTrue_19 rfl (lv_at hl 0 rfl) ?_
  refine gf8_63 (v := .ref (a 16)) zC h 0 rfl rfl dX8_isTrue_20 ?_
  refine lv_iconst (v := iI (0)) zx zb dX8_isTrue_23 rfl ?_
  refine lv_iconst (v := iI (1)) zx zb dX8_isTrue_24 rfl ?_
  refine a_zst (x := true) zC h 4 (ws' := [(a 0, oM a mth mrw mrg mbd mnw mlc msz man mas mak mkp mfa mte (ta : Int) 0 mct mgr mgo mgg), (s, cI g len F), (a 14, cI g 22 (up NO 0 0)), (a 15, cZ g 22 (up OR 0 false)), (a 16, cZ g 22 (up AN 0 true)), (a 1, cI g 1505 FI)]) rfl (z := 0) 0 rfl rfl (by decide) (by decide) dX8_isTrue_25 (fun H locs h => ?_)
  refine lv_iconst (v := iI (0)) zx zb dX8_isTrue_26 rfl ?_
  refine lv_istore (lv' := [(4, .int (iI 0)), (0, .ref (a 0)), (1, .ref s), (2, .int (iI (fr : Int))), (3, .int (iI (row : Int)))]) zx zb dX8_isTrue_27 hl (by decide) rfl (fun ls hl => ?_)
  have L29_1 : ∀ (fuel : Nat) (k : Nat) (lv : Nat) (NO : Nat → Int) (OR : Nat → Bool) (AN : Nat → Bool) (H : Heap) (locs : List Loc) (ls : Array Slot), ta - k < fuel → (TH mk (fun k => F (fr + k)) n (rBegin r) (fun f _ => FI (5 * row + f)) 0 ta k lv NO OR AN) → Hx D g sT aA sT.heap ([(a 0, oM a mth mrw mrg mbd mnw mlc msz man mas mak mkp mfa mte (ta : Int) (lv : Int) mct mgr mgo mgg), (s, cI g len F), (a 14, cI g 22 NO), (a 15, cZ g 22 OR), (a 16, cZ g 22 AN), (a 1, cI g 1505 FI)]) H locs → lv_has ls 9 [(0, .ref (a 0)), (1, .ref s), (2, .int (iI (fr : Int))), (3, .int (iI (row : Int))), (4, .int (iI (k : Int)))] → W pg l evn rmX8_isTrue sT mI ar bl mtd cd H locs 0 0 qQ (F0 mI 29 ls []) := by
    intro fuel
    induction fuel with
    | zero => intro k lv NO OR AN H locs ls hm; exact absurd hm (Nat.not_lt_zero _)
    | succ fuel ih29 =>
      intro k lv NO OR AN H locs ls hm hT h hl
      have hlv := hT.2.2.2.2.2
      have hkt := hT.1
      refine lv_iload zx zb dX8_isTrue_29 (lv_at hl 4 rfl) ?_
      refine lv_aload_n zx zb dX8_isTrue_31 rfl (lv_at hl 0 rfl) ?_
      refine gf8_140 (v := .int (iI (ta : Int))) zC h 0 rfl rfl dX8_isTrue_32 ?_
      refine i_cge (a := (k : Int)) (b := (ta : Int)) (tgt := 384) zC dX8_isTrue_35 (by decide) (by omega) (fun c_2 => ?_) (fun c_2 => ?_)
      · skip
        have e_k : k = ta := by have := hT.1; omega
        rw [e_k] at hT
        have hEnd := TH_end hT
        refine lv_aload_n zx zb dX8_isTrue_384 rfl (lv_at hl 0 rfl) ?_
        refine gf8_60 (v := .ref (a 15)) zC h 0 rfl rfl dX8_isTrue_385 ?_
        refine lv_iconst (v := iI (0)) zx zb dX8_isTrue_388 rfl ?_
        refine a_zld zC h 3 rfl (z := 0) 0 rfl (by decide) (by decide) dX8_isTrue_389 ?_
        refine b_zne (b := OR 0) (tgt := 402) zC dX8_isTrue_390 (by decide) (fun c_3 => ?_) (fun c_3 => ?_)
        · skip
          refine lv_iconst (v := iI (1)) zx zb dX8_isTrue_402 rfl ?_
          refine lv_goto (tgt := 407) zx zb dX8_isTrue_403 (by decide) ?_
          exact r_zret (b := true) zC zQ zr zk h dX8_isTrue_407 rfl (u := (lv, NO, OR, AN)) (by rw [hEnd.2, show (OR 0 || AN 0) = true from by simp [c_3]]; rfl) (List.Perm.refl _) trivial (Nat.le_of_ble_eq_true rfl) (Nat.le_of_ble_eq_true rfl)
        · skip
          refine lv_aload_n zx zb dX8_isTrue_393 rfl (lv_at hl 0 rfl) ?_
          refine gf8_63 (v := .ref (a 16)) zC h 0 rfl rfl dX8_isTrue_394 ?_
          refine lv_iconst (v := iI (0)) zx zb dX8_isTrue_397 rfl ?_
          refine a_zld zC h 4 rfl (z := 0) 0 rfl (by decide) (by decide) dX8_isTrue_398 ?_
          refine b_zeq (b := AN 0) (tgt := 406) zC dX8_isTrue_399 (by decide) (fun c_4 => ?_) (fun c_4 => ?_)
          · skip
            refine lv_iconst (v := iI (0)) zx zb dX8_isTrue_406 rfl ?_
            exact r_zret (b := false) zC zQ zr zk h dX8_isTrue_407 rfl (u := (lv, NO, OR, AN)) (by rw [hEnd.2, show (OR 0 || AN 0) = false from by simp [c_3, c_4]]; rfl) (List.Perm.refl _) trivial (Nat.le_of_ble_eq_true rfl) (Nat.le_of_ble_eq_true rfl)
          · skip
            refine lv_iconst (v := iI (1)) zx zb dX8_isTrue_402 rfl ?_
            refine lv_goto (tgt := 407) zx zb dX8_isTrue_403 (by decide) ?_
            exact r_zret (b := true) zC zQ zr zk h dX8_isTrue_407 rfl (u := (lv, NO, OR, AN)) (by rw [hEnd.2, show (OR 0 || AN 0) = true from by simp [c_3, c_4]]; rfl) (List.Perm.refl _) trivial (Nat.le_of_ble_eq_true rfl) (Nat.le_of_ble_eq_true rfl)
      · skip
        have hk : k < ta := by omega
        have hRk : R32 (F (fr + k)) := hR k (by omega)
        refine lv_aload_n zx zb dX8_isTrue_38 rfl (lv_at hl 1 rfl) ?_
        refine lv_iload_n zx zb dX8_isTrue_39 rfl (lv_at hl 2 rfl) ?_
        refine lv_iload zx zb dX8_isTrue_40 (lv_at hl 4 rfl) ?_
        refine i_add zC (a := (fr : Int)) (b := (k : Int)) dX8_isTrue_42 ?_
        refine a_ild zC h 1 rfl (z := (fr : Int) + (k : Int)) (fr + k) (by omega) (by omega) (by omega) dX8_isTrue_43 ?_
        refine lv_istore (lv' := [(5, .int (iI (F (fr + k)))), (0, .ref (a 0)), (1, .ref s), (2, .int (iI (fr : Int))), (3, .int (iI (row : Int))), (4, .int (iI (k : Int)))]) zx zb dX8_isTrue_44 hl (by decide) rfl (fun ls hl => ?_)
        refine i_inc (q := 5) (a := (k : Int)) (lv' := [(4, .int (iI ((k : Int) + 1))), (5, .int (iI (F (fr + k)))), (0, .ref (a 0)), (1, .ref s), (2, .int (iI (fr : Int))), (3, .int (iI (row : Int)))]) zC hl dX8_isTrue_46 rfl (by decide) rfl (fun ls hl => ?_)
        refine lv_iload zx zb dX8_isTrue_49 (lv_at hl 1 rfl) ?_
        refine lv_bipush (v := iI (33)) zx zb dX8_isTrue_51 rfl ?_
        refine i_cne (a := F (fr + k)) (b := 33) (tgt := 72) zC dX8_isTrue_53 (by decide) (by omega) (fun c_5 => ?_) (fun c_5 => ?_)
        · skip
          have h33 := c_5
          refine lv_iload zx zb dX8_isTrue_72 (lv_at hl 1 rfl) ?_
          refine lv_bipush (v := iI (40)) zx zb dX8_isTrue_74 rfl ?_
          refine i_cne (a := F (fr + k)) (b := 40) (tgt := 122) zC dX8_isTrue_76 (by decide) (by omega) (fun c_6 => ?_) (fun c_6 => ?_)
          · skip
            have h40 := c_6
            refine lv_iload zx zb dX8_isTrue_122 (lv_at hl 1 rfl) ?_
            refine lv_bipush (v := iI (41)) zx zb dX8_isTrue_124 rfl ?_
            refine i_cne (a := F (fr + k)) (b := 41) (tgt := 179) zC dX8_isTrue_126 (by decide) (by omega) (fun c_7 => ?_) (fun c_7 => ?_)
            · skip
              have h41 := c_7
              refine lv_iload zx zb dX8_isTrue_179 (lv_at hl 1 rfl) ?_
              refine lv_bipush (v := iI (124)) zx zb dX8_isTrue_181 rfl ?_
              refine i_cne (a := F (fr + k)) (b := 124) (tgt := 237) zC dX8_isTrue_183 (by decide) (by omega) (fun c_8 => ?_) (fun c_8 => ?_)
              · skip
                have h124 := c_8
                refine lv_iload zx zb dX8_isTrue_237 (lv_at hl 1 rfl) ?_
                refine lv_bipush (v := iI (38)) zx zb dX8_isTrue_239 rfl ?_
                refine i_ceq (a := F (fr + k)) (b := 38) (tgt := 381) zC dX8_isTrue_241 (by decide) (by omega) (fun c_9 => ?_) (fun c_9 => ?_)
                · skip
                  have hT2 := (T_next hE hT hk (Or.inl c_9)).2 c_9
                  refine lv_goto (tgt := 29) zx zb dX8_isTrue_381 (by decide) ?_
                  exact ih29 (k + 1) lv NO OR AN _ _ _ (by omega) hT2 h (lv_sub hl [2, 3, 4, 5, 0] rfl)
                · skip
                  obtain ⟨h_f0, h_k1, h_op, hD0⟩ := TD_0 hE hT hk h33 h40 h41 h124 c_9
                  have hfR := fOf_R (F (fr + k))
                  have hRk1 : R32 (F (fr + (k + 1))) := hR (k + 1) (by omega)
                  refine lv_aload_n zx zb dX8_isTrue_244 rfl (lv_at hl 3 rfl) ?_
                  refine lv_iload_n zx zb dX8_isTrue_245 rfl (lv_at hl 4 rfl) ?_
                  refine lv_iload zx zb dX8_isTrue_246 (lv_at hl 0 rfl) ?_
                  refine i_add zC (a := (fr : Int)) (b := (k : Int) + 1) dX8_isTrue_248 ?_
                  refine a_ild zC h 1 rfl (z := (fr : Int) + ((k : Int) + 1)) (fr + (k + 1)) (by omega) (by omega) (by omega) dX8_isTrue_249 ?_
                  refine lv_istore (lv' := [(6, .int (iI (F (fr + (k + 1))))), (4, .int (iI ((k : Int) + 1))), (5, .int (iI (F (fr + k)))), (0, .ref (a 0)), (1, .ref s), (2, .int (iI (fr : Int))), (3, .int (iI (row : Int)))]) zx zb dX8_isTrue_250 hl (by decide) rfl (fun ls hl => ?_)
                  refine i_inc (q := 1) (a := (k : Int) + 1) (lv' := [(4, .int (iI ((k : Int) + 1 + 1))), (6, .int (iI (F (fr + (k + 1))))), (5, .int (iI (F (fr + k)))), (0, .ref (a 0)), (1, .ref s), (2, .int (iI (fr : Int))), (3, .int (iI (row : Int)))]) zC hl dX8_isTrue_252 rfl (by decide) rfl (fun ls hl => ?_)
                  refine lv_iconst (v := iI (0)) zx zb dX8_isTrue_255 rfl ?_
                  refine lv_istore (lv' := [(7, .int (iI 0)), (4, .int (iI ((k : Int) + 1 + 1))), (6, .int (iI (F (fr + (k + 1))))), (5, .int (iI (F (fr + k)))), (0, .ref (a 0)), (1, .ref s), (2, .int (iI (fr : Int))), (3, .int (iI (row : Int)))]) zx zb dX8_isTrue_256 hl (by decide) rfl (fun ls hl => ?_)
                  have L258_10 : ∀ (fuel : Nat) (e : Nat) (v : Int) (H : Heap) (locs : List Loc) (ls : Array Slot), ta - e < fuel → (TD mk (fun k => F (fr + k)) n (rBegin r) (fun f _ => FI (5 * row + f)) 0 ta k e v lv NO OR AN) → Hx D g sT aA sT.heap ([(a 0, oM a mth mrw mrg mbd mnw mlc msz man mas mak mkp mfa mte (ta : Int) (lv : Int) mct mgr mgo mgg), (s, cI g len F), (a 14, cI g 22 NO), (a 15, cZ g 22 OR), (a 16, cZ g 22 AN), (a 1, cI g 1505 FI)]) H locs → lv_has ls 9 [(0, .ref (a 0)), (1, .ref s), (2, .int (iI (fr : Int))), (3, .int (iI (row : Int))), (4, .int (iI (e : Int))), (5, .int (iI (F (fr + k)))), (6, .int (iI (F (fr + (k + 1))))), (7, .int (iI v))] → W pg l evn rmX8_isTrue sT mI ar bl mtd cd H locs 0 0 qQ (F0 mI 258 ls []) := by
                    intro fuel
                    induction fuel with
                    | zero => intro e v H locs ls hm; exact absurd hm (Nat.not_lt_zero _)
                    | succ fuel ih258 =>
                      intro e v H locs ls hm hD h hl
                      have hDR := TD_R hD
                      refine lv_iload zx zb dX8_isTrue_258 (lv_at hl 4 rfl) ?_
                      refine lv_aload_n zx zb dX8_isTrue_260 rfl (lv_at hl 0 rfl) ?_
                      refine gf8_140 (v := .int (iI (ta : Int))) zC h 0 rfl rfl dX8_isTrue_261 ?_
                      refine i_cge (a := (e : Int)) (b := (ta : Int)) (tgt := 309) zC dX8_isTrue_264 (by decide) (by omega) (fun c_11 => ?_) (fun c_11 => ?_)
                      · skip
                        have hX : e = ta ∨ ¬ (48 ≤ F (fr + e) ∧ F (fr + e) ≤ 57) := Or.inl (by omega)
                        have hT2 : TH mk (fun k => F (fr + k)) n (rBegin r) (fun f _ => FI (5 * row + f)) 0 ta e lv (up NO lv 0) OR (up AN lv (AN lv && (tstV (F (fr + (k + 1))) (FI (5 * row + (fOf (F (fr + k))).toNat)) v != decide (NO lv % 2 = 1)))) := TD_e hE hTa hD hX
                        have hFv := hFI (5 * row + (fOf (F (fr + k))).toNat) (by omega)
                        refine lv_aload_n zx zb dX8_isTrue_309 rfl (lv_at hl 0 rfl) ?_
                        refine lv_iload_n zx zb dX8_isTrue_310 rfl (lv_at hl 3 rfl) ?_
                        refine lv_iload zx zb dX8_isTrue_311 (lv_at hl 5 rfl) ?_
                        refine r_invS (As := [.int (iI (F (fr + k)))]) (rest := [.int (iI (row : Int)), .ref (a 0)]) (wr := [(a 0, oM a mth mrw mrg mbd mnw mlc msz man mas mak mkp mfa mte (ta : Int) (lv : Int) mct mgr mgo mgg), (s, cI g len F), (a 14, cI g 22 NO), (a 15, cZ g 22 OR), (a 16, cZ g 22 AN), (a 1, cI g 1505 FI)]) (ws2 := fun u_12 => [(a 0, oM a mth mrw mrg mbd mnw mlc msz man mas mak mkp mfa mte (ta : Int) (lv : Int) mct mgr mgo mgg), (s, cI g len F), (a 14, cI g 22 NO), (a 15, cZ g 22 OR), (a 16, cZ g 22 AN), (a 1, cI g 1505 FI)]) 0 0 zC h hl.1 (c_X8_fieldOf l D g (F (fr + k)) (by omega)) (cs8_128 zC ⟨(Nat.le_of_ble_eq_true rfl), (Nat.le_of_ble_eq_true rfl)⟩) rfl rfl (Nat.le_of_ble_eq_true rfl) (List.Perm.refl _) (fun u => List.Perm.refl _) ⟨(Nat.le_of_ble_eq_true rfl), (Nat.le_of_ble_eq_true rfl)⟩ (Nat.le_of_ble_eq_true rfl) (Nat.le_of_ble_eq_true rfl) dX8_isTrue_313 (fun u_12 H locs hu_12 hz_12 h => ?_)
                        have hfR_12 := fOf_R (F (fr + k))
                        rw [show (fOf (F (fr + k)) : Int) = ((fOf (F (fr + k))).toNat : Int) from by omega]
                        refine r_invV (As := [.int (iI (row : Int)), .int (iI ((fOf (F (fr + k))).toNat : Int))]) (rest := []) (wr := [(s, cI g len F), (a 14, cI g 22 NO), (a 15, cZ g 22 OR), (a 16, cZ g 22 AN)]) (ws2 := fun u_13 => [(a 0, oM a mth mrw mrg mbd mnw mlc msz man mas mak mkp mfa mte (ta : Int) (lv : Int) mct mgr mgo mgg), (s, cI g len F), (a 14, cI g 22 NO), (a 15, cZ g 22 OR), (a 16, cZ g 22 AN), (a 1, cI g 1505 FI)]) 0 0 zC h hl.1 (c_X8_field l D g a mth mrw mrg mbd mnw mlc msz mas mak mkp mfa mte (ta : Int) (lv : Int) mct mgo man mgr mgg   FI row ((fOf (F (fr + k))).toNat) (by omega) (by omega)) (cs8_151 zC ⟨(Nat.le_of_ble_eq_true rfl), (Nat.le_of_ble_eq_true rfl)⟩) (.head _) rfl rfl rfl (Nat.le_of_ble_eq_true rfl) (pm fun cp_q => by simp only [cp_o, List.countP_append, List.countP_nil] <;> omega) (fun u => (pm fun cp_q => by simp only [cp_o, List.countP_append, List.countP_nil] <;> omega)) ⟨(Nat.le_of_ble_eq_true rfl), (Nat.le_of_ble_eq_true rfl)⟩ (Nat.le_of_ble_eq_true rfl) (Nat.le_of_ble_eq_true rfl) dX8_isTrue_316 (fun u_13 H locs hu_13 hz_13 h => ?_)
                        refine lv_istore (lv' := [(8, .int (iI (FI (5 * row + ((fOf (F (fr + k))).toNat))))), (0, .ref (a 0)), (1, .ref s), (2, .int (iI (fr : Int))), (3, .int (iI (row : Int))), (4, .int (iI (e : Int))), (5, .int (iI (F (fr + k)))), (6, .int (iI (F (fr + (k + 1))))), (7, .int (iI v))]) zx zb dX8_isTrue_319 hl (by decide) rfl (fun ls hl => ?_)
                        refine lv_aload_n zx zb dX8_isTrue_321 rfl (lv_at hl 1 rfl) ?_
                        refine lv_iload zx zb dX8_isTrue_322 (lv_at hl 7 rfl) ?_
                        refine lv_bipush (v := iI (61)) zx zb dX8_isTrue_324 rfl ?_
                        refine i_cne (a := F (fr + (k + 1))) (b := 61) (tgt := 344) zC dX8_isTrue_326 (by decide) (by omega) (fun c_14 => ?_) (fun c_14 => ?_)
                        · skip
                          refine lv_iload zx zb dX8_isTrue_344 (lv_at hl 7 rfl) ?_
                          refine lv_bipush (v := iI (60)) zx zb dX8_isTrue_346 rfl ?_
                          refine i_cne (a := F (fr + (k + 1))) (b := 60) (tgt := 366) zC dX8_isTrue_348 (by decide) (by omega) (fun c_15 => ?_) (fun c_15 => ?_)
                          · skip
                            refine lv_iload zx zb dX8_isTrue_366 (lv_at hl 0 rfl) ?_
                            refine lv_iload zx zb dX8_isTrue_368 (lv_at hl 8 rfl) ?_
                            refine i_cle (a := FI (5 * row + ((fOf (F (fr + k))).toNat))) (b := v) (tgt := 377) zC dX8_isTrue_370 (by decide) (by omega) (fun c_16 => ?_) (fun c_16 => ?_)
                            · skip
                              refine lv_iconst (v := iI (0)) zx zb dX8_isTrue_377 rfl ?_
                              refine r_invV (As := [.int (bI false)]) (rest := []) (wr := [(s, cI g len F), (a 15, cZ g 22 OR), (a 1, cI g 1505 FI)]) (ws2 := fun u_17 => [(a 0, oM a mth mrw mrg mbd mnw mlc msz man mas mak mkp mfa mte (ta : Int) (lv : Int) mct mgr mgo mgg), (s, cI g len F), (a 14, cI g 22 (up NO lv 0)), (a 15, cZ g 22 OR), (a 16, cZ g 22 (up AN lv (AN lv && (false != decide (NO lv % 2 = 1))))), (a 1, cI g 1505 FI)]) 0 0 zC h hl.1 (c_X8_test l D g a mth mrw mrg mbd mnw mlc msz mas mak mkp mfa mte (ta : Int) mct mgo man mgr mgg lv  NO AN false (by omega) (by omega)) (cs8_147 zC ⟨(Nat.le_of_ble_eq_true rfl), (Nat.le_of_ble_eq_true rfl)⟩) (.head _) rfl rfl rfl (Nat.le_of_ble_eq_true rfl) (pm fun cp_q => by simp only [cp_o, List.countP_append, List.countP_nil] <;> omega) (fun u => (pm fun cp_q => by simp only [cp_o, List.countP_append, List.countP_nil] <;> omega)) ⟨(Nat.le_of_ble_eq_true rfl), (Nat.le_of_ble_eq_true rfl)⟩ (Nat.le_of_ble_eq_true rfl) (Nat.le_of_ble_eq_true rfl) dX8_isTrue_378 (fun u_17 H locs hu_17 hz_17 h => ?_)
                              have hv : tstV (F (fr + (k + 1))) (FI (5 * row + (fOf (F (fr + k))).toNat)) v = false := by unfold tstV; rw [if_neg (by omega), if_neg (by omega)]; exact decide_eq_false (by omega)
                              rw [hv] at hT2
                              refine lv_goto (tgt := 29) zx zb dX8_isTrue_381 (by decide) ?_
                              exact ih29 e lv (up NO lv 0) OR (up AN lv (AN lv && (false != decide (NO lv % 2 = 1)))) _ _ _ (by omega) hT2 h (lv_sub hl [1, 2, 3, 4, 5] rfl)
                            · skip
                              refine lv_iconst (v := iI (1)) zx zb dX8_isTrue_373 rfl ?_
                              refine lv_goto (tgt := 378) zx zb dX8_isTrue_374 (by decide) ?_
                              refine r_invV (As := [.int (bI true)]) (rest := []) (wr := [(s, cI g len F), (a 15, cZ g 22 OR), (a 1, cI g 1505 FI)]) (ws2 := fun u_18 => [(a 0, oM a mth mrw mrg mbd mnw mlc msz man mas mak mkp mfa mte (ta : Int) (lv : Int) mct mgr mgo mgg), (s, cI g len F), (a 14, cI g 22 (up NO lv 0)), (a 15, cZ g 22 OR), (a 16, cZ g 22 (up AN lv (AN lv && (true != decide (NO lv % 2 = 1))))), (a 1, cI g 1505 FI)]) 0 0 zC h hl.1 (c_X8_test l D g a mth mrw mrg mbd mnw mlc msz mas mak mkp mfa mte (ta : Int) mct mgo man mgr mgg lv  NO AN true (by omega) (by omega)) (cs8_147 zC ⟨(Nat.le_of_ble_eq_true rfl), (Nat.le_of_ble_eq_true rfl)⟩) (.head _) rfl rfl rfl (Nat.le_of_ble_eq_true rfl) (pm fun cp_q => by simp only [cp_o, List.countP_append, List.countP_nil] <;> omega) (fun u => (pm fun cp_q => by simp only [cp_o, List.countP_append, List.countP_nil] <;> omega)) ⟨(Nat.le_of_ble_eq_true rfl), (Nat.le_of_ble_eq_true rfl)⟩ (Nat.le_of_ble_eq_true rfl) (Nat.le_of_ble_eq_true rfl) dX8_isTrue_378 (fun u_18 H locs hu_18 hz_18 h => ?_)
                              have hv : tstV (F (fr + (k + 1))) (FI (5 * row + (fOf (F (fr + k))).toNat)) v = true := by unfold tstV; rw [if_neg (by omega), if_neg (by omega)]; exact decide_eq_true (by omega)
                              rw [hv] at hT2
                              refine lv_goto (tgt := 29) zx zb dX8_isTrue_381 (by decide) ?_
                              exact ih29 e lv (up NO lv 0) OR (up AN lv (AN lv && (true != decide (NO lv % 2 = 1)))) _ _ _ (by omega) hT2 h (lv_sub hl [1, 2, 3, 4, 5] rfl)
                          · skip
                            refine lv_iload zx zb dX8_isTrue_351 (lv_at hl 0 rfl) ?_
                            refine lv_iload zx zb dX8_isTrue_353 (lv_at hl 8 rfl) ?_
                            refine i_cge (a := FI (5 * row + ((fOf (F (fr + k))).toNat))) (b := v) (tgt := 362) zC dX8_isTrue_355 (by decide) (by omega) (fun c_19 => ?_) (fun c_19 => ?_)
                            · skip
                              refine lv_iconst (v := iI (0)) zx zb dX8_isTrue_362 rfl ?_
                              refine lv_goto (tgt := 378) zx zb dX8_isTrue_363 (by decide) ?_
                              refine r_invV (As := [.int (bI false)]) (rest := []) (wr := [(s, cI g len F), (a 15, cZ g 22 OR), (a 1, cI g 1505 FI)]) (ws2 := fun u_20 => [(a 0, oM a mth mrw mrg mbd mnw mlc msz man mas mak mkp mfa mte (ta : Int) (lv : Int) mct mgr mgo mgg), (s, cI g len F), (a 14, cI g 22 (up NO lv 0)), (a 15, cZ g 22 OR), (a 16, cZ g 22 (up AN lv (AN lv && (false != decide (NO lv % 2 = 1))))), (a 1, cI g 1505 FI)]) 0 0 zC h hl.1 (c_X8_test l D g a mth mrw mrg mbd mnw mlc msz mas mak mkp mfa mte (ta : Int) mct mgo man mgr mgg lv  NO AN false (by omega) (by omega)) (cs8_147 zC ⟨(Nat.le_of_ble_eq_true rfl), (Nat.le_of_ble_eq_true rfl)⟩) (.head _) rfl rfl rfl (Nat.le_of_ble_eq_true rfl) (pm fun cp_q => by simp only [cp_o, List.countP_append, List.countP_nil] <;> omega) (fun u => (pm fun cp_q => by simp only [cp_o, List.countP_append, List.countP_nil] <;> omega)) ⟨(Nat.le_of_ble_eq_true rfl), (Nat.le_of_ble_eq_true rfl)⟩ (Nat.le_of_ble_eq_true rfl) (Nat.le_of_ble_eq_true rfl) dX8_isTrue_378 (fun u_20 H locs hu_20 hz_20 h => ?_)
                              have hv : tstV (F (fr + (k + 1))) (FI (5 * row + (fOf (F (fr + k))).toNat)) v = false := by unfold tstV; rw [if_neg (by omega), if_pos (by omega)]; exact decide_eq_false (by omega)
                              rw [hv] at hT2
                              refine lv_goto (tgt := 29) zx zb dX8_isTrue_381 (by decide) ?_
                              exact ih29 e lv (up NO lv 0) OR (up AN lv (AN lv && (false != decide (NO lv % 2 = 1)))) _ _ _ (by omega) hT2 h (lv_sub hl [1, 2, 3, 4, 5] rfl)
                            · skip
                              refine lv_iconst (v := iI (1)) zx zb dX8_isTrue_358 rfl ?_
                              refine lv_goto (tgt := 378) zx zb dX8_isTrue_359 (by decide) ?_
                              refine r_invV (As := [.int (bI true)]) (rest := []) (wr := [(s, cI g len F), (a 15, cZ g 22 OR), (a 1, cI g 1505 FI)]) (ws2 := fun u_21 => [(a 0, oM a mth mrw mrg mbd mnw mlc msz man mas mak mkp mfa mte (ta : Int) (lv : Int) mct mgr mgo mgg), (s, cI g len F), (a 14, cI g 22 (up NO lv 0)), (a 15, cZ g 22 OR), (a 16, cZ g 22 (up AN lv (AN lv && (true != decide (NO lv % 2 = 1))))), (a 1, cI g 1505 FI)]) 0 0 zC h hl.1 (c_X8_test l D g a mth mrw mrg mbd mnw mlc msz mas mak mkp mfa mte (ta : Int) mct mgo man mgr mgg lv  NO AN true (by omega) (by omega)) (cs8_147 zC ⟨(Nat.le_of_ble_eq_true rfl), (Nat.le_of_ble_eq_true rfl)⟩) (.head _) rfl rfl rfl (Nat.le_of_ble_eq_true rfl) (pm fun cp_q => by simp only [cp_o, List.countP_append, List.countP_nil] <;> omega) (fun u => (pm fun cp_q => by simp only [cp_o, List.countP_append, List.countP_nil] <;> omega)) ⟨(Nat.le_of_ble_eq_true rfl), (Nat.le_of_ble_eq_true rfl)⟩ (Nat.le_of_ble_eq_true rfl) (Nat.le_of_ble_eq_true rfl) dX8_isTrue_378 (fun u_21 H locs hu_21 hz_21 h => ?_)
                              have hv : tstV (F (fr + (k + 1))) (FI (5 * row + (fOf (F (fr + k))).toNat)) v = true := by unfold tstV; rw [if_neg (by omega), if_pos (by omega)]; exact decide_eq_true (by omega)
                              rw [hv] at hT2
                              refine lv_goto (tgt := 29) zx zb dX8_isTrue_381 (by decide) ?_
                              exact ih29 e lv (up NO lv 0) OR (up AN lv (AN lv && (true != decide (NO lv % 2 = 1)))) _ _ _ (by omega) hT2 h (lv_sub hl [1, 2, 3, 4, 5] rfl)
                        · skip
                          refine lv_iload zx zb dX8_isTrue_329 (lv_at hl 0 rfl) ?_
                          refine lv_iload zx zb dX8_isTrue_331 (lv_at hl 8 rfl) ?_
                          refine i_cne (a := FI (5 * row + ((fOf (F (fr + k))).toNat))) (b := v) (tgt := 340) zC dX8_isTrue_333 (by decide) (by omega) (fun c_22 => ?_) (fun c_22 => ?_)
                          · skip
                            refine lv_iconst (v := iI (0)) zx zb dX8_isTrue_340 rfl ?_
                            refine lv_goto (tgt := 378) zx zb dX8_isTrue_341 (by decide) ?_
                            refine r_invV (As := [.int (bI false)]) (rest := []) (wr := [(s, cI g len F), (a 15, cZ g 22 OR), (a 1, cI g 1505 FI)]) (ws2 := fun u_23 => [(a 0, oM a mth mrw mrg mbd mnw mlc msz man mas mak mkp mfa mte (ta : Int) (lv : Int) mct mgr mgo mgg), (s, cI g len F), (a 14, cI g 22 (up NO lv 0)), (a 15, cZ g 22 OR), (a 16, cZ g 22 (up AN lv (AN lv && (false != decide (NO lv % 2 = 1))))), (a 1, cI g 1505 FI)]) 0 0 zC h hl.1 (c_X8_test l D g a mth mrw mrg mbd mnw mlc msz mas mak mkp mfa mte (ta : Int) mct mgo man mgr mgg lv  NO AN false (by omega) (by omega)) (cs8_147 zC ⟨(Nat.le_of_ble_eq_true rfl), (Nat.le_of_ble_eq_true rfl)⟩) (.head _) rfl rfl rfl (Nat.le_of_ble_eq_true rfl) (pm fun cp_q => by simp only [cp_o, List.countP_append, List.countP_nil] <;> omega) (fun u => (pm fun cp_q => by simp only [cp_o, List.countP_append, List.countP_nil] <;> omega)) ⟨(Nat.le_of_ble_eq_true rfl), (Nat.le_of_ble_eq_true rfl)⟩ (Nat.le_of_ble_eq_true rfl) (Nat.le_of_ble_eq_true rfl) dX8_isTrue_378 (fun u_23 H locs hu_23 hz_23 h => ?_)
                            have hv : tstV (F (fr + (k + 1))) (FI (5 * row + (fOf (F (fr + k))).toNat)) v = false := by unfold tstV; rw [if_pos (by omega)]; exact decide_eq_false (by omega)
                            rw [hv] at hT2
                            refine lv_goto (tgt := 29) zx zb dX8_isTrue_381 (by decide) ?_
                            exact ih29 e lv (up NO lv 0) OR (up AN lv (AN lv && (false != decide (NO lv % 2 = 1)))) _ _ _ (by omega) hT2 h (lv_sub hl [1, 2, 3, 4, 5] rfl)
                          · skip
                            refine lv_iconst (v := iI (1)) zx zb dX8_isTrue_336 rfl ?_
                            refine lv_goto (tgt := 378) zx zb dX8_isTrue_337 (by decide) ?_
                            refine r_invV (As := [.int (bI true)]) (rest := []) (wr := [(s, cI g len F), (a 15, cZ g 22 OR), (a 1, cI g 1505 FI)]) (ws2 := fun u_24 => [(a 0, oM a mth mrw mrg mbd mnw mlc msz man mas mak mkp mfa mte (ta : Int) (lv : Int) mct mgr mgo mgg), (s, cI g len F), (a 14, cI g 22 (up NO lv 0)), (a 15, cZ g 22 OR), (a 16, cZ g 22 (up AN lv (AN lv && (true != decide (NO lv % 2 = 1))))), (a 1, cI g 1505 FI)]) 0 0 zC h hl.1 (c_X8_test l D g a mth mrw mrg mbd mnw mlc msz mas mak mkp mfa mte (ta : Int) mct mgo man mgr mgg lv  NO AN true (by omega) (by omega)) (cs8_147 zC ⟨(Nat.le_of_ble_eq_true rfl), (Nat.le_of_ble_eq_true rfl)⟩) (.head _) rfl rfl rfl (Nat.le_of_ble_eq_true rfl) (pm fun cp_q => by simp only [cp_o, List.countP_append, List.countP_nil] <;> omega) (fun u => (pm fun cp_q => by simp only [cp_o, List.countP_append, List.countP_nil] <;> omega)) ⟨(Nat.le_of_ble_eq_true rfl), (Nat.le_of_ble_eq_true rfl)⟩ (Nat.le_of_ble_eq_true rfl) (Nat.le_of_ble_eq_true rfl) dX8_isTrue_378 (fun u_24 H locs hu_24 hz_24 h => ?_)
                            have hv : tstV (F (fr + (k + 1))) (FI (5 * row + (fOf (F (fr + k))).toNat)) v = true := by unfold tstV; rw [if_pos (by omega)]; exact decide_eq_true (by omega)
                            rw [hv] at hT2
                            refine lv_goto (tgt := 29) zx zb dX8_isTrue_381 (by decide) ?_
                            exact ih29 e lv (up NO lv 0) OR (up AN lv (AN lv && (true != decide (NO lv % 2 = 1)))) _ _ _ (by omega) hT2 h (lv_sub hl [1, 2, 3, 4, 5] rfl)
                      · skip
                        have hRe : R32 (F (fr + e)) := hR e (by omega)
                        refine lv_aload_n zx zb dX8_isTrue_267 rfl (lv_at hl 1 rfl) ?_
                        refine lv_iload_n zx zb dX8_isTrue_268 rfl (lv_at hl 2 rfl) ?_
                        refine lv_iload zx zb dX8_isTrue_269 (lv_at hl 4 rfl) ?_
                        refine i_add zC (a := (fr : Int)) (b := (e : Int)) dX8_isTrue_271 ?_
                        refine a_ild zC h 1 rfl (z := (fr : Int) + (e : Int)) (fr + e) (by omega) (by omega) (by omega) dX8_isTrue_272 ?_
                        refine i_i2l zC (a := F (fr + e)) dX8_isTrue_273 (by omega) ?_
                        refine kl8_132 zC dX8_isTrue_274 ?_
                        refine kl8_134 zC dX8_isTrue_277 ?_
                        refine r_invS (As := [.long (lI (F (fr + e))), .long (lI 48), .long (lI 57)]) (rest := []) (wr := [(a 0, oM a mth mrw mrg mbd mnw mlc msz man mas mak mkp mfa mte (ta : Int) (lv : Int) mct mgr mgo mgg), (s, cI g len F), (a 14, cI g 22 NO), (a 15, cZ g 22 OR), (a 16, cZ g 22 AN), (a 1, cI g 1505 FI)]) (ws2 := fun u_25 => [(a 0, oM a mth mrw mrg mbd mnw mlc msz man mas mak mkp mfa mte (ta : Int) (lv : Int) mct mgr mgo mgg), (s, cI g len F), (a 14, cI g 22 NO), (a 15, cZ g 22 OR), (a 16, cZ g 22 AN), (a 1, cI g 1505 FI)]) 0 0 zC h hl.1 (c_X8_within l D g (F (fr + e)) 48 57 (by omega) (by omega) (by omega)) (cs8_90 zC ⟨(Nat.le_of_ble_eq_true rfl), (Nat.le_of_ble_eq_true rfl)⟩) rfl rfl (Nat.le_of_ble_eq_true rfl) (List.Perm.refl _) (fun u => List.Perm.refl _) ⟨(Nat.le_of_ble_eq_true rfl), (Nat.le_of_ble_eq_true rfl)⟩ (Nat.le_of_ble_eq_true rfl) (Nat.le_of_ble_eq_true rfl) dX8_isTrue_280 (fun u_25 H locs hu_25 hz_25 h => ?_)
                        refine b_zeq (b := decide (48 ≤ F (fr + e) ∧ F (fr + e) ≤ 57)) (tgt := 309) zC dX8_isTrue_283 (by decide) (fun c_26 => ?_) (fun c_26 => ?_)
                        · skip
                          simp only [decide_eq_true_eq, decide_eq_false_iff_not] at c_26
                          have hX : e = ta ∨ ¬ (48 ≤ F (fr + e) ∧ F (fr + e) ≤ 57) := Or.inr c_26
                          have hT2 : TH mk (fun k => F (fr + k)) n (rBegin r) (fun f _ => FI (5 * row + f)) 0 ta e lv (up NO lv 0) OR (up AN lv (AN lv && (tstV (F (fr + (k + 1))) (FI (5 * row + (fOf (F (fr + k))).toNat)) v != decide (NO lv % 2 = 1)))) := TD_e hE hTa hD hX
                          have hFv := hFI (5 * row + (fOf (F (fr + k))).toNat) (by omega)
                          refine lv_aload_n zx zb dX8_isTrue_309 rfl (lv_at hl 0 rfl) ?_
                          refine lv_iload_n zx zb dX8_isTrue_310 rfl (lv_at hl 3 rfl) ?_
                          refine lv_iload zx zb dX8_isTrue_311 (lv_at hl 5 rfl) ?_
                          refine r_invS (As := [.int (iI (F (fr + k)))]) (rest := [.int (iI (row : Int)), .ref (a 0)]) (wr := [(a 0, oM a mth mrw mrg mbd mnw mlc msz man mas mak mkp mfa mte (ta : Int) (lv : Int) mct mgr mgo mgg), (s, cI g len F), (a 14, cI g 22 NO), (a 15, cZ g 22 OR), (a 16, cZ g 22 AN), (a 1, cI g 1505 FI)]) (ws2 := fun u_27 => [(a 0, oM a mth mrw mrg mbd mnw mlc msz man mas mak mkp mfa mte (ta : Int) (lv : Int) mct mgr mgo mgg), (s, cI g len F), (a 14, cI g 22 NO), (a 15, cZ g 22 OR), (a 16, cZ g 22 AN), (a 1, cI g 1505 FI)]) 0 0 zC h hl.1 (c_X8_fieldOf l D g (F (fr + k)) (by omega)) (cs8_128 zC ⟨(Nat.le_of_ble_eq_true rfl), (Nat.le_of_ble_eq_true rfl)⟩) rfl rfl (Nat.le_of_ble_eq_true rfl) (List.Perm.refl _) (fun u => List.Perm.refl _) ⟨(Nat.le_of_ble_eq_true rfl), (Nat.le_of_ble_eq_true rfl)⟩ (Nat.le_of_ble_eq_true rfl) (Nat.le_of_ble_eq_true rfl) dX8_isTrue_313 (fun u_27 H locs hu_27 hz_27 h => ?_)
                          have hfR_27 := fOf_R (F (fr + k))
                          rw [show (fOf (F (fr + k)) : Int) = ((fOf (F (fr + k))).toNat : Int) from by omega]
                          refine r_invV (As := [.int (iI (row : Int)), .int (iI ((fOf (F (fr + k))).toNat : Int))]) (rest := []) (wr := [(s, cI g len F), (a 14, cI g 22 NO), (a 15, cZ g 22 OR), (a 16, cZ g 22 AN)]) (ws2 := fun u_28 => [(a 0, oM a mth mrw mrg mbd mnw mlc msz man mas mak mkp mfa mte (ta : Int) (lv : Int) mct mgr mgo mgg), (s, cI g len F), (a 14, cI g 22 NO), (a 15, cZ g 22 OR), (a 16, cZ g 22 AN), (a 1, cI g 1505 FI)]) 0 0 zC h hl.1 (c_X8_field l D g a mth mrw mrg mbd mnw mlc msz mas mak mkp mfa mte (ta : Int) (lv : Int) mct mgo man mgr mgg   FI row ((fOf (F (fr + k))).toNat) (by omega) (by omega)) (cs8_151 zC ⟨(Nat.le_of_ble_eq_true rfl), (Nat.le_of_ble_eq_true rfl)⟩) (.head _) rfl rfl rfl (Nat.le_of_ble_eq_true rfl) (pm fun cp_q => by simp only [cp_o, List.countP_append, List.countP_nil] <;> omega) (fun u => (pm fun cp_q => by simp only [cp_o, List.countP_append, List.countP_nil] <;> omega)) ⟨(Nat.le_of_ble_eq_true rfl), (Nat.le_of_ble_eq_true rfl)⟩ (Nat.le_of_ble_eq_true rfl) (Nat.le_of_ble_eq_true rfl) dX8_isTrue_316 (fun u_28 H locs hu_28 hz_28 h => ?_)
                          refine lv_istore (lv' := [(8, .int (iI (FI (5 * row + ((fOf (F (fr + k))).toNat))))), (0, .ref (a 0)), (1, .ref s), (2, .int (iI (fr : Int))), (3, .int (iI (row : Int))), (4, .int (iI (e : Int))), (5, .int (iI (F (fr + k)))), (6, .int (iI (F (fr + (k + 1))))), (7, .int (iI v))]) zx zb dX8_isTrue_319 hl (by decide) rfl (fun ls hl => ?_)
                          refine lv_aload_n zx zb dX8_isTrue_321 rfl (lv_at hl 1 rfl) ?_
                          refine lv_iload zx zb dX8_isTrue_322 (lv_at hl 7 rfl) ?_
                          refine lv_bipush (v := iI (61)) zx zb dX8_isTrue_324 rfl ?_
                          refine i_cne (a := F (fr + (k + 1))) (b := 61) (tgt := 344) zC dX8_isTrue_326 (by decide) (by omega) (fun c_29 => ?_) (fun c_29 => ?_)
                          · skip
                            refine lv_iload zx zb dX8_isTrue_344 (lv_at hl 7 rfl) ?_
                            refine lv_bipush (v := iI (60)) zx zb dX8_isTrue_346 rfl ?_
                            refine i_cne (a := F (fr + (k + 1))) (b := 60) (tgt := 366) zC dX8_isTrue_348 (by decide) (by omega) (fun c_30 => ?_) (fun c_30 => ?_)
                            · skip
                              refine lv_iload zx zb dX8_isTrue_366 (lv_at hl 0 rfl) ?_
                              refine lv_iload zx zb dX8_isTrue_368 (lv_at hl 8 rfl) ?_
                              refine i_cle (a := FI (5 * row + ((fOf (F (fr + k))).toNat))) (b := v) (tgt := 377) zC dX8_isTrue_370 (by decide) (by omega) (fun c_31 => ?_) (fun c_31 => ?_)
                              · skip
                                refine lv_iconst (v := iI (0)) zx zb dX8_isTrue_377 rfl ?_
                                refine r_invV (As := [.int (bI false)]) (rest := []) (wr := [(s, cI g len F), (a 15, cZ g 22 OR), (a 1, cI g 1505 FI)]) (ws2 := fun u_32 => [(a 0, oM a mth mrw mrg mbd mnw mlc msz man mas mak mkp mfa mte (ta : Int) (lv : Int) mct mgr mgo mgg), (s, cI g len F), (a 14, cI g 22 (up NO lv 0)), (a 15, cZ g 22 OR), (a 16, cZ g 22 (up AN lv (AN lv && (false != decide (NO lv % 2 = 1))))), (a 1, cI g 1505 FI)]) 0 0 zC h hl.1 (c_X8_test l D g a mth mrw mrg mbd mnw mlc msz mas mak mkp mfa mte (ta : Int) mct mgo man mgr mgg lv  NO AN false (by omega) (by omega)) (cs8_147 zC ⟨(Nat.le_of_ble_eq_true rfl), (Nat.le_of_ble_eq_true rfl)⟩) (.head _) rfl rfl rfl (Nat.le_of_ble_eq_true rfl) (pm fun cp_q => by simp only [cp_o, List.countP_append, List.countP_nil] <;> omega) (fun u => (pm fun cp_q => by simp only [cp_o, List.countP_append, List.countP_nil] <;> omega)) ⟨(Nat.le_of_ble_eq_true rfl), (Nat.le_of_ble_eq_true rfl)⟩ (Nat.le_of_ble_eq_true rfl) (Nat.le_of_ble_eq_true rfl) dX8_isTrue_378 (fun u_32 H locs hu_32 hz_32 h => ?_)
                                have hv : tstV (F (fr + (k + 1))) (FI (5 * row + (fOf (F (fr + k))).toNat)) v = false := by unfold tstV; rw [if_neg (by omega), if_neg (by omega)]; exact decide_eq_false (by omega)
                                rw [hv] at hT2
                                refine lv_goto (tgt := 29) zx zb dX8_isTrue_381 (by decide) ?_
                                exact ih29 e lv (up NO lv 0) OR (up AN lv (AN lv && (false != decide (NO lv % 2 = 1)))) _ _ _ (by omega) hT2 h (lv_sub hl [1, 2, 3, 4, 5] rfl)
                              · skip
                                refine lv_iconst (v := iI (1)) zx zb dX8_isTrue_373 rfl ?_
                                refine lv_goto (tgt := 378) zx zb dX8_isTrue_374 (by decide) ?_
                                refine r_invV (As := [.int (bI true)]) (rest := []) (wr := [(s, cI g len F), (a 15, cZ g 22 OR), (a 1, cI g 1505 FI)]) (ws2 := fun u_33 => [(a 0, oM a mth mrw mrg mbd mnw mlc msz man mas mak mkp mfa mte (ta : Int) (lv : Int) mct mgr mgo mgg), (s, cI g len F), (a 14, cI g 22 (up NO lv 0)), (a 15, cZ g 22 OR), (a 16, cZ g 22 (up AN lv (AN lv && (true != decide (NO lv % 2 = 1))))), (a 1, cI g 1505 FI)]) 0 0 zC h hl.1 (c_X8_test l D g a mth mrw mrg mbd mnw mlc msz mas mak mkp mfa mte (ta : Int) mct mgo man mgr mgg lv  NO AN true (by omega) (by omega)) (cs8_147 zC ⟨(Nat.le_of_ble_eq_true rfl), (Nat.le_of_ble_eq_true rfl)⟩) (.head _) rfl rfl rfl (Nat.le_of_ble_eq_true rfl) (pm fun cp_q => by simp only [cp_o, List.countP_append, List.countP_nil] <;> omega) (fun u => (pm fun cp_q => by simp only [cp_o, List.countP_append, List.countP_nil] <;> omega)) ⟨(Nat.le_of_ble_eq_true rfl), (Nat.le_of_ble_eq_true rfl)⟩ (Nat.le_of_ble_eq_true rfl) (Nat.le_of_ble_eq_true rfl) dX8_isTrue_378 (fun u_33 H locs hu_33 hz_33 h => ?_)
                                have hv : tstV (F (fr + (k + 1))) (FI (5 * row + (fOf (F (fr + k))).toNat)) v = true := by unfold tstV; rw [if_neg (by omega), if_neg (by omega)]; exact decide_eq_true (by omega)
                                rw [hv] at hT2
                                refine lv_goto (tgt := 29) zx zb dX8_isTrue_381 (by decide) ?_
                                exact ih29 e lv (up NO lv 0) OR (up AN lv (AN lv && (true != decide (NO lv % 2 = 1)))) _ _ _ (by omega) hT2 h (lv_sub hl [1, 2, 3, 4, 5] rfl)
                            · skip
                              refine lv_iload zx zb dX8_isTrue_351 (lv_at hl 0 rfl) ?_
                              refine lv_iload zx zb dX8_isTrue_353 (lv_at hl 8 rfl) ?_
                              refine i_cge (a := FI (5 * row + ((fOf (F (fr + k))).toNat))) (b := v) (tgt := 362) zC dX8_isTrue_355 (by decide) (by omega) (fun c_34 => ?_) (fun c_34 => ?_)
                              · skip
                                refine lv_iconst (v := iI (0)) zx zb dX8_isTrue_362 rfl ?_
                                refine lv_goto (tgt := 378) zx zb dX8_isTrue_363 (by decide) ?_
                                refine r_invV (As := [.int (bI false)]) (rest := []) (wr := [(s, cI g len F), (a 15, cZ g 22 OR), (a 1, cI g 1505 FI)]) (ws2 := fun u_35 => [(a 0, oM a mth mrw mrg mbd mnw mlc msz man mas mak mkp mfa mte (ta : Int) (lv : Int) mct mgr mgo mgg), (s, cI g len F), (a 14, cI g 22 (up NO lv 0)), (a 15, cZ g 22 OR), (a 16, cZ g 22 (up AN lv (AN lv && (false != decide (NO lv % 2 = 1))))), (a 1, cI g 1505 FI)]) 0 0 zC h hl.1 (c_X8_test l D g a mth mrw mrg mbd mnw mlc msz mas mak mkp mfa mte (ta : Int) mct mgo man mgr mgg lv  NO AN false (by omega) (by omega)) (cs8_147 zC ⟨(Nat.le_of_ble_eq_true rfl), (Nat.le_of_ble_eq_true rfl)⟩) (.head _) rfl rfl rfl (Nat.le_of_ble_eq_true rfl) (pm fun cp_q => by simp only [cp_o, List.countP_append, List.countP_nil] <;> omega) (fun u => (pm fun cp_q => by simp only [cp_o, List.countP_append, List.countP_nil] <;> omega)) ⟨(Nat.le_of_ble_eq_true rfl), (Nat.le_of_ble_eq_true rfl)⟩ (Nat.le_of_ble_eq_true rfl) (Nat.le_of_ble_eq_true rfl) dX8_isTrue_378 (fun u_35 H locs hu_35 hz_35 h => ?_)
                                have hv : tstV (F (fr + (k + 1))) (FI (5 * row + (fOf (F (fr + k))).toNat)) v = false := by unfold tstV; rw [if_neg (by omega), if_pos (by omega)]; exact decide_eq_false (by omega)
                                rw [hv] at hT2
                                refine lv_goto (tgt := 29) zx zb dX8_isTrue_381 (by decide) ?_
                                exact ih29 e lv (up NO lv 0) OR (up AN lv (AN lv && (false != decide (NO lv % 2 = 1)))) _ _ _ (by omega) hT2 h (lv_sub hl [1, 2, 3, 4, 5] rfl)
                              · skip
                                refine lv_iconst (v := iI (1)) zx zb dX8_isTrue_358 rfl ?_
                                refine lv_goto (tgt := 378) zx zb dX8_isTrue_359 (by decide) ?_
                                refine r_invV (As := [.int (bI true)]) (rest := []) (wr := [(s, cI g len F), (a 15, cZ g 22 OR), (a 1, cI g 1505 FI)]) (ws2 := fun u_36 => [(a 0, oM a mth mrw mrg mbd mnw mlc msz man mas mak mkp mfa mte (ta : Int) (lv : Int) mct mgr mgo mgg), (s, cI g len F), (a 14, cI g 22 (up NO lv 0)), (a 15, cZ g 22 OR), (a 16, cZ g 22 (up AN lv (AN lv && (true != decide (NO lv % 2 = 1))))), (a 1, cI g 1505 FI)]) 0 0 zC h hl.1 (c_X8_test l D g a mth mrw mrg mbd mnw mlc msz mas mak mkp mfa mte (ta : Int) mct mgo man mgr mgg lv  NO AN true (by omega) (by omega)) (cs8_147 zC ⟨(Nat.le_of_ble_eq_true rfl), (Nat.le_of_ble_eq_true rfl)⟩) (.head _) rfl rfl rfl (Nat.le_of_ble_eq_true rfl) (pm fun cp_q => by simp only [cp_o, List.countP_append, List.countP_nil] <;> omega) (fun u => (pm fun cp_q => by simp only [cp_o, List.countP_append, List.countP_nil] <;> omega)) ⟨(Nat.le_of_ble_eq_true rfl), (Nat.le_of_ble_eq_true rfl)⟩ (Nat.le_of_ble_eq_true rfl) (Nat.le_of_ble_eq_true rfl) dX8_isTrue_378 (fun u_36 H locs hu_36 hz_36 h => ?_)
                                have hv : tstV (F (fr + (k + 1))) (FI (5 * row + (fOf (F (fr + k))).toNat)) v = true := by unfold tstV; rw [if_neg (by omega), if_pos (by omega)]; exact decide_eq_true (by omega)
                                rw [hv] at hT2
                                refine lv_goto (tgt := 29) zx zb dX8_isTrue_381 (by decide) ?_
                                exact ih29 e lv (up NO lv 0) OR (up AN lv (AN lv && (true != decide (NO lv % 2 = 1)))) _ _ _ (by omega) hT2 h (lv_sub hl [1, 2, 3, 4, 5] rfl)
                          · skip
                            refine lv_iload zx zb dX8_isTrue_329 (lv_at hl 0 rfl) ?_
                            refine lv_iload zx zb dX8_isTrue_331 (lv_at hl 8 rfl) ?_
                            refine i_cne (a := FI (5 * row + ((fOf (F (fr + k))).toNat))) (b := v) (tgt := 340) zC dX8_isTrue_333 (by decide) (by omega) (fun c_37 => ?_) (fun c_37 => ?_)
                            · skip
                              refine lv_iconst (v := iI (0)) zx zb dX8_isTrue_340 rfl ?_
                              refine lv_goto (tgt := 378) zx zb dX8_isTrue_341 (by decide) ?_
                              refine r_invV (As := [.int (bI false)]) (rest := []) (wr := [(s, cI g len F), (a 15, cZ g 22 OR), (a 1, cI g 1505 FI)]) (ws2 := fun u_38 => [(a 0, oM a mth mrw mrg mbd mnw mlc msz man mas mak mkp mfa mte (ta : Int) (lv : Int) mct mgr mgo mgg), (s, cI g len F), (a 14, cI g 22 (up NO lv 0)), (a 15, cZ g 22 OR), (a 16, cZ g 22 (up AN lv (AN lv && (false != decide (NO lv % 2 = 1))))), (a 1, cI g 1505 FI)]) 0 0 zC h hl.1 (c_X8_test l D g a mth mrw mrg mbd mnw mlc msz mas mak mkp mfa mte (ta : Int) mct mgo man mgr mgg lv  NO AN false (by omega) (by omega)) (cs8_147 zC ⟨(Nat.le_of_ble_eq_true rfl), (Nat.le_of_ble_eq_true rfl)⟩) (.head _) rfl rfl rfl (Nat.le_of_ble_eq_true rfl) (pm fun cp_q => by simp only [cp_o, List.countP_append, List.countP_nil] <;> omega) (fun u => (pm fun cp_q => by simp only [cp_o, List.countP_append, List.countP_nil] <;> omega)) ⟨(Nat.le_of_ble_eq_true rfl), (Nat.le_of_ble_eq_true rfl)⟩ (Nat.le_of_ble_eq_true rfl) (Nat.le_of_ble_eq_true rfl) dX8_isTrue_378 (fun u_38 H locs hu_38 hz_38 h => ?_)
                              have hv : tstV (F (fr + (k + 1))) (FI (5 * row + (fOf (F (fr + k))).toNat)) v = false := by unfold tstV; rw [if_pos (by omega)]; exact decide_eq_false (by omega)
                              rw [hv] at hT2
                              refine lv_goto (tgt := 29) zx zb dX8_isTrue_381 (by decide) ?_
                              exact ih29 e lv (up NO lv 0) OR (up AN lv (AN lv && (false != decide (NO lv % 2 = 1)))) _ _ _ (by omega) hT2 h (lv_sub hl [1, 2, 3, 4, 5] rfl)
                            · skip
                              refine lv_iconst (v := iI (1)) zx zb dX8_isTrue_336 rfl ?_
                              refine lv_goto (tgt := 378) zx zb dX8_isTrue_337 (by decide) ?_
                              refine r_invV (As := [.int (bI true)]) (rest := []) (wr := [(s, cI g len F), (a 15, cZ g 22 OR), (a 1, cI g 1505 FI)]) (ws2 := fun u_39 => [(a 0, oM a mth mrw mrg mbd mnw mlc msz man mas mak mkp mfa mte (ta : Int) (lv : Int) mct mgr mgo mgg), (s, cI g len F), (a 14, cI g 22 (up NO lv 0)), (a 15, cZ g 22 OR), (a 16, cZ g 22 (up AN lv (AN lv && (true != decide (NO lv % 2 = 1))))), (a 1, cI g 1505 FI)]) 0 0 zC h hl.1 (c_X8_test l D g a mth mrw mrg mbd mnw mlc msz mas mak mkp mfa mte (ta : Int) mct mgo man mgr mgg lv  NO AN true (by omega) (by omega)) (cs8_147 zC ⟨(Nat.le_of_ble_eq_true rfl), (Nat.le_of_ble_eq_true rfl)⟩) (.head _) rfl rfl rfl (Nat.le_of_ble_eq_true rfl) (pm fun cp_q => by simp only [cp_o, List.countP_append, List.countP_nil] <;> omega) (fun u => (pm fun cp_q => by simp only [cp_o, List.countP_append, List.countP_nil] <;> omega)) ⟨(Nat.le_of_ble_eq_true rfl), (Nat.le_of_ble_eq_true rfl)⟩ (Nat.le_of_ble_eq_true rfl) (Nat.le_of_ble_eq_true rfl) dX8_isTrue_378 (fun u_39 H locs hu_39 hz_39 h => ?_)
                              have hv : tstV (F (fr + (k + 1))) (FI (5 * row + (fOf (F (fr + k))).toNat)) v = true := by unfold tstV; rw [if_pos (by omega)]; exact decide_eq_true (by omega)
                              rw [hv] at hT2
                              refine lv_goto (tgt := 29) zx zb dX8_isTrue_381 (by decide) ?_
                              exact ih29 e lv (up NO lv 0) OR (up AN lv (AN lv && (true != decide (NO lv % 2 = 1)))) _ _ _ (by omega) hT2 h (lv_sub hl [1, 2, 3, 4, 5] rfl)
                        · skip
                          simp only [decide_eq_true_eq, decide_eq_false_iff_not] at c_26
                          have hD3 := (TD_s hE hD (by omega) c_26).2
                          refine lv_bipush (v := iI (10)) zx zb dX8_isTrue_286 rfl ?_
                          refine lv_iload zx zb dX8_isTrue_288 (lv_at hl 7 rfl) ?_
                          refine i_mul zC (a := 10) (b := v) dX8_isTrue_290 ?_
                          refine lv_aload_n zx zb dX8_isTrue_291 rfl (lv_at hl 1 rfl) ?_
                          refine lv_iload_n zx zb dX8_isTrue_292 rfl (lv_at hl 2 rfl) ?_
                          refine lv_iload zx zb dX8_isTrue_293 (lv_at hl 4 rfl) ?_
                          refine i_add zC (a := (fr : Int)) (b := (e : Int)) dX8_isTrue_295 ?_
                          refine a_ild zC h 1 rfl (z := (fr : Int) + (e : Int)) (fr + e) (by omega) (by omega) (by omega) dX8_isTrue_296 ?_
                          refine i_add zC (a := 10 * v) (b := F (fr + e)) dX8_isTrue_297 ?_
                          refine lv_bipush (v := iI (48)) zx zb dX8_isTrue_298 rfl ?_
                          refine i_sub zC (a := 10 * v + (F (fr + e))) (b := 48) dX8_isTrue_300 ?_
                          rw [show (10 * v + (F (fr + e)) - 48 : Int) = v * 10 + (F (fr + e) - 48) from (by omega)]
                          refine lv_istore (lv' := [(7, .int (iI (v * 10 + (F (fr + e) - 48)))), (0, .ref (a 0)), (1, .ref s), (2, .int (iI (fr : Int))), (3, .int (iI (row : Int))), (4, .int (iI (e : Int))), (5, .int (iI (F (fr + k)))), (6, .int (iI (F (fr + (k + 1)))))]) zx zb dX8_isTrue_301 hl (by decide) rfl (fun ls hl => ?_)
                          refine i_inc (q := 5) (a := (e : Int)) (lv' := [(4, .int (iI ((e : Int) + 1))), (7, .int (iI (v * 10 + (F (fr + e) - 48)))), (0, .ref (a 0)), (1, .ref s), (2, .int (iI (fr : Int))), (3, .int (iI (row : Int))), (5, .int (iI (F (fr + k)))), (6, .int (iI (F (fr + (k + 1)))))]) zC hl dX8_isTrue_303 rfl (by decide) rfl (fun ls hl => ?_)
                          refine lv_goto (tgt := 258) zx zb dX8_isTrue_306 (by decide) ?_
                          exact ih258 (e + 1) (v * 10 + (F (fr + e) - 48)) _ _ _ (by omega) hD3 h (lv_sub hl [2, 3, 4, 5, 0, 6, 7, 1] rfl)
                  exact L258_10 _ (k + 1 + 1) 0 _ _ _ (Nat.lt_succ_self _) hD0 h (lv_sub hl [4, 5, 6, 7, 1, 3, 2, 0] rfl)
              · skip
                have hT2 := (T_next hE hT hk (Or.inr c_8)).1 c_8
                refine lv_aload_n zx zb dX8_isTrue_186 rfl (lv_at hl 2 rfl) ?_
                refine gf8_60 (v := .ref (a 15)) zC h 0 rfl rfl dX8_isTrue_187 ?_
                refine lv_aload_n zx zb dX8_isTrue_190 rfl (lv_at hl 2 rfl) ?_
                refine gf8_111 (v := .int (iI (lv : Int))) zC h 0 rfl rfl dX8_isTrue_191 ?_
                refine lv_aload_n zx zb dX8_isTrue_194 rfl (lv_at hl 2 rfl) ?_
                refine gf8_60 (v := .ref (a 15)) zC h 0 rfl rfl dX8_isTrue_195 ?_
                refine lv_aload_n zx zb dX8_isTrue_198 rfl (lv_at hl 2 rfl) ?_
                refine gf8_111 (v := .int (iI (lv : Int))) zC h 0 rfl rfl dX8_isTrue_199 ?_
                refine a_zld zC h 3 rfl (z := (lv : Int)) lv (by omega) (by omega) (by decide) dX8_isTrue_202 ?_
                refine b_zne (b := OR lv) (tgt := 218) zC dX8_isTrue_203 (by decide) (fun c_40 => ?_) (fun c_40 => ?_)
                · skip
                  refine lv_iconst (v := iI (1)) zx zb dX8_isTrue_218 rfl ?_
                  refine lv_goto (tgt := 223) zx zb dX8_isTrue_219 (by decide) ?_
                  refine a_zst (x := true) zC h 3 (ws' := [(a 0, oM a mth mrw mrg mbd mnw mlc msz man mas mak mkp mfa mte (ta : Int) (lv : Int) mct mgr mgo mgg), (s, cI g len F), (a 14, cI g 22 NO), (a 15, cZ g 22 (up OR lv (OR lv || AN lv))), (a 16, cZ g 22 AN), (a 1, cI g 1505 FI)]) rfl (z := (lv : Int)) lv (by rw [show up OR lv true = up OR lv (OR lv || AN lv) from (congrArg (up OR lv) (by simp [c_40]))]; rfl) (by omega) (by omega) (by decide) dX8_isTrue_223 (fun H locs h => ?_)
                  refine lv_aload_n zx zb dX8_isTrue_224 rfl (lv_at hl 2 rfl) ?_
                  refine gf8_63 (v := .ref (a 16)) zC h 0 rfl rfl dX8_isTrue_225 ?_
                  refine lv_aload_n zx zb dX8_isTrue_228 rfl (lv_at hl 2 rfl) ?_
                  refine gf8_111 (v := .int (iI (lv : Int))) zC h 0 rfl rfl dX8_isTrue_229 ?_
                  refine lv_iconst (v := iI (1)) zx zb dX8_isTrue_232 rfl ?_
                  refine a_zst (x := true) zC h 4 (ws' := [(a 0, oM a mth mrw mrg mbd mnw mlc msz man mas mak mkp mfa mte (ta : Int) (lv : Int) mct mgr mgo mgg), (s, cI g len F), (a 14, cI g 22 NO), (a 15, cZ g 22 (up OR lv (OR lv || AN lv))), (a 16, cZ g 22 (up AN lv true)), (a 1, cI g 1505 FI)]) rfl (z := (lv : Int)) lv rfl (by omega) (by omega) (by decide) dX8_isTrue_233 (fun H locs h => ?_)
                  refine lv_goto (tgt := 381) zx zb dX8_isTrue_234 (by decide) ?_
                  refine lv_goto (tgt := 29) zx zb dX8_isTrue_381 (by decide) ?_
                  exact ih29 (k + 1) lv NO (up OR lv (OR lv || AN lv)) (up AN lv true) _ _ _ (by omega) hT2 h (lv_sub hl [2, 3, 4, 5, 0] rfl)
                · skip
                  refine lv_aload_n zx zb dX8_isTrue_206 rfl (lv_at hl 2 rfl) ?_
                  refine gf8_63 (v := .ref (a 16)) zC h 0 rfl rfl dX8_isTrue_207 ?_
                  refine lv_aload_n zx zb dX8_isTrue_210 rfl (lv_at hl 2 rfl) ?_
                  refine gf8_111 (v := .int (iI (lv : Int))) zC h 0 rfl rfl dX8_isTrue_211 ?_
                  refine a_zld zC h 4 rfl (z := (lv : Int)) lv (by omega) (by omega) (by decide) dX8_isTrue_214 ?_
                  refine b_zeq (b := AN lv) (tgt := 222) zC dX8_isTrue_215 (by decide) (fun c_41 => ?_) (fun c_41 => ?_)
                  · skip
                    refine lv_iconst (v := iI (0)) zx zb dX8_isTrue_222 rfl ?_
                    refine a_zst (x := false) zC h 3 (ws' := [(a 0, oM a mth mrw mrg mbd mnw mlc msz man mas mak mkp mfa mte (ta : Int) (lv : Int) mct mgr mgo mgg), (s, cI g len F), (a 14, cI g 22 NO), (a 15, cZ g 22 (up OR lv (OR lv || AN lv))), (a 16, cZ g 22 AN), (a 1, cI g 1505 FI)]) rfl (z := (lv : Int)) lv (by rw [show up OR lv false = up OR lv (OR lv || AN lv) from (congrArg (up OR lv) (by simp [c_40, c_41]))]; rfl) (by omega) (by omega) (by decide) dX8_isTrue_223 (fun H locs h => ?_)
                    refine lv_aload_n zx zb dX8_isTrue_224 rfl (lv_at hl 2 rfl) ?_
                    refine gf8_63 (v := .ref (a 16)) zC h 0 rfl rfl dX8_isTrue_225 ?_
                    refine lv_aload_n zx zb dX8_isTrue_228 rfl (lv_at hl 2 rfl) ?_
                    refine gf8_111 (v := .int (iI (lv : Int))) zC h 0 rfl rfl dX8_isTrue_229 ?_
                    refine lv_iconst (v := iI (1)) zx zb dX8_isTrue_232 rfl ?_
                    refine a_zst (x := true) zC h 4 (ws' := [(a 0, oM a mth mrw mrg mbd mnw mlc msz man mas mak mkp mfa mte (ta : Int) (lv : Int) mct mgr mgo mgg), (s, cI g len F), (a 14, cI g 22 NO), (a 15, cZ g 22 (up OR lv (OR lv || AN lv))), (a 16, cZ g 22 (up AN lv true)), (a 1, cI g 1505 FI)]) rfl (z := (lv : Int)) lv rfl (by omega) (by omega) (by decide) dX8_isTrue_233 (fun H locs h => ?_)
                    refine lv_goto (tgt := 381) zx zb dX8_isTrue_234 (by decide) ?_
                    refine lv_goto (tgt := 29) zx zb dX8_isTrue_381 (by decide) ?_
                    exact ih29 (k + 1) lv NO (up OR lv (OR lv || AN lv)) (up AN lv true) _ _ _ (by omega) hT2 h (lv_sub hl [2, 3, 4, 5, 0] rfl)
                  · skip
                    refine lv_iconst (v := iI (1)) zx zb dX8_isTrue_218 rfl ?_
                    refine lv_goto (tgt := 223) zx zb dX8_isTrue_219 (by decide) ?_
                    refine a_zst (x := true) zC h 3 (ws' := [(a 0, oM a mth mrw mrg mbd mnw mlc msz man mas mak mkp mfa mte (ta : Int) (lv : Int) mct mgr mgo mgg), (s, cI g len F), (a 14, cI g 22 NO), (a 15, cZ g 22 (up OR lv (OR lv || AN lv))), (a 16, cZ g 22 AN), (a 1, cI g 1505 FI)]) rfl (z := (lv : Int)) lv (by rw [show up OR lv true = up OR lv (OR lv || AN lv) from (congrArg (up OR lv) (by simp [c_40, c_41]))]; rfl) (by omega) (by omega) (by decide) dX8_isTrue_223 (fun H locs h => ?_)
                    refine lv_aload_n zx zb dX8_isTrue_224 rfl (lv_at hl 2 rfl) ?_
                    refine gf8_63 (v := .ref (a 16)) zC h 0 rfl rfl dX8_isTrue_225 ?_
                    refine lv_aload_n zx zb dX8_isTrue_228 rfl (lv_at hl 2 rfl) ?_
                    refine gf8_111 (v := .int (iI (lv : Int))) zC h 0 rfl rfl dX8_isTrue_229 ?_
                    refine lv_iconst (v := iI (1)) zx zb dX8_isTrue_232 rfl ?_
                    refine a_zst (x := true) zC h 4 (ws' := [(a 0, oM a mth mrw mrg mbd mnw mlc msz man mas mak mkp mfa mte (ta : Int) (lv : Int) mct mgr mgo mgg), (s, cI g len F), (a 14, cI g 22 NO), (a 15, cZ g 22 (up OR lv (OR lv || AN lv))), (a 16, cZ g 22 (up AN lv true)), (a 1, cI g 1505 FI)]) rfl (z := (lv : Int)) lv rfl (by omega) (by omega) (by decide) dX8_isTrue_233 (fun H locs h => ?_)
                    refine lv_goto (tgt := 381) zx zb dX8_isTrue_234 (by decide) ?_
                    refine lv_goto (tgt := 29) zx zb dX8_isTrue_381 (by decide) ?_
                    exact ih29 (k + 1) lv NO (up OR lv (OR lv || AN lv)) (up AN lv true) _ _ _ (by omega) hT2 h (lv_sub hl [2, 3, 4, 5, 0] rfl)
            · skip
              obtain ⟨h_0, h_n1, h_n2, hT2⟩ := T_close hE hT hk c_7
              refine lv_aload_n zx zb dX8_isTrue_129 rfl (lv_at hl 2 rfl) ?_
              refine gf8_60 (v := .ref (a 15)) zC h 0 rfl rfl dX8_isTrue_130 ?_
              refine lv_aload_n zx zb dX8_isTrue_133 rfl (lv_at hl 2 rfl) ?_
              refine gf8_111 (v := .int (iI (lv : Int))) zC h 0 rfl rfl dX8_isTrue_134 ?_
              refine a_zld zC h 3 rfl (z := (lv : Int)) lv (by omega) (by omega) (by decide) dX8_isTrue_137 ?_
              refine b_zne (b := OR lv) (tgt := 153) zC dX8_isTrue_138 (by decide) (fun c_42 => ?_) (fun c_42 => ?_)
              · skip
                refine lv_iconst (v := iI (1)) zx zb dX8_isTrue_153 rfl ?_
                refine lv_goto (tgt := 158) zx zb dX8_isTrue_154 (by decide) ?_
                refine lv_istore (lv' := [(6, .int (iI 1)), (4, .int (iI ((k : Int) + 1))), (5, .int (iI (F (fr + k)))), (0, .ref (a 0)), (1, .ref s), (2, .int (iI (fr : Int))), (3, .int (iI (row : Int)))]) zx zb dX8_isTrue_158 hl (by decide) rfl (fun ls hl => ?_)
                refine lv_aload_n zx zb dX8_isTrue_160 rfl (lv_at hl 3 rfl) ?_
                refine lv_dup zx zb dX8_isTrue_161 rfl ?_
                refine gf8_111 (v := .int (iI (lv : Int))) zC h 0 rfl rfl dX8_isTrue_162 ?_
                refine lv_iconst (v := iI (1)) zx zb dX8_isTrue_165 rfl ?_
                refine i_sub zC (a := (lv : Int)) (b := 1) dX8_isTrue_166 ?_
                rw [show ((lv : Int) - 1 : Int) = ((lv - 1 : Nat) : Int) from by omega]
                refine pf8_111 (x := iI ((lv - 1 : Nat) : Int)) zC h 0 (ws' := [(a 0, oM a mth mrw mrg mbd mnw mlc msz man mas mak mkp mfa mte (ta : Int) ((lv - 1 : Nat) : Int) mct mgr mgo mgg), (s, cI g len F), (a 14, cI g 22 NO), (a 15, cZ g 22 OR), (a 16, cZ g 22 AN), (a 1, cI g 1505 FI)]) rfl rfl (Nat.le_of_ble_eq_true rfl) dX8_isTrue_167 (fun H locs h => ?_)
                refine lv_aload_n zx zb dX8_isTrue_170 rfl (lv_at hl 3 rfl) ?_
                refine lv_iload zx zb dX8_isTrue_171 (lv_at hl 0 rfl) ?_
                refine r_invV (As := [.int (bI true)]) (rest := []) (wr := [(s, cI g len F), (a 15, cZ g 22 OR), (a 1, cI g 1505 FI)]) (ws2 := fun u_43 => [(a 0, oM a mth mrw mrg mbd mnw mlc msz man mas mak mkp mfa mte (ta : Int) ((lv - 1 : Nat) : Int) mct mgr mgo mgg), (s, cI g len F), (a 14, cI g 22 (up NO (lv - 1) 0)), (a 15, cZ g 22 OR), (a 16, cZ g 22 (up AN (lv - 1) (AN (lv - 1) && (true != decide (NO (lv - 1) % 2 = 1))))), (a 1, cI g 1505 FI)]) 0 0 zC h hl.1 (c_X8_test l D g a mth mrw mrg mbd mnw mlc msz mas mak mkp mfa mte (ta : Int) mct mgo man mgr mgg (lv - 1)  NO AN true (by omega) (by omega)) (cs8_147 zC ⟨(Nat.le_of_ble_eq_true rfl), (Nat.le_of_ble_eq_true rfl)⟩) (.head _) rfl rfl rfl (Nat.le_of_ble_eq_true rfl) (pm fun cp_q => by simp only [cp_o, List.countP_append, List.countP_nil] <;> omega) (fun u => (pm fun cp_q => by simp only [cp_o, List.countP_append, List.countP_nil] <;> omega)) ⟨(Nat.le_of_ble_eq_true rfl), (Nat.le_of_ble_eq_true rfl)⟩ (Nat.le_of_ble_eq_true rfl) (Nat.le_of_ble_eq_true rfl) dX8_isTrue_173 (fun u_43 H locs hu_43 hz_43 h => ?_)
                have hv : (OR lv || AN lv) = true := by simp [c_42]
                rw [hv] at hT2
                refine lv_goto (tgt := 381) zx zb dX8_isTrue_176 (by decide) ?_
                refine lv_goto (tgt := 29) zx zb dX8_isTrue_381 (by decide) ?_
                exact ih29 (k + 1) (lv - 1) (up NO (lv - 1) 0) OR (up AN (lv - 1) (AN (lv - 1) && (true != decide (NO (lv - 1) % 2 = 1)))) _ _ _ (by omega) hT2 h (lv_sub hl [3, 4, 5, 6, 1] rfl)
              · skip
                refine lv_aload_n zx zb dX8_isTrue_141 rfl (lv_at hl 2 rfl) ?_
                refine gf8_63 (v := .ref (a 16)) zC h 0 rfl rfl dX8_isTrue_142 ?_
                refine lv_aload_n zx zb dX8_isTrue_145 rfl (lv_at hl 2 rfl) ?_
                refine gf8_111 (v := .int (iI (lv : Int))) zC h 0 rfl rfl dX8_isTrue_146 ?_
                refine a_zld zC h 4 rfl (z := (lv : Int)) lv (by omega) (by omega) (by decide) dX8_isTrue_149 ?_
                refine b_zeq (b := AN lv) (tgt := 157) zC dX8_isTrue_150 (by decide) (fun c_44 => ?_) (fun c_44 => ?_)
                · skip
                  refine lv_iconst (v := iI (0)) zx zb dX8_isTrue_157 rfl ?_
                  refine lv_istore (lv' := [(6, .int (iI 0)), (4, .int (iI ((k : Int) + 1))), (5, .int (iI (F (fr + k)))), (0, .ref (a 0)), (1, .ref s), (2, .int (iI (fr : Int))), (3, .int (iI (row : Int)))]) zx zb dX8_isTrue_158 hl (by decide) rfl (fun ls hl => ?_)
                  refine lv_aload_n zx zb dX8_isTrue_160 rfl (lv_at hl 3 rfl) ?_
                  refine lv_dup zx zb dX8_isTrue_161 rfl ?_
                  refine gf8_111 (v := .int (iI (lv : Int))) zC h 0 rfl rfl dX8_isTrue_162 ?_
                  refine lv_iconst (v := iI (1)) zx zb dX8_isTrue_165 rfl ?_
                  refine i_sub zC (a := (lv : Int)) (b := 1) dX8_isTrue_166 ?_
                  rw [show ((lv : Int) - 1 : Int) = ((lv - 1 : Nat) : Int) from by omega]
                  refine pf8_111 (x := iI ((lv - 1 : Nat) : Int)) zC h 0 (ws' := [(a 0, oM a mth mrw mrg mbd mnw mlc msz man mas mak mkp mfa mte (ta : Int) ((lv - 1 : Nat) : Int) mct mgr mgo mgg), (s, cI g len F), (a 14, cI g 22 NO), (a 15, cZ g 22 OR), (a 16, cZ g 22 AN), (a 1, cI g 1505 FI)]) rfl rfl (Nat.le_of_ble_eq_true rfl) dX8_isTrue_167 (fun H locs h => ?_)
                  refine lv_aload_n zx zb dX8_isTrue_170 rfl (lv_at hl 3 rfl) ?_
                  refine lv_iload zx zb dX8_isTrue_171 (lv_at hl 0 rfl) ?_
                  refine r_invV (As := [.int (bI false)]) (rest := []) (wr := [(s, cI g len F), (a 15, cZ g 22 OR), (a 1, cI g 1505 FI)]) (ws2 := fun u_45 => [(a 0, oM a mth mrw mrg mbd mnw mlc msz man mas mak mkp mfa mte (ta : Int) ((lv - 1 : Nat) : Int) mct mgr mgo mgg), (s, cI g len F), (a 14, cI g 22 (up NO (lv - 1) 0)), (a 15, cZ g 22 OR), (a 16, cZ g 22 (up AN (lv - 1) (AN (lv - 1) && (false != decide (NO (lv - 1) % 2 = 1))))), (a 1, cI g 1505 FI)]) 0 0 zC h hl.1 (c_X8_test l D g a mth mrw mrg mbd mnw mlc msz mas mak mkp mfa mte (ta : Int) mct mgo man mgr mgg (lv - 1)  NO AN false (by omega) (by omega)) (cs8_147 zC ⟨(Nat.le_of_ble_eq_true rfl), (Nat.le_of_ble_eq_true rfl)⟩) (.head _) rfl rfl rfl (Nat.le_of_ble_eq_true rfl) (pm fun cp_q => by simp only [cp_o, List.countP_append, List.countP_nil] <;> omega) (fun u => (pm fun cp_q => by simp only [cp_o, List.countP_append, List.countP_nil] <;> omega)) ⟨(Nat.le_of_ble_eq_true rfl), (Nat.le_of_ble_eq_true rfl)⟩ (Nat.le_of_ble_eq_true rfl) (Nat.le_of_ble_eq_true rfl) dX8_isTrue_173 (fun u_45 H locs hu_45 hz_45 h => ?_)
                  have hv : (OR lv || AN lv) = false := by simp [c_42, c_44]
                  rw [hv] at hT2
                  refine lv_goto (tgt := 381) zx zb dX8_isTrue_176 (by decide) ?_
                  refine lv_goto (tgt := 29) zx zb dX8_isTrue_381 (by decide) ?_
                  exact ih29 (k + 1) (lv - 1) (up NO (lv - 1) 0) OR (up AN (lv - 1) (AN (lv - 1) && (false != decide (NO (lv - 1) % 2 = 1)))) _ _ _ (by omega) hT2 h (lv_sub hl [3, 4, 5, 6, 1] rfl)
                · skip
                  refine lv_iconst (v := iI (1)) zx zb dX8_isTrue_153 rfl ?_
                  refine lv_goto (tgt := 158) zx zb dX8_isTrue_154 (by decide) ?_
                  refine lv_istore (lv' := [(6, .int (iI 1)), (4, .int (iI ((k : Int) + 1))), (5, .int (iI (F (fr + k)))), (0, .ref (a 0)), (1, .ref s), (2, .int (iI (fr : Int))), (3, .int (iI (row : Int)))]) zx zb dX8_isTrue_158 hl (by decide) rfl (fun ls hl => ?_)
                  refine lv_aload_n zx zb dX8_isTrue_160 rfl (lv_at hl 3 rfl) ?_
                  refine lv_dup zx zb dX8_isTrue_161 rfl ?_
                  refine gf8_111 (v := .int (iI (lv : Int))) zC h 0 rfl rfl dX8_isTrue_162 ?_
                  refine lv_iconst (v := iI (1)) zx zb dX8_isTrue_165 rfl ?_
                  refine i_sub zC (a := (lv : Int)) (b := 1) dX8_isTrue_166 ?_
                  rw [show ((lv : Int) - 1 : Int) = ((lv - 1 : Nat) : Int) from by omega]
                  refine pf8_111 (x := iI ((lv - 1 : Nat) : Int)) zC h 0 (ws' := [(a 0, oM a mth mrw mrg mbd mnw mlc msz man mas mak mkp mfa mte (ta : Int) ((lv - 1 : Nat) : Int) mct mgr mgo mgg), (s, cI g len F), (a 14, cI g 22 NO), (a 15, cZ g 22 OR), (a 16, cZ g 22 AN), (a 1, cI g 1505 FI)]) rfl rfl (Nat.le_of_ble_eq_true rfl) dX8_isTrue_167 (fun H locs h => ?_)
                  refine lv_aload_n zx zb dX8_isTrue_170 rfl (lv_at hl 3 rfl) ?_
                  refine lv_iload zx zb dX8_isTrue_171 (lv_at hl 0 rfl) ?_
                  refine r_invV (As := [.int (bI true)]) (rest := []) (wr := [(s, cI g len F), (a 15, cZ g 22 OR), (a 1, cI g 1505 FI)]) (ws2 := fun u_46 => [(a 0, oM a mth mrw mrg mbd mnw mlc msz man mas mak mkp mfa mte (ta : Int) ((lv - 1 : Nat) : Int) mct mgr mgo mgg), (s, cI g len F), (a 14, cI g 22 (up NO (lv - 1) 0)), (a 15, cZ g 22 OR), (a 16, cZ g 22 (up AN (lv - 1) (AN (lv - 1) && (true != decide (NO (lv - 1) % 2 = 1))))), (a 1, cI g 1505 FI)]) 0 0 zC h hl.1 (c_X8_test l D g a mth mrw mrg mbd mnw mlc msz mas mak mkp mfa mte (ta : Int) mct mgo man mgr mgg (lv - 1)  NO AN true (by omega) (by omega)) (cs8_147 zC ⟨(Nat.le_of_ble_eq_true rfl), (Nat.le_of_ble_eq_true rfl)⟩) (.head _) rfl rfl rfl (Nat.le_of_ble_eq_true rfl) (pm fun cp_q => by simp only [cp_o, List.countP_append, List.countP_nil] <;> omega) (fun u => (pm fun cp_q => by simp only [cp_o, List.countP_append, List.countP_nil] <;> omega)) ⟨(Nat.le_of_ble_eq_true rfl), (Nat.le_of_ble_eq_true rfl)⟩ (Nat.le_of_ble_eq_true rfl) (Nat.le_of_ble_eq_true rfl) dX8_isTrue_173 (fun u_46 H locs hu_46 hz_46 h => ?_)
                  have hv : (OR lv || AN lv) = true := by simp [c_42, c_44]
                  rw [hv] at hT2
                  refine lv_goto (tgt := 381) zx zb dX8_isTrue_176 (by decide) ?_
                  refine lv_goto (tgt := 29) zx zb dX8_isTrue_381 (by decide) ?_
                  exact ih29 (k + 1) (lv - 1) (up NO (lv - 1) 0) OR (up AN (lv - 1) (AN (lv - 1) && (true != decide (NO (lv - 1) % 2 = 1)))) _ _ _ (by omega) hT2 h (lv_sub hl [3, 4, 5, 6, 1] rfl)
          · skip
            have hT2 := T_open hE hT hk c_6
            refine lv_aload_n zx zb dX8_isTrue_79 rfl (lv_at hl 2 rfl) ?_
            refine lv_dup zx zb dX8_isTrue_80 rfl ?_
            refine gf8_111 (v := .int (iI (lv : Int))) zC h 0 rfl rfl dX8_isTrue_81 ?_
            refine lv_iconst (v := iI (1)) zx zb dX8_isTrue_84 rfl ?_
            refine i_add zC (a := (lv : Int)) (b := 1) dX8_isTrue_85 ?_
            rw [show ((lv : Int) + 1 : Int) = ((lv + 1 : Nat) : Int) from by omega]
            refine pf8_111 (x := iI ((lv + 1 : Nat) : Int)) zC h 0 (ws' := [(a 0, oM a mth mrw mrg mbd mnw mlc msz man mas mak mkp mfa mte (ta : Int) ((lv + 1 : Nat) : Int) mct mgr mgo mgg), (s, cI g len F), (a 14, cI g 22 NO), (a 15, cZ g 22 OR), (a 16, cZ g 22 AN), (a 1, cI g 1505 FI)]) rfl rfl (Nat.le_of_ble_eq_true rfl) dX8_isTrue_86 (fun H locs h => ?_)
            refine lv_aload_n zx zb dX8_isTrue_89 rfl (lv_at hl 2 rfl) ?_
            refine gf8_57 (v := .ref (a 14)) zC h 0 rfl rfl dX8_isTrue_90 ?_
            refine lv_aload_n zx zb dX8_isTrue_93 rfl (lv_at hl 2 rfl) ?_
            refine gf8_111 (v := .int (iI ((lv + 1 : Nat) : Int))) zC h 0 rfl rfl dX8_isTrue_94 ?_
            refine lv_iconst (v := iI (0)) zx zb dX8_isTrue_97 rfl ?_
            refine a_ist (x := 0) zC h 2 (ws' := [(a 0, oM a mth mrw mrg mbd mnw mlc msz man mas mak mkp mfa mte (ta : Int) ((lv + 1 : Nat) : Int) mct mgr mgo mgg), (s, cI g len F), (a 14, cI g 22 (up NO (lv + 1) 0)), (a 15, cZ g 22 OR), (a 16, cZ g 22 AN), (a 1, cI g 1505 FI)]) rfl (z := ((lv + 1 : Nat) : Int)) (lv + 1) rfl rfl (by omega) (by decide) dX8_isTrue_98 (fun H locs h => ?_)
            refine lv_aload_n zx zb dX8_isTrue_99 rfl (lv_at hl 2 rfl) ?_
            refine gf8_60 (v := .ref (a 15)) zC h 0 rfl rfl dX8_isTrue_100 ?_
            refine lv_aload_n zx zb dX8_isTrue_103 rfl (lv_at hl 2 rfl) ?_
            refine gf8_111 (v := .int (iI ((lv + 1 : Nat) : Int))) zC h 0 rfl rfl dX8_isTrue_104 ?_
            refine lv_iconst (v := iI (0)) zx zb dX8_isTrue_107 rfl ?_
            refine a_zst (x := false) zC h 3 (ws' := [(a 0, oM a mth mrw mrg mbd mnw mlc msz man mas mak mkp mfa mte (ta : Int) ((lv + 1 : Nat) : Int) mct mgr mgo mgg), (s, cI g len F), (a 14, cI g 22 (up NO (lv + 1) 0)), (a 15, cZ g 22 (up OR (lv + 1) false)), (a 16, cZ g 22 AN), (a 1, cI g 1505 FI)]) rfl (z := ((lv + 1 : Nat) : Int)) (lv + 1) rfl rfl (by omega) (by decide) dX8_isTrue_108 (fun H locs h => ?_)
            refine lv_aload_n zx zb dX8_isTrue_109 rfl (lv_at hl 2 rfl) ?_
            refine gf8_63 (v := .ref (a 16)) zC h 0 rfl rfl dX8_isTrue_110 ?_
            refine lv_aload_n zx zb dX8_isTrue_113 rfl (lv_at hl 2 rfl) ?_
            refine gf8_111 (v := .int (iI ((lv + 1 : Nat) : Int))) zC h 0 rfl rfl dX8_isTrue_114 ?_
            refine lv_iconst (v := iI (1)) zx zb dX8_isTrue_117 rfl ?_
            refine a_zst (x := true) zC h 4 (ws' := [(a 0, oM a mth mrw mrg mbd mnw mlc msz man mas mak mkp mfa mte (ta : Int) ((lv + 1 : Nat) : Int) mct mgr mgo mgg), (s, cI g len F), (a 14, cI g 22 (up NO (lv + 1) 0)), (a 15, cZ g 22 (up OR (lv + 1) false)), (a 16, cZ g 22 (up AN (lv + 1) true)), (a 1, cI g 1505 FI)]) rfl (z := ((lv + 1 : Nat) : Int)) (lv + 1) rfl rfl (by omega) (by decide) dX8_isTrue_118 (fun H locs h => ?_)
            refine lv_goto (tgt := 381) zx zb dX8_isTrue_119 (by decide) ?_
            refine lv_goto (tgt := 29) zx zb dX8_isTrue_381 (by decide) ?_
            exact ih29 (k + 1) (lv + 1) (up NO (lv + 1) 0) (up OR (lv + 1) false) (up AN (lv + 1) true) _ _ _ (by omega) hT2 h (lv_sub hl [2, 3, 4, 5, 0] rfl)
        · skip
          have hT2 := T_turn hE hT hk c_5
          refine lv_aload_n zx zb dX8_isTrue_56 rfl (lv_at hl 2 rfl) ?_
          refine gf8_57 (v := .ref (a 14)) zC h 0 rfl rfl dX8_isTrue_57 ?_
          refine lv_aload_n zx zb dX8_isTrue_60 rfl (lv_at hl 2 rfl) ?_
          refine gf8_111 (v := .int (iI (lv : Int))) zC h 0 rfl rfl dX8_isTrue_61 ?_
          refine lv_dup2_11 zx zb dX8_isTrue_64 rfl rfl ?_
          refine a_ild zC h 2 rfl (z := (lv : Int)) lv rfl (by omega) (by decide) dX8_isTrue_65 ?_
          refine lv_iconst (v := iI (1)) zx zb dX8_isTrue_66 rfl ?_
          refine i_add zC (a := NO lv) (b := 1) dX8_isTrue_67 ?_
          refine a_ist (x := NO lv + 1) zC h 2 (ws' := [(a 0, oM a mth mrw mrg mbd mnw mlc msz man mas mak mkp mfa mte (ta : Int) (lv : Int) mct mgr mgo mgg), (s, cI g len F), (a 14, cI g 22 (up NO lv (NO lv + 1))), (a 15, cZ g 22 OR), (a 16, cZ g 22 AN), (a 1, cI g 1505 FI)]) rfl (z := (lv : Int)) lv rfl rfl (by omega) (by decide) dX8_isTrue_68 (fun H locs h => ?_)
          refine lv_goto (tgt := 381) zx zb dX8_isTrue_69 (by decide) ?_
          refine lv_goto (tgt := 29) zx zb dX8_isTrue_381 (by decide) ?_
          exact ih29 (k + 1) lv (up NO lv (NO lv + 1)) OR AN _ _ _ (by omega) hT2 h (lv_sub hl [2, 3, 4, 5, 0] rfl)
  exact L29_1 _ 0 0 (up NO 0 0) (up OR 0 false) (up AN 0 true) _ _ _ (Nat.lt_succ_self _) (TH_0 hE) h (lv_sub hl [1, 2, 3, 4, 0] rfl)
