set_option maxHeartbeats 4000000 in
set_option maxRecDepth 100000 in
theorem law_loop {p : Program} {e : Env} {s : State} {m : MethodId} {below : List Frame} {meth : Method} {c : Code} (l : Launch) {b L : Nat} {xs : Nat → Int32} (hL : L ≤ 448) (C0 : lw_At p s m meth c b L xs) {D : va_G} {g : Nat → ClassId} {x j ta ka : Nat} {ra ga da fa pa gr r1 r2 r3 a : Nat → Nat} (C : Cx p m c cL_law 4 s #[Value.ref b] RL) :
    ∀ (fuel i : Nat) (qa : Nat → Nat) (qd : Nat → Nat) (sg : Nat) (kc : Nat) (mk : Nat → Bool) (cb : Int) (lc : Int) (tm : Int) (an : Bool) (gn : Nat) (B : Nat → Nat → Nat → Bool) (Cn : Nat → Int) (n : Nat) (Vv : Nat → Nat → Int) (U : Nat → Nat → Int) (Dn : Nat → Nat → Int) (tx : Nat → Int) (J : JS4) (rm : Nat → Bool) (r : RS) (aw : Nat) (A : QC) (F : FS) (F2 : FS) (kk : Nat → Nat) (kq : Nat → Nat → Nat) (Kf : Nat → KD) (ak : Nat) (ct : Nat) (who : Int) (th : Int) (zfa : Int) (zte : Int) (zta : Int) (zlv : Int) (zgo : Int) (gz : Bool) (gg : Bool) (FI : Nat → Int) (RO : Nat → Int) (RW : Nat → Int) (RK : Nat → Int) (AQ : Nat → Int) (KS : Nat → Int) (KT : Nat → Int) (KO : Nat → Int) (EV : Nat → Int) (DU : Nat → Int) (SA : Nat → Int) (NO : Nat → Int) (OR : Nat → Bool) (AN : Nat → Bool) (FR : Nat → Int) (SE : Nat → Int) (GF : Nat → Int) (GS : Nat → Int) (IS : Nat → Bool) (rq : RS) (rr : Nat → RS) (H : Heap) (locs : List Loc) (ls : Array Slot) (cells slots : Nat), L - 7 * i < fuel → 7 * i ≤ L → cells ≤ 10000 + 6 * i → slots ≤ 100000 + 334 * i → LInv i sg kc mk cb tm an gn B Cn n Vv U Dn tx r A F Kf ak ct who gz FI RO RW RK AQ KS KT KO EV DU SA FR SE rq rr → Hx D g s (fun q => s.heap.size ≤ q) s.heap (wXA g x j ta ka ra ga da fa pa gr r1 r2 r3 qa qd sg kc mk cb lc tm an gn B Cn n Vv U Dn tx J rm r aw A F F2 kk kq Kf ++ wMA g a th (n : Int) (gn : Int) cb tm lc (sg : Int) (ak : Int) who (kc : Int) zfa zte zta zlv (ct : Int) zgo an gz gg FI RO RW RK mk tx AQ KS KT KO EV DU SA NO OR AN FR SE GF GS IS) H locs → lv_has ls 4 [(0, .ref b), (1, .ref x), (2, .ref (a 0)), (3, .int (iI (7 * (i : Int))))] → W p l e room_1 s m #[Value.ref b] below meth c H locs cells slots (lw_Z below #[Value.ref b] s) (F0 m 18 ls []) := by
  obtain ⟨zx, zb, hr, hml, hown, hts, hX, hbl, hlocks, hgv⟩ := id C0
  have hbA : ¬ (fun q : Nat => s.heap.size ≤ q) b := Nat.not_le.mpr hbl
  intro fuel
  induction fuel with
  | zero => intro i qa qd sg kc mk cb lc tm an gn B Cn n Vv U Dn tx J rm r aw A F F2 kk kq Kf ak ct who th zfa zte zta zlv zgo gz gg FI RO RW RK AQ KS KT KO EV DU SA NO OR AN FR SE GF GS IS rq rr H locs ls cells slots hf; exact absurd hf (Nat.not_lt_zero _)
  | succ fuel ih =>
    intro i qa qd sg kc mk cb lc tm an gn B Cn n Vv U Dn tx J rm r aw A F F2 kk kq Kf ak ct who th zfa zte zta zlv zgo gz gg FI RO RW RK AQ KS KT KO EV DU SA NO OR AN FR SE GF GS IS rq rr H locs ls cells slots hf hi hcl hsl inv h hl
    refine lv_iload_n zx zb dL_law_18 rfl (lv_at hl 3 rfl) ?_
    refine lv_aload_n zx zb dL_law_19 rfl (lv_at hl 0 rfl) ?_
    refine va_slen zx zb hX hbl hbA h.S dL_law_20 ?_
    rw [show Int32.ofNat L = iI (L : Int) from (iI_nI (by omega)).symm]
    refine lv_bipush (v := iI (7)) zx zb dL_law_21 rfl ?_
    refine i_sub C (a := (L : Int)) (b := 7) dL_law_23 ?_
    refine i_cgt C (a := 7 * (i : Int)) (b := (L : Int) - 7) (tgt := 673) dL_law_24 (by decide) (by omega) (fun c_1 => ?_) (fun c_1 => ?_)
    · refine lv_iconst (v := 1) zx zb dL_law_673 rfl ?_
      exact W.widen (by omega) (by omega) (va_forget (fun q hq => h.S.2.2 q hq) (lw_ret zx zb hr hlocks dL_law_674))
    · have hi7 : 7 * i + 7 ≤ L := by omega
      refine lv_aload_n zx zb dL_law_27 rfl (lv_at hl 0 rfl) ?_
      refine lv_iload_n zx zb dL_law_28 rfl (lv_at hl 3 rfl) ?_
      refine s_ld C hX hbl hbA h (7 * i) (by omega) (by omega) hL dL_law_29 ?_
      refine lv_bipush (v := iI (15)) zx zb dL_law_30 rfl ?_
      refine lv_iand zx zb dL_law_32 ?_
      obtain ⟨k, hk, ek⟩ := and15 (iI (xs (7 * i)).toInt)
      rw [ek]
      have kN : ∀ (qa : Nat → Nat) (qd : Nat → Nat) (sg : Nat) (kc : Nat) (mk : Nat → Bool) (cb : Int) (lc : Int) (tm : Int) (an : Bool) (gn : Nat) (B : Nat → Nat → Nat → Bool) (Cn : Nat → Int) (n : Nat) (Vv : Nat → Nat → Int) (U : Nat → Nat → Int) (Dn : Nat → Nat → Int) (tx : Nat → Int) (J : JS4) (rm : Nat → Bool) (r : RS) (aw : Nat) (A : QC) (F : FS) (F2 : FS) (kk : Nat → Nat) (kq : Nat → Nat → Nat) (Kf : Nat → KD) (ak : Nat) (ct : Nat) (who : Int) (th : Int) (zfa : Int) (zte : Int) (zta : Int) (zlv : Int) (zgo : Int) (gz : Bool) (gg : Bool) (FI : Nat → Int) (RO : Nat → Int) (RW : Nat → Int) (RK : Nat → Int) (AQ : Nat → Int) (KS : Nat → Int) (KT : Nat → Int) (KO : Nat → Int) (EV : Nat → Int) (DU : Nat → Int) (SA : Nat → Int) (NO : Nat → Int) (OR : Nat → Bool) (AN : Nat → Bool) (FR : Nat → Int) (SE : Nat → Int) (GF : Nat → Int) (GS : Nat → Int) (IS : Nat → Bool) (rq : RS) (rr : Nat → RS) (H : Heap) (locs : List Loc) (ls : Array Slot) (cells2 slots2 : Nat), cells2 ≤ cells + 6 → slots2 ≤ slots + 334 → LInv (i + 1) sg kc mk cb tm an gn B Cn n Vv U Dn tx r A F Kf ak ct who gz FI RO RW RK AQ KS KT KO EV DU SA FR SE rq rr → Hx D g s (fun q => s.heap.size ≤ q) s.heap (wXA g x j ta ka ra ga da fa pa gr r1 r2 r3 qa qd sg kc mk cb lc tm an gn B Cn n Vv U Dn tx J rm r aw A F F2 kk kq Kf ++ wMA g a th (n : Int) (gn : Int) cb tm lc (sg : Int) (ak : Int) who (kc : Int) zfa zte zta zlv (ct : Int) zgo an gz gg FI RO RW RK mk tx AQ KS KT KO EV DU SA NO OR AN FR SE GF GS IS) H locs → lv_has ls 4 [(0, .ref b), (1, .ref x), (2, .ref (a 0)), (3, .int (iI (7 * (i : Int))))] → W p l e room_1 s m #[Value.ref b] below meth c H locs cells2 slots2 (lw_Z below #[Value.ref b] s) (F0 m 667 ls []) := by
        intro qa qd sg kc mk cb lc tm an gn B Cn n Vv U Dn tx J rm r aw A F F2 kk kq Kf ak ct who th zfa zte zta zlv zgo gz gg FI RO RW RK AQ KS KT KO EV DU SA NO OR AN FR SE GF GS IS rq rr H locs ls cells2 slots2 hc2 hs2 inv2 h2 hl2
        refine i_inc (q := 3) (a := 7 * (i : Int)) (lv' := [(3, .int (iI (7 * (i : Int) + 7))), (0, .ref b), (1, .ref x), (2, .ref (a 0))]) C hl2 dL_law_667 rfl (by decide) rfl (fun ls hl => ?_)
        refine lv_goto (tgt := 18) zx zb dL_law_670 (by decide) ?_
        rw [show 7 * (i : Int) + 7 = 7 * ((i + 1 : Nat) : Int) from by omega] at hl
        exact ih (i + 1) qa qd sg kc mk cb lc tm an gn B Cn n Vv U Dn tx J rm r aw A F F2 kk kq Kf ak ct who th zfa zte zta zlv zgo gz gg FI RO RW RK AQ KS KT KO EV DU SA NO OR AN FR SE GF GS IS rq rr H locs ls cells2 slots2 (by omega) (by omega) (by omega) (by omega) inv2 h2 (lv_sub hl [1, 2, 3, 0] rfl)
      rcases (show k = 0 ∨ k = 1 ∨ k = 2 ∨ k = 3 ∨ k = 4 ∨ k = 5 ∨ k = 6 ∨ k = 7 ∨ k = 8 ∨ k = 9 ∨ k = 10 ∨ k = 11 ∨ k = 12 ∨ 13 ≤ k by omega) with rfl | rfl | rfl | rfl | rfl | rfl | rfl | rfl | rfl | rfl | rfl | rfl | rfl | hk13
      · exact lv_tableIn (x := iI ((0 : Nat) : Int)) (off := 67) (tgt := 100) zx zb dL_law_33 (by decide) (by decide) (by decide) (by decide) (case_row C hX hbl hbA hi7 hL (by omega) (by omega) inv h hl kN)
      · exact lv_tableIn (x := iI ((1 : Nat) : Int)) (off := 162) (tgt := 195) zx zb dL_law_33 (by decide) (by decide) (by decide) (by decide) (case_sign C hX hbl hbA hi7 hL (by omega) (by omega) inv h hl kN)
      · exact lv_tableIn (x := iI ((2 : Nat) : Int)) (off := 183) (tgt := 216) zx zb dL_law_33 (by decide) (by decide) (by decide) (by decide) (case_ask C hX hbl hbA hi7 hL (by omega) (by omega) inv h hl kN)
      · exact lv_tableIn (x := iI ((3 : Nat) : Int)) (off := 206) (tgt := 239) zx zb dL_law_33 (by decide) (by decide) (by decide) (by decide) (case_found C hX hbl hbA hi7 hL (by omega) (by omega) inv h hl kN)
      · exact lv_tableIn (x := iI ((4 : Nat) : Int)) (off := 240) (tgt := 273) zx zb dL_law_33 (by decide) (by decide) (by decide) (by decide) (case_page C hX hbl hbA hi7 hL (by omega) (by omega) inv h hl kN)
      · exact lv_tableIn (x := iI ((5 : Nat) : Int)) (off := 313) (tgt := 346) zx zb dL_law_33 (by decide) (by decide) (by decide) (by decide) (case_right C hX hbl hbA hi7 hL (by omega) (by omega) inv h hl kN)
      · exact lv_tableIn (x := iI ((6 : Nat) : Int)) (off := 356) (tgt := 389) zx zb dL_law_33 (by decide) (by decide) (by decide) (by decide) (case_masked C hX hbl hbA hi7 hL (by omega) (by omega) inv h hl kN)
      · exact lv_tableIn (x := iI ((7 : Nat) : Int)) (off := 405) (tgt := 438) zx zb dL_law_33 (by decide) (by decide) (by decide) (by decide) (case_cost C hX hbl hbA hi7 hL (by omega) (by omega) inv h hl kN)
      · exact lv_tableIn (x := iI ((8 : Nat) : Int)) (off := 419) (tgt := 452) zx zb dL_law_33 (by decide) (by decide) (by decide) (by decide) (case_bound C hX hbl hbA hi7 hL (by omega) (by omega) inv h hl kN)
      · exact lv_tableIn (x := iI ((9 : Nat) : Int)) (off := 472) (tgt := 505) zx zb dL_law_33 (by decide) (by decide) (by decide) (by decide) (case_save C hX hbl hbA hi7 hL (by omega) (by omega) inv h hl kN)
      · exact lv_tableIn (x := iI ((10 : Nat) : Int)) (off := 535) (tgt := 568) zx zb dL_law_33 (by decide) (by decide) (by decide) (by decide) (case_tick C hX hbl hbA hi7 hL (by omega) (by omega) inv h hl kN)
      · exact lv_tableIn (x := iI ((11 : Nat) : Int)) (off := 588) (tgt := 621) zx zb dL_law_33 (by decide) (by decide) (by decide) (by decide) (case_saved C hX hbl hbA hi7 hL (by omega) (by omega) inv h hl kN)
      · exact lv_tableIn (x := iI ((12 : Nat) : Int)) (off := 611) (tgt := 644) zx zb dL_law_33 (by decide) (by decide) (by decide) (by decide) (case_scan C hX hbl hbA hi7 hL (by omega) (by omega) inv h hl kN)
      · refine lv_tableOut (x := iI (k : Int)) (tgt := 667) zx zb dL_law_33 (Or.inr (by rw [iI_toInt (by constructor <;> omega)]; omega)) (by decide) ?_
        exact kN qa qd sg kc mk cb lc tm an gn B Cn n Vv U Dn tx J rm r aw A F F2 kk kq Kf ak ct who th zfa zte zta zlv zgo gz gg FI RO RW RK AQ KS KT KO EV DU SA NO OR AN FR SE GF GS IS rq rr H locs ls cells slots (by omega) (by omega) (linv_up inv) h hl
