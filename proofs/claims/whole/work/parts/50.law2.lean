/-! THE LAW: what holds at its loop's head; a case for each call -/
section SCRIPT
variable {p : Program} {l : Launch} {e : Env} {R : Room} {s : State} {m : MethodId} {args : Array Value} {below : List Frame} {meth : Method} {c : Code} {H H0 : Heap} {locs : List Loc} {cells slots : Nat} {Q : State → Prop}
variable {cc : ByteArray} {pc : Nat} {ls : Array Slot} {rest : List Value} {D : va_G} {g : Nat → ClassId} {A : Nat → Prop} {ws : va_W} {nL : Nat} {own : String} {b0 L : Nat} {xs : Nat → Int32}
theorem s_ld (C : Cx p m c cc nL s args own) (hX : va_X b0 L xs s H0) (hbl : b0 < H0.size) (hbA : ¬ A b0) (h : Hx D g s A H0 ws H locs) (k : Nat) {z : Int} (hz : z = (k : Int)) (hk : k < L) (hL : L ≤ 448) (hdg : decode cc pc = .ok (.iaload, 1))
    (kk : W p l e R s m args below meth c H locs cells slots Q (F0 m (pc + 1) ls (.int (iI (xs k).toInt) :: rest))) : W p l e R s m args below meth c H locs cells slots Q (F0 m pc ls (.int (iI z) :: .ref b0 :: rest)) := by
  have hin := iI_in (n := L) hz hk (by omega)
  refine va_sld C.1 C.2.1 hX hbl hbA h.S hin.1 hdg ?_
  rw [hin.2, ← iI_of (xs k)]
  exact kk
noncomputable def lgz (A B : Int) : Int := ((iI A).toInt64 <<< ((iI 32).toInt64 &&& 63) ||| ((iI B).toInt64 &&& lI 4294967295)).toInt
theorem s_lor (C : Cx p m c cc nL s args own) {A B : Int} (hdg : decode cc pc = .ok (.lor, 1))
    (kk : W p l e R s m args below meth c H locs cells slots Q (F0 m (pc + 1) ls (.long (lI (lgz A B)) :: rest))) : W p l e R s m args below meth c H locs cells slots Q (F0 m pc ls (.long ((iI B).toInt64 &&& lI 4294967295) :: .long ((iI A).toInt64 <<< ((iI 32).toInt64 &&& 63)) :: rest)) := by
  unfold lgz at kk
  rw [lI_of] at kk
  exact lv_lor C.1 C.2.1 hdg kk
theorem lgz_R {A B : Int} : R64 (lgz A B) := R64_of _
theorem lg_self (x : Int64) : lg_cmp x x = iI 0 := by
  unfold lg_cmp
  rw [if_neg (by rw [GT.gt, Int64.lt_iff_toInt_lt]; exact Int.lt_irrefl _), if_pos rfl]
  rfl
theorem s_lcmp (C : Cx p m c cc nL s args own) {x : Int64} {tgt : Nat} {off : Int} (hdg : decode cc pc = .ok (.lcmp, 1)) (hdg2 : decode cc (pc + 1) = .ok (.ifCond .eq off, 3)) (ht : ((pc + 1 : Nat) : Int) + off = (tgt : Int))
    (kk : W p l e R s m args below meth c H locs cells slots Q (F0 m tgt ls rest)) : W p l e R s m args below meth c H locs cells slots Q (F0 m pc ls (.long x :: .long x :: rest)) := by
  refine W.lcmp C.1 C.2.1 hdg ?_
  rw [lg_self]
  exact i_zeq C hdg2 ht (by decide) (fun _ => kk) (fun q => absurd rfl q)
theorem s_icmp (C : Cx p m c cc nL s args own) {x : Int32} {tgt : Nat} {off : Int} (hdg : decode cc pc = .ok (.if_icmp .eq off, 3)) (ht : (pc : Int) + off = (tgt : Int))
    (kk : W p l e R s m args below meth c H locs cells slots Q (F0 m tgt ls rest)) : W p l e R s m args below meth c H locs cells slots Q (F0 m pc ls (.int x :: .int x :: rest)) :=
  lv_icmp_eq C.1 C.2.1 hdg ht (fun _ => kk) (fun q => absurd rfl q)
end SCRIPT
def LInv (i : Nat) (sg : Nat) (kc : Nat) (mk : Nat → Bool) (cb : Int) (tm : Int) (an : Bool) (gn : Nat) (B : Nat → Nat → Nat → Bool) (Cn : Nat → Int) (n : Nat) (Vv : Nat → Nat → Int) (U : Nat → Nat → Int) (Dn : Nat → Nat → Int) (tx : Nat → Int) (r : RS) (A : QC) (F : FS) (Kf : Nat → KD) (ak : Nat) (ct : Nat) (who : Int) (gz : Bool) (FI : Nat → Int) (RO : Nat → Int) (RW : Nat → Int) (RK : Nat → Int) (AQ : Nat → Int) (KS : Nat → Int) (KT : Nat → Int) (KO : Nat → Int) (EV : Nat → Int) (DU : Nat → Int) (SA : Nat → Int) (FR : Nat → Int) (SE : Nat → Int) (rq : RS) (rr : Nat → RS) : Prop :=
  rowI n Vv U Dn FI ∧ rgtI gn B Cn RO RW RK ∧ (n ≤ i ∧ gn ≤ i ∧ sg ≤ i) ∧ (∀ f, 5 ≤ f → mk f = false) ∧ (0 ≤ cb ∧ cb ≤ 1000000) ∧ (0 ≤ tm ∧ tm ≤ 1000 * (i : Int)) ∧ (∀ k, k < sg → R32 (tx k)) ∧ R32 r.fg ∧ askI an A AQ ak who rq ∧ fndI F A n ct gz FR SE ∧ kc ≤ 20 ∧ keptI tm kc Kf KT KS KO EV DU SA rr
theorem wMA_nrm {g : Nat → ClassId} {a : Nat → Nat} {mth : Int} {mrw : Int} {mrg : Int} {mbd : Int} {mnw : Int} {mlc : Int} {msz : Int} {mas : Int} {mak : Int} {mkp : Int} {mfa : Int} {mte : Int} {mta : Int} {mlv : Int} {mct : Int} {mgo : Int} {man : Bool} {mgr : Bool} {mgg : Bool} {FI : Nat → Int} {RO : Nat → Int} {RW : Nat → Int} {RK : Nat → Int} {MK : Nat → Bool} {TX : Nat → Int} {AQ : Nat → Int} {KS : Nat → Int} {KT : Nat → Int} {KO : Nat → Int} {EV : Nat → Int} {DU : Nat → Int} {SA : Nat → Int} {NO : Nat → Int} {OR : Nat → Bool} {AN : Nat → Bool} {FR : Nat → Int} {SE : Nat → Int} {GF : Nat → Int} {GS : Nat → Int} {IS : Nat → Bool} : wMA g a mth mrw mrg mbd mnw mlc msz mas mak mkp mfa mte mta mlv mct mgo man mgr mgg FI RO RW RK MK TX AQ KS KT KO EV DU SA NO OR AN FR SE GF GS IS = wMA g a mth mrw mrg mbd mnw mlc msz mas mak mkp mfa mte mta mlv mct mgo man mgr mgg FI RO RW RK MK TX AQ KS KT KO EV DU SA NO OR AN FR (nrm SE) GF GS IS := by
  unfold wMA
  rw [nrm_c]

set_option maxHeartbeats 4000000 in
set_option maxRecDepth 100000 in
theorem case_row {pg : Program} {l : Launch} {evn : Env} {sT : State} {mI : MethodId} {bl : List Frame} {mtd : Method} {cd : Code} {H H0 : Heap} {locs : List Loc} {cells slots : Nat} {qQ : State → Prop} {ls : Array Slot} {D : va_G} {g : Nat → ClassId} {Aa : Nat → Prop} {ar : Array Value} {b0 L i : Nat} {xs : Nat → Int32} {x j ta ka : Nat} {ra ga da fa pa gr r1 r2 r3 a : Nat → Nat} {qa : Nat → Nat} {qd : Nat → Nat} {sg : Nat} {kc : Nat} {mk : Nat → Bool} {cb : Int} {lc : Int} {tm : Int} {an : Bool} {gn : Nat} {B : Nat → Nat → Nat → Bool} {Cn : Nat → Int} {n : Nat} {Vv : Nat → Nat → Int} {U : Nat → Nat → Int} {Dn : Nat → Nat → Int} {tx : Nat → Int} {J : JS4} {rm : Nat → Bool} {r : RS} {aw : Nat} {A : QC} {F : FS} {F2 : FS} {kk : Nat → Nat} {kq : Nat → Nat → Nat} {Kf : Nat → KD} {ak : Nat} {ct : Nat} {who : Int} {th : Int} {zfa : Int} {zte : Int} {zta : Int} {zlv : Int} {zgo : Int} {gz : Bool} {gg : Bool} {FI : Nat → Int} {RO : Nat → Int} {RW : Nat → Int} {RK : Nat → Int} {AQ : Nat → Int} {KS : Nat → Int} {KT : Nat → Int} {KO : Nat → Int} {EV : Nat → Int} {DU : Nat → Int} {SA : Nat → Int} {NO : Nat → Int} {OR : Nat → Bool} {AN : Nat → Bool} {FR : Nat → Int} {SE : Nat → Int} {GF : Nat → Int} {GS : Nat → Int} {IS : Nat → Bool} {rq : RS} {rr : Nat → RS} (C : Cx pg mI cd cL_law 4 sT ar RL) (hX : va_X b0 L xs sT H0) (hbl : b0 < H0.size) (hbA : ¬ Aa b0) (hi : 7 * i + 7 ≤ L) (hL : L ≤ 448) (hcl : cells ≤ 400000) (hsl : slots ≤ 6000000) (inv : LInv i sg kc mk cb tm an gn B Cn n Vv U Dn tx r A F Kf ak ct who gz FI RO RW RK AQ KS KT KO EV DU SA FR SE rq rr) (h : Hx D g sT Aa H0 (wXA g x j ta ka ra ga da fa pa gr r1 r2 r3 qa qd sg kc mk cb lc tm an gn B Cn n Vv U Dn tx J rm r aw A F F2 kk kq Kf ++ wMA g a th (n : Int) (gn : Int) cb tm lc (sg : Int) (ak : Int) who (kc : Int) zfa zte zta zlv (ct : Int) zgo an gz gg FI RO RW RK mk tx AQ KS KT KO EV DU SA NO OR AN FR SE GF GS IS) H locs) (hl : lv_has ls 4 [(0, .ref b0), (1, .ref x), (2, .ref (a 0)), (3, .int (iI (7 * (i : Int))))])
    (kN : ∀ (qa : Nat → Nat) (qd : Nat → Nat) (sg : Nat) (kc : Nat) (mk : Nat → Bool) (cb : Int) (lc : Int) (tm : Int) (an : Bool) (gn : Nat) (B : Nat → Nat → Nat → Bool) (Cn : Nat → Int) (n : Nat) (Vv : Nat → Nat → Int) (U : Nat → Nat → Int) (Dn : Nat → Nat → Int) (tx : Nat → Int) (J : JS4) (rm : Nat → Bool) (r : RS) (aw : Nat) (A : QC) (F : FS) (F2 : FS) (kk : Nat → Nat) (kq : Nat → Nat → Nat) (Kf : Nat → KD) (ak : Nat) (ct : Nat) (who : Int) (th : Int) (zfa : Int) (zte : Int) (zta : Int) (zlv : Int) (zgo : Int) (gz : Bool) (gg : Bool) (FI : Nat → Int) (RO : Nat → Int) (RW : Nat → Int) (RK : Nat → Int) (AQ : Nat → Int) (KS : Nat → Int) (KT : Nat → Int) (KO : Nat → Int) (EV : Nat → Int) (DU : Nat → Int) (SA : Nat → Int) (NO : Nat → Int) (OR : Nat → Bool) (AN : Nat → Bool) (FR : Nat → Int) (SE : Nat → Int) (GF : Nat → Int) (GS : Nat → Int) (IS : Nat → Bool) (rq : RS) (rr : Nat → RS) (H : Heap) (locs : List Loc) (ls : Array Slot) (cells2 slots2 : Nat), cells2 ≤ cells + 6 → slots2 ≤ slots + 334 → LInv (i + 1) sg kc mk cb tm an gn B Cn n Vv U Dn tx r A F Kf ak ct who gz FI RO RW RK AQ KS KT KO EV DU SA FR SE rq rr → Hx D g sT Aa H0 (wXA g x j ta ka ra ga da fa pa gr r1 r2 r3 qa qd sg kc mk cb lc tm an gn B Cn n Vv U Dn tx J rm r aw A F F2 kk kq Kf ++ wMA g a th (n : Int) (gn : Int) cb tm lc (sg : Int) (ak : Int) who (kc : Int) zfa zte zta zlv (ct : Int) zgo an gz gg FI RO RW RK mk tx AQ KS KT KO EV DU SA NO OR AN FR SE GF GS IS) H locs → lv_has ls 4 [(0, .ref b0), (1, .ref x), (2, .ref (a 0)), (3, .int (iI (7 * (i : Int))))] → W pg l evn room_1 sT mI ar bl mtd cd H locs cells2 slots2 qQ (F0 mI 667 ls [])) : W pg l evn room_1 sT mI ar bl mtd cd H locs cells slots qQ (F0 mI 100 ls []) := by
  have zx := C.1
  have zb := C.2.1
  obtain ⟨hI, hR, ⟨hn, hgn, hsg⟩, hM5, hcb, htm, htx, hr, hask, hfnd, hkc, hkept⟩ := id inv
  refine lv_aload_n zx zb dL_law_100 rfl (lv_at hl 1 rfl) ?_
  refine lv_aload_n zx zb dL_law_101 rfl (lv_at hl 0 rfl) ?_
  refine lv_iload_n zx zb dL_law_102 rfl (lv_at hl 3 rfl) ?_
  refine lv_iconst (v := iI (1)) zx zb dL_law_103 rfl ?_
  refine i_add C (a := 7 * (i : Int)) (b := 1) dL_law_104 ?_
  refine s_ld C hX hbl hbA h (7 * i + 1) (by omega) (by omega) hL dL_law_105 ?_
  refine lv_aload_n zx zb dL_law_106 rfl (lv_at hl 0 rfl) ?_
  refine lv_iload_n zx zb dL_law_107 rfl (lv_at hl 3 rfl) ?_
  refine lv_iconst (v := iI (2)) zx zb dL_law_108 rfl ?_
  refine i_add C (a := 7 * (i : Int)) (b := 2) dL_law_109 ?_
  refine s_ld C hX hbl hbA h (7 * i + 2) (by omega) (by omega) hL dL_law_110 ?_
  refine lv_aload_n zx zb dL_law_111 rfl (lv_at hl 0 rfl) ?_
  refine lv_iload_n zx zb dL_law_112 rfl (lv_at hl 3 rfl) ?_
  refine lv_iconst (v := iI (3)) zx zb dL_law_113 rfl ?_
  refine i_add C (a := 7 * (i : Int)) (b := 3) dL_law_114 ?_
  refine s_ld C hX hbl hbA h (7 * i + 3) (by omega) (by omega) hL dL_law_115 ?_
  refine lv_aload_n zx zb dL_law_116 rfl (lv_at hl 0 rfl) ?_
  refine lv_iload_n zx zb dL_law_117 rfl (lv_at hl 3 rfl) ?_
  refine lv_iconst (v := iI (4)) zx zb dL_law_118 rfl ?_
  refine i_add C (a := 7 * (i : Int)) (b := 4) dL_law_119 ?_
  refine s_ld C hX hbl hbA h (7 * i + 4) (by omega) (by omega) hL dL_law_120 ?_
  refine lv_i2l zx zb dL_law_121 rfl ?_
  refine lv_bipush (v := iI (32)) zx zb dL_law_122 rfl ?_
  refine lv_lshl zx zb dL_law_124 rfl ?_
  refine lv_aload_n zx zb dL_law_125 rfl (lv_at hl 0 rfl) ?_
  refine lv_iload_n zx zb dL_law_126 rfl (lv_at hl 3 rfl) ?_
  refine lv_iconst (v := iI (5)) zx zb dL_law_127 rfl ?_
  refine i_add C (a := 7 * (i : Int)) (b := 5) dL_law_128 ?_
  refine s_ld C hX hbl hbA h (7 * i + 5) (by omega) (by omega) hL dL_law_129 ?_
  refine lv_i2l zx zb dL_law_130 rfl ?_
  refine klL_13 C dL_law_131 ?_
  refine lv_land zx zb dL_law_134 ?_
  refine s_lor C dL_law_135 ?_
  refine lv_aload_n zx zb dL_law_136 rfl (lv_at hl 0 rfl) ?_
  refine lv_iload_n zx zb dL_law_137 rfl (lv_at hl 3 rfl) ?_
  refine lv_bipush (v := iI (6)) zx zb dL_law_138 rfl ?_
  refine i_add C (a := 7 * (i : Int)) (b := 6) dL_law_140 ?_
  refine s_ld C hX hbl hbA h (7 * i + 6) (by omega) (by omega) hL dL_law_141 ?_
  refine LX_row ((xs (7 * i + 1)).toInt) ((xs (7 * i + 2)).toInt) ((xs (7 * i + 3)).toInt) (lgz ((xs (7 * i + 4)).toInt) ((xs (7 * i + 5)).toInt)) ((xs (7 * i + 6)).toInt) C hl.1 (Nat.le_of_ble_eq_true rfl) (by omega) (by omega) h ⟨R32_of _, R32_of _, R32_of _, R64_of _, R32_of _⟩ (by omega) hI.1 (rowI_o hI) (fun u H locs hu h => ?_)
  show W pg l evn room_1 sT mI ar bl mtd cd H locs cells slots qQ (F0 mI 145 ls [.int (iI u.1)])
  refine lv_aload_n zx zb dL_law_145 rfl (lv_at hl 2 rfl) ?_
  refine lv_aload_n zx zb dL_law_146 rfl (lv_at hl 0 rfl) ?_
  refine lv_iload_n zx zb dL_law_147 rfl (lv_at hl 3 rfl) ?_
  refine lv_iconst (v := iI (1)) zx zb dL_law_148 rfl ?_
  refine i_add C (a := 7 * (i : Int)) (b := 1) dL_law_149 ?_
  refine s_ld C hX hbl hbA h (7 * i + 1) (by omega) (by omega) hL dL_law_150 ?_
  refine lv_aload_n zx zb dL_law_151 rfl (lv_at hl 0 rfl) ?_
  refine lv_iload_n zx zb dL_law_152 rfl (lv_at hl 3 rfl) ?_
  refine lv_iconst (v := iI (2)) zx zb dL_law_153 rfl ?_
  refine i_add C (a := 7 * (i : Int)) (b := 2) dL_law_154 ?_
  refine s_ld C hX hbl hbA h (7 * i + 2) (by omega) (by omega) hL dL_law_155 ?_
  refine lv_aload_n zx zb dL_law_156 rfl (lv_at hl 0 rfl) ?_
  refine lv_iload_n zx zb dL_law_157 rfl (lv_at hl 3 rfl) ?_
  refine lv_iconst (v := iI (3)) zx zb dL_law_158 rfl ?_
  refine i_add C (a := 7 * (i : Int)) (b := 3) dL_law_159 ?_
  refine s_ld C hX hbl hbA h (7 * i + 3) (by omega) (by omega) hL dL_law_160 ?_
  refine lv_aload_n zx zb dL_law_161 rfl (lv_at hl 0 rfl) ?_
  refine lv_iload_n zx zb dL_law_162 rfl (lv_at hl 3 rfl) ?_
  refine lv_iconst (v := iI (4)) zx zb dL_law_163 rfl ?_
  refine i_add C (a := 7 * (i : Int)) (b := 4) dL_law_164 ?_
  refine s_ld C hX hbl hbA h (7 * i + 4) (by omega) (by omega) hL dL_law_165 ?_
  refine lv_i2l zx zb dL_law_166 rfl ?_
  refine lv_bipush (v := iI (32)) zx zb dL_law_167 rfl ?_
  refine lv_lshl zx zb dL_law_169 rfl ?_
  refine lv_aload_n zx zb dL_law_170 rfl (lv_at hl 0 rfl) ?_
  refine lv_iload_n zx zb dL_law_171 rfl (lv_at hl 3 rfl) ?_
  refine lv_iconst (v := iI (5)) zx zb dL_law_172 rfl ?_
  refine i_add C (a := 7 * (i : Int)) (b := 5) dL_law_173 ?_
  refine s_ld C hX hbl hbA h (7 * i + 5) (by omega) (by omega) hL dL_law_174 ?_
  refine lv_i2l zx zb dL_law_175 rfl ?_
  refine klL_13 C dL_law_176 ?_
  refine lv_land zx zb dL_law_179 ?_
  refine s_lor C dL_law_180 ?_
  refine lv_aload_n zx zb dL_law_181 rfl (lv_at hl 0 rfl) ?_
  refine lv_iload_n zx zb dL_law_182 rfl (lv_at hl 3 rfl) ?_
  refine lv_bipush (v := iI (6)) zx zb dL_law_183 rfl ?_
  refine i_add C (a := 7 * (i : Int)) (b := 6) dL_law_185 ?_
  refine s_ld C hX hbl hbA h (7 * i + 6) (by omega) (by omega) hL dL_law_186 ?_
  refine LM_row ((xs (7 * i + 1)).toInt) ((xs (7 * i + 2)).toInt) ((xs (7 * i + 3)).toInt) (lgz ((xs (7 * i + 4)).toInt) ((xs (7 * i + 5)).toInt)) ((xs (7 * i + 6)).toInt) ⟨R32_of _, R32_of _, R32_of _, R64_of _, R32_of _⟩ (by omega) C hl.1 (Nat.le_of_ble_eq_true rfl) (by omega) (by omega) h (fun v H locs hv h => ?_)
  show W pg l evn room_1 sT mI ar bl mtd cd H locs cells slots qQ (F0 mI 190 ls [.int (iI v.1), .int (iI u.1)])
  obtain ⟨e1, e2, e3, e4⟩ := row_step hI (by omega) hu hv
  rw [e1]
  rw [e2] at h
  refine s_icmp C dL_law_190 (tgt := 667) (by decide) ?_
  exact kN qa qd sg kc mk cb lc tm an gn B Cn u.2.1 u.2.2.1 u.2.2.2.1 u.2.2.2.2 tx J rm r aw A F F2 kk kq Kf ak ct who 0 zfa zte zta zlv zgo gz gg v.2.2 RO RW RK AQ KS KT KO EV DU SA NO OR AN FR SE GF GS IS rq rr H locs ls cells slots (by omega) (by omega) ⟨e4, hR, ⟨by omega, by omega, by omega⟩, hM5, hcb, ⟨htm.1, by omega⟩, htx, hr, hask, fndI_n hfnd e3.1, hkc, hkept⟩ h hl

set_option maxHeartbeats 4000000 in
set_option maxRecDepth 100000 in
theorem case_sign {pg : Program} {l : Launch} {evn : Env} {sT : State} {mI : MethodId} {bl : List Frame} {mtd : Method} {cd : Code} {H H0 : Heap} {locs : List Loc} {cells slots : Nat} {qQ : State → Prop} {ls : Array Slot} {D : va_G} {g : Nat → ClassId} {Aa : Nat → Prop} {ar : Array Value} {b0 L i : Nat} {xs : Nat → Int32} {x j ta ka : Nat} {ra ga da fa pa gr r1 r2 r3 a : Nat → Nat} {qa : Nat → Nat} {qd : Nat → Nat} {sg : Nat} {kc : Nat} {mk : Nat → Bool} {cb : Int} {lc : Int} {tm : Int} {an : Bool} {gn : Nat} {B : Nat → Nat → Nat → Bool} {Cn : Nat → Int} {n : Nat} {Vv : Nat → Nat → Int} {U : Nat → Nat → Int} {Dn : Nat → Nat → Int} {tx : Nat → Int} {J : JS4} {rm : Nat → Bool} {r : RS} {aw : Nat} {A : QC} {F : FS} {F2 : FS} {kk : Nat → Nat} {kq : Nat → Nat → Nat} {Kf : Nat → KD} {ak : Nat} {ct : Nat} {who : Int} {th : Int} {zfa : Int} {zte : Int} {zta : Int} {zlv : Int} {zgo : Int} {gz : Bool} {gg : Bool} {FI : Nat → Int} {RO : Nat → Int} {RW : Nat → Int} {RK : Nat → Int} {AQ : Nat → Int} {KS : Nat → Int} {KT : Nat → Int} {KO : Nat → Int} {EV : Nat → Int} {DU : Nat → Int} {SA : Nat → Int} {NO : Nat → Int} {OR : Nat → Bool} {AN : Nat → Bool} {FR : Nat → Int} {SE : Nat → Int} {GF : Nat → Int} {GS : Nat → Int} {IS : Nat → Bool} {rq : RS} {rr : Nat → RS} (C : Cx pg mI cd cL_law 4 sT ar RL) (hX : va_X b0 L xs sT H0) (hbl : b0 < H0.size) (hbA : ¬ Aa b0) (hi : 7 * i + 7 ≤ L) (hL : L ≤ 448) (hcl : cells ≤ 400000) (hsl : slots ≤ 6000000) (inv : LInv i sg kc mk cb tm an gn B Cn n Vv U Dn tx r A F Kf ak ct who gz FI RO RW RK AQ KS KT KO EV DU SA FR SE rq rr) (h : Hx D g sT Aa H0 (wXA g x j ta ka ra ga da fa pa gr r1 r2 r3 qa qd sg kc mk cb lc tm an gn B Cn n Vv U Dn tx J rm r aw A F F2 kk kq Kf ++ wMA g a th (n : Int) (gn : Int) cb tm lc (sg : Int) (ak : Int) who (kc : Int) zfa zte zta zlv (ct : Int) zgo an gz gg FI RO RW RK mk tx AQ KS KT KO EV DU SA NO OR AN FR SE GF GS IS) H locs) (hl : lv_has ls 4 [(0, .ref b0), (1, .ref x), (2, .ref (a 0)), (3, .int (iI (7 * (i : Int))))])
    (kN : ∀ (qa : Nat → Nat) (qd : Nat → Nat) (sg : Nat) (kc : Nat) (mk : Nat → Bool) (cb : Int) (lc : Int) (tm : Int) (an : Bool) (gn : Nat) (B : Nat → Nat → Nat → Bool) (Cn : Nat → Int) (n : Nat) (Vv : Nat → Nat → Int) (U : Nat → Nat → Int) (Dn : Nat → Nat → Int) (tx : Nat → Int) (J : JS4) (rm : Nat → Bool) (r : RS) (aw : Nat) (A : QC) (F : FS) (F2 : FS) (kk : Nat → Nat) (kq : Nat → Nat → Nat) (Kf : Nat → KD) (ak : Nat) (ct : Nat) (who : Int) (th : Int) (zfa : Int) (zte : Int) (zta : Int) (zlv : Int) (zgo : Int) (gz : Bool) (gg : Bool) (FI : Nat → Int) (RO : Nat → Int) (RW : Nat → Int) (RK : Nat → Int) (AQ : Nat → Int) (KS : Nat → Int) (KT : Nat → Int) (KO : Nat → Int) (EV : Nat → Int) (DU : Nat → Int) (SA : Nat → Int) (NO : Nat → Int) (OR : Nat → Bool) (AN : Nat → Bool) (FR : Nat → Int) (SE : Nat → Int) (GF : Nat → Int) (GS : Nat → Int) (IS : Nat → Bool) (rq : RS) (rr : Nat → RS) (H : Heap) (locs : List Loc) (ls : Array Slot) (cells2 slots2 : Nat), cells2 ≤ cells + 6 → slots2 ≤ slots + 334 → LInv (i + 1) sg kc mk cb tm an gn B Cn n Vv U Dn tx r A F Kf ak ct who gz FI RO RW RK AQ KS KT KO EV DU SA FR SE rq rr → Hx D g sT Aa H0 (wXA g x j ta ka ra ga da fa pa gr r1 r2 r3 qa qd sg kc mk cb lc tm an gn B Cn n Vv U Dn tx J rm r aw A F F2 kk kq Kf ++ wMA g a th (n : Int) (gn : Int) cb tm lc (sg : Int) (ak : Int) who (kc : Int) zfa zte zta zlv (ct : Int) zgo an gz gg FI RO RW RK mk tx AQ KS KT KO EV DU SA NO OR AN FR SE GF GS IS) H locs → lv_has ls 4 [(0, .ref b0), (1, .ref x), (2, .ref (a 0)), (3, .int (iI (7 * (i : Int))))] → W pg l evn room_1 sT mI ar bl mtd cd H locs cells2 slots2 qQ (F0 mI 667 ls [])) : W pg l evn room_1 sT mI ar bl mtd cd H locs cells slots qQ (F0 mI 195 ls []) := by
  have zx := C.1
  have zb := C.2.1
  obtain ⟨hI, hR, ⟨hn, hgn, hsg⟩, hM5, hcb, htm, htx, hr, hask, hfnd, hkc, hkept⟩ := id inv
  refine lv_aload_n zx zb dL_law_195 rfl (lv_at hl 1 rfl) ?_
  refine lv_aload_n zx zb dL_law_196 rfl (lv_at hl 0 rfl) ?_
  refine lv_iload_n zx zb dL_law_197 rfl (lv_at hl 3 rfl) ?_
  refine lv_iconst (v := iI (1)) zx zb dL_law_198 rfl ?_
  refine i_add C (a := 7 * (i : Int)) (b := 1) dL_law_199 ?_
  refine s_ld C hX hbl hbA h (7 * i + 1) (by omega) (by omega) hL dL_law_200 ?_
  refine LX_sign ((xs (7 * i + 1)).toInt) C hl.1 (Nat.le_of_ble_eq_true rfl) (by omega) (by omega) h (R32_of _) (by omega) (fun u H locs hu h => ?_)
  show W pg l evn room_1 sT mI ar bl mtd cd H locs cells slots qQ (F0 mI 204 ls [])
  refine lv_aload_n zx zb dL_law_204 rfl (lv_at hl 2 rfl) ?_
  refine lv_aload_n zx zb dL_law_205 rfl (lv_at hl 0 rfl) ?_
  refine lv_iload_n zx zb dL_law_206 rfl (lv_at hl 3 rfl) ?_
  refine lv_iconst (v := iI (1)) zx zb dL_law_207 rfl ?_
  refine i_add C (a := 7 * (i : Int)) (b := 1) dL_law_208 ?_
  refine s_ld C hX hbl hbA h (7 * i + 1) (by omega) (by omega) hL dL_law_209 ?_
  refine LM_sign ((xs (7 * i + 1)).toInt) (R32_of _) (by omega) C hl.1 (Nat.le_of_ble_eq_true rfl) (by omega) (by omega) h (fun v H locs hv h => ?_)
  show W pg l evn room_1 sT mI ar bl mtd cd H locs cells slots qQ (F0 mI 213 ls [])
  subst hu
  subst hv
  have hst := sign_step (c := (xs (7 * i + 1)).toInt) htx
  refine lv_goto (tgt := 667) zx zb dL_law_213 (by decide) ?_
  exact kN qa qd ((signU tx sg ((xs (7 * i + 1)).toInt)).2) kc mk cb lc tm an gn B Cn n Vv U Dn ((signU tx sg ((xs (7 * i + 1)).toInt)).1) J rm r aw A F F2 kk kq Kf ak ct who 0 zfa zte zta zlv zgo gz gg FI RO RW RK AQ KS KT KO EV DU SA NO OR AN FR SE GF GS IS rq rr H locs ls cells slots (by omega) (by omega) ⟨hI, hR, ⟨by omega, by omega, by omega⟩, hM5, hcb, ⟨htm.1, by omega⟩, hst.1, hr, hask, hfnd, hkc, hkept⟩ h hl

set_option maxHeartbeats 4000000 in
set_option maxRecDepth 100000 in
theorem case_ask {pg : Program} {l : Launch} {evn : Env} {sT : State} {mI : MethodId} {bl : List Frame} {mtd : Method} {cd : Code} {H H0 : Heap} {locs : List Loc} {cells slots : Nat} {qQ : State → Prop} {ls : Array Slot} {D : va_G} {g : Nat → ClassId} {Aa : Nat → Prop} {ar : Array Value} {b0 L i : Nat} {xs : Nat → Int32} {x j ta ka : Nat} {ra ga da fa pa gr r1 r2 r3 a : Nat → Nat} {qa : Nat → Nat} {qd : Nat → Nat} {sg : Nat} {kc : Nat} {mk : Nat → Bool} {cb : Int} {lc : Int} {tm : Int} {an : Bool} {gn : Nat} {B : Nat → Nat → Nat → Bool} {Cn : Nat → Int} {n : Nat} {Vv : Nat → Nat → Int} {U : Nat → Nat → Int} {Dn : Nat → Nat → Int} {tx : Nat → Int} {J : JS4} {rm : Nat → Bool} {r : RS} {aw : Nat} {A : QC} {F : FS} {F2 : FS} {kk : Nat → Nat} {kq : Nat → Nat → Nat} {Kf : Nat → KD} {ak : Nat} {ct : Nat} {who : Int} {th : Int} {zfa : Int} {zte : Int} {zta : Int} {zlv : Int} {zgo : Int} {gz : Bool} {gg : Bool} {FI : Nat → Int} {RO : Nat → Int} {RW : Nat → Int} {RK : Nat → Int} {AQ : Nat → Int} {KS : Nat → Int} {KT : Nat → Int} {KO : Nat → Int} {EV : Nat → Int} {DU : Nat → Int} {SA : Nat → Int} {NO : Nat → Int} {OR : Nat → Bool} {AN : Nat → Bool} {FR : Nat → Int} {SE : Nat → Int} {GF : Nat → Int} {GS : Nat → Int} {IS : Nat → Bool} {rq : RS} {rr : Nat → RS} (C : Cx pg mI cd cL_law 4 sT ar RL) (hX : va_X b0 L xs sT H0) (hbl : b0 < H0.size) (hbA : ¬ Aa b0) (hi : 7 * i + 7 ≤ L) (hL : L ≤ 448) (hcl : cells ≤ 400000) (hsl : slots ≤ 6000000) (inv : LInv i sg kc mk cb tm an gn B Cn n Vv U Dn tx r A F Kf ak ct who gz FI RO RW RK AQ KS KT KO EV DU SA FR SE rq rr) (h : Hx D g sT Aa H0 (wXA g x j ta ka ra ga da fa pa gr r1 r2 r3 qa qd sg kc mk cb lc tm an gn B Cn n Vv U Dn tx J rm r aw A F F2 kk kq Kf ++ wMA g a th (n : Int) (gn : Int) cb tm lc (sg : Int) (ak : Int) who (kc : Int) zfa zte zta zlv (ct : Int) zgo an gz gg FI RO RW RK mk tx AQ KS KT KO EV DU SA NO OR AN FR SE GF GS IS) H locs) (hl : lv_has ls 4 [(0, .ref b0), (1, .ref x), (2, .ref (a 0)), (3, .int (iI (7 * (i : Int))))])
    (kN : ∀ (qa : Nat → Nat) (qd : Nat → Nat) (sg : Nat) (kc : Nat) (mk : Nat → Bool) (cb : Int) (lc : Int) (tm : Int) (an : Bool) (gn : Nat) (B : Nat → Nat → Nat → Bool) (Cn : Nat → Int) (n : Nat) (Vv : Nat → Nat → Int) (U : Nat → Nat → Int) (Dn : Nat → Nat → Int) (tx : Nat → Int) (J : JS4) (rm : Nat → Bool) (r : RS) (aw : Nat) (A : QC) (F : FS) (F2 : FS) (kk : Nat → Nat) (kq : Nat → Nat → Nat) (Kf : Nat → KD) (ak : Nat) (ct : Nat) (who : Int) (th : Int) (zfa : Int) (zte : Int) (zta : Int) (zlv : Int) (zgo : Int) (gz : Bool) (gg : Bool) (FI : Nat → Int) (RO : Nat → Int) (RW : Nat → Int) (RK : Nat → Int) (AQ : Nat → Int) (KS : Nat → Int) (KT : Nat → Int) (KO : Nat → Int) (EV : Nat → Int) (DU : Nat → Int) (SA : Nat → Int) (NO : Nat → Int) (OR : Nat → Bool) (AN : Nat → Bool) (FR : Nat → Int) (SE : Nat → Int) (GF : Nat → Int) (GS : Nat → Int) (IS : Nat → Bool) (rq : RS) (rr : Nat → RS) (H : Heap) (locs : List Loc) (ls : Array Slot) (cells2 slots2 : Nat), cells2 ≤ cells + 6 → slots2 ≤ slots + 334 → LInv (i + 1) sg kc mk cb tm an gn B Cn n Vv U Dn tx r A F Kf ak ct who gz FI RO RW RK AQ KS KT KO EV DU SA FR SE rq rr → Hx D g sT Aa H0 (wXA g x j ta ka ra ga da fa pa gr r1 r2 r3 qa qd sg kc mk cb lc tm an gn B Cn n Vv U Dn tx J rm r aw A F F2 kk kq Kf ++ wMA g a th (n : Int) (gn : Int) cb tm lc (sg : Int) (ak : Int) who (kc : Int) zfa zte zta zlv (ct : Int) zgo an gz gg FI RO RW RK mk tx AQ KS KT KO EV DU SA NO OR AN FR SE GF GS IS) H locs → lv_has ls 4 [(0, .ref b0), (1, .ref x), (2, .ref (a 0)), (3, .int (iI (7 * (i : Int))))] → W pg l evn room_1 sT mI ar bl mtd cd H locs cells2 slots2 qQ (F0 mI 667 ls [])) : W pg l evn room_1 sT mI ar bl mtd cd H locs cells slots qQ (F0 mI 216 ls []) := by
  have zx := C.1
  have zb := C.2.1
  obtain ⟨hI, hR, ⟨hn, hgn, hsg⟩, hM5, hcb, htm, htx, hr, hask, hfnd, hkc, hkept⟩ := id inv
  refine lv_aload_n zx zb dL_law_216 rfl (lv_at hl 1 rfl) ?_
  refine lv_aload_n zx zb dL_law_217 rfl (lv_at hl 0 rfl) ?_
  refine lv_iload_n zx zb dL_law_218 rfl (lv_at hl 3 rfl) ?_
  refine lv_iconst (v := iI (1)) zx zb dL_law_219 rfl ?_
  refine i_add C (a := 7 * (i : Int)) (b := 1) dL_law_220 ?_
  refine s_ld C hX hbl hbA h (7 * i + 1) (by omega) (by omega) hL dL_law_221 ?_
  refine LX_ask (sx := (sg, lc, an, qd, qa, rm, r, aw, A, J, F)) ((xs (7 * i + 1)).toInt) C hl.1 (Nat.le_of_ble_eq_true rfl) (by omega) (by omega) h (R32_of _) (by show sg ≤ 200; omega) htx (txt_ok (by show sg ≤ 64; omega) hr) (fun hw v hv hv1 => by obtain ⟨fv, v⟩ := v; subst hv1; exact txt_q (by show sg ≤ 64; omega) hr (by omega) hv) hcb (by omega) hI.1 (rowI_o hI) (fun u H locs hu h => ?_)
  show W pg l evn room_1 sT mI ar bl mtd cd H locs cells slots qQ (F0 mI 225 ls [.int (iI u.1)])
  refine lv_aload_n zx zb dL_law_225 rfl (lv_at hl 2 rfl) ?_
  refine lv_aload_n zx zb dL_law_226 rfl (lv_at hl 0 rfl) ?_
  refine lv_iload_n zx zb dL_law_227 rfl (lv_at hl 3 rfl) ?_
  refine lv_iconst (v := iI (1)) zx zb dL_law_228 rfl ?_
  refine i_add C (a := 7 * (i : Int)) (b := 1) dL_law_229 ?_
  refine s_ld C hX hbl hbA h (7 * i + 1) (by omega) (by omega) hL dL_law_230 ?_
  refine LM_ask ((xs (7 * i + 1)).toInt) r (R32_of _) (by omega) (by omega) hcb htx (by omega) (rgtI_R hR) hI.2.2.2 hr C hl.1 (Nat.le_of_ble_eq_true rfl) (by omega) (by omega) h (fun v H locs hv h => ?_)
  show W pg l evn room_1 sT mI ar bl mtd cd H locs cells slots qQ (F0 mI 234 ls [.int (iI v.1), .int (iI u.1)])
  obtain ⟨e1, e2, e3, e4, e5, e6, ak2, ct2, rq2, e7, e8, e9, e10⟩ := ask_step (s := (sg, lc, an, qd, qa, rm, r, aw, A, J, F)) hI hR (by omega) (by show sg ≤ 64; omega) hr htx hask hfnd hu hv
  rw [e1]
  have f2 : v.2.1.1 = (u.2.sg : Int) := e2
  have f4 : v.2.1.2.1 = u.2.lc := e4
  have f5 : v.2.1.2.2.1 = u.2.an := e5
  have f7 : v.2.1.2.2.2.2.1 = (ak2 : Int) := e7
  have f8 : v.2.1.2.2.2.2.2.1 = (ct2 : Int) := e8
  have e3 : u.2.sg ≤ sg := e3
  rw [f2, f4, f5, f7, f8, wMA_nrm] at h
  refine s_icmp C dL_law_234 (tgt := 667) (by decide) ?_
  exact kN u.2.qa u.2.qd u.2.sg kc mk cb u.2.lc tm u.2.an gn B Cn n Vv U Dn tx u.2.J u.2.rm u.2.r u.2.aw u.2.A u.2.F F2 kk kq Kf ak2 ct2 v.2.1.2.2.2.1 0 v.2.2.1 v.2.2.2.1 v.2.2.2.2.1 v.2.2.2.2.2.1 v.2.2.2.2.2.2.1 v.2.1.2.2.2.2.2.2.1 v.2.2.2.2.2.2.2.1 FI RO RW RK v.2.1.2.2.2.2.2.2.2.1 KS KT KO EV DU SA v.2.2.2.2.2.2.2.2.1 v.2.2.2.2.2.2.2.2.2.1 v.2.2.2.2.2.2.2.2.2.2.1 v.2.1.2.2.2.2.2.2.2.2.1 (nrm (v.2.1.2.2.2.2.2.2.2.2.2)) v.2.2.2.2.2.2.2.2.2.2.2.2.1 v.2.2.2.2.2.2.2.2.2.2.2.2.2 v.2.2.2.2.2.2.2.2.2.2.2.1 rq2 rr H locs ls cells slots (by omega) (by omega) ⟨hI, hR, ⟨by omega, by omega, by omega⟩, hM5, hcb, ⟨htm.1, by omega⟩, (fun k hk => htx k (by omega)), e6, e9, e10, hkc, hkept⟩ h hl

set_option maxHeartbeats 4000000 in
set_option maxRecDepth 100000 in
theorem case_found {pg : Program} {l : Launch} {evn : Env} {sT : State} {mI : MethodId} {bl : List Frame} {mtd : Method} {cd : Code} {H H0 : Heap} {locs : List Loc} {cells slots : Nat} {qQ : State → Prop} {ls : Array Slot} {D : va_G} {g : Nat → ClassId} {Aa : Nat → Prop} {ar : Array Value} {b0 L i : Nat} {xs : Nat → Int32} {x j ta ka : Nat} {ra ga da fa pa gr r1 r2 r3 a : Nat → Nat} {qa : Nat → Nat} {qd : Nat → Nat} {sg : Nat} {kc : Nat} {mk : Nat → Bool} {cb : Int} {lc : Int} {tm : Int} {an : Bool} {gn : Nat} {B : Nat → Nat → Nat → Bool} {Cn : Nat → Int} {n : Nat} {Vv : Nat → Nat → Int} {U : Nat → Nat → Int} {Dn : Nat → Nat → Int} {tx : Nat → Int} {J : JS4} {rm : Nat → Bool} {r : RS} {aw : Nat} {A : QC} {F : FS} {F2 : FS} {kk : Nat → Nat} {kq : Nat → Nat → Nat} {Kf : Nat → KD} {ak : Nat} {ct : Nat} {who : Int} {th : Int} {zfa : Int} {zte : Int} {zta : Int} {zlv : Int} {zgo : Int} {gz : Bool} {gg : Bool} {FI : Nat → Int} {RO : Nat → Int} {RW : Nat → Int} {RK : Nat → Int} {AQ : Nat → Int} {KS : Nat → Int} {KT : Nat → Int} {KO : Nat → Int} {EV : Nat → Int} {DU : Nat → Int} {SA : Nat → Int} {NO : Nat → Int} {OR : Nat → Bool} {AN : Nat → Bool} {FR : Nat → Int} {SE : Nat → Int} {GF : Nat → Int} {GS : Nat → Int} {IS : Nat → Bool} {rq : RS} {rr : Nat → RS} (C : Cx pg mI cd cL_law 4 sT ar RL) (hX : va_X b0 L xs sT H0) (hbl : b0 < H0.size) (hbA : ¬ Aa b0) (hi : 7 * i + 7 ≤ L) (hL : L ≤ 448) (hcl : cells ≤ 400000) (hsl : slots ≤ 6000000) (inv : LInv i sg kc mk cb tm an gn B Cn n Vv U Dn tx r A F Kf ak ct who gz FI RO RW RK AQ KS KT KO EV DU SA FR SE rq rr) (h : Hx D g sT Aa H0 (wXA g x j ta ka ra ga da fa pa gr r1 r2 r3 qa qd sg kc mk cb lc tm an gn B Cn n Vv U Dn tx J rm r aw A F F2 kk kq Kf ++ wMA g a th (n : Int) (gn : Int) cb tm lc (sg : Int) (ak : Int) who (kc : Int) zfa zte zta zlv (ct : Int) zgo an gz gg FI RO RW RK mk tx AQ KS KT KO EV DU SA NO OR AN FR SE GF GS IS) H locs) (hl : lv_has ls 4 [(0, .ref b0), (1, .ref x), (2, .ref (a 0)), (3, .int (iI (7 * (i : Int))))])
    (kN : ∀ (qa : Nat → Nat) (qd : Nat → Nat) (sg : Nat) (kc : Nat) (mk : Nat → Bool) (cb : Int) (lc : Int) (tm : Int) (an : Bool) (gn : Nat) (B : Nat → Nat → Nat → Bool) (Cn : Nat → Int) (n : Nat) (Vv : Nat → Nat → Int) (U : Nat → Nat → Int) (Dn : Nat → Nat → Int) (tx : Nat → Int) (J : JS4) (rm : Nat → Bool) (r : RS) (aw : Nat) (A : QC) (F : FS) (F2 : FS) (kk : Nat → Nat) (kq : Nat → Nat → Nat) (Kf : Nat → KD) (ak : Nat) (ct : Nat) (who : Int) (th : Int) (zfa : Int) (zte : Int) (zta : Int) (zlv : Int) (zgo : Int) (gz : Bool) (gg : Bool) (FI : Nat → Int) (RO : Nat → Int) (RW : Nat → Int) (RK : Nat → Int) (AQ : Nat → Int) (KS : Nat → Int) (KT : Nat → Int) (KO : Nat → Int) (EV : Nat → Int) (DU : Nat → Int) (SA : Nat → Int) (NO : Nat → Int) (OR : Nat → Bool) (AN : Nat → Bool) (FR : Nat → Int) (SE : Nat → Int) (GF : Nat → Int) (GS : Nat → Int) (IS : Nat → Bool) (rq : RS) (rr : Nat → RS) (H : Heap) (locs : List Loc) (ls : Array Slot) (cells2 slots2 : Nat), cells2 ≤ cells + 6 → slots2 ≤ slots + 334 → LInv (i + 1) sg kc mk cb tm an gn B Cn n Vv U Dn tx r A F Kf ak ct who gz FI RO RW RK AQ KS KT KO EV DU SA FR SE rq rr → Hx D g sT Aa H0 (wXA g x j ta ka ra ga da fa pa gr r1 r2 r3 qa qd sg kc mk cb lc tm an gn B Cn n Vv U Dn tx J rm r aw A F F2 kk kq Kf ++ wMA g a th (n : Int) (gn : Int) cb tm lc (sg : Int) (ak : Int) who (kc : Int) zfa zte zta zlv (ct : Int) zgo an gz gg FI RO RW RK mk tx AQ KS KT KO EV DU SA NO OR AN FR SE GF GS IS) H locs → lv_has ls 4 [(0, .ref b0), (1, .ref x), (2, .ref (a 0)), (3, .int (iI (7 * (i : Int))))] → W pg l evn room_1 sT mI ar bl mtd cd H locs cells2 slots2 qQ (F0 mI 667 ls [])) : W pg l evn room_1 sT mI ar bl mtd cd H locs cells slots qQ (F0 mI 239 ls []) := by
  have zx := C.1
  have zb := C.2.1
  obtain ⟨hI, hR, ⟨hn, hgn, hsg⟩, hM5, hcb, htm, htx, hr, hask, hfnd, hkc, hkept⟩ := id inv
  refine lv_aload_n zx zb dL_law_239 rfl (lv_at hl 1 rfl) ?_
  refine lv_aload_n zx zb dL_law_240 rfl (lv_at hl 0 rfl) ?_
  refine lv_iload_n zx zb dL_law_241 rfl (lv_at hl 3 rfl) ?_
  refine lv_iconst (v := iI (1)) zx zb dL_law_242 rfl ?_
  refine i_add C (a := 7 * (i : Int)) (b := 1) dL_law_243 ?_
  refine s_ld C hX hbl hbA h (7 * i + 1) (by omega) (by omega) hL dL_law_244 ?_
  refine lv_aload_n zx zb dL_law_245 rfl (lv_at hl 0 rfl) ?_
  refine lv_iload_n zx zb dL_law_246 rfl (lv_at hl 3 rfl) ?_
  refine lv_iconst (v := iI (2)) zx zb dL_law_247 rfl ?_
  refine i_add C (a := 7 * (i : Int)) (b := 2) dL_law_248 ?_
  refine s_ld C hX hbl hbA h (7 * i + 2) (by omega) (by omega) hL dL_law_249 ?_
  refine LX_found ((xs (7 * i + 1)).toInt) ((xs (7 * i + 2)).toInt) C hl.1 (Nat.le_of_ble_eq_true rfl) (by omega) (by omega) h (R32_of _) (R32_of _) hfnd.2.1 (by omega) (fun k hk => ⟨(hfnd.2.2.1 k hk).2.2.1, (hfnd.2.2.1 k hk).2.2.2.1⟩) (fun k hk q => (hfnd.2.2.1 k hk).2.2.2.2 q) hI.1 hfnd.2.2.2.2.1 (fun u H locs hu h => ?_)
  show W pg l evn room_1 sT mI ar bl mtd cd H locs cells slots qQ (F0 mI 253 ls [.long (lI (foundX F.1 F.2.1 F.2.2 A.tl n mk Vv ((xs (7 * i + 1)).toInt) ((xs (7 * i + 2)).toInt)))])
  refine lv_aload_n zx zb dL_law_253 rfl (lv_at hl 2 rfl) ?_
  refine lv_aload_n zx zb dL_law_254 rfl (lv_at hl 0 rfl) ?_
  refine lv_iload_n zx zb dL_law_255 rfl (lv_at hl 3 rfl) ?_
  refine lv_iconst (v := iI (1)) zx zb dL_law_256 rfl ?_
  refine i_add C (a := 7 * (i : Int)) (b := 1) dL_law_257 ?_
  refine s_ld C hX hbl hbA h (7 * i + 1) (by omega) (by omega) hL dL_law_258 ?_
  refine lv_aload_n zx zb dL_law_259 rfl (lv_at hl 0 rfl) ?_
  refine lv_iload_n zx zb dL_law_260 rfl (lv_at hl 3 rfl) ?_
  refine lv_iconst (v := iI (2)) zx zb dL_law_261 rfl ?_
  refine i_add C (a := 7 * (i : Int)) (b := 2) dL_law_262 ?_
  refine s_ld C hX hbl hbA h (7 * i + 2) (by omega) (by omega) hL dL_law_263 ?_
  refine LM_found ((xs (7 * i + 1)).toInt) ((xs (7 * i + 2)).toInt) (R32_of _) (R32_of _) (by rw [hfnd.1]; exact hfnd.2.1) (fun k hk => ⟨by rw [(hfnd.2.2.1 k (by rw [← hfnd.1]; exact hk)).1]; exact (hfnd.2.2.1 k (by rw [← hfnd.1]; exact hk)).2.2.1, hfnd.2.2.2.2.2 k⟩) (fun q k hk => by have hk2 : k < F.2.2 := (by rw [← hfnd.1]; exact hk); have h1 := hfnd.2.2.1 k hk2; have h2 := h1.2.2.2.2 (fun z => by rw [hfnd.2.2.2.1.mpr z] at q; exact absurd q (by decide)); rw [h1.1]; omega) hI.2.2.2 C hl.1 (Nat.le_of_ble_eq_true rfl) (by omega) (by omega) h (fun v H locs hv h => ?_)
  show W pg l evn room_1 sT mI ar bl mtd cd H locs cells slots qQ (F0 mI 267 ls [.long (lI (fndM FR SE ct gz mk FI ((xs (7 * i + 1)).toInt) ((xs (7 * i + 2)).toInt))), .long (lI (foundX F.1 F.2.1 F.2.2 A.tl n mk Vv ((xs (7 * i + 1)).toInt) ((xs (7 * i + 2)).toInt)))])
  have e1 : fndM FR SE ct gz mk FI ((xs (7 * i + 1)).toInt) ((xs (7 * i + 2)).toInt) = foundX F.1 F.2.1 F.2.2 A.tl n mk Vv ((xs (7 * i + 1)).toInt) ((xs (7 * i + 2)).toInt) := found_step hI hfnd
  rw [e1]
  refine s_lcmp C dL_law_267 dL_law_268 (tgt := 667) (by decide) ?_
  exact kN qa qd sg kc mk cb lc tm an gn B Cn n Vv U Dn tx J rm r aw A F F2 kk kq Kf ak ct who 0 zfa zte zta zlv zgo gz gg FI RO RW RK AQ KS KT KO EV DU SA NO OR AN FR SE GF GS IS rq rr H locs ls cells slots (by omega) (by omega) ⟨hI, hR, ⟨by omega, by omega, by omega⟩, hM5, hcb, ⟨htm.1, by omega⟩, htx, hr, hask, hfnd, hkc, hkept⟩ h hl

set_option maxHeartbeats 4000000 in
set_option maxRecDepth 100000 in
theorem case_page {pg : Program} {l : Launch} {evn : Env} {sT : State} {mI : MethodId} {bl : List Frame} {mtd : Method} {cd : Code} {H H0 : Heap} {locs : List Loc} {cells slots : Nat} {qQ : State → Prop} {ls : Array Slot} {D : va_G} {g : Nat → ClassId} {Aa : Nat → Prop} {ar : Array Value} {b0 L i : Nat} {xs : Nat → Int32} {x j ta ka : Nat} {ra ga da fa pa gr r1 r2 r3 a : Nat → Nat} {qa : Nat → Nat} {qd : Nat → Nat} {sg : Nat} {kc : Nat} {mk : Nat → Bool} {cb : Int} {lc : Int} {tm : Int} {an : Bool} {gn : Nat} {B : Nat → Nat → Nat → Bool} {Cn : Nat → Int} {n : Nat} {Vv : Nat → Nat → Int} {U : Nat → Nat → Int} {Dn : Nat → Nat → Int} {tx : Nat → Int} {J : JS4} {rm : Nat → Bool} {r : RS} {aw : Nat} {A : QC} {F : FS} {F2 : FS} {kk : Nat → Nat} {kq : Nat → Nat → Nat} {Kf : Nat → KD} {ak : Nat} {ct : Nat} {who : Int} {th : Int} {zfa : Int} {zte : Int} {zta : Int} {zlv : Int} {zgo : Int} {gz : Bool} {gg : Bool} {FI : Nat → Int} {RO : Nat → Int} {RW : Nat → Int} {RK : Nat → Int} {AQ : Nat → Int} {KS : Nat → Int} {KT : Nat → Int} {KO : Nat → Int} {EV : Nat → Int} {DU : Nat → Int} {SA : Nat → Int} {NO : Nat → Int} {OR : Nat → Bool} {AN : Nat → Bool} {FR : Nat → Int} {SE : Nat → Int} {GF : Nat → Int} {GS : Nat → Int} {IS : Nat → Bool} {rq : RS} {rr : Nat → RS} (C : Cx pg mI cd cL_law 4 sT ar RL) (hX : va_X b0 L xs sT H0) (hbl : b0 < H0.size) (hbA : ¬ Aa b0) (hi : 7 * i + 7 ≤ L) (hL : L ≤ 448) (hcl : cells ≤ 400000) (hsl : slots ≤ 6000000) (inv : LInv i sg kc mk cb tm an gn B Cn n Vv U Dn tx r A F Kf ak ct who gz FI RO RW RK AQ KS KT KO EV DU SA FR SE rq rr) (h : Hx D g sT Aa H0 (wXA g x j ta ka ra ga da fa pa gr r1 r2 r3 qa qd sg kc mk cb lc tm an gn B Cn n Vv U Dn tx J rm r aw A F F2 kk kq Kf ++ wMA g a th (n : Int) (gn : Int) cb tm lc (sg : Int) (ak : Int) who (kc : Int) zfa zte zta zlv (ct : Int) zgo an gz gg FI RO RW RK mk tx AQ KS KT KO EV DU SA NO OR AN FR SE GF GS IS) H locs) (hl : lv_has ls 4 [(0, .ref b0), (1, .ref x), (2, .ref (a 0)), (3, .int (iI (7 * (i : Int))))])
    (kN : ∀ (qa : Nat → Nat) (qd : Nat → Nat) (sg : Nat) (kc : Nat) (mk : Nat → Bool) (cb : Int) (lc : Int) (tm : Int) (an : Bool) (gn : Nat) (B : Nat → Nat → Nat → Bool) (Cn : Nat → Int) (n : Nat) (Vv : Nat → Nat → Int) (U : Nat → Nat → Int) (Dn : Nat → Nat → Int) (tx : Nat → Int) (J : JS4) (rm : Nat → Bool) (r : RS) (aw : Nat) (A : QC) (F : FS) (F2 : FS) (kk : Nat → Nat) (kq : Nat → Nat → Nat) (Kf : Nat → KD) (ak : Nat) (ct : Nat) (who : Int) (th : Int) (zfa : Int) (zte : Int) (zta : Int) (zlv : Int) (zgo : Int) (gz : Bool) (gg : Bool) (FI : Nat → Int) (RO : Nat → Int) (RW : Nat → Int) (RK : Nat → Int) (AQ : Nat → Int) (KS : Nat → Int) (KT : Nat → Int) (KO : Nat → Int) (EV : Nat → Int) (DU : Nat → Int) (SA : Nat → Int) (NO : Nat → Int) (OR : Nat → Bool) (AN : Nat → Bool) (FR : Nat → Int) (SE : Nat → Int) (GF : Nat → Int) (GS : Nat → Int) (IS : Nat → Bool) (rq : RS) (rr : Nat → RS) (H : Heap) (locs : List Loc) (ls : Array Slot) (cells2 slots2 : Nat), cells2 ≤ cells + 6 → slots2 ≤ slots + 334 → LInv (i + 1) sg kc mk cb tm an gn B Cn n Vv U Dn tx r A F Kf ak ct who gz FI RO RW RK AQ KS KT KO EV DU SA FR SE rq rr → Hx D g sT Aa H0 (wXA g x j ta ka ra ga da fa pa gr r1 r2 r3 qa qd sg kc mk cb lc tm an gn B Cn n Vv U Dn tx J rm r aw A F F2 kk kq Kf ++ wMA g a th (n : Int) (gn : Int) cb tm lc (sg : Int) (ak : Int) who (kc : Int) zfa zte zta zlv (ct : Int) zgo an gz gg FI RO RW RK mk tx AQ KS KT KO EV DU SA NO OR AN FR SE GF GS IS) H locs → lv_has ls 4 [(0, .ref b0), (1, .ref x), (2, .ref (a 0)), (3, .int (iI (7 * (i : Int))))] → W pg l evn room_1 sT mI ar bl mtd cd H locs cells2 slots2 qQ (F0 mI 667 ls [])) : W pg l evn room_1 sT mI ar bl mtd cd H locs cells slots qQ (F0 mI 273 ls []) := by
  have zx := C.1
  have zb := C.2.1
  obtain ⟨hI, hR, ⟨hn, hgn, hsg⟩, hM5, hcb, htm, htx, hr, hask, hfnd, hkc, hkept⟩ := id inv
  refine lv_aload_n zx zb dL_law_273 rfl (lv_at hl 1 rfl) ?_
  refine lv_aload_n zx zb dL_law_274 rfl (lv_at hl 0 rfl) ?_
  refine lv_iload_n zx zb dL_law_275 rfl (lv_at hl 3 rfl) ?_
  refine lv_iconst (v := iI (1)) zx zb dL_law_276 rfl ?_
  refine i_add C (a := 7 * (i : Int)) (b := 1) dL_law_277 ?_
  refine s_ld C hX hbl hbA h (7 * i + 1) (by omega) (by omega) hL dL_law_278 ?_
  refine lv_aload_n zx zb dL_law_279 rfl (lv_at hl 0 rfl) ?_
  refine lv_iload_n zx zb dL_law_280 rfl (lv_at hl 3 rfl) ?_
  refine lv_iconst (v := iI (2)) zx zb dL_law_281 rfl ?_
  refine i_add C (a := 7 * (i : Int)) (b := 2) dL_law_282 ?_
  refine s_ld C hX hbl hbA h (7 * i + 2) (by omega) (by omega) hL dL_law_283 ?_
  refine lv_i2l zx zb dL_law_284 rfl ?_
  refine lv_bipush (v := iI (32)) zx zb dL_law_285 rfl ?_
  refine lv_lshl zx zb dL_law_287 rfl ?_
  refine lv_aload_n zx zb dL_law_288 rfl (lv_at hl 0 rfl) ?_
  refine lv_iload_n zx zb dL_law_289 rfl (lv_at hl 3 rfl) ?_
  refine lv_iconst (v := iI (3)) zx zb dL_law_290 rfl ?_
  refine i_add C (a := 7 * (i : Int)) (b := 3) dL_law_291 ?_
  refine s_ld C hX hbl hbA h (7 * i + 3) (by omega) (by omega) hL dL_law_292 ?_
  refine lv_i2l zx zb dL_law_293 rfl ?_
  refine klL_13 C dL_law_294 ?_
  refine lv_land zx zb dL_law_297 ?_
  refine s_lor C dL_law_298 ?_
  refine lv_aload_n zx zb dL_law_299 rfl (lv_at hl 0 rfl) ?_
  refine lv_iload_n zx zb dL_law_300 rfl (lv_at hl 3 rfl) ?_
  refine lv_iconst (v := iI (4)) zx zb dL_law_301 rfl ?_
  refine i_add C (a := 7 * (i : Int)) (b := 4) dL_law_302 ?_
  refine s_ld C hX hbl hbA h (7 * i + 4) (by omega) (by omega) hL dL_law_303 ?_
  refine LX_page ((xs (7 * i + 1)).toInt) (lgz ((xs (7 * i + 2)).toInt) ((xs (7 * i + 3)).toInt)) ((xs (7 * i + 4)).toInt) C hl.1 (Nat.le_of_ble_eq_true rfl) (by omega) (by omega) h ⟨R32_of _, R64_of _, R32_of _⟩ (by omega) hI.1 (rowI_o hI) hask.1 (fun u H locs hu h => ?_)
  show W pg l evn room_1 sT mI ar bl mtd cd H locs cells slots qQ (F0 mI 307 ls [.int (iI u.1)])
  refine lv_aload_n zx zb dL_law_307 rfl (lv_at hl 2 rfl) ?_
  refine lv_aload_n zx zb dL_law_308 rfl (lv_at hl 0 rfl) ?_
  refine lv_iload_n zx zb dL_law_309 rfl (lv_at hl 3 rfl) ?_
  refine lv_iconst (v := iI (1)) zx zb dL_law_310 rfl ?_
  refine i_add C (a := 7 * (i : Int)) (b := 1) dL_law_311 ?_
  refine s_ld C hX hbl hbA h (7 * i + 1) (by omega) (by omega) hL dL_law_312 ?_
  refine lv_aload_n zx zb dL_law_313 rfl (lv_at hl 0 rfl) ?_
  refine lv_iload_n zx zb dL_law_314 rfl (lv_at hl 3 rfl) ?_
  refine lv_iconst (v := iI (2)) zx zb dL_law_315 rfl ?_
  refine i_add C (a := 7 * (i : Int)) (b := 2) dL_law_316 ?_
  refine s_ld C hX hbl hbA h (7 * i + 2) (by omega) (by omega) hL dL_law_317 ?_
  refine lv_i2l zx zb dL_law_318 rfl ?_
  refine lv_bipush (v := iI (32)) zx zb dL_law_319 rfl ?_
  refine lv_lshl zx zb dL_law_321 rfl ?_
  refine lv_aload_n zx zb dL_law_322 rfl (lv_at hl 0 rfl) ?_
  refine lv_iload_n zx zb dL_law_323 rfl (lv_at hl 3 rfl) ?_
  refine lv_iconst (v := iI (3)) zx zb dL_law_324 rfl ?_
  refine i_add C (a := 7 * (i : Int)) (b := 3) dL_law_325 ?_
  refine s_ld C hX hbl hbA h (7 * i + 3) (by omega) (by omega) hL dL_law_326 ?_
  refine lv_i2l zx zb dL_law_327 rfl ?_
  refine klL_13 C dL_law_328 ?_
  refine lv_land zx zb dL_law_331 ?_
  refine s_lor C dL_law_332 ?_
  refine lv_aload_n zx zb dL_law_333 rfl (lv_at hl 0 rfl) ?_
  refine lv_iload_n zx zb dL_law_334 rfl (lv_at hl 3 rfl) ?_
  refine lv_iconst (v := iI (4)) zx zb dL_law_335 rfl ?_
  refine i_add C (a := 7 * (i : Int)) (b := 4) dL_law_336 ?_
  refine s_ld C hX hbl hbA h (7 * i + 4) (by omega) (by omega) hL dL_law_337 ?_
  refine LM_page ((xs (7 * i + 1)).toInt) (lgz ((xs (7 * i + 2)).toInt) ((xs (7 * i + 3)).toInt)) ((xs (7 * i + 4)).toInt) rq ⟨R32_of _, R64_of _, R32_of _⟩ (by omega) hask.2.2.1 hask.2.2.2.1 hask.2.2.2.2.1 hM5 (fun q => by obtain ⟨w, hw, -⟩ := (hask.2.2.2.2.2 q).2; exact ⟨w, hw⟩) (by omega) (rgtI_R hR) hI.2.2.2 hask.2.1 C hl.1 (Nat.le_of_ble_eq_true rfl) (by omega) (by omega) h (fun v H locs hv h => ?_)
  show W pg l evn room_1 sT mI ar bl mtd cd H locs cells slots qQ (F0 mI 341 ls [.int (iI v.1), .int (iI u.1)])
  have e1 := page_step hI hR hask hu hv
  rw [e1]
  refine s_icmp C dL_law_341 (tgt := 667) (by decide) ?_
  exact kN qa qd sg kc mk cb lc tm an gn B Cn n Vv U Dn tx u.2.1 rm r aw A F u.2.2 kk kq Kf ak ct who 0 v.2.1 v.2.2.1 v.2.2.2.1 v.2.2.2.2.1 v.2.2.2.2.2.1 gz v.2.2.2.2.2.2.1 FI RO RW RK AQ KS KT KO EV DU SA v.2.2.2.2.2.2.2.1 v.2.2.2.2.2.2.2.2.1 v.2.2.2.2.2.2.2.2.2.1 FR SE v.2.2.2.2.2.2.2.2.2.2.2.1 v.2.2.2.2.2.2.2.2.2.2.2.2 v.2.2.2.2.2.2.2.2.2.2.1 rq rr H locs ls cells slots (by omega) (by omega) ⟨hI, hR, ⟨by omega, by omega, by omega⟩, hM5, hcb, ⟨htm.1, by omega⟩, htx, hr, hask, hfnd, hkc, hkept⟩ h hl

set_option maxHeartbeats 4000000 in
set_option maxRecDepth 100000 in
theorem case_right {pg : Program} {l : Launch} {evn : Env} {sT : State} {mI : MethodId} {bl : List Frame} {mtd : Method} {cd : Code} {H H0 : Heap} {locs : List Loc} {cells slots : Nat} {qQ : State → Prop} {ls : Array Slot} {D : va_G} {g : Nat → ClassId} {Aa : Nat → Prop} {ar : Array Value} {b0 L i : Nat} {xs : Nat → Int32} {x j ta ka : Nat} {ra ga da fa pa gr r1 r2 r3 a : Nat → Nat} {qa : Nat → Nat} {qd : Nat → Nat} {sg : Nat} {kc : Nat} {mk : Nat → Bool} {cb : Int} {lc : Int} {tm : Int} {an : Bool} {gn : Nat} {B : Nat → Nat → Nat → Bool} {Cn : Nat → Int} {n : Nat} {Vv : Nat → Nat → Int} {U : Nat → Nat → Int} {Dn : Nat → Nat → Int} {tx : Nat → Int} {J : JS4} {rm : Nat → Bool} {r : RS} {aw : Nat} {A : QC} {F : FS} {F2 : FS} {kk : Nat → Nat} {kq : Nat → Nat → Nat} {Kf : Nat → KD} {ak : Nat} {ct : Nat} {who : Int} {th : Int} {zfa : Int} {zte : Int} {zta : Int} {zlv : Int} {zgo : Int} {gz : Bool} {gg : Bool} {FI : Nat → Int} {RO : Nat → Int} {RW : Nat → Int} {RK : Nat → Int} {AQ : Nat → Int} {KS : Nat → Int} {KT : Nat → Int} {KO : Nat → Int} {EV : Nat → Int} {DU : Nat → Int} {SA : Nat → Int} {NO : Nat → Int} {OR : Nat → Bool} {AN : Nat → Bool} {FR : Nat → Int} {SE : Nat → Int} {GF : Nat → Int} {GS : Nat → Int} {IS : Nat → Bool} {rq : RS} {rr : Nat → RS} (C : Cx pg mI cd cL_law 4 sT ar RL) (hX : va_X b0 L xs sT H0) (hbl : b0 < H0.size) (hbA : ¬ Aa b0) (hi : 7 * i + 7 ≤ L) (hL : L ≤ 448) (hcl : cells ≤ 400000) (hsl : slots ≤ 6000000) (inv : LInv i sg kc mk cb tm an gn B Cn n Vv U Dn tx r A F Kf ak ct who gz FI RO RW RK AQ KS KT KO EV DU SA FR SE rq rr) (h : Hx D g sT Aa H0 (wXA g x j ta ka ra ga da fa pa gr r1 r2 r3 qa qd sg kc mk cb lc tm an gn B Cn n Vv U Dn tx J rm r aw A F F2 kk kq Kf ++ wMA g a th (n : Int) (gn : Int) cb tm lc (sg : Int) (ak : Int) who (kc : Int) zfa zte zta zlv (ct : Int) zgo an gz gg FI RO RW RK mk tx AQ KS KT KO EV DU SA NO OR AN FR SE GF GS IS) H locs) (hl : lv_has ls 4 [(0, .ref b0), (1, .ref x), (2, .ref (a 0)), (3, .int (iI (7 * (i : Int))))])
    (kN : ∀ (qa : Nat → Nat) (qd : Nat → Nat) (sg : Nat) (kc : Nat) (mk : Nat → Bool) (cb : Int) (lc : Int) (tm : Int) (an : Bool) (gn : Nat) (B : Nat → Nat → Nat → Bool) (Cn : Nat → Int) (n : Nat) (Vv : Nat → Nat → Int) (U : Nat → Nat → Int) (Dn : Nat → Nat → Int) (tx : Nat → Int) (J : JS4) (rm : Nat → Bool) (r : RS) (aw : Nat) (A : QC) (F : FS) (F2 : FS) (kk : Nat → Nat) (kq : Nat → Nat → Nat) (Kf : Nat → KD) (ak : Nat) (ct : Nat) (who : Int) (th : Int) (zfa : Int) (zte : Int) (zta : Int) (zlv : Int) (zgo : Int) (gz : Bool) (gg : Bool) (FI : Nat → Int) (RO : Nat → Int) (RW : Nat → Int) (RK : Nat → Int) (AQ : Nat → Int) (KS : Nat → Int) (KT : Nat → Int) (KO : Nat → Int) (EV : Nat → Int) (DU : Nat → Int) (SA : Nat → Int) (NO : Nat → Int) (OR : Nat → Bool) (AN : Nat → Bool) (FR : Nat → Int) (SE : Nat → Int) (GF : Nat → Int) (GS : Nat → Int) (IS : Nat → Bool) (rq : RS) (rr : Nat → RS) (H : Heap) (locs : List Loc) (ls : Array Slot) (cells2 slots2 : Nat), cells2 ≤ cells + 6 → slots2 ≤ slots + 334 → LInv (i + 1) sg kc mk cb tm an gn B Cn n Vv U Dn tx r A F Kf ak ct who gz FI RO RW RK AQ KS KT KO EV DU SA FR SE rq rr → Hx D g sT Aa H0 (wXA g x j ta ka ra ga da fa pa gr r1 r2 r3 qa qd sg kc mk cb lc tm an gn B Cn n Vv U Dn tx J rm r aw A F F2 kk kq Kf ++ wMA g a th (n : Int) (gn : Int) cb tm lc (sg : Int) (ak : Int) who (kc : Int) zfa zte zta zlv (ct : Int) zgo an gz gg FI RO RW RK mk tx AQ KS KT KO EV DU SA NO OR AN FR SE GF GS IS) H locs → lv_has ls 4 [(0, .ref b0), (1, .ref x), (2, .ref (a 0)), (3, .int (iI (7 * (i : Int))))] → W pg l evn room_1 sT mI ar bl mtd cd H locs cells2 slots2 qQ (F0 mI 667 ls [])) : W pg l evn room_1 sT mI ar bl mtd cd H locs cells slots qQ (F0 mI 346 ls []) := by
  have zx := C.1
  have zb := C.2.1
  obtain ⟨hI, hR, ⟨hn, hgn, hsg⟩, hM5, hcb, htm, htx, hr, hask, hfnd, hkc, hkept⟩ := id inv
  refine lv_aload_n zx zb dL_law_346 rfl (lv_at hl 1 rfl) ?_
  refine lv_aload_n zx zb dL_law_347 rfl (lv_at hl 0 rfl) ?_
  refine lv_iload_n zx zb dL_law_348 rfl (lv_at hl 3 rfl) ?_
  refine lv_iconst (v := iI (1)) zx zb dL_law_349 rfl ?_
  refine i_add C (a := 7 * (i : Int)) (b := 1) dL_law_350 ?_
  refine s_ld C hX hbl hbA h (7 * i + 1) (by omega) (by omega) hL dL_law_351 ?_
  refine lv_aload_n zx zb dL_law_352 rfl (lv_at hl 0 rfl) ?_
  refine lv_iload_n zx zb dL_law_353 rfl (lv_at hl 3 rfl) ?_
  refine lv_iconst (v := iI (2)) zx zb dL_law_354 rfl ?_
  refine i_add C (a := 7 * (i : Int)) (b := 2) dL_law_355 ?_
  refine s_ld C hX hbl hbA h (7 * i + 2) (by omega) (by omega) hL dL_law_356 ?_
  refine lv_aload_n zx zb dL_law_357 rfl (lv_at hl 0 rfl) ?_
  refine lv_iload_n zx zb dL_law_358 rfl (lv_at hl 3 rfl) ?_
  refine lv_iconst (v := iI (3)) zx zb dL_law_359 rfl ?_
  refine i_add C (a := 7 * (i : Int)) (b := 3) dL_law_360 ?_
  refine s_ld C hX hbl hbA h (7 * i + 3) (by omega) (by omega) hL dL_law_361 ?_
  refine LX_right ((xs (7 * i + 1)).toInt) ((xs (7 * i + 2)).toInt) ((xs (7 * i + 3)).toInt) C hl.1 (Nat.le_of_ble_eq_true rfl) (by omega) (by omega) h ⟨R32_of _, R32_of _, R32_of _⟩ (by omega) (fun u H locs hu h => ?_)
  show W pg l evn room_1 sT mI ar bl mtd cd H locs cells slots qQ (F0 mI 365 ls [.int (iI u.1)])
  refine lv_aload_n zx zb dL_law_365 rfl (lv_at hl 2 rfl) ?_
  refine lv_aload_n zx zb dL_law_366 rfl (lv_at hl 0 rfl) ?_
  refine lv_iload_n zx zb dL_law_367 rfl (lv_at hl 3 rfl) ?_
  refine lv_iconst (v := iI (1)) zx zb dL_law_368 rfl ?_
  refine i_add C (a := 7 * (i : Int)) (b := 1) dL_law_369 ?_
  refine s_ld C hX hbl hbA h (7 * i + 1) (by omega) (by omega) hL dL_law_370 ?_
  refine lv_aload_n zx zb dL_law_371 rfl (lv_at hl 0 rfl) ?_
  refine lv_iload_n zx zb dL_law_372 rfl (lv_at hl 3 rfl) ?_
  refine lv_iconst (v := iI (2)) zx zb dL_law_373 rfl ?_
  refine i_add C (a := 7 * (i : Int)) (b := 2) dL_law_374 ?_
  refine s_ld C hX hbl hbA h (7 * i + 2) (by omega) (by omega) hL dL_law_375 ?_
  refine lv_aload_n zx zb dL_law_376 rfl (lv_at hl 0 rfl) ?_
  refine lv_iload_n zx zb dL_law_377 rfl (lv_at hl 3 rfl) ?_
  refine lv_iconst (v := iI (3)) zx zb dL_law_378 rfl ?_
  refine i_add C (a := 7 * (i : Int)) (b := 3) dL_law_379 ?_
  refine s_ld C hX hbl hbA h (7 * i + 3) (by omega) (by omega) hL dL_law_380 ?_
  refine LM_right ((xs (7 * i + 1)).toInt) ((xs (7 * i + 2)).toInt) ((xs (7 * i + 3)).toInt) ⟨R32_of _, R32_of _, R32_of _⟩ (by omega) (rgtI_R hR) C hl.1 (Nat.le_of_ble_eq_true rfl) (by omega) (by omega) h (fun v H locs hv h => ?_)
  show W pg l evn room_1 sT mI ar bl mtd cd H locs cells slots qQ (F0 mI 384 ls [.int (iI v.1), .int (iI u.1)])
  obtain ⟨e1, e2, e3, e4⟩ := rgt_step hR (by omega) hu hv
  rw [e1]
  rw [e2] at h
  refine s_icmp C dL_law_384 (tgt := 667) (by decide) ?_
  exact kN qa qd sg kc mk cb lc tm an u.2.1 u.2.2.1 u.2.2.2 n Vv U Dn tx J rm r aw A F F2 kk kq Kf ak ct who 0 zfa zte zta zlv zgo gz gg FI v.2.2.1 v.2.2.2.1 v.2.2.2.2 AQ KS KT KO EV DU SA NO OR AN FR SE GF GS IS rq rr H locs ls cells slots (by omega) (by omega) ⟨hI, e4, ⟨by omega, by omega, by omega⟩, hM5, hcb, ⟨htm.1, by omega⟩, htx, hr, hask, hfnd, hkc, hkept⟩ h hl

set_option maxHeartbeats 4000000 in
set_option maxRecDepth 100000 in
theorem case_masked {pg : Program} {l : Launch} {evn : Env} {sT : State} {mI : MethodId} {bl : List Frame} {mtd : Method} {cd : Code} {H H0 : Heap} {locs : List Loc} {cells slots : Nat} {qQ : State → Prop} {ls : Array Slot} {D : va_G} {g : Nat → ClassId} {Aa : Nat → Prop} {ar : Array Value} {b0 L i : Nat} {xs : Nat → Int32} {x j ta ka : Nat} {ra ga da fa pa gr r1 r2 r3 a : Nat → Nat} {qa : Nat → Nat} {qd : Nat → Nat} {sg : Nat} {kc : Nat} {mk : Nat → Bool} {cb : Int} {lc : Int} {tm : Int} {an : Bool} {gn : Nat} {B : Nat → Nat → Nat → Bool} {Cn : Nat → Int} {n : Nat} {Vv : Nat → Nat → Int} {U : Nat → Nat → Int} {Dn : Nat → Nat → Int} {tx : Nat → Int} {J : JS4} {rm : Nat → Bool} {r : RS} {aw : Nat} {A : QC} {F : FS} {F2 : FS} {kk : Nat → Nat} {kq : Nat → Nat → Nat} {Kf : Nat → KD} {ak : Nat} {ct : Nat} {who : Int} {th : Int} {zfa : Int} {zte : Int} {zta : Int} {zlv : Int} {zgo : Int} {gz : Bool} {gg : Bool} {FI : Nat → Int} {RO : Nat → Int} {RW : Nat → Int} {RK : Nat → Int} {AQ : Nat → Int} {KS : Nat → Int} {KT : Nat → Int} {KO : Nat → Int} {EV : Nat → Int} {DU : Nat → Int} {SA : Nat → Int} {NO : Nat → Int} {OR : Nat → Bool} {AN : Nat → Bool} {FR : Nat → Int} {SE : Nat → Int} {GF : Nat → Int} {GS : Nat → Int} {IS : Nat → Bool} {rq : RS} {rr : Nat → RS} (C : Cx pg mI cd cL_law 4 sT ar RL) (hX : va_X b0 L xs sT H0) (hbl : b0 < H0.size) (hbA : ¬ Aa b0) (hi : 7 * i + 7 ≤ L) (hL : L ≤ 448) (hcl : cells ≤ 400000) (hsl : slots ≤ 6000000) (inv : LInv i sg kc mk cb tm an gn B Cn n Vv U Dn tx r A F Kf ak ct who gz FI RO RW RK AQ KS KT KO EV DU SA FR SE rq rr) (h : Hx D g sT Aa H0 (wXA g x j ta ka ra ga da fa pa gr r1 r2 r3 qa qd sg kc mk cb lc tm an gn B Cn n Vv U Dn tx J rm r aw A F F2 kk kq Kf ++ wMA g a th (n : Int) (gn : Int) cb tm lc (sg : Int) (ak : Int) who (kc : Int) zfa zte zta zlv (ct : Int) zgo an gz gg FI RO RW RK mk tx AQ KS KT KO EV DU SA NO OR AN FR SE GF GS IS) H locs) (hl : lv_has ls 4 [(0, .ref b0), (1, .ref x), (2, .ref (a 0)), (3, .int (iI (7 * (i : Int))))])
    (kN : ∀ (qa : Nat → Nat) (qd : Nat → Nat) (sg : Nat) (kc : Nat) (mk : Nat → Bool) (cb : Int) (lc : Int) (tm : Int) (an : Bool) (gn : Nat) (B : Nat → Nat → Nat → Bool) (Cn : Nat → Int) (n : Nat) (Vv : Nat → Nat → Int) (U : Nat → Nat → Int) (Dn : Nat → Nat → Int) (tx : Nat → Int) (J : JS4) (rm : Nat → Bool) (r : RS) (aw : Nat) (A : QC) (F : FS) (F2 : FS) (kk : Nat → Nat) (kq : Nat → Nat → Nat) (Kf : Nat → KD) (ak : Nat) (ct : Nat) (who : Int) (th : Int) (zfa : Int) (zte : Int) (zta : Int) (zlv : Int) (zgo : Int) (gz : Bool) (gg : Bool) (FI : Nat → Int) (RO : Nat → Int) (RW : Nat → Int) (RK : Nat → Int) (AQ : Nat → Int) (KS : Nat → Int) (KT : Nat → Int) (KO : Nat → Int) (EV : Nat → Int) (DU : Nat → Int) (SA : Nat → Int) (NO : Nat → Int) (OR : Nat → Bool) (AN : Nat → Bool) (FR : Nat → Int) (SE : Nat → Int) (GF : Nat → Int) (GS : Nat → Int) (IS : Nat → Bool) (rq : RS) (rr : Nat → RS) (H : Heap) (locs : List Loc) (ls : Array Slot) (cells2 slots2 : Nat), cells2 ≤ cells + 6 → slots2 ≤ slots + 334 → LInv (i + 1) sg kc mk cb tm an gn B Cn n Vv U Dn tx r A F Kf ak ct who gz FI RO RW RK AQ KS KT KO EV DU SA FR SE rq rr → Hx D g sT Aa H0 (wXA g x j ta ka ra ga da fa pa gr r1 r2 r3 qa qd sg kc mk cb lc tm an gn B Cn n Vv U Dn tx J rm r aw A F F2 kk kq Kf ++ wMA g a th (n : Int) (gn : Int) cb tm lc (sg : Int) (ak : Int) who (kc : Int) zfa zte zta zlv (ct : Int) zgo an gz gg FI RO RW RK mk tx AQ KS KT KO EV DU SA NO OR AN FR SE GF GS IS) H locs → lv_has ls 4 [(0, .ref b0), (1, .ref x), (2, .ref (a 0)), (3, .int (iI (7 * (i : Int))))] → W pg l evn room_1 sT mI ar bl mtd cd H locs cells2 slots2 qQ (F0 mI 667 ls [])) : W pg l evn room_1 sT mI ar bl mtd cd H locs cells slots qQ (F0 mI 389 ls []) := by
  have zx := C.1
  have zb := C.2.1
  obtain ⟨hI, hR, ⟨hn, hgn, hsg⟩, hM5, hcb, htm, htx, hr, hask, hfnd, hkc, hkept⟩ := id inv
  refine lv_aload_n zx zb dL_law_389 rfl (lv_at hl 1 rfl) ?_
  refine lv_aload_n zx zb dL_law_390 rfl (lv_at hl 0 rfl) ?_
  refine lv_iload_n zx zb dL_law_391 rfl (lv_at hl 3 rfl) ?_
  refine lv_iconst (v := iI (1)) zx zb dL_law_392 rfl ?_
  refine i_add C (a := 7 * (i : Int)) (b := 1) dL_law_393 ?_
  refine s_ld C hX hbl hbA h (7 * i + 1) (by omega) (by omega) hL dL_law_394 ?_
  refine lv_aload_n zx zb dL_law_395 rfl (lv_at hl 0 rfl) ?_
  refine lv_iload_n zx zb dL_law_396 rfl (lv_at hl 3 rfl) ?_
  refine lv_iconst (v := iI (2)) zx zb dL_law_397 rfl ?_
  refine i_add C (a := 7 * (i : Int)) (b := 2) dL_law_398 ?_
  refine s_ld C hX hbl hbA h (7 * i + 2) (by omega) (by omega) hL dL_law_399 ?_
  refine i_zeq (a := (xs (7 * i + 2)).toInt) (tgt := 407) C dL_law_400 (by decide) (R32_of _) (fun c_m => ?_) (fun c_m => ?_)
  · skip
    refine lv_iconst (v := bI false) zx zb dL_law_407 rfl ?_
    refine LX_masked ((xs (7 * i + 1)).toInt) false C hl.1 (Nat.le_of_ble_eq_true rfl) (by omega) (by omega) h (R32_of _) (fun u H locs hu h => ?_)
    show W pg l evn room_1 sT mI ar bl mtd cd H locs cells slots qQ (F0 mI 411 ls [.int (iI u.1)])
    refine lv_aload_n zx zb dL_law_411 rfl (lv_at hl 2 rfl) ?_
    refine lv_aload_n zx zb dL_law_412 rfl (lv_at hl 0 rfl) ?_
    refine lv_iload_n zx zb dL_law_413 rfl (lv_at hl 3 rfl) ?_
    refine lv_iconst (v := iI (1)) zx zb dL_law_414 rfl ?_
    refine i_add C (a := 7 * (i : Int)) (b := 1) dL_law_415 ?_
    refine s_ld C hX hbl hbA h (7 * i + 1) (by omega) (by omega) hL dL_law_416 ?_
    refine lv_aload_n zx zb dL_law_417 rfl (lv_at hl 0 rfl) ?_
    refine lv_iload_n zx zb dL_law_418 rfl (lv_at hl 3 rfl) ?_
    refine lv_iconst (v := iI (2)) zx zb dL_law_419 rfl ?_
    refine i_add C (a := 7 * (i : Int)) (b := 2) dL_law_420 ?_
    refine s_ld C hX hbl hbA h (7 * i + 2) (by omega) (by omega) hL dL_law_421 ?_
    refine i_zeq (a := (xs (7 * i + 2)).toInt) (tgt := 429) C dL_law_422 (by decide) (R32_of _) (fun _ => ?_) (fun q => absurd c_m q)
    refine lv_iconst (v := bI false) zx zb dL_law_429 rfl ?_
    refine LM_masked ((xs (7 * i + 1)).toInt) false (R32_of _) C hl.1 (Nat.le_of_ble_eq_true rfl) (by omega) (by omega) h (fun v H locs hv h => ?_)
    show W pg l evn room_1 sT mI ar bl mtd cd H locs cells slots qQ (F0 mI 433 ls [.int (iI v.1), .int (iI u.1)])
    subst hu
    subst hv
    refine s_icmp C dL_law_433 (tgt := 667) (by decide) ?_
    exact kN qa qd sg kc ((maskX mk ((xs (7 * i + 1)).toInt) false).2) cb lc tm an gn B Cn n Vv U Dn tx J rm r aw A F F2 kk kq Kf ak ct who 0 zfa zte zta zlv zgo gz gg FI RO RW RK AQ KS KT KO EV DU SA NO OR AN FR SE GF GS IS rq rr H locs ls cells slots (by omega) (by omega) ⟨hI, hR, ⟨by omega, by omega, by omega⟩, mask_step hM5, hcb, ⟨htm.1, by omega⟩, htx, hr, hask, hfnd, hkc, hkept⟩ h hl
  · skip
    refine lv_iconst (v := bI true) zx zb dL_law_403 rfl ?_
    refine lv_goto (tgt := 408) zx zb dL_law_404 (by decide) ?_
    refine LX_masked ((xs (7 * i + 1)).toInt) true C hl.1 (Nat.le_of_ble_eq_true rfl) (by omega) (by omega) h (R32_of _) (fun u H locs hu h => ?_)
    show W pg l evn room_1 sT mI ar bl mtd cd H locs cells slots qQ (F0 mI 411 ls [.int (iI u.1)])
    refine lv_aload_n zx zb dL_law_411 rfl (lv_at hl 2 rfl) ?_
    refine lv_aload_n zx zb dL_law_412 rfl (lv_at hl 0 rfl) ?_
    refine lv_iload_n zx zb dL_law_413 rfl (lv_at hl 3 rfl) ?_
    refine lv_iconst (v := iI (1)) zx zb dL_law_414 rfl ?_
    refine i_add C (a := 7 * (i : Int)) (b := 1) dL_law_415 ?_
    refine s_ld C hX hbl hbA h (7 * i + 1) (by omega) (by omega) hL dL_law_416 ?_
    refine lv_aload_n zx zb dL_law_417 rfl (lv_at hl 0 rfl) ?_
    refine lv_iload_n zx zb dL_law_418 rfl (lv_at hl 3 rfl) ?_
    refine lv_iconst (v := iI (2)) zx zb dL_law_419 rfl ?_
    refine i_add C (a := 7 * (i : Int)) (b := 2) dL_law_420 ?_
    refine s_ld C hX hbl hbA h (7 * i + 2) (by omega) (by omega) hL dL_law_421 ?_
    refine i_zeq (a := (xs (7 * i + 2)).toInt) (tgt := 429) C dL_law_422 (by decide) (R32_of _) (fun q => absurd q c_m) (fun _ => ?_)
    refine lv_iconst (v := bI true) zx zb dL_law_425 rfl ?_
    refine lv_goto (tgt := 430) zx zb dL_law_426 (by decide) ?_
    refine LM_masked ((xs (7 * i + 1)).toInt) true (R32_of _) C hl.1 (Nat.le_of_ble_eq_true rfl) (by omega) (by omega) h (fun v H locs hv h => ?_)
    show W pg l evn room_1 sT mI ar bl mtd cd H locs cells slots qQ (F0 mI 433 ls [.int (iI v.1), .int (iI u.1)])
    subst hu
    subst hv
    refine s_icmp C dL_law_433 (tgt := 667) (by decide) ?_
    exact kN qa qd sg kc ((maskX mk ((xs (7 * i + 1)).toInt) true).2) cb lc tm an gn B Cn n Vv U Dn tx J rm r aw A F F2 kk kq Kf ak ct who 0 zfa zte zta zlv zgo gz gg FI RO RW RK AQ KS KT KO EV DU SA NO OR AN FR SE GF GS IS rq rr H locs ls cells slots (by omega) (by omega) ⟨hI, hR, ⟨by omega, by omega, by omega⟩, mask_step hM5, hcb, ⟨htm.1, by omega⟩, htx, hr, hask, hfnd, hkc, hkept⟩ h hl

set_option maxHeartbeats 4000000 in
set_option maxRecDepth 100000 in
theorem case_cost {pg : Program} {l : Launch} {evn : Env} {sT : State} {mI : MethodId} {bl : List Frame} {mtd : Method} {cd : Code} {H H0 : Heap} {locs : List Loc} {cells slots : Nat} {qQ : State → Prop} {ls : Array Slot} {D : va_G} {g : Nat → ClassId} {Aa : Nat → Prop} {ar : Array Value} {b0 L i : Nat} {xs : Nat → Int32} {x j ta ka : Nat} {ra ga da fa pa gr r1 r2 r3 a : Nat → Nat} {qa : Nat → Nat} {qd : Nat → Nat} {sg : Nat} {kc : Nat} {mk : Nat → Bool} {cb : Int} {lc : Int} {tm : Int} {an : Bool} {gn : Nat} {B : Nat → Nat → Nat → Bool} {Cn : Nat → Int} {n : Nat} {Vv : Nat → Nat → Int} {U : Nat → Nat → Int} {Dn : Nat → Nat → Int} {tx : Nat → Int} {J : JS4} {rm : Nat → Bool} {r : RS} {aw : Nat} {A : QC} {F : FS} {F2 : FS} {kk : Nat → Nat} {kq : Nat → Nat → Nat} {Kf : Nat → KD} {ak : Nat} {ct : Nat} {who : Int} {th : Int} {zfa : Int} {zte : Int} {zta : Int} {zlv : Int} {zgo : Int} {gz : Bool} {gg : Bool} {FI : Nat → Int} {RO : Nat → Int} {RW : Nat → Int} {RK : Nat → Int} {AQ : Nat → Int} {KS : Nat → Int} {KT : Nat → Int} {KO : Nat → Int} {EV : Nat → Int} {DU : Nat → Int} {SA : Nat → Int} {NO : Nat → Int} {OR : Nat → Bool} {AN : Nat → Bool} {FR : Nat → Int} {SE : Nat → Int} {GF : Nat → Int} {GS : Nat → Int} {IS : Nat → Bool} {rq : RS} {rr : Nat → RS} (C : Cx pg mI cd cL_law 4 sT ar RL) (hX : va_X b0 L xs sT H0) (hbl : b0 < H0.size) (hbA : ¬ Aa b0) (hi : 7 * i + 7 ≤ L) (hL : L ≤ 448) (hcl : cells ≤ 400000) (hsl : slots ≤ 6000000) (inv : LInv i sg kc mk cb tm an gn B Cn n Vv U Dn tx r A F Kf ak ct who gz FI RO RW RK AQ KS KT KO EV DU SA FR SE rq rr) (h : Hx D g sT Aa H0 (wXA g x j ta ka ra ga da fa pa gr r1 r2 r3 qa qd sg kc mk cb lc tm an gn B Cn n Vv U Dn tx J rm r aw A F F2 kk kq Kf ++ wMA g a th (n : Int) (gn : Int) cb tm lc (sg : Int) (ak : Int) who (kc : Int) zfa zte zta zlv (ct : Int) zgo an gz gg FI RO RW RK mk tx AQ KS KT KO EV DU SA NO OR AN FR SE GF GS IS) H locs) (hl : lv_has ls 4 [(0, .ref b0), (1, .ref x), (2, .ref (a 0)), (3, .int (iI (7 * (i : Int))))])
    (kN : ∀ (qa : Nat → Nat) (qd : Nat → Nat) (sg : Nat) (kc : Nat) (mk : Nat → Bool) (cb : Int) (lc : Int) (tm : Int) (an : Bool) (gn : Nat) (B : Nat → Nat → Nat → Bool) (Cn : Nat → Int) (n : Nat) (Vv : Nat → Nat → Int) (U : Nat → Nat → Int) (Dn : Nat → Nat → Int) (tx : Nat → Int) (J : JS4) (rm : Nat → Bool) (r : RS) (aw : Nat) (A : QC) (F : FS) (F2 : FS) (kk : Nat → Nat) (kq : Nat → Nat → Nat) (Kf : Nat → KD) (ak : Nat) (ct : Nat) (who : Int) (th : Int) (zfa : Int) (zte : Int) (zta : Int) (zlv : Int) (zgo : Int) (gz : Bool) (gg : Bool) (FI : Nat → Int) (RO : Nat → Int) (RW : Nat → Int) (RK : Nat → Int) (AQ : Nat → Int) (KS : Nat → Int) (KT : Nat → Int) (KO : Nat → Int) (EV : Nat → Int) (DU : Nat → Int) (SA : Nat → Int) (NO : Nat → Int) (OR : Nat → Bool) (AN : Nat → Bool) (FR : Nat → Int) (SE : Nat → Int) (GF : Nat → Int) (GS : Nat → Int) (IS : Nat → Bool) (rq : RS) (rr : Nat → RS) (H : Heap) (locs : List Loc) (ls : Array Slot) (cells2 slots2 : Nat), cells2 ≤ cells + 6 → slots2 ≤ slots + 334 → LInv (i + 1) sg kc mk cb tm an gn B Cn n Vv U Dn tx r A F Kf ak ct who gz FI RO RW RK AQ KS KT KO EV DU SA FR SE rq rr → Hx D g sT Aa H0 (wXA g x j ta ka ra ga da fa pa gr r1 r2 r3 qa qd sg kc mk cb lc tm an gn B Cn n Vv U Dn tx J rm r aw A F F2 kk kq Kf ++ wMA g a th (n : Int) (gn : Int) cb tm lc (sg : Int) (ak : Int) who (kc : Int) zfa zte zta zlv (ct : Int) zgo an gz gg FI RO RW RK mk tx AQ KS KT KO EV DU SA NO OR AN FR SE GF GS IS) H locs → lv_has ls 4 [(0, .ref b0), (1, .ref x), (2, .ref (a 0)), (3, .int (iI (7 * (i : Int))))] → W pg l evn room_1 sT mI ar bl mtd cd H locs cells2 slots2 qQ (F0 mI 667 ls [])) : W pg l evn room_1 sT mI ar bl mtd cd H locs cells slots qQ (F0 mI 438 ls []) := by
  have zx := C.1
  have zb := C.2.1
  obtain ⟨hI, hR, ⟨hn, hgn, hsg⟩, hM5, hcb, htm, htx, hr, hask, hfnd, hkc, hkept⟩ := id inv
  refine lv_aload_n zx zb dL_law_438 rfl (lv_at hl 1 rfl) ?_
  refine LX_cost  C hl.1 (Nat.le_of_ble_eq_true rfl) (by omega) (by omega) h  (fun u H locs hu h => ?_)
  show W pg l evn room_1 sT mI ar bl mtd cd H locs cells slots qQ (F0 mI 442 ls [.long (lI lc)])
  refine lv_aload_n zx zb dL_law_442 rfl (lv_at hl 2 rfl) ?_
  refine LM_cost   C hl.1 (Nat.le_of_ble_eq_true rfl) (by omega) (by omega) h (fun v H locs hv h => ?_)
  show W pg l evn room_1 sT mI ar bl mtd cd H locs cells slots qQ (F0 mI 446 ls [.long (lI lc), .long (lI lc)])
  refine s_lcmp C dL_law_446 dL_law_447 (tgt := 667) (by decide) ?_
  exact kN qa qd sg kc mk cb lc tm an gn B Cn n Vv U Dn tx J rm r aw A F F2 kk kq Kf ak ct who 0 zfa zte zta zlv zgo gz gg FI RO RW RK AQ KS KT KO EV DU SA NO OR AN FR SE GF GS IS rq rr H locs ls cells slots (by omega) (by omega) ⟨hI, hR, ⟨by omega, by omega, by omega⟩, hM5, hcb, ⟨htm.1, by omega⟩, htx, hr, hask, hfnd, hkc, hkept⟩ h hl

set_option maxHeartbeats 4000000 in
set_option maxRecDepth 100000 in
theorem case_bound {pg : Program} {l : Launch} {evn : Env} {sT : State} {mI : MethodId} {bl : List Frame} {mtd : Method} {cd : Code} {H H0 : Heap} {locs : List Loc} {cells slots : Nat} {qQ : State → Prop} {ls : Array Slot} {D : va_G} {g : Nat → ClassId} {Aa : Nat → Prop} {ar : Array Value} {b0 L i : Nat} {xs : Nat → Int32} {x j ta ka : Nat} {ra ga da fa pa gr r1 r2 r3 a : Nat → Nat} {qa : Nat → Nat} {qd : Nat → Nat} {sg : Nat} {kc : Nat} {mk : Nat → Bool} {cb : Int} {lc : Int} {tm : Int} {an : Bool} {gn : Nat} {B : Nat → Nat → Nat → Bool} {Cn : Nat → Int} {n : Nat} {Vv : Nat → Nat → Int} {U : Nat → Nat → Int} {Dn : Nat → Nat → Int} {tx : Nat → Int} {J : JS4} {rm : Nat → Bool} {r : RS} {aw : Nat} {A : QC} {F : FS} {F2 : FS} {kk : Nat → Nat} {kq : Nat → Nat → Nat} {Kf : Nat → KD} {ak : Nat} {ct : Nat} {who : Int} {th : Int} {zfa : Int} {zte : Int} {zta : Int} {zlv : Int} {zgo : Int} {gz : Bool} {gg : Bool} {FI : Nat → Int} {RO : Nat → Int} {RW : Nat → Int} {RK : Nat → Int} {AQ : Nat → Int} {KS : Nat → Int} {KT : Nat → Int} {KO : Nat → Int} {EV : Nat → Int} {DU : Nat → Int} {SA : Nat → Int} {NO : Nat → Int} {OR : Nat → Bool} {AN : Nat → Bool} {FR : Nat → Int} {SE : Nat → Int} {GF : Nat → Int} {GS : Nat → Int} {IS : Nat → Bool} {rq : RS} {rr : Nat → RS} (C : Cx pg mI cd cL_law 4 sT ar RL) (hX : va_X b0 L xs sT H0) (hbl : b0 < H0.size) (hbA : ¬ Aa b0) (hi : 7 * i + 7 ≤ L) (hL : L ≤ 448) (hcl : cells ≤ 400000) (hsl : slots ≤ 6000000) (inv : LInv i sg kc mk cb tm an gn B Cn n Vv U Dn tx r A F Kf ak ct who gz FI RO RW RK AQ KS KT KO EV DU SA FR SE rq rr) (h : Hx D g sT Aa H0 (wXA g x j ta ka ra ga da fa pa gr r1 r2 r3 qa qd sg kc mk cb lc tm an gn B Cn n Vv U Dn tx J rm r aw A F F2 kk kq Kf ++ wMA g a th (n : Int) (gn : Int) cb tm lc (sg : Int) (ak : Int) who (kc : Int) zfa zte zta zlv (ct : Int) zgo an gz gg FI RO RW RK mk tx AQ KS KT KO EV DU SA NO OR AN FR SE GF GS IS) H locs) (hl : lv_has ls 4 [(0, .ref b0), (1, .ref x), (2, .ref (a 0)), (3, .int (iI (7 * (i : Int))))])
    (kN : ∀ (qa : Nat → Nat) (qd : Nat → Nat) (sg : Nat) (kc : Nat) (mk : Nat → Bool) (cb : Int) (lc : Int) (tm : Int) (an : Bool) (gn : Nat) (B : Nat → Nat → Nat → Bool) (Cn : Nat → Int) (n : Nat) (Vv : Nat → Nat → Int) (U : Nat → Nat → Int) (Dn : Nat → Nat → Int) (tx : Nat → Int) (J : JS4) (rm : Nat → Bool) (r : RS) (aw : Nat) (A : QC) (F : FS) (F2 : FS) (kk : Nat → Nat) (kq : Nat → Nat → Nat) (Kf : Nat → KD) (ak : Nat) (ct : Nat) (who : Int) (th : Int) (zfa : Int) (zte : Int) (zta : Int) (zlv : Int) (zgo : Int) (gz : Bool) (gg : Bool) (FI : Nat → Int) (RO : Nat → Int) (RW : Nat → Int) (RK : Nat → Int) (AQ : Nat → Int) (KS : Nat → Int) (KT : Nat → Int) (KO : Nat → Int) (EV : Nat → Int) (DU : Nat → Int) (SA : Nat → Int) (NO : Nat → Int) (OR : Nat → Bool) (AN : Nat → Bool) (FR : Nat → Int) (SE : Nat → Int) (GF : Nat → Int) (GS : Nat → Int) (IS : Nat → Bool) (rq : RS) (rr : Nat → RS) (H : Heap) (locs : List Loc) (ls : Array Slot) (cells2 slots2 : Nat), cells2 ≤ cells + 6 → slots2 ≤ slots + 334 → LInv (i + 1) sg kc mk cb tm an gn B Cn n Vv U Dn tx r A F Kf ak ct who gz FI RO RW RK AQ KS KT KO EV DU SA FR SE rq rr → Hx D g sT Aa H0 (wXA g x j ta ka ra ga da fa pa gr r1 r2 r3 qa qd sg kc mk cb lc tm an gn B Cn n Vv U Dn tx J rm r aw A F F2 kk kq Kf ++ wMA g a th (n : Int) (gn : Int) cb tm lc (sg : Int) (ak : Int) who (kc : Int) zfa zte zta zlv (ct : Int) zgo an gz gg FI RO RW RK mk tx AQ KS KT KO EV DU SA NO OR AN FR SE GF GS IS) H locs → lv_has ls 4 [(0, .ref b0), (1, .ref x), (2, .ref (a 0)), (3, .int (iI (7 * (i : Int))))] → W pg l evn room_1 sT mI ar bl mtd cd H locs cells2 slots2 qQ (F0 mI 667 ls [])) : W pg l evn room_1 sT mI ar bl mtd cd H locs cells slots qQ (F0 mI 452 ls []) := by
  have zx := C.1
  have zb := C.2.1
  obtain ⟨hI, hR, ⟨hn, hgn, hsg⟩, hM5, hcb, htm, htx, hr, hask, hfnd, hkc, hkept⟩ := id inv
  refine lv_aload_n zx zb dL_law_452 rfl (lv_at hl 1 rfl) ?_
  refine lv_aload_n zx zb dL_law_453 rfl (lv_at hl 0 rfl) ?_
  refine lv_iload_n zx zb dL_law_454 rfl (lv_at hl 3 rfl) ?_
  refine lv_iconst (v := iI (1)) zx zb dL_law_455 rfl ?_
  refine i_add C (a := 7 * (i : Int)) (b := 1) dL_law_456 ?_
  refine s_ld C hX hbl hbA h (7 * i + 1) (by omega) (by omega) hL dL_law_457 ?_
  refine lv_i2l zx zb dL_law_458 rfl ?_
  refine lv_bipush (v := iI (32)) zx zb dL_law_459 rfl ?_
  refine lv_lshl zx zb dL_law_461 rfl ?_
  refine lv_aload_n zx zb dL_law_462 rfl (lv_at hl 0 rfl) ?_
  refine lv_iload_n zx zb dL_law_463 rfl (lv_at hl 3 rfl) ?_
  refine lv_iconst (v := iI (2)) zx zb dL_law_464 rfl ?_
  refine i_add C (a := 7 * (i : Int)) (b := 2) dL_law_465 ?_
  refine s_ld C hX hbl hbA h (7 * i + 2) (by omega) (by omega) hL dL_law_466 ?_
  refine lv_i2l zx zb dL_law_467 rfl ?_
  refine klL_13 C dL_law_468 ?_
  refine lv_land zx zb dL_law_471 ?_
  refine s_lor C dL_law_472 ?_
  refine LX_bound (lgz ((xs (7 * i + 1)).toInt) ((xs (7 * i + 2)).toInt)) C hl.1 (Nat.le_of_ble_eq_true rfl) (by omega) (by omega) h lgz_R (fun u H locs hu h => ?_)
  show W pg l evn room_1 sT mI ar bl mtd cd H locs cells slots qQ (F0 mI 476 ls [.int (iI u.1)])
  refine lv_aload_n zx zb dL_law_476 rfl (lv_at hl 2 rfl) ?_
  refine lv_aload_n zx zb dL_law_477 rfl (lv_at hl 0 rfl) ?_
  refine lv_iload_n zx zb dL_law_478 rfl (lv_at hl 3 rfl) ?_
  refine lv_iconst (v := iI (1)) zx zb dL_law_479 rfl ?_
  refine i_add C (a := 7 * (i : Int)) (b := 1) dL_law_480 ?_
  refine s_ld C hX hbl hbA h (7 * i + 1) (by omega) (by omega) hL dL_law_481 ?_
  refine lv_i2l zx zb dL_law_482 rfl ?_
  refine lv_bipush (v := iI (32)) zx zb dL_law_483 rfl ?_
  refine lv_lshl zx zb dL_law_485 rfl ?_
  refine lv_aload_n zx zb dL_law_486 rfl (lv_at hl 0 rfl) ?_
  refine lv_iload_n zx zb dL_law_487 rfl (lv_at hl 3 rfl) ?_
  refine lv_iconst (v := iI (2)) zx zb dL_law_488 rfl ?_
  refine i_add C (a := 7 * (i : Int)) (b := 2) dL_law_489 ?_
  refine s_ld C hX hbl hbA h (7 * i + 2) (by omega) (by omega) hL dL_law_490 ?_
  refine lv_i2l zx zb dL_law_491 rfl ?_
  refine klL_13 C dL_law_492 ?_
  refine lv_land zx zb dL_law_495 ?_
  refine s_lor C dL_law_496 ?_
  refine LM_bound (lgz ((xs (7 * i + 1)).toInt) ((xs (7 * i + 2)).toInt)) lgz_R C hl.1 (Nat.le_of_ble_eq_true rfl) (by omega) (by omega) h (fun v H locs hv h => ?_)
  show W pg l evn room_1 sT mI ar bl mtd cd H locs cells slots qQ (F0 mI 500 ls [.int (iI v.1), .int (iI u.1)])
  subst hu
  subst hv
  refine s_icmp C dL_law_500 (tgt := 667) (by decide) ?_
  exact kN qa qd sg kc mk ((boundX cb (lgz ((xs (7 * i + 1)).toInt) ((xs (7 * i + 2)).toInt))).2) lc tm an gn B Cn n Vv U Dn tx J rm r aw A F F2 kk kq Kf ak ct who 0 zfa zte zta zlv zgo gz gg FI RO RW RK AQ KS KT KO EV DU SA NO OR AN FR SE GF GS IS rq rr H locs ls cells slots (by omega) (by omega) ⟨hI, hR, ⟨by omega, by omega, by omega⟩, hM5, bound_step hcb, ⟨htm.1, by omega⟩, htx, hr, hask, hfnd, hkc, hkept⟩ h hl

set_option maxHeartbeats 4000000 in
set_option maxRecDepth 100000 in
theorem case_save {pg : Program} {l : Launch} {evn : Env} {sT : State} {mI : MethodId} {bl : List Frame} {mtd : Method} {cd : Code} {H H0 : Heap} {locs : List Loc} {cells slots : Nat} {qQ : State → Prop} {ls : Array Slot} {D : va_G} {g : Nat → ClassId} {Aa : Nat → Prop} {ar : Array Value} {b0 L i : Nat} {xs : Nat → Int32} {x j ta ka : Nat} {ra ga da fa pa gr r1 r2 r3 a : Nat → Nat} {qa : Nat → Nat} {qd : Nat → Nat} {sg : Nat} {kc : Nat} {mk : Nat → Bool} {cb : Int} {lc : Int} {tm : Int} {an : Bool} {gn : Nat} {B : Nat → Nat → Nat → Bool} {Cn : Nat → Int} {n : Nat} {Vv : Nat → Nat → Int} {U : Nat → Nat → Int} {Dn : Nat → Nat → Int} {tx : Nat → Int} {J : JS4} {rm : Nat → Bool} {r : RS} {aw : Nat} {A : QC} {F : FS} {F2 : FS} {kk : Nat → Nat} {kq : Nat → Nat → Nat} {Kf : Nat → KD} {ak : Nat} {ct : Nat} {who : Int} {th : Int} {zfa : Int} {zte : Int} {zta : Int} {zlv : Int} {zgo : Int} {gz : Bool} {gg : Bool} {FI : Nat → Int} {RO : Nat → Int} {RW : Nat → Int} {RK : Nat → Int} {AQ : Nat → Int} {KS : Nat → Int} {KT : Nat → Int} {KO : Nat → Int} {EV : Nat → Int} {DU : Nat → Int} {SA : Nat → Int} {NO : Nat → Int} {OR : Nat → Bool} {AN : Nat → Bool} {FR : Nat → Int} {SE : Nat → Int} {GF : Nat → Int} {GS : Nat → Int} {IS : Nat → Bool} {rq : RS} {rr : Nat → RS} (C : Cx pg mI cd cL_law 4 sT ar RL) (hX : va_X b0 L xs sT H0) (hbl : b0 < H0.size) (hbA : ¬ Aa b0) (hi : 7 * i + 7 ≤ L) (hL : L ≤ 448) (hcl : cells ≤ 400000) (hsl : slots ≤ 6000000) (inv : LInv i sg kc mk cb tm an gn B Cn n Vv U Dn tx r A F Kf ak ct who gz FI RO RW RK AQ KS KT KO EV DU SA FR SE rq rr) (h : Hx D g sT Aa H0 (wXA g x j ta ka ra ga da fa pa gr r1 r2 r3 qa qd sg kc mk cb lc tm an gn B Cn n Vv U Dn tx J rm r aw A F F2 kk kq Kf ++ wMA g a th (n : Int) (gn : Int) cb tm lc (sg : Int) (ak : Int) who (kc : Int) zfa zte zta zlv (ct : Int) zgo an gz gg FI RO RW RK mk tx AQ KS KT KO EV DU SA NO OR AN FR SE GF GS IS) H locs) (hl : lv_has ls 4 [(0, .ref b0), (1, .ref x), (2, .ref (a 0)), (3, .int (iI (7 * (i : Int))))])
    (kN : ∀ (qa : Nat → Nat) (qd : Nat → Nat) (sg : Nat) (kc : Nat) (mk : Nat → Bool) (cb : Int) (lc : Int) (tm : Int) (an : Bool) (gn : Nat) (B : Nat → Nat → Nat → Bool) (Cn : Nat → Int) (n : Nat) (Vv : Nat → Nat → Int) (U : Nat → Nat → Int) (Dn : Nat → Nat → Int) (tx : Nat → Int) (J : JS4) (rm : Nat → Bool) (r : RS) (aw : Nat) (A : QC) (F : FS) (F2 : FS) (kk : Nat → Nat) (kq : Nat → Nat → Nat) (Kf : Nat → KD) (ak : Nat) (ct : Nat) (who : Int) (th : Int) (zfa : Int) (zte : Int) (zta : Int) (zlv : Int) (zgo : Int) (gz : Bool) (gg : Bool) (FI : Nat → Int) (RO : Nat → Int) (RW : Nat → Int) (RK : Nat → Int) (AQ : Nat → Int) (KS : Nat → Int) (KT : Nat → Int) (KO : Nat → Int) (EV : Nat → Int) (DU : Nat → Int) (SA : Nat → Int) (NO : Nat → Int) (OR : Nat → Bool) (AN : Nat → Bool) (FR : Nat → Int) (SE : Nat → Int) (GF : Nat → Int) (GS : Nat → Int) (IS : Nat → Bool) (rq : RS) (rr : Nat → RS) (H : Heap) (locs : List Loc) (ls : Array Slot) (cells2 slots2 : Nat), cells2 ≤ cells + 6 → slots2 ≤ slots + 334 → LInv (i + 1) sg kc mk cb tm an gn B Cn n Vv U Dn tx r A F Kf ak ct who gz FI RO RW RK AQ KS KT KO EV DU SA FR SE rq rr → Hx D g sT Aa H0 (wXA g x j ta ka ra ga da fa pa gr r1 r2 r3 qa qd sg kc mk cb lc tm an gn B Cn n Vv U Dn tx J rm r aw A F F2 kk kq Kf ++ wMA g a th (n : Int) (gn : Int) cb tm lc (sg : Int) (ak : Int) who (kc : Int) zfa zte zta zlv (ct : Int) zgo an gz gg FI RO RW RK mk tx AQ KS KT KO EV DU SA NO OR AN FR SE GF GS IS) H locs → lv_has ls 4 [(0, .ref b0), (1, .ref x), (2, .ref (a 0)), (3, .int (iI (7 * (i : Int))))] → W pg l evn room_1 sT mI ar bl mtd cd H locs cells2 slots2 qQ (F0 mI 667 ls [])) : W pg l evn room_1 sT mI ar bl mtd cd H locs cells slots qQ (F0 mI 505 ls []) := by
  have zx := C.1
  have zb := C.2.1
  obtain ⟨hI, hR, ⟨hn, hgn, hsg⟩, hM5, hcb, htm, htx, hr, hask, hfnd, hkc, hkept⟩ := id inv
  refine lv_aload_n zx zb dL_law_505 rfl (lv_at hl 1 rfl) ?_
  refine lv_aload_n zx zb dL_law_506 rfl (lv_at hl 0 rfl) ?_
  refine lv_iload_n zx zb dL_law_507 rfl (lv_at hl 3 rfl) ?_
  refine lv_iconst (v := iI (1)) zx zb dL_law_508 rfl ?_
  refine i_add C (a := 7 * (i : Int)) (b := 1) dL_law_509 ?_
  refine s_ld C hX hbl hbA h (7 * i + 1) (by omega) (by omega) hL dL_law_510 ?_
  refine lv_aload_n zx zb dL_law_511 rfl (lv_at hl 0 rfl) ?_
  refine lv_iload_n zx zb dL_law_512 rfl (lv_at hl 3 rfl) ?_
  refine lv_iconst (v := iI (2)) zx zb dL_law_513 rfl ?_
  refine i_add C (a := 7 * (i : Int)) (b := 2) dL_law_514 ?_
  refine s_ld C hX hbl hbA h (7 * i + 2) (by omega) (by omega) hL dL_law_515 ?_
  refine lv_i2l zx zb dL_law_516 rfl ?_
  refine lv_bipush (v := iI (32)) zx zb dL_law_517 rfl ?_
  refine lv_lshl zx zb dL_law_519 rfl ?_
  refine lv_aload_n zx zb dL_law_520 rfl (lv_at hl 0 rfl) ?_
  refine lv_iload_n zx zb dL_law_521 rfl (lv_at hl 3 rfl) ?_
  refine lv_iconst (v := iI (3)) zx zb dL_law_522 rfl ?_
  refine i_add C (a := 7 * (i : Int)) (b := 3) dL_law_523 ?_
  refine s_ld C hX hbl hbA h (7 * i + 3) (by omega) (by omega) hL dL_law_524 ?_
  refine lv_i2l zx zb dL_law_525 rfl ?_
  refine klL_13 C dL_law_526 ?_
  refine lv_land zx zb dL_law_529 ?_
  refine s_lor C dL_law_530 ?_
  refine LX_save ((xs (7 * i + 1)).toInt) (lgz ((xs (7 * i + 2)).toInt) ((xs (7 * i + 3)).toInt)) C hl.1 (Nat.le_of_ble_eq_true rfl) (by omega) (by omega) h (R32_of _) lgz_R ⟨htm.1, by omega⟩ hkc (by omega) htx (txt_ok (by omega) hr) (fun u H locs hu h => ?_)
  show W pg l evn room_1 sT mI ar bl mtd cd H locs (cells + 6) (slots + 334) qQ (F0 mI 534 ls [.int (iI u.1)])
  refine lv_aload_n zx zb dL_law_534 rfl (lv_at hl 2 rfl) ?_
  refine lv_aload_n zx zb dL_law_535 rfl (lv_at hl 0 rfl) ?_
  refine lv_iload_n zx zb dL_law_536 rfl (lv_at hl 3 rfl) ?_
  refine lv_iconst (v := iI (1)) zx zb dL_law_537 rfl ?_
  refine i_add C (a := 7 * (i : Int)) (b := 1) dL_law_538 ?_
  refine s_ld C hX hbl hbA h (7 * i + 1) (by omega) (by omega) hL dL_law_539 ?_
  refine lv_aload_n zx zb dL_law_540 rfl (lv_at hl 0 rfl) ?_
  refine lv_iload_n zx zb dL_law_541 rfl (lv_at hl 3 rfl) ?_
  refine lv_iconst (v := iI (2)) zx zb dL_law_542 rfl ?_
  refine i_add C (a := 7 * (i : Int)) (b := 2) dL_law_543 ?_
  refine s_ld C hX hbl hbA h (7 * i + 2) (by omega) (by omega) hL dL_law_544 ?_
  refine lv_i2l zx zb dL_law_545 rfl ?_
  refine lv_bipush (v := iI (32)) zx zb dL_law_546 rfl ?_
  refine lv_lshl zx zb dL_law_548 rfl ?_
  refine lv_aload_n zx zb dL_law_549 rfl (lv_at hl 0 rfl) ?_
  refine lv_iload_n zx zb dL_law_550 rfl (lv_at hl 3 rfl) ?_
  refine lv_iconst (v := iI (3)) zx zb dL_law_551 rfl ?_
  refine i_add C (a := 7 * (i : Int)) (b := 3) dL_law_552 ?_
  refine s_ld C hX hbl hbA h (7 * i + 3) (by omega) (by omega) hL dL_law_553 ?_
  refine lv_i2l zx zb dL_law_554 rfl ?_
  refine klL_13 C dL_law_555 ?_
  refine lv_land zx zb dL_law_558 ?_
  refine s_lor C dL_law_559 ?_
  refine LM_save ((xs (7 * i + 1)).toInt) (lgz ((xs (7 * i + 2)).toInt) ((xs (7 * i + 3)).toInt)) r (R32_of _) lgz_R hkc (by omega) htx C hl.1 (Nat.le_of_ble_eq_true rfl) (by omega) (by omega) h (fun v H locs hv h => ?_)
  show W pg l evn room_1 sT mI ar bl mtd cd H locs (cells + 6) (slots + 334) qQ (F0 mI 563 ls [.int (iI v.1), .int (iI u.1)])
  obtain ⟨e1, e2, e3, e4, e5, e6, rr2, e7⟩ := save_step (by omega) hkc hr ⟨htm.1, by omega⟩ htx hkept hu hv
  rw [e1]
  rw [e2, e4] at h
  refine s_icmp C dL_law_563 (tgt := 667) (by decide) ?_
  exact kN qa u.2.2.2.1 u.2.1 u.2.2.1 mk cb lc tm an gn B Cn n Vv U Dn tx J u.2.2.2.2.1 u.2.2.2.2.2.1 u.2.2.2.2.2.2.1 A F F2 u.2.2.2.2.2.2.2.1 u.2.2.2.2.2.2.2.2.1 u.2.2.2.2.2.2.2.2.2 ak ct who 0 v.2.2.1 v.2.2.2.1 v.2.2.2.2.1 v.2.2.2.2.2.1 zgo gz gg FI RO RW RK AQ v.2.1.2.2.2.1 v.2.1.2.2.1 v.2.1.2.2.2.2.1 v.2.1.2.2.2.2.2.1 v.2.1.2.2.2.2.2.2.1 v.2.1.2.2.2.2.2.2.2 v.2.2.2.2.2.2 OR AN FR SE GF GS IS rq rr2 H locs ls (cells + 6) (slots + 334) (by omega) (by omega) ⟨hI, hR, ⟨by omega, by omega, by omega⟩, hM5, hcb, ⟨htm.1, by omega⟩, (fun k hk => htx k (by omega)), e6, hask, hfnd, e5.2.2, e7⟩ h hl

set_option maxHeartbeats 4000000 in
set_option maxRecDepth 100000 in
theorem case_tick {pg : Program} {l : Launch} {evn : Env} {sT : State} {mI : MethodId} {bl : List Frame} {mtd : Method} {cd : Code} {H H0 : Heap} {locs : List Loc} {cells slots : Nat} {qQ : State → Prop} {ls : Array Slot} {D : va_G} {g : Nat → ClassId} {Aa : Nat → Prop} {ar : Array Value} {b0 L i : Nat} {xs : Nat → Int32} {x j ta ka : Nat} {ra ga da fa pa gr r1 r2 r3 a : Nat → Nat} {qa : Nat → Nat} {qd : Nat → Nat} {sg : Nat} {kc : Nat} {mk : Nat → Bool} {cb : Int} {lc : Int} {tm : Int} {an : Bool} {gn : Nat} {B : Nat → Nat → Nat → Bool} {Cn : Nat → Int} {n : Nat} {Vv : Nat → Nat → Int} {U : Nat → Nat → Int} {Dn : Nat → Nat → Int} {tx : Nat → Int} {J : JS4} {rm : Nat → Bool} {r : RS} {aw : Nat} {A : QC} {F : FS} {F2 : FS} {kk : Nat → Nat} {kq : Nat → Nat → Nat} {Kf : Nat → KD} {ak : Nat} {ct : Nat} {who : Int} {th : Int} {zfa : Int} {zte : Int} {zta : Int} {zlv : Int} {zgo : Int} {gz : Bool} {gg : Bool} {FI : Nat → Int} {RO : Nat → Int} {RW : Nat → Int} {RK : Nat → Int} {AQ : Nat → Int} {KS : Nat → Int} {KT : Nat → Int} {KO : Nat → Int} {EV : Nat → Int} {DU : Nat → Int} {SA : Nat → Int} {NO : Nat → Int} {OR : Nat → Bool} {AN : Nat → Bool} {FR : Nat → Int} {SE : Nat → Int} {GF : Nat → Int} {GS : Nat → Int} {IS : Nat → Bool} {rq : RS} {rr : Nat → RS} (C : Cx pg mI cd cL_law 4 sT ar RL) (hX : va_X b0 L xs sT H0) (hbl : b0 < H0.size) (hbA : ¬ Aa b0) (hi : 7 * i + 7 ≤ L) (hL : L ≤ 448) (hcl : cells ≤ 400000) (hsl : slots ≤ 6000000) (inv : LInv i sg kc mk cb tm an gn B Cn n Vv U Dn tx r A F Kf ak ct who gz FI RO RW RK AQ KS KT KO EV DU SA FR SE rq rr) (h : Hx D g sT Aa H0 (wXA g x j ta ka ra ga da fa pa gr r1 r2 r3 qa qd sg kc mk cb lc tm an gn B Cn n Vv U Dn tx J rm r aw A F F2 kk kq Kf ++ wMA g a th (n : Int) (gn : Int) cb tm lc (sg : Int) (ak : Int) who (kc : Int) zfa zte zta zlv (ct : Int) zgo an gz gg FI RO RW RK mk tx AQ KS KT KO EV DU SA NO OR AN FR SE GF GS IS) H locs) (hl : lv_has ls 4 [(0, .ref b0), (1, .ref x), (2, .ref (a 0)), (3, .int (iI (7 * (i : Int))))])
    (kN : ∀ (qa : Nat → Nat) (qd : Nat → Nat) (sg : Nat) (kc : Nat) (mk : Nat → Bool) (cb : Int) (lc : Int) (tm : Int) (an : Bool) (gn : Nat) (B : Nat → Nat → Nat → Bool) (Cn : Nat → Int) (n : Nat) (Vv : Nat → Nat → Int) (U : Nat → Nat → Int) (Dn : Nat → Nat → Int) (tx : Nat → Int) (J : JS4) (rm : Nat → Bool) (r : RS) (aw : Nat) (A : QC) (F : FS) (F2 : FS) (kk : Nat → Nat) (kq : Nat → Nat → Nat) (Kf : Nat → KD) (ak : Nat) (ct : Nat) (who : Int) (th : Int) (zfa : Int) (zte : Int) (zta : Int) (zlv : Int) (zgo : Int) (gz : Bool) (gg : Bool) (FI : Nat → Int) (RO : Nat → Int) (RW : Nat → Int) (RK : Nat → Int) (AQ : Nat → Int) (KS : Nat → Int) (KT : Nat → Int) (KO : Nat → Int) (EV : Nat → Int) (DU : Nat → Int) (SA : Nat → Int) (NO : Nat → Int) (OR : Nat → Bool) (AN : Nat → Bool) (FR : Nat → Int) (SE : Nat → Int) (GF : Nat → Int) (GS : Nat → Int) (IS : Nat → Bool) (rq : RS) (rr : Nat → RS) (H : Heap) (locs : List Loc) (ls : Array Slot) (cells2 slots2 : Nat), cells2 ≤ cells + 6 → slots2 ≤ slots + 334 → LInv (i + 1) sg kc mk cb tm an gn B Cn n Vv U Dn tx r A F Kf ak ct who gz FI RO RW RK AQ KS KT KO EV DU SA FR SE rq rr → Hx D g sT Aa H0 (wXA g x j ta ka ra ga da fa pa gr r1 r2 r3 qa qd sg kc mk cb lc tm an gn B Cn n Vv U Dn tx J rm r aw A F F2 kk kq Kf ++ wMA g a th (n : Int) (gn : Int) cb tm lc (sg : Int) (ak : Int) who (kc : Int) zfa zte zta zlv (ct : Int) zgo an gz gg FI RO RW RK mk tx AQ KS KT KO EV DU SA NO OR AN FR SE GF GS IS) H locs → lv_has ls 4 [(0, .ref b0), (1, .ref x), (2, .ref (a 0)), (3, .int (iI (7 * (i : Int))))] → W pg l evn room_1 sT mI ar bl mtd cd H locs cells2 slots2 qQ (F0 mI 667 ls [])) : W pg l evn room_1 sT mI ar bl mtd cd H locs cells slots qQ (F0 mI 568 ls []) := by
  have zx := C.1
  have zb := C.2.1
  obtain ⟨hI, hR, ⟨hn, hgn, hsg⟩, hM5, hcb, htm, htx, hr, hask, hfnd, hkc, hkept⟩ := id inv
  refine lv_aload_n zx zb dL_law_568 rfl (lv_at hl 1 rfl) ?_
  refine lv_aload_n zx zb dL_law_569 rfl (lv_at hl 0 rfl) ?_
  refine lv_iload_n zx zb dL_law_570 rfl (lv_at hl 3 rfl) ?_
  refine lv_iconst (v := iI (1)) zx zb dL_law_571 rfl ?_
  refine i_add C (a := 7 * (i : Int)) (b := 1) dL_law_572 ?_
  refine s_ld C hX hbl hbA h (7 * i + 1) (by omega) (by omega) hL dL_law_573 ?_
  refine lv_i2l zx zb dL_law_574 rfl ?_
  refine lv_bipush (v := iI (32)) zx zb dL_law_575 rfl ?_
  refine lv_lshl zx zb dL_law_577 rfl ?_
  refine lv_aload_n zx zb dL_law_578 rfl (lv_at hl 0 rfl) ?_
  refine lv_iload_n zx zb dL_law_579 rfl (lv_at hl 3 rfl) ?_
  refine lv_iconst (v := iI (2)) zx zb dL_law_580 rfl ?_
  refine i_add C (a := 7 * (i : Int)) (b := 2) dL_law_581 ?_
  refine s_ld C hX hbl hbA h (7 * i + 2) (by omega) (by omega) hL dL_law_582 ?_
  refine lv_i2l zx zb dL_law_583 rfl ?_
  refine klL_13 C dL_law_584 ?_
  refine lv_land zx zb dL_law_587 ?_
  refine s_lor C dL_law_588 ?_
  refine LX_tick (lgz ((xs (7 * i + 1)).toInt) ((xs (7 * i + 2)).toInt)) C hl.1 (Nat.le_of_ble_eq_true rfl) (by omega) (by omega) h (fun k hk => (hkept k hk).2.2.2.2.2.2.2.2) hkc lgz_R ⟨htm.1, by omega⟩ hcb (by omega) hI.1 (rowI_o hI) (fun u H locs hu h => ?_)
  show W pg l evn room_1 sT mI ar bl mtd cd H locs cells slots qQ (F0 mI 592 ls [.int (iI u.1)])
  refine lv_aload_n zx zb dL_law_592 rfl (lv_at hl 2 rfl) ?_
  refine lv_aload_n zx zb dL_law_593 rfl (lv_at hl 0 rfl) ?_
  refine lv_iload_n zx zb dL_law_594 rfl (lv_at hl 3 rfl) ?_
  refine lv_iconst (v := iI (1)) zx zb dL_law_595 rfl ?_
  refine i_add C (a := 7 * (i : Int)) (b := 1) dL_law_596 ?_
  refine s_ld C hX hbl hbA h (7 * i + 1) (by omega) (by omega) hL dL_law_597 ?_
  refine lv_i2l zx zb dL_law_598 rfl ?_
  refine lv_bipush (v := iI (32)) zx zb dL_law_599 rfl ?_
  refine lv_lshl zx zb dL_law_601 rfl ?_
  refine lv_aload_n zx zb dL_law_602 rfl (lv_at hl 0 rfl) ?_
  refine lv_iload_n zx zb dL_law_603 rfl (lv_at hl 3 rfl) ?_
  refine lv_iconst (v := iI (2)) zx zb dL_law_604 rfl ?_
  refine i_add C (a := 7 * (i : Int)) (b := 2) dL_law_605 ?_
  refine s_ld C hX hbl hbA h (7 * i + 2) (by omega) (by omega) hL dL_law_606 ?_
  refine lv_i2l zx zb dL_law_607 rfl ?_
  refine klL_13 C dL_law_608 ?_
  refine lv_land zx zb dL_law_611 ?_
  refine s_lor C dL_law_612 ?_
  refine LM_tick (lgz ((xs (7 * i + 1)).toInt) ((xs (7 * i + 2)).toInt)) rr lgz_R ⟨htm.1, by omega⟩ hkc (by omega) hcb (fun k hk => by obtain ⟨a1, a2, a3, a4, a5, a6, a7, a8, a9⟩ := hkept k hk; exact ⟨by rw [a6]; exact a9.2.1, by rw [a7]; have := a9.2.2; omega, a1, by constructor <;> omega, a2, a4⟩) (by omega) (rgtI_R hR) hI.2.2.2 C hl.1 (Nat.le_of_ble_eq_true rfl) (by omega) (by omega) h (fun v H locs hv h => ?_)
  show W pg l evn room_1 sT mI ar bl mtd cd H locs cells slots qQ (F0 mI 616 ls [.int (iI v.1), .int (iI u.1)])
  obtain ⟨e1, e2, e3, e4⟩ := tick_step hI hR ⟨htm.1, by omega⟩ hkept hu hv
  have e1 : v.1 = u.1 := e1
  have e2 : v.2.1.1 = u.2.1 := e2
  rw [e1]
  rw [e2] at h e3 e4
  refine s_icmp C dL_law_616 (tgt := 667) (by decide) ?_
  exact kN qa qd sg kc mk cb lc u.2.1 an gn B Cn n Vv U Dn tx u.2.2.2.1 rm r aw A F u.2.2.2.2 kk kq u.2.2.1 ak ct who 0 v.2.2.1 v.2.2.2.1 v.2.2.2.2.1 v.2.2.2.2.2.1 v.2.2.2.2.2.2.1 gz v.2.2.2.2.2.2.2.1 FI RO RW RK AQ KS KT KO EV v.2.1.2.1 v.2.1.2.2 v.2.2.2.2.2.2.2.2.1 v.2.2.2.2.2.2.2.2.2.1 v.2.2.2.2.2.2.2.2.2.2.1 FR SE v.2.2.2.2.2.2.2.2.2.2.2.2.1 v.2.2.2.2.2.2.2.2.2.2.2.2.2 v.2.2.2.2.2.2.2.2.2.2.2.1 rq rr H locs ls cells slots (by omega) (by omega) ⟨hI, hR, ⟨by omega, by omega, by omega⟩, hM5, hcb, ⟨by omega, by omega⟩, htx, hr, hask, hfnd, hkc, e4⟩ h hl

set_option maxHeartbeats 4000000 in
set_option maxRecDepth 100000 in
theorem case_saved {pg : Program} {l : Launch} {evn : Env} {sT : State} {mI : MethodId} {bl : List Frame} {mtd : Method} {cd : Code} {H H0 : Heap} {locs : List Loc} {cells slots : Nat} {qQ : State → Prop} {ls : Array Slot} {D : va_G} {g : Nat → ClassId} {Aa : Nat → Prop} {ar : Array Value} {b0 L i : Nat} {xs : Nat → Int32} {x j ta ka : Nat} {ra ga da fa pa gr r1 r2 r3 a : Nat → Nat} {qa : Nat → Nat} {qd : Nat → Nat} {sg : Nat} {kc : Nat} {mk : Nat → Bool} {cb : Int} {lc : Int} {tm : Int} {an : Bool} {gn : Nat} {B : Nat → Nat → Nat → Bool} {Cn : Nat → Int} {n : Nat} {Vv : Nat → Nat → Int} {U : Nat → Nat → Int} {Dn : Nat → Nat → Int} {tx : Nat → Int} {J : JS4} {rm : Nat → Bool} {r : RS} {aw : Nat} {A : QC} {F : FS} {F2 : FS} {kk : Nat → Nat} {kq : Nat → Nat → Nat} {Kf : Nat → KD} {ak : Nat} {ct : Nat} {who : Int} {th : Int} {zfa : Int} {zte : Int} {zta : Int} {zlv : Int} {zgo : Int} {gz : Bool} {gg : Bool} {FI : Nat → Int} {RO : Nat → Int} {RW : Nat → Int} {RK : Nat → Int} {AQ : Nat → Int} {KS : Nat → Int} {KT : Nat → Int} {KO : Nat → Int} {EV : Nat → Int} {DU : Nat → Int} {SA : Nat → Int} {NO : Nat → Int} {OR : Nat → Bool} {AN : Nat → Bool} {FR : Nat → Int} {SE : Nat → Int} {GF : Nat → Int} {GS : Nat → Int} {IS : Nat → Bool} {rq : RS} {rr : Nat → RS} (C : Cx pg mI cd cL_law 4 sT ar RL) (hX : va_X b0 L xs sT H0) (hbl : b0 < H0.size) (hbA : ¬ Aa b0) (hi : 7 * i + 7 ≤ L) (hL : L ≤ 448) (hcl : cells ≤ 400000) (hsl : slots ≤ 6000000) (inv : LInv i sg kc mk cb tm an gn B Cn n Vv U Dn tx r A F Kf ak ct who gz FI RO RW RK AQ KS KT KO EV DU SA FR SE rq rr) (h : Hx D g sT Aa H0 (wXA g x j ta ka ra ga da fa pa gr r1 r2 r3 qa qd sg kc mk cb lc tm an gn B Cn n Vv U Dn tx J rm r aw A F F2 kk kq Kf ++ wMA g a th (n : Int) (gn : Int) cb tm lc (sg : Int) (ak : Int) who (kc : Int) zfa zte zta zlv (ct : Int) zgo an gz gg FI RO RW RK mk tx AQ KS KT KO EV DU SA NO OR AN FR SE GF GS IS) H locs) (hl : lv_has ls 4 [(0, .ref b0), (1, .ref x), (2, .ref (a 0)), (3, .int (iI (7 * (i : Int))))])
    (kN : ∀ (qa : Nat → Nat) (qd : Nat → Nat) (sg : Nat) (kc : Nat) (mk : Nat → Bool) (cb : Int) (lc : Int) (tm : Int) (an : Bool) (gn : Nat) (B : Nat → Nat → Nat → Bool) (Cn : Nat → Int) (n : Nat) (Vv : Nat → Nat → Int) (U : Nat → Nat → Int) (Dn : Nat → Nat → Int) (tx : Nat → Int) (J : JS4) (rm : Nat → Bool) (r : RS) (aw : Nat) (A : QC) (F : FS) (F2 : FS) (kk : Nat → Nat) (kq : Nat → Nat → Nat) (Kf : Nat → KD) (ak : Nat) (ct : Nat) (who : Int) (th : Int) (zfa : Int) (zte : Int) (zta : Int) (zlv : Int) (zgo : Int) (gz : Bool) (gg : Bool) (FI : Nat → Int) (RO : Nat → Int) (RW : Nat → Int) (RK : Nat → Int) (AQ : Nat → Int) (KS : Nat → Int) (KT : Nat → Int) (KO : Nat → Int) (EV : Nat → Int) (DU : Nat → Int) (SA : Nat → Int) (NO : Nat → Int) (OR : Nat → Bool) (AN : Nat → Bool) (FR : Nat → Int) (SE : Nat → Int) (GF : Nat → Int) (GS : Nat → Int) (IS : Nat → Bool) (rq : RS) (rr : Nat → RS) (H : Heap) (locs : List Loc) (ls : Array Slot) (cells2 slots2 : Nat), cells2 ≤ cells + 6 → slots2 ≤ slots + 334 → LInv (i + 1) sg kc mk cb tm an gn B Cn n Vv U Dn tx r A F Kf ak ct who gz FI RO RW RK AQ KS KT KO EV DU SA FR SE rq rr → Hx D g sT Aa H0 (wXA g x j ta ka ra ga da fa pa gr r1 r2 r3 qa qd sg kc mk cb lc tm an gn B Cn n Vv U Dn tx J rm r aw A F F2 kk kq Kf ++ wMA g a th (n : Int) (gn : Int) cb tm lc (sg : Int) (ak : Int) who (kc : Int) zfa zte zta zlv (ct : Int) zgo an gz gg FI RO RW RK mk tx AQ KS KT KO EV DU SA NO OR AN FR SE GF GS IS) H locs → lv_has ls 4 [(0, .ref b0), (1, .ref x), (2, .ref (a 0)), (3, .int (iI (7 * (i : Int))))] → W pg l evn room_1 sT mI ar bl mtd cd H locs cells2 slots2 qQ (F0 mI 667 ls [])) : W pg l evn room_1 sT mI ar bl mtd cd H locs cells slots qQ (F0 mI 621 ls []) := by
  have zx := C.1
  have zb := C.2.1
  obtain ⟨hI, hR, ⟨hn, hgn, hsg⟩, hM5, hcb, htm, htx, hr, hask, hfnd, hkc, hkept⟩ := id inv
  refine lv_aload_n zx zb dL_law_621 rfl (lv_at hl 1 rfl) ?_
  refine lv_aload_n zx zb dL_law_622 rfl (lv_at hl 0 rfl) ?_
  refine lv_iload_n zx zb dL_law_623 rfl (lv_at hl 3 rfl) ?_
  refine lv_iconst (v := iI (1)) zx zb dL_law_624 rfl ?_
  refine i_add C (a := 7 * (i : Int)) (b := 1) dL_law_625 ?_
  refine s_ld C hX hbl hbA h (7 * i + 1) (by omega) (by omega) hL dL_law_626 ?_
  refine LX_saved ((xs (7 * i + 1)).toInt) C hl.1 (Nat.le_of_ble_eq_true rfl) (by omega) (by omega) h (R32_of _) hkc (fun u H locs hu h => ?_)
  show W pg l evn room_1 sT mI ar bl mtd cd H locs cells slots qQ (F0 mI 630 ls [.int (iI u)])
  refine lv_aload_n zx zb dL_law_630 rfl (lv_at hl 2 rfl) ?_
  refine lv_aload_n zx zb dL_law_631 rfl (lv_at hl 0 rfl) ?_
  refine lv_iload_n zx zb dL_law_632 rfl (lv_at hl 3 rfl) ?_
  refine lv_iconst (v := iI (1)) zx zb dL_law_633 rfl ?_
  refine i_add C (a := 7 * (i : Int)) (b := 1) dL_law_634 ?_
  refine s_ld C hX hbl hbA h (7 * i + 1) (by omega) (by omega) hL dL_law_635 ?_
  refine LM_saved ((xs (7 * i + 1)).toInt) (R32_of _) hkc C hl.1 (Nat.le_of_ble_eq_true rfl) (by omega) (by omega) h (fun v H locs hv h => ?_)
  show W pg l evn room_1 sT mI ar bl mtd cd H locs cells slots qQ (F0 mI 639 ls [.int (iI (savM SA kc ((xs (7 * i + 1)).toInt))), .int (iI u)])
  have e1 : savM SA kc ((xs (7 * i + 1)).toInt) = u := by rw [hu]; exact saved_step hkept
  rw [e1]
  refine s_icmp C dL_law_639 (tgt := 667) (by decide) ?_
  exact kN qa qd sg kc mk cb lc tm an gn B Cn n Vv U Dn tx J rm r aw A F F2 kk kq Kf ak ct who 0 zfa zte zta zlv zgo gz gg FI RO RW RK AQ KS KT KO EV DU SA NO OR AN FR SE GF GS IS rq rr H locs ls cells slots (by omega) (by omega) ⟨hI, hR, ⟨by omega, by omega, by omega⟩, hM5, hcb, ⟨htm.1, by omega⟩, htx, hr, hask, hfnd, hkc, hkept⟩ h hl

set_option maxHeartbeats 4000000 in
set_option maxRecDepth 100000 in
theorem case_scan {pg : Program} {l : Launch} {evn : Env} {sT : State} {mI : MethodId} {bl : List Frame} {mtd : Method} {cd : Code} {H H0 : Heap} {locs : List Loc} {cells slots : Nat} {qQ : State → Prop} {ls : Array Slot} {D : va_G} {g : Nat → ClassId} {Aa : Nat → Prop} {ar : Array Value} {b0 L i : Nat} {xs : Nat → Int32} {x j ta ka : Nat} {ra ga da fa pa gr r1 r2 r3 a : Nat → Nat} {qa : Nat → Nat} {qd : Nat → Nat} {sg : Nat} {kc : Nat} {mk : Nat → Bool} {cb : Int} {lc : Int} {tm : Int} {an : Bool} {gn : Nat} {B : Nat → Nat → Nat → Bool} {Cn : Nat → Int} {n : Nat} {Vv : Nat → Nat → Int} {U : Nat → Nat → Int} {Dn : Nat → Nat → Int} {tx : Nat → Int} {J : JS4} {rm : Nat → Bool} {r : RS} {aw : Nat} {A : QC} {F : FS} {F2 : FS} {kk : Nat → Nat} {kq : Nat → Nat → Nat} {Kf : Nat → KD} {ak : Nat} {ct : Nat} {who : Int} {th : Int} {zfa : Int} {zte : Int} {zta : Int} {zlv : Int} {zgo : Int} {gz : Bool} {gg : Bool} {FI : Nat → Int} {RO : Nat → Int} {RW : Nat → Int} {RK : Nat → Int} {AQ : Nat → Int} {KS : Nat → Int} {KT : Nat → Int} {KO : Nat → Int} {EV : Nat → Int} {DU : Nat → Int} {SA : Nat → Int} {NO : Nat → Int} {OR : Nat → Bool} {AN : Nat → Bool} {FR : Nat → Int} {SE : Nat → Int} {GF : Nat → Int} {GS : Nat → Int} {IS : Nat → Bool} {rq : RS} {rr : Nat → RS} (C : Cx pg mI cd cL_law 4 sT ar RL) (hX : va_X b0 L xs sT H0) (hbl : b0 < H0.size) (hbA : ¬ Aa b0) (hi : 7 * i + 7 ≤ L) (hL : L ≤ 448) (hcl : cells ≤ 400000) (hsl : slots ≤ 6000000) (inv : LInv i sg kc mk cb tm an gn B Cn n Vv U Dn tx r A F Kf ak ct who gz FI RO RW RK AQ KS KT KO EV DU SA FR SE rq rr) (h : Hx D g sT Aa H0 (wXA g x j ta ka ra ga da fa pa gr r1 r2 r3 qa qd sg kc mk cb lc tm an gn B Cn n Vv U Dn tx J rm r aw A F F2 kk kq Kf ++ wMA g a th (n : Int) (gn : Int) cb tm lc (sg : Int) (ak : Int) who (kc : Int) zfa zte zta zlv (ct : Int) zgo an gz gg FI RO RW RK mk tx AQ KS KT KO EV DU SA NO OR AN FR SE GF GS IS) H locs) (hl : lv_has ls 4 [(0, .ref b0), (1, .ref x), (2, .ref (a 0)), (3, .int (iI (7 * (i : Int))))])
    (kN : ∀ (qa : Nat → Nat) (qd : Nat → Nat) (sg : Nat) (kc : Nat) (mk : Nat → Bool) (cb : Int) (lc : Int) (tm : Int) (an : Bool) (gn : Nat) (B : Nat → Nat → Nat → Bool) (Cn : Nat → Int) (n : Nat) (Vv : Nat → Nat → Int) (U : Nat → Nat → Int) (Dn : Nat → Nat → Int) (tx : Nat → Int) (J : JS4) (rm : Nat → Bool) (r : RS) (aw : Nat) (A : QC) (F : FS) (F2 : FS) (kk : Nat → Nat) (kq : Nat → Nat → Nat) (Kf : Nat → KD) (ak : Nat) (ct : Nat) (who : Int) (th : Int) (zfa : Int) (zte : Int) (zta : Int) (zlv : Int) (zgo : Int) (gz : Bool) (gg : Bool) (FI : Nat → Int) (RO : Nat → Int) (RW : Nat → Int) (RK : Nat → Int) (AQ : Nat → Int) (KS : Nat → Int) (KT : Nat → Int) (KO : Nat → Int) (EV : Nat → Int) (DU : Nat → Int) (SA : Nat → Int) (NO : Nat → Int) (OR : Nat → Bool) (AN : Nat → Bool) (FR : Nat → Int) (SE : Nat → Int) (GF : Nat → Int) (GS : Nat → Int) (IS : Nat → Bool) (rq : RS) (rr : Nat → RS) (H : Heap) (locs : List Loc) (ls : Array Slot) (cells2 slots2 : Nat), cells2 ≤ cells + 6 → slots2 ≤ slots + 334 → LInv (i + 1) sg kc mk cb tm an gn B Cn n Vv U Dn tx r A F Kf ak ct who gz FI RO RW RK AQ KS KT KO EV DU SA FR SE rq rr → Hx D g sT Aa H0 (wXA g x j ta ka ra ga da fa pa gr r1 r2 r3 qa qd sg kc mk cb lc tm an gn B Cn n Vv U Dn tx J rm r aw A F F2 kk kq Kf ++ wMA g a th (n : Int) (gn : Int) cb tm lc (sg : Int) (ak : Int) who (kc : Int) zfa zte zta zlv (ct : Int) zgo an gz gg FI RO RW RK mk tx AQ KS KT KO EV DU SA NO OR AN FR SE GF GS IS) H locs → lv_has ls 4 [(0, .ref b0), (1, .ref x), (2, .ref (a 0)), (3, .int (iI (7 * (i : Int))))] → W pg l evn room_1 sT mI ar bl mtd cd H locs cells2 slots2 qQ (F0 mI 667 ls [])) : W pg l evn room_1 sT mI ar bl mtd cd H locs cells slots qQ (F0 mI 644 ls []) := by
  have zx := C.1
  have zb := C.2.1
  obtain ⟨hI, hR, ⟨hn, hgn, hsg⟩, hM5, hcb, htm, htx, hr, hask, hfnd, hkc, hkept⟩ := id inv
  refine lv_aload_n zx zb dL_law_644 rfl (lv_at hl 1 rfl) ?_
  refine lv_aload_n zx zb dL_law_645 rfl (lv_at hl 0 rfl) ?_
  refine lv_iload_n zx zb dL_law_646 rfl (lv_at hl 3 rfl) ?_
  refine lv_iconst (v := iI (1)) zx zb dL_law_647 rfl ?_
  refine i_add C (a := 7 * (i : Int)) (b := 1) dL_law_648 ?_
  refine s_ld C hX hbl hbA h (7 * i + 1) (by omega) (by omega) hL dL_law_649 ?_
  refine LX_scan ((xs (7 * i + 1)).toInt) C hl.1 (Nat.le_of_ble_eq_true rfl) (by omega) (by omega) h (R32_of _) (by omega) hI.1 (fun u H locs hu h => ?_)
  show W pg l evn room_1 sT mI ar bl mtd cd H locs cells slots qQ (F0 mI 653 ls [.int (iI (if 0 ≤ (xs (7 * i + 1)).toInt ∧ (xs (7 * i + 1)).toInt < 50 then (scanN B Vv ((xs (7 * i + 1)).toInt).toNat n : Int) else -1000001))])
  refine lv_aload_n zx zb dL_law_653 rfl (lv_at hl 2 rfl) ?_
  refine lv_aload_n zx zb dL_law_654 rfl (lv_at hl 0 rfl) ?_
  refine lv_iload_n zx zb dL_law_655 rfl (lv_at hl 3 rfl) ?_
  refine lv_iconst (v := iI (1)) zx zb dL_law_656 rfl ?_
  refine i_add C (a := 7 * (i : Int)) (b := 1) dL_law_657 ?_
  refine s_ld C hX hbl hbA h (7 * i + 1) (by omega) (by omega) hL dL_law_658 ?_
  refine LM_scan ((xs (7 * i + 1)).toInt) (R32_of _) (by omega) (by omega) (rgtI_R hR) hI.2.2.2 C hl.1 (Nat.le_of_ble_eq_true rfl) (by omega) (by omega) h (fun v H locs hv h => ?_)
  show W pg l evn room_1 sT mI ar bl mtd cd H locs cells slots qQ (F0 mI 662 ls [.int (iI (if 0 ≤ (xs (7 * i + 1)).toInt ∧ (xs (7 * i + 1)).toInt < 50 then (scnM RO RW RK FI ((xs (7 * i + 1)).toInt) gn n : Int) else -1000001)), .int (iI (if 0 ≤ (xs (7 * i + 1)).toInt ∧ (xs (7 * i + 1)).toInt < 50 then (scanN B Vv ((xs (7 * i + 1)).toInt).toNat n : Int) else -1000001))])
  have e1 : (if 0 ≤ (xs (7 * i + 1)).toInt ∧ (xs (7 * i + 1)).toInt < 50 then (scnM RO RW RK FI ((xs (7 * i + 1)).toInt) gn n : Int) else -1000001) = (if 0 ≤ (xs (7 * i + 1)).toInt ∧ (xs (7 * i + 1)).toInt < 50 then (scanN B Vv ((xs (7 * i + 1)).toInt).toNat n : Int) else -1000001) := by
    by_cases q : 0 ≤ (xs (7 * i + 1)).toInt ∧ (xs (7 * i + 1)).toInt < 50
    · rw [if_pos q, if_pos q, scan_eq hR hI q n (Nat.le_refl n)]
    · rw [if_neg q, if_neg q]
  rw [e1]
  refine s_icmp C dL_law_662 (tgt := 667) (by decide) ?_
  exact kN qa qd sg kc mk cb lc tm an gn B Cn n Vv U Dn tx J rm r aw A F F2 kk kq Kf ak ct who 0 zfa zte zta zlv zgo gz gg FI RO RW RK AQ KS KT KO EV DU SA NO OR AN FR SE GF GS IS rq rr H locs ls cells slots (by omega) (by omega) ⟨hI, hR, ⟨by omega, by omega, by omega⟩, hM5, hcb, ⟨htm.1, by omega⟩, htx, hr, hask, hfnd, hkc, hkept⟩ h hl
