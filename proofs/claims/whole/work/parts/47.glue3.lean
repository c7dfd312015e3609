/-! STEPS OF BOTH SIDES -/
def fgI (R R' : RS) : Prop := R'.fg = R.fg ∨ R'.fg = 0 ∨ (R'.fg = R.fg + 1 ∧ R.fg < 5)
theorem fgI_R {R R' : RS} (h : fgI R R') (hR : R32 R.fg) : R32 R'.fg := by
  rcases h with q | q | ⟨q, q2⟩
  · rw [q]; exact hR
  · rw [q]; decide
  · rw [q]; omega
section FG
variable {R : RS} {c : Int} {mk : Nat → Bool}
theorem fg_turn : fgI R ((rTurn R).2) := by
  obtain ⟨st, ne, tu, nu, fg, rl, fd, op, TB, ST, TF, TR, TN, sc, tc, fl, tl, tf⟩ := R
  unfold fgI rTurn
  dsimp only
  by_cases q : 20 ≤ ne
  · rw [if_pos q]; exact Or.inl (show fg = fg by rfl)
  · rw [if_neg q]; exact Or.inl (show fg = fg by rfl)
theorem fg_open : fgI R ((rOpen R).2) := by
  obtain ⟨st, ne, tu, nu, fg, rl, fd, op, TB, ST, TF, TR, TN, sc, tc, fl, tl, tf⟩ := R
  unfold fgI rOpen
  dsimp only
  by_cases q : 20 ≤ ne
  · rw [if_pos q]; exact Or.inl (show fg = fg by rfl)
  · rw [if_neg q]; exact Or.inl (show fg = fg by rfl)
theorem fg_close : fgI R ((rClose R).2) := by
  obtain ⟨st, ne, tu, nu, fg, rl, fd, op, TB, ST, TF, TR, TN, sc, tc, fl, tl, tf⟩ := R
  unfold fgI rClose
  dsimp only
  by_cases q : op = 0
  · rw [if_pos q]; exact Or.inl (show fg = fg by rfl)
  · rw [if_neg q]; exact Or.inl (show fg = fg by rfl)
theorem fg_testF : fgI R ((rTestField mk c R).2) := by
  obtain ⟨st, ne, tu, nu, fg, rl, fd, op, TB, ST, TF, TR, TN, sc, tc, fl, tl, tf⟩ := R
  unfold fgI rTestField
  dsimp only
  by_cases q : opn mk c = true ∧ tc < 40
  · rw [if_pos q]; exact Or.inl (show fg = fg by rfl)
  · rw [if_neg q]; exact Or.inl (show fg = fg by rfl)
theorem fg_rel : fgI R ((rRelation c R).2) := by
  obtain ⟨st, ne, tu, nu, fg, rl, fd, op, TB, ST, TF, TR, TN, sc, tc, fl, tl, tf⟩ := R
  unfold fgI rRelation
  dsimp only
  by_cases q : c = 61 ∨ c = 60 ∨ c = 62
  · rw [if_pos q]; exact Or.inr (Or.inl (show (0 : Int) = 0 by rfl))
  · rw [if_neg q]; exact Or.inl (show fg = fg by rfl)
theorem fg_fig : fgI R ((rFigure c R).2) := by
  obtain ⟨st, ne, tu, nu, fg, rl, fd, op, TB, ST, TF, TR, TN, sc, tc, fl, tl, tf⟩ := R
  unfold fgI rFigure
  dsimp only
  by_cases q : 48 ≤ c ∧ c ≤ 57 ∧ fg < 5
  · rw [if_pos q]; exact Or.inr (Or.inr ⟨show fg + 1 = fg + 1 by rfl, q.2.2⟩)
  · rw [if_neg q]; exact Or.inl (show fg = fg by rfl)
theorem fg_tail : fgI R ((rTail c R).2) := by
  obtain ⟨st, ne, tu, nu, fg, rl, fd, op, TB, ST, TF, TR, TN, sc, tc, fl, tl, tf⟩ := R
  unfold fgI rTail
  dsimp only
  by_cases q : tOf c = 0
  · rw [if_pos q]; exact Or.inl (show fg = fg by rfl)
  · rw [if_neg q]; exact Or.inl (show fg = fg by rfl)
theorem fg_tailF : fgI R ((rTailField mk c R).2) := by
  obtain ⟨st, ne, tu, nu, fg, rl, fd, op, TB, ST, TF, TR, TN, sc, tc, fl, tl, tf⟩ := R
  unfold fgI rTailField
  dsimp only
  by_cases q : opn mk c = true
  · rw [if_pos q]; exact Or.inl (show fg = fg by rfl)
  · rw [if_neg q]; exact Or.inl (show fg = fg by rfl)
theorem fg_next : fgI R (rNext c R) := by
  obtain ⟨st, ne, tu, nu, fg, rl, fd, op, TB, ST, TF, TR, TN, sc, tc, fl, tl, tf⟩ := R
  unfold fgI rNext
  dsimp only
  by_cases q : c = 124
  · rw [if_pos q]; exact Or.inl (show fg = fg by rfl)
  · rw [if_neg q]; exact Or.inl (show fg = fg by rfl)
theorem fg_endFT : (rEndFT R).fg = R.fg := by
  obtain ⟨st, ne, tu, nu, fg, rl, fd, op, TB, ST, TF, TR, TN, sc, tc, fl, tl, tf⟩ := R
  show fg = fg
  rfl
theorem fgI_rf : fgI R R := Or.inl rfl
theorem fg_test : fgI R (rTest mk c R).2 := by
  unfold rTest
  by_cases q : c = 33
  · rw [if_pos q]; exact fg_turn
  · rw [if_neg q]
    by_cases q2 : c = 40
    · rw [if_pos q2]; exact fg_open
    · rw [if_neg q2]; exact fg_testF
theorem fg_behind : fgI R (rBehind c R).2 := by
  unfold rBehind
  by_cases q : c = 41
  · rw [if_pos q]; exact fg_close
  · rw [if_neg q]
    by_cases q2 : c = 38 ∨ c = 124
    · rw [if_pos q2]; exact fg_next
    · rw [if_neg q2]
      by_cases q3 : R.ne = 0
      · rw [if_pos q3]; exact fg_tail
      · rw [if_neg q3]; exact fgI_rf
theorem fg_takes : fgI R (rTakes mk c R).2 := by
  unfold rTakes
  by_cases q0 : R.st = 0
  · rw [if_pos q0]
    by_cases t : (rTail c R).1 = true
    · rw [if_pos t]; exact fg_tail
    · rw [if_neg t, rTail_f (by simpa using t)]; exact fg_test
  · rw [if_neg q0]
    by_cases q1 : R.st = 1
    · rw [if_pos q1]; exact fg_test
    · rw [if_neg q1]
      by_cases q2 : R.st = 2
      · rw [if_pos q2]; exact fg_rel
      · rw [if_neg q2]
        by_cases q3 : R.st = 3
        · rw [if_pos q3]; exact fg_fig
        · rw [if_neg q3]
          by_cases q4 : R.st = 4
          · rw [if_pos q4]
            by_cases t : (rFigure c R).1 = true
            · rw [if_pos t]; exact fg_fig
            · rw [if_neg t, rFigure_f (by simpa using t)]
              have h := fg_behind (R := rEndFT R) (c := c)
              unfold fgI at h ⊢
              rw [fg_endFT] at h
              exact h
          · rw [if_neg q4]
            by_cases q5 : R.st = 5
            · rw [if_pos q5]; exact fg_behind
            · rw [if_neg q5]
              by_cases q6 : R.st = 6
              · rw [if_pos q6]; exact fg_tailF
              · rw [if_neg q6]; exact fgI_rf
theorem fg_endS : (rEndS R).fg = R.fg := by
  unfold rEndS
  by_cases q : R.st = 4
  · rw [if_pos q]; exact fg_endFT
  · rw [if_neg q]
theorem fg_begin : (rBegin R).fg = R.fg := by
  obtain ⟨st, ne, tu, nu, fg, rl, fd, op, TB, ST, TF, TR, TN, sc, tc, fl, tl, tf⟩ := R
  show fg = fg
  rfl
end FG
theorem fg_go {mk : Nat → Bool} {tx : Nat → Int} {r : RS} (h : R32 r.fg) : ∀ k, R32 (rGo mk tx r k).fg
  | 0 => h
  | k + 1 => fgI_R fg_takes (fg_go h k)
theorem fg_ff {mk : Nat → Bool} {tx : Nat → Int} {n : Nat} {r : RS} {u : Int × RS} (h : rFF mk tx n (rBegin r) u) (hr : R32 r.fg) : R32 u.2.fg := by
  have h0 : R32 (rBegin r).fg := by rw [fg_begin]; exact hr
  rcases h with ⟨k, -, -, -, rfl⟩ | ⟨-, rfl⟩
  · exact fg_go h0 (k + 1)
  · show R32 (rEndS (rGo mk tx (rBegin r) n)).fg
    rw [fg_endS]; exact fg_go h0 n
theorem fg_sw {r : RS} {A : QC} : (rSw r A).fg = r.fg := by
  obtain ⟨st, ne, tu, nu, fg, rl, fd, op, TB, ST, TF, TR, TN, sc, tc, fl, tl, tf⟩ := r
  show fg = fg
  rfl
theorem go_tx {mk : Nat → Bool} {tx tx' : Nat → Int} {r : RS} : ∀ {n : Nat}, (∀ k, k < n → tx k = tx' k) → rGo mk tx r n = rGo mk tx' r n
  | 0, _ => rfl
  | n + 1, h => by
    show (rTakes mk (tx n) (rGo mk tx r n)).2 = (rTakes mk (tx' n) (rGo mk tx' r n)).2
    rw [go_tx (n := n) (fun k hk => h k (by omega)), h n (Nat.lt_succ_self n)]
theorem rFF_tx {mk : Nat → Bool} {tx tx' : Nat → Int} {r v : RS} {n : Nat} (h : ∀ k, k < n → tx k = tx' k) (hF : rFF mk tx n r (-1, v)) : rFF mk tx' n r (-1, v) := by
  obtain ⟨h1, h2, h3⟩ := rFF_1.mp hF
  rw [go_tx h] at h2 h3
  refine rFF_1.mpr ⟨fun j hj => ?_, h2, h3⟩
  have := h1 j hj
  rw [go_tx (n := j) (fun k hk => h k (by omega)), h j hj] at this
  exact this
theorem qI_tx {A : QC} {tx tx' : Nat → Int} {sz : Nat} {w : Int} {r : RS} (h : qI A tx sz w r) (e : ∀ k, k < sz → tx k = tx' k) : qI A tx' sz w r := by
  obtain ⟨v, h1, h2⟩ := h
  exact ⟨v, rFF_tx e h1, h2⟩
/-- what the class needs of a text's first signs -/
theorem txt_ok {mk : Nat → Bool} {tx : Nat → Int} {r : RS} {sg : Nat} (hs : sg ≤ 64) (hr : R32 r.fg) : ∀ k, k ≤ sg → rAll mk tx (rBegin r) k → rOK (rGo mk tx (rBegin r) k) := fun k hk ha => iv_ok (iv_go hr ha) (by omega)
theorem txt_q {mk : Nat → Bool} {tx : Nat → Int} {r v : RS} {sg w : Nat} (hs : sg ≤ 64) (hr : R32 r.fg) (hw : w < 50) (h : rFF mk tx sg (rBegin r) (-1, v)) : qOK (rQ v w) := by
  obtain ⟨h1, h2, h3⟩ := rFF_1.mp h
  subst h3
  exact iv_q (iv_endS (iv_go hr h1)) hs hw
def nrm (F : Nat → Int) : Nat → Int := fun k => (iI (F k)).toInt
theorem nrm_a {F : Nat → Int} : aI (nrm F) = aI F := by
  funext k
  exact iI_of _
theorem nrm_c {g : Nat → ClassId} {n : Nat} {F : Nat → Int} : cI g n (nrm F) = cI g n F := by unfold cI; rw [nrm_a]
theorem nrm_R {F : Nat → Int} (k : Nat) : R32 (nrm F k) := R32_of _
theorem nrm_e {F : Nat → Int} {k : Nat} (h : R32 (F k)) : nrm F k = F k := iI_toInt h
/-! the state of both, but for rows and rights -/
def askI (an : Bool) (A : QC) (AQ : Nat → Int) (ak : Nat) (who : Int) (rq : RS) : Prop := qOK A ∧ R32 rq.fg ∧ ak ≤ 200 ∧ (∀ k, k < ak → R32 (AQ k)) ∧ R32 who ∧ (an = true → (0 ≤ who ∧ who < 50) ∧ qI A AQ ak who rq)
def fndI (F : FS) (A : QC) (n ct : Nat) (gr : Bool) (FR SE : Nat → Int) : Prop := ct = F.2.2 ∧ F.2.2 ≤ 300 ∧ (∀ k, k < F.2.2 → FR k = F.1 k ∧ (gr = true → SE k = F.2.1 k) ∧ R32 (F.1 k) ∧ R32 (F.2.1 k) ∧ (A.tl ≠ 1 → 1 ≤ F.1 k ∧ F.1 k ≤ (n : Int))) ∧ (gr = true ↔ A.tl = 1) ∧ A.tl ≤ 3 ∧ ∀ k, R32 (SE k)
def keptI (tm : Int) (kc : Nat) (Kf : Nat → KD) (KT KS KO EV DU SA : Nat → Int) (rr : Nat → RS) : Prop := ∀ j, j < kc → (0 ≤ KS j ∧ KS j ≤ 200) ∧ (∀ i, i < (KS j).toNat → R32 (KT (200 * j + i))) ∧ (0 ≤ KO j ∧ KO j < 50) ∧ R32 (rr j).fg ∧ qI (Kf j).1 (fun i => KT (200 * j + i)) (KS j).toNat (KO j) (rr j) ∧ EV j = (Kf j).2.1 ∧ DU j = (Kf j).2.2.1 ∧ SA j = (Kf j).2.2.2 ∧ kOK tm (Kf j)
theorem fndI_n {F : FS} {A : QC} {n n' ct : Nat} {gr : Bool} {FR SE : Nat → Int} (h : fndI F A n ct gr FR SE) (hn : n ≤ n') : fndI F A n' ct gr FR SE :=
  ⟨h.1, h.2.1, fun k hk => ⟨(h.2.2.1 k hk).1, (h.2.2.1 k hk).2.1, (h.2.2.1 k hk).2.2.1, (h.2.2.1 k hk).2.2.2.1, fun q => by have := (h.2.2.1 k hk).2.2.2.2 q; omega⟩, h.2.2.2⟩
section STEPS2
variable {FI RO RW RK : Nat → Int} {gn n sg ak ct kc : Nat} {B : Nat → Nat → Nat → Bool} {Cn : Nat → Int} {Vv U Dn : Nat → Nat → Int} {mk : Nat → Bool} {tx AQ FR SE : Nat → Int} {r rq : RS} {w who cb lc z tm : Int} {A : QC} {F : FS} {an gr : Bool}
theorem ask_step {s : XA} {u : Int × XA} {u' : VM} (hI : rowI n Vv U Dn FI) (hR : rgtI gn B Cn RO RW RK) (hn : n ≤ 300) (hs : s.sg ≤ 64) (hr : R32 s.r.fg) (htx : ∀ k, k < s.sg → R32 (tx k)) (ha : askI s.an s.A AQ ak who rq) (hf : fndI s.F s.A n ct gr FR SE)
    (hu : askP mk tx n cb B Vv U Dn w s u) (hm : askM mk tx s.sg n cb FI RO RW RK gn w s.r ((s.sg : Int), s.lc, s.an, who, (ak : Int), (ct : Int), gr, AQ, FR, SE) z u') :
    z = u.1 ∧ u'.sz = (u.2.sg : Int) ∧ u.2.sg ≤ s.sg ∧ u'.lc = u.2.lc ∧ u'.an = u.2.an ∧ R32 u.2.r.fg ∧ ∃ (ak' ct' : Nat) (rq' : RS), u'.ak = (ak' : Int) ∧ u'.ct = (ct' : Int) ∧ askI u.2.an u.2.A u'.AQ ak' u'.as_ rq' ∧ fndI u.2.F u.2.A n ct' u'.gr u'.FR (nrm u'.SE) := by
  have hfn : fndI s.F s.A n ct gr FR (nrm SE) := ⟨hf.1, hf.2.1, fun k hk => ⟨(hf.2.2.1 k hk).1, fun q => by rw [nrm_e (hf.2.2.2.2.2 k)]; exact (hf.2.2.1 k hk).2.1 q, (hf.2.2.1 k hk).2.2⟩, hf.2.2.2.1, hf.2.2.2.2.1, fun k => nrm_R k⟩
  by_cases hw : 0 ≤ w ∧ w < 50
  · obtain ⟨⟨fv, v⟩, v1, v2, v3, v4⟩ := hu.2 hw
    obtain ⟨fa, te, ta, hL, m1, m2, m3, m4⟩ := hm.2 hw
    obtain ⟨v', hF, hq⟩ := id hL
    have e := rFF_u hF v1
    obtain ⟨rfl, rfl⟩ : fa = fv ∧ v' = v := ⟨congrArg Prod.fst e, congrArg Prod.snd e⟩
    have hg := fg_ff v1 hr
    by_cases q : fa = -1
    · have ht : v'.tc = te := (hq q).1
      have v3 := v3 q
      have v4 := v4 q
      have m3 := m3 q
      have m4 := m4 q
      dsimp only at v3 v4
      rw [ht] at v3 v4
      by_cases c : cb < ((te : Int) + 1) * (n : Int)
      · have v5 := v3 c
        obtain ⟨p1, p2, p3⟩ := m3 c
        subst v5
        exact ⟨p1, m1, Nat.zero_le _, p2, p3.1, hg, ak, ct, rq, p3.2.2.1, p3.2.2.2.1, by rw [p3.2.1, p3.2.2.2.2.2.1]; exact ha, by rw [p3.2.2.2.2.1, p3.2.2.2.2.2.2.1, p3.2.2.2.2.2.2.2]; exact hfn⟩
      · obtain ⟨J, v5⟩ := v4 (by omega)
        obtain ⟨p1, p2, p3, p4, p5, N, sl, p6, p7, p8, p9, p10⟩ := m4 (by omega)
        subst q
        have hqq := txt_q (w := w.toNat) hs hr (by omega) v1
        have hfe := find_eq hI hR hw hL v1 hqq (Nat.le_refl n) p6
        have hfq := runQ_0 B Vv U Dn (rQ v' w.toNat) (n : Int) n s.F
        have hfs := fsI_q (B := B) (mm := (n : Int)) (u0 := s.F) hI.1 (rowI_o hI) hqq hn
        subst v5
        have eN : N = (runQ B Vv U Dn (rQ v' w.toNat) (n : Int) n s.F).2.2 := by rw [hfq.1]; exact hfe.1
        have hN : N ≤ n := by rw [eN]; exact hfs.1
        refine ⟨by rw [p7, eN], m1, Nat.zero_le _, p1, p2, by show R32 (rSw v' s.A).fg; rw [fg_sw]; exact hg, s.sg, N, s.r, p4, p8, ⟨hqq, hr, by omega, fun k hk => by rw [p5 k hk]; exact htx k hk, by rw [p3]; constructor <;> omega, fun _ => ?_⟩, ?_⟩
        · rw [p3]
          exact ⟨hw, qI_tx (tx := tx) ⟨v', rFF_no v1, rfl⟩ (fun k hk => (p5 k hk).symm)⟩
        · have hgr : u'.gr = true ↔ (rQ v' w.toNat).tl = 1 := by
            rw [p9, decide_eq_true_eq]; exact hfe.2.2.2
          refine ⟨eN, by show (runQ B Vv U Dn (rQ v' w.toNat) (n : Int) n s.F).2.2 ≤ 300; omega, fun k hk => ?_, hgr, hqq.2.1, fun k => nrm_R k⟩
          have hk : k < (runQ B Vv U Dn (rQ v' w.toNat) (n : Int) n s.F).2.2 := hk
          have f1 := hfq.2 k hk
          have f2 := hfs.2 k hk
          have f3 := p10 k (by omega)
          have R2 : R32 ((runQ B Vv U Dn (rQ v' w.toNat) (n : Int) n s.F).2.1 k) := by constructor <;> omega
          show u'.FR k = (runQ B Vv U Dn (rQ v' w.toNat) (n : Int) n s.F).1 k ∧ (u'.gr = true → nrm u'.SE k = (runQ B Vv U Dn (rQ v' w.toNat) (n : Int) n s.F).2.1 k) ∧ R32 ((runQ B Vv U Dn (rQ v' w.toNat) (n : Int) n s.F).1 k) ∧ R32 ((runQ B Vv U Dn (rQ v' w.toNat) (n : Int) n s.F).2.1 k) ∧ ((rQ v' w.toNat).tl ≠ 1 → 1 ≤ (runQ B Vv U Dn (rQ v' w.toNat) (n : Int) n s.F).1 k ∧ (runQ B Vv U Dn (rQ v' w.toNat) (n : Int) n s.F).1 k ≤ (n : Int))
          refine ⟨by rw [f3.1, hfe.2.1 k (by omega), f1.1], fun g => ?_, f2.1, R2, fun g => f2.2.1 (decide_eq_false g)⟩
          have e9 : u'.SE k = (runQ B Vv U Dn (rQ v' w.toNat) (n : Int) n s.F).2.1 k := by rw [f3.2, hfe.2.2.1 (hgr.mp g) k (by omega), f1.2]
          rw [nrm_e (by rw [e9]; exact R2)]; exact e9
    · have v5 := v2 q
      obtain ⟨p1, p2, p3⟩ := m2 q
      subst v5
      exact ⟨p1, m1, Nat.zero_le _, p2, p3.1, hg, ak, ct, rq, p3.2.2.1, p3.2.2.2.1, by rw [p3.2.1, p3.2.2.2.2.2.1]; exact ha, by rw [p3.2.2.2.2.1, p3.2.2.2.2.2.2.1, p3.2.2.2.2.2.2.2]; exact hfn⟩
  · have v5 := hu.1 hw
    obtain ⟨p1, p2⟩ := hm.1 hw
    subst v5 p2
    exact ⟨p1, rfl, Nat.le_refl _, rfl, rfl, hr, ak, ct, rq, rfl, rfl, ha, hfn⟩
theorem page_step {nn mo ii u : Int} (hI : rowI n Vv U Dn FI) (hR : rgtI gn B Cn RO RW RK) (ha : askI an A AQ ak who rq) (hu : pageP n an B Vv U Dn A nn mo ii u) (hm : pageM n an AQ ak FI RO RW RK gn who rq nn mo ii z) : z = u := by
  unfold pageP at hu
  obtain ⟨m1, m2, m3⟩ := hm
  by_cases q : nn < 0 ∨ mo < 0 ∨ (n : Int) < mo ∨ ¬ (0 ≤ ii ∧ ii < 10)
  · rw [if_pos q] at hu
    rw [m1 q, hu]
  · rw [if_neg q] at hu
    by_cases g : an = true
    · rw [if_neg (by rw [g]; decide)] at hu
      obtain ⟨te, ta, N, sl, hL, hf, h1, h2⟩ := m3 q g
      obtain ⟨hw, v, hF, rfl⟩ := ha.2.2.2.2.2 g
      have hfe := find_eq hI hR hw hL hF ha.1 (by omega) hf
      rw [show ((mo.toNat : Nat) : Int) = mo by omega] at hfe
      rw [← hfe.1] at hu
      by_cases c : nn * 10 + ii < (N : Int)
      · rw [if_pos c] at hu
        rw [hu, h1 (by omega), hfe.2.1 _ (by omega), show (10 * nn + ii).toNat = (nn * 10 + ii).toNat by omega]
      · rw [if_neg c] at hu
        rw [hu, h2 (by omega)]
    · have g2 : an = false := by simpa using g
      rw [if_pos g2] at hu
      rw [m2 q g2, hu]
theorem save_step {qd : Nat → Nat} {rm : Nat → Bool} {aw : Nat} {kk : Nat → Nat} {kq : Nat → Nat → Nat} {Kf : Nat → KD} {KT KS KO EV DU SA : Nat → Int} {rr : Nat → RS} {zz : Int} {u : Int × SV} {u' : SVM} (hs : sg ≤ 64) (hkc : kc ≤ 20) (hr : R32 r.fg) (htm : 0 ≤ tm ∧ tm < 900000000) (htx : ∀ k, k < sg → R32 (tx k)) (hk : keptI tm kc Kf KT KS KO EV DU SA rr)
    (hu : saveP mk tx sg kc tm qd rm r aw kk kq Kf w zz u) (hm : saveM mk tx sg tm w zz r ((sg : Int), kc, KT, KS, KO, EV, DU, SA) z u') :
    z = u.1 ∧ u'.1 = (u.2.1 : Int) ∧ u.2.1 ≤ sg ∧ u'.2.1 = u.2.2.1 ∧ (kc ≤ u.2.2.1 ∧ u.2.2.1 ≤ kc + 1 ∧ u.2.2.1 ≤ 20) ∧ R32 u.2.2.2.2.2.1.fg ∧ ∃ rr' : Nat → RS, keptI tm u.2.2.1 u.2.2.2.2.2.2.2.2.2 u'.2.2.1 u'.2.2.2.1 u'.2.2.2.2.1 u'.2.2.2.2.2.1 u'.2.2.2.2.2.2.1 u'.2.2.2.2.2.2.2 rr' := by
  obtain ⟨h1, h2, h3⟩ := hu
  obtain ⟨m1, m2, m3⟩ := hm
  by_cases hw : 0 ≤ w ∧ w < 50
  · by_cases hz : 1 ≤ zz ∧ zz ≤ 1000
    · obtain ⟨⟨fv, v⟩, v1, v2, v3, v4⟩ := h3 hw hz
      obtain ⟨fa, te, ta, hL, e1, c1, c2, c3⟩ := m3 hw hz
      obtain ⟨v', hF, -⟩ := id hL
      have e := rFF_u hF v1
      obtain ⟨rfl, rfl⟩ : fa = fv ∧ v' = v := ⟨congrArg Prod.fst e, congrArg Prod.snd e⟩
      have hg := fg_ff v1 hr
      obtain ⟨u1, u2⟩ := u'
      have e1 : u1 = 0 := e1
      by_cases q : fa = -1
      · by_cases k20 : kc = 20
        · have v5 := v3 q (by omega)
          obtain ⟨p1, p2⟩ := c2 q k20
          have p2 : u2 = (kc, KT, KS, KO, EV, DU, SA) := p2
          subst v5 p2
          exact ⟨p1, e1, Nat.zero_le _, rfl, ⟨Nat.le_refl _, Nat.le_succ _, hkc⟩, hg, rr, hk⟩
        · obtain ⟨a, qq, v5⟩ := v4 q (by omega)
          obtain ⟨p1, p2⟩ := c3 q k20
          have p2 : u2 = (kc + 1, cpO KT tx (200 * kc) sg, up KS kc (sg : Int), up KO kc w, up EV kc zz, up DU kc (tm + zz), up SA kc (-1)) := p2
          subst v5 p2 q
          refine ⟨p1, e1, Nat.zero_le _, rfl, ⟨Nat.le_succ _, Nat.le_refl _, Nat.lt_of_le_of_ne hkc k20⟩, by show R32 (rSw v' A00).fg; rw [fg_sw]; exact hg, up rr kc r, fun j hj => ?_⟩
          have hj : j < kc + 1 := hj
          show (0 ≤ up KS kc (sg : Int) j ∧ up KS kc (sg : Int) j ≤ 200) ∧ (∀ i, i < (up KS kc (sg : Int) j).toNat → R32 (cpO KT tx (200 * kc) sg (200 * j + i))) ∧ (0 ≤ up KO kc w j ∧ up KO kc w j < 50) ∧ R32 (up rr kc r j).fg ∧ qI (up Kf kc (rQ v' w.toNat, zz, tm + zz, -1) j).1 (fun i => cpO KT tx (200 * kc) sg (200 * j + i)) (up KS kc (sg : Int) j).toNat (up KO kc w j) (up rr kc r j) ∧ up EV kc zz j = (up Kf kc (rQ v' w.toNat, zz, tm + zz, -1) j).2.1 ∧ up DU kc (tm + zz) j = (up Kf kc (rQ v' w.toNat, zz, tm + zz, -1) j).2.2.1 ∧ up SA kc (-1) j = (up Kf kc (rQ v' w.toNat, zz, tm + zz, -1) j).2.2.2 ∧ kOK tm (up Kf kc (rQ v' w.toNat, zz, tm + zz, -1) j)
          by_cases z1 : j = kc
          · subst z1
            rw [up_s, up_s, up_s, up_s, up_s, up_s, up_s]
            have hc : ∀ i, i < sg → cpO KT tx (200 * j) sg (200 * j + i) = tx i := fun i hi => by
              unfold cpO
              rw [if_pos (by omega), show 200 * j + i - 200 * j = i by omega]
            rw [show ((sg : Int)).toNat = sg by omega]
            exact ⟨by omega, fun i hi => by rw [hc i hi]; exact htx i hi, hw, hr, qI_tx (tx := tx) ⟨v', rFF_no v1, rfl⟩ (fun i hi => (hc i hi).symm), rfl, rfl, rfl, txt_q hs hr (by omega) v1, hz, by show tm ≤ tm + zz; omega, by show tm + zz < 1000000000; omega⟩
          · rw [up_n z1, up_n z1, up_n z1, up_n z1, up_n z1, up_n z1, up_n z1]
            have h9 := hk j (by omega)
            have hc : ∀ i, i < (KS j).toNat → KT (200 * j + i) = cpO KT tx (200 * kc) sg (200 * j + i) := fun i hi => (if_neg (by omega)).symm
            exact ⟨h9.1, fun i hi => by rw [← hc i hi]; exact h9.2.1 i hi, h9.2.2.1, h9.2.2.2.1, qI_tx h9.2.2.2.2.1 hc, h9.2.2.2.2.2⟩
      · have v5 := v2 q
        obtain ⟨p1, p2⟩ := c1 q
        have p2 : u2 = (kc, KT, KS, KO, EV, DU, SA) := p2
        subst v5 p2
        exact ⟨p1, e1, Nat.zero_le _, rfl, ⟨Nat.le_refl _, Nat.le_succ _, hkc⟩, hg, rr, hk⟩
    · have v5 := h2 hw hz
      obtain ⟨p1, p2⟩ := m2 hw hz
      subst v5 p2
      exact ⟨p1, rfl, Nat.le_refl _, rfl, ⟨Nat.le_refl _, Nat.le_succ _, hkc⟩, hr, rr, hk⟩
  · have v5 := h1 hw
    obtain ⟨p1, p2⟩ := m1 hw
    subst v5 p2
    exact ⟨p1, rfl, Nat.le_refl _, rfl, ⟨Nat.le_refl _, Nat.le_succ _, hkc⟩, hr, rr, hk⟩
theorem tck_at {Kf : Nat → KD} {t : Int} {j : Nat} : ∀ {k : Nat}, j < k → tckK mk cb B Vv U Dn n t Kf k j = (kUp mk cb B Vv U Dn n t (Kf j)).2
  | 0, h => absurd h (Nat.not_lt_zero j)
  | k + 1, h => by
    show up (tckK mk cb B Vv U Dn n t Kf k) k (kUp mk cb B Vv U Dn n t (Kf k)).2 j = _
    by_cases e : j = k
    · subst e; exact up_s
    · rw [up_n e]; exact tck_at (by omega)
theorem tick_step {Kf : Nat → KD} {KT KS KO EV DU SA DU' SA' : Nat → Int} {rr : Nat → RS} {t nw' : Int} {u : Int × Int × (Nat → KD)} (hI : rowI n Vv U Dn FI) (hR : rgtI gn B Cn RO RW RK) (htm : 0 ≤ tm ∧ tm < 900000000) (hk : keptI tm kc Kf KT KS KO EV DU SA rr)
    (hu : u = tickU mk cb B Vv U Dn n t Kf tm kc) (hm : tickM mk KT KS KO EV DU kc n cb tm FI RO RW RK gn rr t SA z nw' DU' SA') : z = u.1 ∧ nw' = u.2.1 ∧ (tm ≤ nw' ∧ nw' ≤ tm + 1000) ∧ keptI nw' kc u.2.2 KT KS KO EV DU' SA' rr := by
  unfold tickU at hu
  by_cases q : t < tm ∨ 1000 < t - tm
  · rw [if_pos q] at hu
    obtain ⟨p1, p2, p3, p4⟩ := hm.1 q
    subst hu p2 p3 p4
    exact ⟨p1, rfl, ⟨Int.le_refl _, by omega⟩, hk⟩
  · rw [if_neg q] at hu
    obtain ⟨p1, p2, p3, p4⟩ := hm.2 q
    subst hu p2 p3
    have hsum : ∀ k, k ≤ kc → tkN DU EV nw' k = tckN mk cb B Vv U Dn n nw' Kf k := by
      intro k
      induction k with
      | zero => exact fun _ => rfl
      | succ k ih =>
        intro hk'
        have h9 := (hk k (by omega)).2.2.2.2.2
        show tkN DU EV nw' k + (passU (EV k) (DU k) nw').1 = tckN mk cb B Vv U Dn n nw' Kf k + (passU (Kf k).2.1 (Kf k).2.2.1 nw').1
        rw [ih (by omega), h9.1, h9.2.1]
    refine ⟨by rw [p1]; exact hsum kc (Nat.le_refl kc), rfl, by omega, fun j hj => ?_⟩
    have h9 := hk j hj
    obtain ⟨a1, a2, a3, a4, a5, a6, a7, a8, a9⟩ := h9
    show (0 ≤ KS j ∧ KS j ≤ 200) ∧ (∀ i, i < (KS j).toNat → R32 (KT (200 * j + i))) ∧ (0 ≤ KO j ∧ KO j < 50) ∧ R32 (rr j).fg ∧ qI (tckK mk cb B Vv U Dn n nw' Kf kc j).1 (fun i => KT (200 * j + i)) (KS j).toNat (KO j) (rr j) ∧ EV j = (tckK mk cb B Vv U Dn n nw' Kf kc j).2.1 ∧ duT DU EV nw' kc j = (tckK mk cb B Vv U Dn n nw' Kf kc j).2.2.1 ∧ SA' j = (tckK mk cb B Vv U Dn n nw' Kf kc j).2.2.2 ∧ kOK nw' (tckK mk cb B Vv U Dn n nw' Kf kc j)
    rw [tck_at hj, show duT DU EV nw' kc j = (passU (EV j) (DU j) nw').2 from if_pos hj]
    have hp := p4 j hj
    have hps : passU (EV j) (DU j) nw' = if nw' < DU j then (0, DU j) else ((nw' - DU j) / EV j + 1, DU j + ((nw' - DU j) / EV j + 1) * EV j) := rfl
    have b1 := a9.2.1
    have b2 := a9.2.2
    rw [← a6] at b1
    rw [← a7] at b2
    by_cases c : nw' < DU j
    · rw [if_pos c] at hps
      have e : kUp mk cb B Vv U Dn n nw' (Kf j) = (0, (Kf j).1, (Kf j).2.1, (Kf j).2.2.1, (Kf j).2.2.2) := by
        unfold kUp
        rw [← a6, ← a7, hps]
        rfl
      rw [e, hps]
      exact ⟨a1, a2, a3, a4, a5, a6, a7, by rw [hp.2 c]; exact a8, a9.1, a9.2.1, by show nw' ≤ (Kf j).2.2.1; rw [← a7]; omega, a9.2.2.2⟩
    · rw [if_neg c] at hps
      have d0 : 0 ≤ (nw' - DU j) / EV j := Int.ediv_nonneg (by omega) (by omega)
      have e : kUp mk cb B Vv U Dn n nw' (Kf j) = ((passU (EV j) (DU j) nw').1, (Kf j).1, (Kf j).2.1, (passU (EV j) (DU j) nw').2, cntM mk cb B Vv U Dn n (Kf j).1) := by
        unfold kUp
        rw [← a6, ← a7, if_neg (by rw [hps]; show ¬ (nw' - DU j) / EV j + 1 ≤ 0; omega)]
      have hz := cnt_eq hI hR a3 a9.1 a5 (hp.1 (by omega))
      have d1 : (nw' - DU j) / EV j * EV j ≤ nw' - DU j := Int.ediv_mul_le _ (by omega)
      have d2 : nw' - DU j < ((nw' - DU j) / EV j + 1) * EV j := Int.lt_ediv_add_one_mul_self _ (by omega)
      rw [Int.add_mul] at d2
      rw [e, hps]
      refine ⟨a1, a2, a3, a4, a5, a6, rfl, hz, a9.1, a9.2.1, ?_, ?_⟩
      · show nw' ≤ DU j + ((nw' - DU j) / EV j + 1) * EV j
        rw [Int.add_mul]; omega
      · show DU j + ((nw' - DU j) / EV j + 1) * EV j < 1000000000
        rw [Int.add_mul]; omega
theorem found_step {i wh : Int} (hI : rowI n Vv U Dn FI) (hf : fndI F A n ct gr FR SE) : fndM FR SE ct gr mk FI i wh = foundX F.1 F.2.1 F.2.2 A.tl n mk Vv i wh := by
  obtain ⟨h1, h2, h3, h4, h5, h6⟩ := hf
  unfold fndM foundX
  rw [h1]
  by_cases q : 0 ≤ i ∧ i < (F.2.2 : Int)
  · have h7 := h3 i.toNat (by omega)
    rw [if_pos q, if_pos q, h7.1]
    by_cases q2 : wh = 0
    · rw [if_pos q2, if_pos q2]
    · rw [if_neg q2, if_neg q2]
      by_cases q3 : gr = true
      · rw [if_pos q3, if_pos (h4.mp q3), h7.2.1 q3]
      · have q4 : A.tl ≠ 1 := fun z => q3 (h4.mpr z)
        rw [if_neg q3, if_neg q4]
        have h8 := h7.2.2.2.2 q4
        by_cases q5 : (1 ≤ wh ∧ wh ≤ 5) ∧ mk (wh - 1).toNat = false
        · rw [if_pos q5, if_pos q5, show 5 * (F.1 i.toNat).toNat + (wh - 1).toNat = 5 * ((F.1 i.toNat - 1).toNat + 1) + (wh - 1).toNat by omega]
          exact hI.2.2.1 _ _ (by omega) (by omega)
        · rw [if_neg q5, if_neg q5]
  · rw [if_neg q, if_neg q]
theorem saved_step {Kf : Nat → KD} {KT KS KO EV DU SA : Nat → Int} {rr : Nat → RS} {i : Int} (hk : keptI tm kc Kf KT KS KO EV DU SA rr) : savM SA kc i = savX Kf kc i := by
  unfold savM savX
  by_cases q : 1 ≤ i ∧ i ≤ (kc : Int)
  · rw [if_pos q, if_pos q]; exact (hk (i - 1).toNat (by omega)).2.2.2.2.2.2.2.1
  · rw [if_neg q, if_neg q]
theorem mask_step {f : Int} {b : Bool} (h : ∀ i, 5 ≤ i → mk i = false) : ∀ i, 5 ≤ i → (maskX mk f b).2 i = false := by
  intro i hi
  unfold maskX
  by_cases q : 0 ≤ f ∧ f < 5
  · rw [if_pos q]
    by_cases q2 : mk f.toNat = b
    · rw [if_pos q2]; exact h i hi
    · rw [if_neg q2]
      show up mk f.toNat b i = false
      rw [up_n (by omega)]; exact h i hi
  · rw [if_neg q]; exact h i hi
theorem bound_step {zz : Int} (h : 0 ≤ cb ∧ cb ≤ 1000000) : 0 ≤ (boundX cb zz).2 ∧ (boundX cb zz).2 ≤ 1000000 := by
  unfold boundX
  by_cases q : 0 ≤ zz ∧ zz ≤ 1000000
  · rw [if_pos q]; exact q
  · rw [if_neg q]; exact h
theorem sign_step {c : Int} (h : ∀ k, k < sg → R32 (tx k)) : (∀ k, k < (signU tx sg c).2 → R32 ((signU tx sg c).1 k)) ∧ (signU tx sg c).2 ≤ sg + 1 := by
  unfold signU
  by_cases q : 32 ≤ c ∧ c ≤ 126 ∧ sg < 200
  · rw [if_pos q]
    refine ⟨fun k hk => ?_, Nat.le_refl _⟩
    have hk : k < sg + 1 := hk
    show R32 (up tx sg c k)
    by_cases e : k = sg
    · subst e; rw [up_s]; constructor <;> omega
    · rw [up_n e]; exact h k (by omega)
  · rw [if_neg q]; exact ⟨h, Nat.le_succ _⟩
end STEPS2
