/-! JUDGE.isTrue: the steps as a run over a stack of levels -/
def jstep (k : Int) (b : Bool) : List (Bool × Bool × Bool) → List (Bool × Bool × Bool)
  | [] => []
  | (o, t, n) :: r => if k = 1 then (o, t, !n) :: r else if k = 2 then (false, true, false) :: (o, t, n) :: r
    else if k = 3 then (match r with | [] => [] | (o2, t2, n2) :: r2 => (o2, t2 && ((o || t) != n2), false) :: r2)
    else if k = 4 then (o || t, true, n) :: r else (o, t && (b != n), false) :: r
/-- how many tests, and how deep, ahead of step s -/
def tJ (ST : Nat → Int) : Nat → Nat
  | 0 => 0
  | s + 1 => if ST s = 5 then tJ ST s + 1 else tJ ST s
def dJ (ST : Nat → Int) : Nat → Nat
  | 0 => 0
  | s + 1 => if ST s = 2 then dJ ST s + 1 else if ST s = 3 then dJ ST s - 1 else dJ ST s
def jR (ST : Nat → Int) (tv : Nat → Bool) : Nat → List (Bool × Bool × Bool)
  | 0 => [(false, true, false)]
  | s + 1 => jstep (ST s) (tv (tJ ST s)) (jR ST tv s)
def jV : List (Bool × Bool × Bool) → Bool
  | [] => false
  | x :: _ => x.1 || x.2.1
def RepJ (O T N : Nat → Bool) : List (Bool × Bool × Bool) → Prop
  | [] => True
  | x :: r => O r.length = x.1 ∧ T r.length = x.2.1 ∧ N r.length = x.2.2 ∧ RepJ O T N r
theorem repE {O T N O' T' N' : Nat → Bool} : ∀ {l : List (Bool × Bool × Bool)}, RepJ O T N l → (∀ i, i < l.length → O' i = O i ∧ T' i = T i ∧ N' i = N i) → RepJ O' T' N' l
  | [], _, _ => trivial
  | x :: r, h, e => by
    obtain ⟨h1, h2, h3, h4⟩ := h
    obtain ⟨e1, e2, e3⟩ := e r.length (by simp)
    exact ⟨by rw [e1, h1], by rw [e2, h2], by rw [e3, h3], repE h4 fun i hi => e i (by simp; omega)⟩
theorem repTop {O T N : Nat → Bool} {L : Nat} {l : List (Bool × Bool × Bool)} (h : RepJ O T N l) (hl : l.length = L + 1) : ∃ r, l = (O L, T L, N L) :: r ∧ r.length = L ∧ RepJ O T N r := by
  cases l with
  | nil => simp at hl
  | cons x r =>
    obtain ⟨h1, h2, h3, h4⟩ := h
    have e : r.length = L := by simpa using hl
    rw [e] at h1 h2 h3
    exact ⟨r, by rw [h1, h2, h3], e, h4⟩
theorem rep0 {O T N : Nat → Bool} : RepJ (up O 0 false) (up T 0 true) (up N 0 false) [(false, true, false)] := ⟨up_s, up_s, up_s, trivial⟩
theorem rep1 {O T N : Nat → Bool} {L : Nat} {b : Bool} {l : List (Bool × Bool × Bool)} (h : RepJ O T N l) (hl : l.length = L + 1) : RepJ O T (up N L (!N L)) (jstep 1 b l) ∧ (jstep 1 b l).length = L + 1 := by
  obtain ⟨r, rfl, e, h4⟩ := repTop h hl
  refine ⟨⟨by rw [e], by rw [e], by rw [e, up_s], repE h4 fun i hi => ⟨rfl, rfl, up_n (by omega)⟩⟩, by simpa [jstep] using e⟩
theorem rep2 {O T N : Nat → Bool} {L : Nat} {b : Bool} {l : List (Bool × Bool × Bool)} (h : RepJ O T N l) (hl : l.length = L + 1) : RepJ (up O (L + 1) false) (up T (L + 1) true) (up N (L + 1) false) (jstep 2 b l) ∧ (jstep 2 b l).length = L + 1 + 1 := by
  obtain ⟨r, rfl, e, h4⟩ := repTop h hl
  have hj : jstep 2 b ((O L, T L, N L) :: r) = (false, true, false) :: (O L, T L, N L) :: r := rfl
  rw [hj]
  refine ⟨⟨by rw [hl, up_s], by rw [hl, up_s], by rw [hl, up_s], repE h fun i hi => ?_⟩, by simp [e]⟩
  rw [hl] at hi
  exact ⟨up_n (by omega), up_n (by omega), up_n (by omega)⟩
theorem rep3 {O T N : Nat → Bool} {L : Nat} {b : Bool} {l : List (Bool × Bool × Bool)} (h : RepJ O T N l) (hl : l.length = L + 1 + 1) : RepJ O (up T L (T L && ((O (L + 1) || T (L + 1)) != N L))) (up N L false) (jstep 3 b l) ∧ (jstep 3 b l).length = L + 1 := by
  obtain ⟨r, rfl, e, h4⟩ := repTop h hl
  obtain ⟨r2, rfl, e2, h5⟩ := repTop h4 e
  have hj : jstep 3 b ((O (L + 1), T (L + 1), N (L + 1)) :: (O L, T L, N L) :: r2) = (O L, T L && ((O (L + 1) || T (L + 1)) != N L), false) :: r2 := rfl
  rw [hj]
  exact ⟨⟨by rw [e2], by rw [e2, up_s], by rw [e2, up_s], repE h5 fun i hi => ⟨rfl, up_n (by omega), up_n (by omega)⟩⟩, by simp [e2]⟩
theorem rep4 {O T N : Nat → Bool} {L : Nat} {b : Bool} {l : List (Bool × Bool × Bool)} (h : RepJ O T N l) (hl : l.length = L + 1) : RepJ (up O L (O L || T L)) (up T L true) N (jstep 4 b l) ∧ (jstep 4 b l).length = L + 1 := by
  obtain ⟨r, rfl, e, h4⟩ := repTop h hl
  exact ⟨⟨by rw [e, up_s], by rw [e, up_s], by rw [e], repE h4 fun i hi => ⟨up_n (by omega), up_n (by omega), rfl⟩⟩, by simpa [jstep] using e⟩
theorem rep5 {O T N : Nat → Bool} {L : Nat} {b : Bool} {l : List (Bool × Bool × Bool)} (h : RepJ O T N l) (hl : l.length = L + 1) : RepJ O (up T L (T L && (b != N L))) (up N L false) (jstep 5 b l) ∧ (jstep 5 b l).length = L + 1 := by
  obtain ⟨r, rfl, e, h4⟩ := repTop h hl
  exact ⟨⟨by rw [e], by rw [e, up_s], by rw [e, up_s], repE h4 fun i hi => ⟨rfl, up_n (by omega), up_n (by omega)⟩⟩, by simpa [jstep] using e⟩
theorem repV {O T N : Nat → Bool} {L : Nat} {l : List (Bool × Bool × Bool)} (h : RepJ O T N l) (hl : l.length = L + 1) : jV l = (O L || T L) := by
  obtain ⟨r, rfl, e, h4⟩ := repTop h hl
  rfl
/-- steps that the judge can go through -/
def jOK (ST TF TR TN : Nat → Int) (sc : Nat) : Prop := sc ≤ 200 ∧ ∀ s, s < sc → (ST s = 1 ∨ ST s = 2 ∨ ST s = 3 ∨ ST s = 4 ∨ ST s = 5) ∧ dJ ST s ≤ 25 ∧ (ST s = 3 → 1 ≤ dJ ST s) ∧ (ST s = 5 → tJ ST s < 40 ∧ 0 ≤ TF (tJ ST s) ∧ TF (tJ ST s) < 5 ∧ (TR (tJ ST s) = 60 ∨ TR (tJ ST s) = 61 ∨ TR (tJ ST s) = 62) ∧ R32 (TN (tJ ST s)))
/-- the tests' truth for row k + 1 -/
def tvQ (TF TR TN : Nat → Int) (Vv : Nat → Nat → Int) (k : Nat) : Nat → Bool := fun t => tstV (TR t) (Vv (TF t).toNat k) (TN t)

set_option maxHeartbeats 4000000 in
set_option maxRecDepth 100000 in
theorem c_X1_isTrue (l : Launch) (D : va_G) (g : Nat → ClassId) (j L0 : Nat) (O0 T0 N0 : Nat → Bool) (a : Nat → Nat) (ST TF TR TN : Nat → Int) (sc tc : Nat) (fl : Nat → Bool) (tl tf aw : Nat) (b r1 r2 r3 : Nat → Nat) (n : Nat) (Vv U Dn : Nat → Nat → Int) (k : Nat) (z : Int) (hj : jOK ST TF TR TN sc) (hk : k < n) (hn : n ≤ 300) (hz : z = (k : Int) + 1) (hV : ∀ f, f < 5 → R32 (Vv f k)) : Ct (S := Nat × (Nat → Bool) × (Nat → Bool) × (Nat → Bool)) l D g yX1_isTrue cX1_isTrue 6 (some .boolean) rmX1_isTrue [.ref j, .ref (a 0), .ref (b 0), .int (iI z)] (wJ j L0 O0 T0 N0 ++ (wQ g a ST TF TR TN sc tc fl tl tf aw ++ wRows g b r1 r2 r3 n Vv U Dn)) (fun u => some (.int (bI (jV (jR ST (tvQ TF TR TN Vv k) sc))))) (fun _ => True) (fun u => wJ j u.1 u.2.1 u.2.2.1 u.2.2.2 ++ (wQ g a ST TF TR TN sc tc fl tl tf aw ++ wRows g b r1 r2 r3 n Vv U Dn)) := by
  refine Ct.of RX1 rfl (by decide +kernel) [(0, .ref j), (1, .ref (a 0)), (2, .ref (b 0)), (3, .int (iI z))] rfl (Nat.le_of_ble_eq_true rfl) ?_
  intro pg evn sT mI bl mtd cd aA ls ar qQ zC zr zk zi zQ h hl
  have zx := zC.1
  have zb := zC.2.1
  have h : Hx D g sT aA sT.heap ((j, .inr (1, [.int (iI (bZ fun i => i == L0)), .int (iI (bZ O0)), .int (iI (bZ T0)), .int (iI (bZ N0))])) :: ((wQ g a ST TF TR TN sc tc fl tl tf aw) ++ (wRows g b r1 r2 r3 n Vv U Dn))) sT.heap [] := h
  have hsc := hj.1
  skip
  refine lv_aload_n zx zb dX1_isTrue_0 rfl (lv_at hl 0 rfl) ?_
  refine lv_iconst (v := iI (1)) zx zb dX1_isTrue_1 rfl ?_
  refine pf1_7 (x := iI 1) zC h 0 (ws' := (j, .inr (1, [.int (iI 1), .int (iI (bZ O0)), .int (iI (bZ T0)), .int (iI (bZ N0))])) :: ((wQ g a ST TF TR TN sc tc fl tl tf aw) ++ (wRows g b r1 r2 r3 n Vv U Dn))) rfl rfl (Nat.le_of_ble_eq_true rfl) dX1_isTrue_2 (fun H locs h => ?_)
  rw [← bZ_o] at h
  refine lv_aload_n zx zb dX1_isTrue_5 rfl (lv_at hl 0 rfl) ?_
  refine r_invV (As := []) (rest := []) (wr := ((wQ g a ST TF TR TN sc tc fl tl tf aw) ++ (wRows g b r1 r2 r3 n Vv U Dn))) (ws2 := fun u_1 => (j, .inr (1, [.int (iI (bZ fun i => i == 0)), .int (iI (bZ (up O0 0 false))), .int (iI (bZ (up T0 0 true))), .int (iI (bZ (up N0 0 false)))])) :: ((wQ g a ST TF TR TN sc tc fl tl tf aw) ++ (wRows g b r1 r2 r3 n Vv U Dn))) 0 0 zC h hl.1 (c_X1_beginLevel l D g j 0 O0 T0 N0 (by omega)) (cs1_22 zC ⟨(Nat.le_of_ble_eq_true rfl), (Nat.le_of_ble_eq_true rfl)⟩) (.head _) rfl rfl rfl (Nat.le_of_ble_eq_true rfl) (pm fun cp_q => by simp only [cp_o, List.countP_append, List.countP_nil, wJ] <;> omega) (fun u => (pm fun cp_q => by simp only [cp_o, List.countP_append, List.countP_nil, wJ] <;> omega)) ⟨(Nat.le_of_ble_eq_true rfl), (Nat.le_of_ble_eq_true rfl)⟩ (Nat.le_of_ble_eq_true rfl) (Nat.le_of_ble_eq_true rfl) dX1_isTrue_6 (fun u_1 H locs hu_1 hz_1 h => ?_)
  refine lv_iconst (v := iI (0)) zx zb dX1_isTrue_9 rfl ?_
  refine lv_istore (lv' := [(4, .int (iI 0)), (0, .ref j), (1, .ref (a 0)), (2, .ref (b 0)), (3, .int (iI z))]) zx zb dX1_isTrue_10 hl (by decide) rfl (fun ls hl => ?_)
  refine lv_iconst (v := iI (0)) zx zb dX1_isTrue_12 rfl ?_
  refine lv_istore (lv' := [(5, .int (iI 0)), (4, .int (iI 0)), (0, .ref j), (1, .ref (a 0)), (2, .ref (b 0)), (3, .int (iI z))]) zx zb dX1_isTrue_13 hl (by decide) rfl (fun ls hl => ?_)
  have L15_2 : ∀ (fuel : Nat) (s : Nat) (L : Nat) (O : Nat → Bool) (T : Nat → Bool) (N : Nat → Bool) (H : Heap) (locs : List Loc) (ls : Array Slot), sc - s < fuel → (s ≤ sc) → (dJ ST s = L) → (L ≤ 26) → (RepJ O T N (jR ST (tvQ TF TR TN Vv k) s)) → ((jR ST (tvQ TF TR TN Vv k) s).length = L + 1) → Hx D g sT aA sT.heap ((j, .inr (1, [.int (iI (bZ fun i => i == L)), .int (iI (bZ O)), .int (iI (bZ T)), .int (iI (bZ N))])) :: ((wQ g a ST TF TR TN sc tc fl tl tf aw) ++ (wRows g b r1 r2 r3 n Vv U Dn))) H locs → lv_has ls 6 [(0, .ref j), (1, .ref (a 0)), (2, .ref (b 0)), (3, .int (iI z)), (4, .int (iI ((tJ ST s : Nat) : Int))), (5, .int (iI (s : Int)))] → W pg l evn rmX1_isTrue sT mI ar bl mtd cd H locs 0 0 qQ (F0 mI 15 ls []) := by
    intro fuel
    induction fuel with
    | zero => intro s L O T N H locs ls hm; exact absurd hm (Nat.not_lt_zero _)
    | succ fuel ih =>
      intro s L O T N H locs ls hm hs hL hL2 hrep hlen h hl
      refine lv_iload zx zb dX1_isTrue_15 (lv_at hl 5 rfl) ?_
      refine lv_aload_n zx zb dX1_isTrue_17 rfl (lv_at hl 1 rfl) ?_
      refine r_invV (As := []) (rest := [.int (iI (s : Int))]) (wr := (j, .inr (1, [.int (iI (bZ fun i => i == L)), .int (iI (bZ O)), .int (iI (bZ T)), .int (iI (bZ N))])) :: (wRows g b r1 r2 r3 n Vv U Dn)) (ws2 := fun u_3 => (j, .inr (1, [.int (iI (bZ fun i => i == L)), .int (iI (bZ O)), .int (iI (bZ T)), .int (iI (bZ N))])) :: ((wQ g a ST TF TR TN sc tc fl tl tf aw) ++ (wRows g b r1 r2 r3 n Vv U Dn))) 0 0 zC h hl.1 (c_X3_stepCount l D g a ST TF TR TN sc tc fl tl tf aw) (cs1_25 zC ⟨(Nat.le_of_ble_eq_true rfl), (Nat.le_of_ble_eq_true rfl)⟩) (.tail _ (List.mem_append_left _ (.head _))) rfl rfl rfl (Nat.le_of_ble_eq_true rfl) (pm fun cp_q => by simp only [cp_o, List.countP_append, List.countP_nil] <;> omega) (fun u => (pm fun cp_q => by simp only [cp_o, List.countP_append, List.countP_nil] <;> omega)) ⟨(Nat.le_of_ble_eq_true rfl), (Nat.le_of_ble_eq_true rfl)⟩ (Nat.le_of_ble_eq_true rfl) (Nat.le_of_ble_eq_true rfl) dX1_isTrue_18 (fun u_3 H locs hu_3 hz_3 h => ?_)
      refine i_cge (a := (s : Int)) (b := (sc : Int)) (tgt := 155) zC dX1_isTrue_21 (by decide) (by omega) (fun c_4 => ?_) (fun c_4 => ?_)
      · skip
        have hss : s = sc := by omega
        refine lv_aload_n zx zb dX1_isTrue_155 rfl (lv_at hl 0 rfl) ?_
        refine r_invV (As := []) (rest := []) (wr := ((wQ g a ST TF TR TN sc tc fl tl tf aw) ++ (wRows g b r1 r2 r3 n Vv U Dn))) (ws2 := fun u_5 => (j, .inr (1, [.int (iI (bZ fun i => i == L)), .int (iI (bZ O)), .int (iI (bZ T)), .int (iI (bZ N))])) :: ((wQ g a ST TF TR TN sc tc fl tl tf aw) ++ (wRows g b r1 r2 r3 n Vv U Dn))) 0 0 zC h hl.1 (c_X1_isLevelTrue l D g j L O T N (by omega)) (cs1_46 zC ⟨(Nat.le_of_ble_eq_true rfl), (Nat.le_of_ble_eq_true rfl)⟩) (.head _) rfl rfl rfl (Nat.le_of_ble_eq_true rfl) (pm fun cp_q => by simp only [cp_o, List.countP_append, List.countP_nil, wJ] <;> omega) (fun u => (pm fun cp_q => by simp only [cp_o, List.countP_append, List.countP_nil, wJ] <;> omega)) ⟨(Nat.le_of_ble_eq_true rfl), (Nat.le_of_ble_eq_true rfl)⟩ (Nat.le_of_ble_eq_true rfl) (Nat.le_of_ble_eq_true rfl) dX1_isTrue_156 (fun u_5 H locs hu_5 hz_5 h => ?_)
        exact r_zret (b := O L || T L) zC zQ zr zk h dX1_isTrue_159 rfl (u := (L, O, T, N)) (by rw [← hss, repV hrep hlen]) (List.Perm.refl _) trivial (Nat.le_of_ble_eq_true rfl) (Nat.le_of_ble_eq_true rfl)
      · skip
        refine lv_aload_n zx zb dX1_isTrue_24 rfl (lv_at hl 1 rfl) ?_
        refine lv_iload zx zb dX1_isTrue_25 (lv_at hl 5 rfl) ?_
        refine r_invV (As := [.int (iI (s : Int))]) (rest := []) (wr := (j, .inr (1, [.int (iI (bZ fun i => i == L)), .int (iI (bZ O)), .int (iI (bZ T)), .int (iI (bZ N))])) :: (wRows g b r1 r2 r3 n Vv U Dn)) (ws2 := fun u_6 => (j, .inr (1, [.int (iI (bZ fun i => i == L)), .int (iI (bZ O)), .int (iI (bZ T)), .int (iI (bZ N))])) :: ((wQ g a ST TF TR TN sc tc fl tl tf aw) ++ (wRows g b r1 r2 r3 n Vv U Dn))) 0 0 zC h hl.1 (c_X3_step l D g a ST TF TR TN sc tc fl tl tf aw s (by have := hj.1; omega)) (cs1_31 zC ⟨(Nat.le_of_ble_eq_true rfl), (Nat.le_of_ble_eq_true rfl)⟩) (.tail _ (List.mem_append_left _ (.head _))) rfl rfl rfl (Nat.le_of_ble_eq_true rfl) (pm fun cp_q => by simp only [cp_o, List.countP_append, List.countP_nil] <;> omega) (fun u => (pm fun cp_q => by simp only [cp_o, List.countP_append, List.countP_nil] <;> omega)) ⟨(Nat.le_of_ble_eq_true rfl), (Nat.le_of_ble_eq_true rfl)⟩ (Nat.le_of_ble_eq_true rfl) (Nat.le_of_ble_eq_true rfl) dX1_isTrue_27 (fun u_6 H locs hu_6 hz_6 h => ?_)
        obtain ⟨hk0, hk1, hk2, hk3⟩ := hj.2 s (by omega)
        rcases hk0 with e_k | e_k | e_k | e_k | e_k
        · rw [e_k]
          refine lv_tableIn (off := 30) (tgt := 60) zx zb dX1_isTrue_30 (by decide) (by decide) (by decide) (by decide) ?_
          refine lv_aload_n zx zb dX1_isTrue_60 rfl (lv_at hl 0 rfl) ?_
          refine lv_dup zx zb dX1_isTrue_61 rfl ?_
          refine gf1_19 (v := .int (iI (bZ N))) zC h 0 rfl rfl dX1_isTrue_62 ?_
          refine lv_aload_n zx zb dX1_isTrue_65 rfl (lv_at hl 0 rfl) ?_
          refine gf1_7 (v := .int (iI (bZ fun i => i == L))) zC h 0 rfl rfl dX1_isTrue_66 ?_
          refine lv_ixor zx zb dX1_isTrue_69 ?_
          rw [bZ_xor N (fun i => i == L), jb_flip]
          refine pf1_19 (x := iI (bZ (up N L (!N L)))) zC h 0 (ws' := (j, .inr (1, [.int (iI (bZ fun i => i == L)), .int (iI (bZ O)), .int (iI (bZ T)), .int (iI (bZ (up N L (!N L))))])) :: ((wQ g a ST TF TR TN sc tc fl tl tf aw) ++ (wRows g b r1 r2 r3 n Vv U Dn))) rfl rfl (Nat.le_of_ble_eq_true rfl) dX1_isTrue_70 (fun H locs h => ?_)
          refine lv_goto (tgt := 149) zx zb dX1_isTrue_73 (by decide) ?_
          rw [show (((tJ ST s : Nat) : Int) : Int) = ((tJ ST (s + 1) : Nat) : Int) from (by simp only [tJ]; rw [e_k]; rw [if_neg (by decide)])] at hl
          refine i_inc (q := 5) (a := (s : Int)) (lv' := [(5, .int (iI ((s : Int) + 1))), (0, .ref j), (1, .ref (a 0)), (2, .ref (b 0)), (3, .int (iI z)), (4, .int (iI ((tJ ST (s + 1) : Nat) : Int)))]) zC hl dX1_isTrue_149 rfl (by decide) rfl (fun ls hl => ?_)
          refine lv_goto (tgt := 15) zx zb dX1_isTrue_152 (by decide) ?_
          exact ih (s + 1) L O T (up N L (!N L)) _ _ _ (by omega) (by omega) (by simp only [dJ]; rw [e_k]; rw [if_neg (by decide), if_neg (by decide)]; exact hL) (by omega) (by show RepJ _ _ _ (jstep (ST s) _ _); rw [e_k]; exact (rep1 (b := tvQ TF TR TN Vv k (tJ ST s)) hrep hlen).1) (by show (jstep (ST s) _ _).length = _; rw [e_k]; exact (rep1 (b := tvQ TF TR TN Vv k (tJ ST s)) hrep hlen).2) h (lv_sub hl [1, 2, 3, 4, 5, 0] rfl)
        · rw [e_k]
          refine lv_tableIn (off := 46) (tgt := 76) zx zb dX1_isTrue_30 (by decide) (by decide) (by decide) (by decide) ?_
          refine lv_aload_n zx zb dX1_isTrue_76 rfl (lv_at hl 0 rfl) ?_
          refine lv_dup zx zb dX1_isTrue_77 rfl ?_
          refine gf1_7 (v := .int (iI (bZ fun i => i == L))) zC h 0 rfl rfl dX1_isTrue_78 ?_
          refine lv_iconst (v := iI (1)) zx zb dX1_isTrue_81 rfl ?_
          refine lv_ishl zx zb dX1_isTrue_82 ?_
          rw [bZ_shl1 (show L + 1 < 32 by omega)]
          refine pf1_7 (x := iI (bZ fun i => i == L + 1)) zC h 0 (ws' := (j, .inr (1, [.int (iI (bZ fun i => i == L + 1)), .int (iI (bZ O)), .int (iI (bZ T)), .int (iI (bZ N))])) :: ((wQ g a ST TF TR TN sc tc fl tl tf aw) ++ (wRows g b r1 r2 r3 n Vv U Dn))) rfl rfl (Nat.le_of_ble_eq_true rfl) dX1_isTrue_83 (fun H locs h => ?_)
          refine lv_aload_n zx zb dX1_isTrue_86 rfl (lv_at hl 0 rfl) ?_
          refine r_invV (As := []) (rest := []) (wr := ((wQ g a ST TF TR TN sc tc fl tl tf aw) ++ (wRows g b r1 r2 r3 n Vv U Dn))) (ws2 := fun u_7 => (j, .inr (1, [.int (iI (bZ fun i => i == L + 1)), .int (iI (bZ (up O (L + 1) false))), .int (iI (bZ (up T (L + 1) true))), .int (iI (bZ (up N (L + 1) false)))])) :: ((wQ g a ST TF TR TN sc tc fl tl tf aw) ++ (wRows g b r1 r2 r3 n Vv U Dn))) 0 0 zC h hl.1 (c_X1_beginLevel l D g j (L + 1) O T N (by omega)) (cs1_22 zC ⟨(Nat.le_of_ble_eq_true rfl), (Nat.le_of_ble_eq_true rfl)⟩) (.head _) rfl rfl rfl (Nat.le_of_ble_eq_true rfl) (pm fun cp_q => by simp only [cp_o, List.countP_append, List.countP_nil, wJ] <;> omega) (fun u => (pm fun cp_q => by simp only [cp_o, List.countP_append, List.countP_nil, wJ] <;> omega)) ⟨(Nat.le_of_ble_eq_true rfl), (Nat.le_of_ble_eq_true rfl)⟩ (Nat.le_of_ble_eq_true rfl) (Nat.le_of_ble_eq_true rfl) dX1_isTrue_87 (fun u_7 H locs hu_7 hz_7 h => ?_)
          refine lv_goto (tgt := 149) zx zb dX1_isTrue_90 (by decide) ?_
          rw [show (((tJ ST s : Nat) : Int) : Int) = ((tJ ST (s + 1) : Nat) : Int) from (by simp only [tJ]; rw [e_k]; rw [if_neg (by decide)])] at hl
          refine i_inc (q := 5) (a := (s : Int)) (lv' := [(5, .int (iI ((s : Int) + 1))), (0, .ref j), (1, .ref (a 0)), (2, .ref (b 0)), (3, .int (iI z)), (4, .int (iI ((tJ ST (s + 1) : Nat) : Int)))]) zC hl dX1_isTrue_149 rfl (by decide) rfl (fun ls hl => ?_)
          refine lv_goto (tgt := 15) zx zb dX1_isTrue_152 (by decide) ?_
          exact ih (s + 1) (L + 1) (up O (L + 1) false) (up T (L + 1) true) (up N (L + 1) false) _ _ _ (by omega) (by omega) (by simp only [dJ]; rw [e_k]; rw [if_pos rfl, hL]) (by omega) (by show RepJ _ _ _ (jstep (ST s) _ _); rw [e_k]; exact (rep2 (b := tvQ TF TR TN Vv k (tJ ST s)) hrep hlen).1) (by show (jstep (ST s) _ _).length = _; rw [e_k]; exact (rep2 (b := tvQ TF TR TN Vv k (tJ ST s)) hrep hlen).2) h (lv_sub hl [1, 2, 3, 4, 5, 0] rfl)
        · rw [e_k]
          refine lv_tableIn (off := 63) (tgt := 93) zx zb dX1_isTrue_30 (by decide) (by decide) (by decide) (by decide) ?_
          obtain ⟨K, hK⟩ : ∃ K, L = K + 1 := ⟨L - 1, by have := hk2 e_k; omega⟩
          subst hK
          refine lv_aload_n zx zb dX1_isTrue_93 rfl (lv_at hl 0 rfl) ?_
          refine r_invV (As := []) (rest := []) (wr := ((wQ g a ST TF TR TN sc tc fl tl tf aw) ++ (wRows g b r1 r2 r3 n Vv U Dn))) (ws2 := fun u_8 => (j, .inr (1, [.int (iI (bZ fun i => i == K)), .int (iI (bZ O)), .int (iI (bZ (up T K (T K && ((O (K + 1) || T (K + 1)) != N K))))), .int (iI (bZ (up N K false)))])) :: ((wQ g a ST TF TR TN sc tc fl tl tf aw) ++ (wRows g b r1 r2 r3 n Vv U Dn))) 0 0 zC h hl.1 (c_X1_endLevel l D g j K O T N (by omega)) (cs1_35 zC ⟨(Nat.le_of_ble_eq_true rfl), (Nat.le_of_ble_eq_true rfl)⟩) (.head _) rfl rfl rfl (Nat.le_of_ble_eq_true rfl) (pm fun cp_q => by simp only [cp_o, List.countP_append, List.countP_nil, wJ] <;> omega) (fun u => (pm fun cp_q => by simp only [cp_o, List.countP_append, List.countP_nil, wJ] <;> omega)) ⟨(Nat.le_of_ble_eq_true rfl), (Nat.le_of_ble_eq_true rfl)⟩ (Nat.le_of_ble_eq_true rfl) (Nat.le_of_ble_eq_true rfl) dX1_isTrue_94 (fun u_8 H locs hu_8 hz_8 h => ?_)
          refine lv_goto (tgt := 149) zx zb dX1_isTrue_97 (by decide) ?_
          rw [show (((tJ ST s : Nat) : Int) : Int) = ((tJ ST (s + 1) : Nat) : Int) from (by simp only [tJ]; rw [e_k]; rw [if_neg (by decide)])] at hl
          refine i_inc (q := 5) (a := (s : Int)) (lv' := [(5, .int (iI ((s : Int) + 1))), (0, .ref j), (1, .ref (a 0)), (2, .ref (b 0)), (3, .int (iI z)), (4, .int (iI ((tJ ST (s + 1) : Nat) : Int)))]) zC hl dX1_isTrue_149 rfl (by decide) rfl (fun ls hl => ?_)
          refine lv_goto (tgt := 15) zx zb dX1_isTrue_152 (by decide) ?_
          exact ih (s + 1) K O (up T K (T K && ((O (K + 1) || T (K + 1)) != N K))) (up N K false) _ _ _ (by omega) (by omega) (by simp only [dJ]; rw [e_k]; rw [if_neg (by decide), if_pos rfl, hL]; rfl) (by omega) (by show RepJ _ _ _ (jstep (ST s) _ _); rw [e_k]; exact (rep3 (b := tvQ TF TR TN Vv k (tJ ST s)) hrep hlen).1) (by show (jstep (ST s) _ _).length = _; rw [e_k]; exact (rep3 (b := tvQ TF TR TN Vv k (tJ ST s)) hrep hlen).2) h (lv_sub hl [1, 2, 3, 4, 5, 0] rfl)
        · rw [e_k]
          refine lv_tableIn (off := 70) (tgt := 100) zx zb dX1_isTrue_30 (by decide) (by decide) (by decide) (by decide) ?_
          refine lv_aload_n zx zb dX1_isTrue_100 rfl (lv_at hl 0 rfl) ?_
          refine lv_dup zx zb dX1_isTrue_101 rfl ?_
          refine gf1_13 (v := .int (iI (bZ O))) zC h 0 rfl rfl dX1_isTrue_102 ?_
          refine lv_aload_n zx zb dX1_isTrue_105 rfl (lv_at hl 0 rfl) ?_
          refine gf1_16 (v := .int (iI (bZ T))) zC h 0 rfl rfl dX1_isTrue_106 ?_
          refine lv_aload_n zx zb dX1_isTrue_109 rfl (lv_at hl 0 rfl) ?_
          refine gf1_7 (v := .int (iI (bZ fun i => i == L))) zC h 0 rfl rfl dX1_isTrue_110 ?_
          refine lv_iand zx zb dX1_isTrue_113 ?_
          rw [bZ_and T (fun i => i == L)]
          refine lv_ior zx zb dX1_isTrue_114 ?_
          rw [bZ_or O (fun i => T i && i == L), jb_or]
          refine pf1_13 (x := iI (bZ (up O L (O L || T L)))) zC h 0 (ws' := (j, .inr (1, [.int (iI (bZ fun i => i == L)), .int (iI (bZ (up O L (O L || T L)))), .int (iI (bZ T)), .int (iI (bZ N))])) :: ((wQ g a ST TF TR TN sc tc fl tl tf aw) ++ (wRows g b r1 r2 r3 n Vv U Dn))) rfl rfl (Nat.le_of_ble_eq_true rfl) dX1_isTrue_115 (fun H locs h => ?_)
          refine lv_aload_n zx zb dX1_isTrue_118 rfl (lv_at hl 0 rfl) ?_
          refine lv_dup zx zb dX1_isTrue_119 rfl ?_
          refine gf1_16 (v := .int (iI (bZ T))) zC h 0 rfl rfl dX1_isTrue_120 ?_
          refine lv_aload_n zx zb dX1_isTrue_123 rfl (lv_at hl 0 rfl) ?_
          refine gf1_7 (v := .int (iI (bZ fun i => i == L))) zC h 0 rfl rfl dX1_isTrue_124 ?_
          refine lv_ior zx zb dX1_isTrue_127 ?_
          rw [bZ_or T (fun i => i == L), jb_set]
          refine pf1_16 (x := iI (bZ (up T L true))) zC h 0 (ws' := (j, .inr (1, [.int (iI (bZ fun i => i == L)), .int (iI (bZ (up O L (O L || T L)))), .int (iI (bZ (up T L true))), .int (iI (bZ N))])) :: ((wQ g a ST TF TR TN sc tc fl tl tf aw) ++ (wRows g b r1 r2 r3 n Vv U Dn))) rfl rfl (Nat.le_of_ble_eq_true rfl) dX1_isTrue_128 (fun H locs h => ?_)
          refine lv_goto (tgt := 149) zx zb dX1_isTrue_131 (by decide) ?_
          rw [show (((tJ ST s : Nat) : Int) : Int) = ((tJ ST (s + 1) : Nat) : Int) from (by simp only [tJ]; rw [e_k]; rw [if_neg (by decide)])] at hl
          refine i_inc (q := 5) (a := (s : Int)) (lv' := [(5, .int (iI ((s : Int) + 1))), (0, .ref j), (1, .ref (a 0)), (2, .ref (b 0)), (3, .int (iI z)), (4, .int (iI ((tJ ST (s + 1) : Nat) : Int)))]) zC hl dX1_isTrue_149 rfl (by decide) rfl (fun ls hl => ?_)
          refine lv_goto (tgt := 15) zx zb dX1_isTrue_152 (by decide) ?_
          exact ih (s + 1) L (up O L (O L || T L)) (up T L true) N _ _ _ (by omega) (by omega) (by simp only [dJ]; rw [e_k]; rw [if_neg (by decide), if_neg (by decide)]; exact hL) (by omega) (by show RepJ _ _ _ (jstep (ST s) _ _); rw [e_k]; exact (rep4 (b := tvQ TF TR TN Vv k (tJ ST s)) hrep hlen).1) (by show (jstep (ST s) _ _).length = _; rw [e_k]; exact (rep4 (b := tvQ TF TR TN Vv k (tJ ST s)) hrep hlen).2) h (lv_sub hl [1, 2, 3, 4, 5, 0] rfl)
        · rw [e_k]
          refine lv_tableOut (tgt := 134) zx zb dX1_isTrue_30 (by decide) (by decide) ?_
          refine lv_aload_n zx zb dX1_isTrue_134 rfl (lv_at hl 0 rfl) ?_
          refine lv_aload_n zx zb dX1_isTrue_135 rfl (lv_at hl 1 rfl) ?_
          refine lv_iload zx zb dX1_isTrue_136 (lv_at hl 4 rfl) ?_
          refine lv_aload_n zx zb dX1_isTrue_138 rfl (lv_at hl 2 rfl) ?_
          refine lv_iload_n zx zb dX1_isTrue_139 rfl (lv_at hl 3 rfl) ?_
          refine r_invV (As := [.int (iI ((tJ ST s : Nat) : Int)), .ref (b 0), .int (iI z)]) (rest := [.ref j]) (wr := [(j, .inr (1, [.int (iI (bZ fun i => i == L)), .int (iI (bZ O)), .int (iI (bZ T)), .int (iI (bZ N))]))]) (ws2 := fun u_9 => (j, .inr (1, [.int (iI (bZ fun i => i == L)), .int (iI (bZ O)), .int (iI (bZ T)), .int (iI (bZ N))])) :: ((wQ g a ST TF TR TN sc tc fl tl tf aw) ++ (wRows g b r1 r2 r3 n Vv U Dn))) 0 0 zC h hl.1 (c_X3_isTestTrue l D g a ST TF TR TN sc tc fl tl tf aw b r1 r2 r3 n Vv U Dn (tJ ST s) (TF (tJ ST s)).toNat k z (hk3 e_k).1 (by have := hk3 e_k; omega) hk hn hz (by have := hk3 e_k; omega) (hk3 e_k).2.2.2.1 (hV _ (by have := hk3 e_k; omega)) (hk3 e_k).2.2.2.2) (cs1_38 zC ⟨(Nat.le_of_ble_eq_true rfl), (Nat.le_of_ble_eq_true rfl)⟩) (.tail _ (List.mem_append_left _ (.head _))) rfl rfl rfl (Nat.le_of_ble_eq_true rfl) (pm fun cp_q => by simp only [cp_o, List.countP_append, List.countP_nil] <;> omega) (fun u => (pm fun cp_q => by simp only [cp_o, List.countP_append, List.countP_nil] <;> omega)) ⟨(Nat.le_of_ble_eq_true rfl), (Nat.le_of_ble_eq_true rfl)⟩ (Nat.le_of_ble_eq_true rfl) (Nat.le_of_ble_eq_true rfl) dX1_isTrue_140 (fun u_9 H locs hu_9 hz_9 h => ?_)
          refine r_invV (As := [.int (bI (tvQ TF TR TN Vv k (tJ ST s)))]) (rest := []) (wr := ((wQ g a ST TF TR TN sc tc fl tl tf aw) ++ (wRows g b r1 r2 r3 n Vv U Dn))) (ws2 := fun u_10 => (j, .inr (1, [.int (iI (bZ fun i => i == L)), .int (iI (bZ O)), .int (iI (bZ (up T L (T L && (tvQ TF TR TN Vv k (tJ ST s) != N L))))), .int (iI (bZ (up N L false)))])) :: ((wQ g a ST TF TR TN sc tc fl tl tf aw) ++ (wRows g b r1 r2 r3 n Vv U Dn))) 0 0 zC h hl.1 (c_X1_take l D g j L O T N (by omega) (tvQ TF TR TN Vv k (tJ ST s))) (cs1_42 zC ⟨(Nat.le_of_ble_eq_true rfl), (Nat.le_of_ble_eq_true rfl)⟩) (.head _) rfl rfl rfl (Nat.le_of_ble_eq_true rfl) (pm fun cp_q => by simp only [cp_o, List.countP_append, List.countP_nil, wJ] <;> omega) (fun u => (pm fun cp_q => by simp only [cp_o, List.countP_append, List.countP_nil, wJ] <;> omega)) ⟨(Nat.le_of_ble_eq_true rfl), (Nat.le_of_ble_eq_true rfl)⟩ (Nat.le_of_ble_eq_true rfl) (Nat.le_of_ble_eq_true rfl) dX1_isTrue_143 (fun u_10 H locs hu_10 hz_10 h => ?_)
          refine i_inc (q := 4) (a := ((tJ ST s : Nat) : Int)) (lv' := [(4, .int (iI (((tJ ST s : Nat) : Int) + 1))), (0, .ref j), (1, .ref (a 0)), (2, .ref (b 0)), (3, .int (iI z)), (5, .int (iI (s : Int)))]) zC hl dX1_isTrue_146 rfl (by decide) rfl (fun ls hl => ?_)
          rw [show (((tJ ST s : Nat) : Int) + 1 : Int) = ((tJ ST (s + 1) : Nat) : Int) from (by simp only [tJ]; rw [e_k]; rfl)] at hl
          refine i_inc (q := 5) (a := (s : Int)) (lv' := [(5, .int (iI ((s : Int) + 1))), (4, .int (iI ((tJ ST (s + 1) : Nat) : Int))), (0, .ref j), (1, .ref (a 0)), (2, .ref (b 0)), (3, .int (iI z))]) zC hl dX1_isTrue_149 rfl (by decide) rfl (fun ls hl => ?_)
          refine lv_goto (tgt := 15) zx zb dX1_isTrue_152 (by decide) ?_
          exact ih (s + 1) L O (up T L (T L && (tvQ TF TR TN Vv k (tJ ST s) != N L))) (up N L false) _ _ _ (by omega) (by omega) (by simp only [dJ]; rw [e_k]; rw [if_neg (by decide), if_neg (by decide)]; exact hL) (by omega) (by show RepJ _ _ _ (jstep (ST s) _ _); rw [e_k]; exact (rep5 (b := tvQ TF TR TN Vv k (tJ ST s)) hrep hlen).1) (by show (jstep (ST s) _ _).length = _; rw [e_k]; exact (rep5 (b := tvQ TF TR TN Vv k (tJ ST s)) hrep hlen).2) h (lv_sub hl [2, 3, 4, 5, 1, 0] rfl)
  exact L15_2 _ 0 0 (up O0 0 false) (up T0 0 true) (up N0 0 false) _ _ _ (Nat.lt_succ_self _) (by omega) rfl (by omega) rep0 rfl h (lv_sub hl [2, 3, 4, 5, 1, 0] rfl)
