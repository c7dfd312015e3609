/-! THE BASE: one word list for all methods, one context, one heap word, one form of contract; calls by permuting worlds -/
abbrev wd (y : MethodName) (cc : ByteArray) (n : Nat) (r : Option FieldType) : List Cond := Cond.code y cc n r :: wsL_law
set_option maxRecDepth 100000 in
theorem gG : ∀ w ∈ wsL_law, goodWord w = true := List.all_eq_true.mp (by decide +kernel)
theorem gIn {y : MethodName} {cc : ByteArray} {n : Nat} {r : Option FieldType} (h : Cond.code y cc n r ∈ wsL_law) : GoodIn wsL_law (wd y cc n r) := fun w hw =>
  (List.mem_cons.mp hw).elim (fun e => e ▸ ⟨h, good_of_word (gG _ h)⟩) (fun h => ⟨h, good_of_word (gG _ h)⟩)
abbrev tysG (g : Nat → ClassId) : List (ClassId × FieldType) := [(g 0, .int), (g 1, .char), (g 2, .boolean), (g 3, .long), (g 4, .array .int), (g 5, .object "TraceQuestions$Kept")]
abbrev Cx (p : Program) (m : MethodId) (c : Code) (cc : ByteArray) (nL : Nat) (s : State) (args : Array Value) (own : String) : Prop := CallFix p m c cc nL s args wsL_law own
/-- what the tables say of members of nest mates and of arrays of references: kept by every step -/
def nstW : List (String × Nat × MethodName × String) := [("TraceQuestions", 9, yX6_init, "TraceQuestions"), ("TraceQuestions", 18, yX5_init, "TraceQuestions"), ("TraceQuestions", 25, yX4_init, "TraceQuestions"), ("TraceQuestions", 32, yX1_init, "TraceQuestions"), ("TraceQuestions", 58, yX3_init, "TraceQuestions"), ("TraceQuestions", 69, yX0_init, "TraceQuestions"), ("TraceQuestions$Reader", 11, yX3_init, "TraceQuestions")]
def Nst (U : State) : Prop := (∀ q ∈ nstW, va_Nw (.methodLinkNest q.1 q.2.1 q.2.2.1 q.2.2.2) U) ∧ va_AO "TraceQuestions$Kept" U ∧ va_AOA .int U
theorem Nst.warm {s U : State} (hW : s.WarmedH U.vm) (h : Nst s) : Nst U := ⟨fun q hq => va_Nw.warmM hW (h.1 q hq), h.2.1.moved hW.alike, h.2.2.moved hW.alike⟩
theorem Nst.same {s U : State} (hW : s.vm = U.vm) (h : Nst s) : Nst U := ⟨fun q hq => va_Nw.same rfl hW (h.1 q hq), h.2.1.moved (hW ▸ Vm.Alike.refl s.vm), h.2.2.moved (hW ▸ Vm.Alike.refl s.vm)⟩
def Kx (D : va_G) (g : Nat → ClassId) (U : State) : Prop := va_K D vwCl (tysG g) U ∧ Nst U
def Hx (D : va_G) (g : Nat → ClassId) (s : State) (A : Nat → Prop) (H0 : Heap) (ws : va_W) (H : Heap) (locs : List Loc) : Prop :=
  Kx D g s ∧ va_P D vwCl ws H ∧ va_D A ws ∧ va_S A H0 H locs ∧ ∀ q : Nat, H0.size ≤ q → A q
/-! worlds as sets of cells: membership and permutation -/
theorem vP_iff {D : va_G} {cl : List vw_C} {ws : va_W} {H : Heap} : va_P D cl ws H ↔ ∀ q ∈ ws, va_at D cl q H := by
  constructor
  · intro h q hq
    obtain ⟨k, hk⟩ := List.getElem?_of_mem hq
    exact h k q hk
  · intro h k q hk
    exact h q (List.mem_of_getElem? hk)
theorem vD_iff {A : Nat → Prop} {ws : va_W} : va_D A ws ↔ (ws.map Prod.fst).Nodup ∧ ∀ q ∈ ws, A q.1 := by
  constructor
  · intro h
    refine ⟨List.pairwise_iff_getElem.mpr fun i j hi hj hij e => ?_, fun q hq => ?_⟩
    · rw [List.length_map] at hi hj
      have e2 : (ws[i]).1 = (ws[j]).1 := by simpa using e
      have := h.1 i j _ _ (List.getElem?_eq_getElem hi) (List.getElem?_eq_getElem hj) e2
      omega
    · obtain ⟨k, hk⟩ := List.getElem?_of_mem hq
      exact h.2 k q hk
  · rintro ⟨h1, h2⟩
    refine ⟨fun i j x y hx hy hxy => ?_, fun k q hk => h2 q (List.mem_of_getElem? hk)⟩
    obtain ⟨hi, rfl⟩ := List.getElem?_eq_some_iff.mp hx
    obtain ⟨hj, rfl⟩ := List.getElem?_eq_some_iff.mp hy
    have hp := List.pairwise_iff_getElem.mp h1
    rcases Nat.lt_trichotomy i j with h | h | h
    · exact absurd (by rw [List.getElem_map, List.getElem_map]; exact hxy) (hp i j (by simpa using hi) (by simpa using hj) h)
    · exact h
    · exact absurd (by rw [List.getElem_map, List.getElem_map]; exact hxy.symm) (hp j i (by simpa using hj) (by simpa using hi) h)
theorem vP_perm {D : va_G} {cl : List vw_C} {ws ws' : va_W} {H : Heap} (hp : ws.Perm ws') (h : va_P D cl ws H) : va_P D cl ws' H :=
  vP_iff.mpr fun q hq => vP_iff.mp h q (hp.mem_iff.mpr hq)
theorem vD_perm {A : Nat → Prop} {ws ws' : va_W} (hp : ws.Perm ws') (h : va_D A ws) : va_D A ws' := by
  rw [vD_iff] at h ⊢
  exact ⟨(hp.map Prod.fst).nodup_iff.mp h.1, fun q hq => h.2 q (hp.mem_iff.mpr hq)⟩
theorem Hx.perm {D : va_G} {g : Nat → ClassId} {s : State} {A : Nat → Prop} {H0 H : Heap} {ws ws' : va_W} {locs : List Loc} (h : Hx D g s A H0 ws H locs) (hp : ws.Perm ws') : Hx D g s A H0 ws' H locs :=
  ⟨h.1, vP_perm hp h.2.1, vD_perm hp h.2.2.1, h.2.2.2⟩
theorem Hx.K {D : va_G} {g : Nat → ClassId} {s : State} {A : Nat → Prop} {H0 H : Heap} {ws : va_W} {locs : List Loc} (h : Hx D g s A H0 ws H locs) : va_K D vwCl (tysG g) s := h.1.1
theorem Hx.P {D : va_G} {g : Nat → ClassId} {s : State} {A : Nat → Prop} {H0 H : Heap} {ws : va_W} {locs : List Loc} (h : Hx D g s A H0 ws H locs) : va_P D vwCl ws H := h.2.1
theorem Hx.Dd {D : va_G} {g : Nat → ClassId} {s : State} {A : Nat → Prop} {H0 H : Heap} {ws : va_W} {locs : List Loc} (h : Hx D g s A H0 ws H locs) : va_D A ws := h.2.2.1
theorem Hx.S {D : va_G} {g : Nat → ClassId} {s : State} {A : Nat → Prop} {H0 H : Heap} {ws : va_W} {locs : List Loc} (h : Hx D g s A H0 ws H locs) : va_S A H0 H locs := h.2.2.2.1
theorem Hx.A {D : va_G} {g : Nat → ClassId} {s : State} {A : Nat → Prop} {H0 H : Heap} {ws : va_W} {locs : List Loc} (h : Hx D g s A H0 ws H locs) : ∀ q : Nat, H0.size ≤ q → A q := h.2.2.2.2
/-- equal counts of each cell: a permutation -/
theorem pm_g {α : Type} {l l' : List α} (h : ∀ p : α → Bool, l.countP p = l'.countP p) : l.Perm l' := by
  haveI : DecidableEq α := fun a b => Classical.propDecidable (a = b)
  rw [List.perm_iff_count]
  intro a
  exact h (fun x => x == a)
theorem pm {ws ws' : va_W} (h : ∀ p : Nat × va_E → Bool, ws.countP p = ws'.countP p) : ws.Perm ws' := pm_g h
theorem cp_c {p : Nat × va_E → Bool} (a : Nat × va_E) (l : va_W) : (a :: l).countP p = [a].countP p + l.countP p := by
  rw [show a :: l = [a] ++ l from rfl, List.countP_append]
/-- a world of one cell, as a name -/
def wOne (a : Nat × va_E) : va_W := [a]
theorem cp_o {p : Nat × va_E → Bool} (a : Nat × va_E) (l : va_W) : (a :: l).countP p = (wOne a).countP p + l.countP p := cp_c a l
/-! a method's end, its contract -/
def QV {S : Type} (rv : S → Option Value) (post : S → Prop) (B : S → State → Prop) (A : Nat → Prop) : Array Value → State → Outcome → State → Prop := fun _ st oc t => (∃ u : S, oc = .returned (rv u) ∧ post u ∧ B u t) ∧ va_F A st t
def Pw (D : va_G) (g : Nat → ClassId) (args : List Value) (wc : va_W) (sz : Nat) : Array Value → State → Prop := va_Pc args (fun U => U.heap.size = sz ∧ va_P D vwCl wc U.heap ∧ Kx D g U ∧ va_D (fun _ => True) wc)
theorem Pw_blind {D : va_G} {g : Nat → ClassId} {args : List Value} {wc : va_W} {sz : Nat} : FrameBlind (Pw D g args wc sz) := fun a U fr mk q => by
  obtain ⟨q0, q1, qP, qK, qD⟩ := q
  exact ⟨q0, q1, qP, ⟨va_K.moved (u := U) (U := U.calling fr mk a) (Vm.Alike.refl U.vm) qK.1, Nst.same rfl qK.2⟩, qD⟩
def Bw {S : Type} (D : va_G) (g : Nat → ClassId) (A : Nat → Prop) (w1 : S → va_W) : S → State → Prop := fun u t => va_P D vwCl (w1 u) t.heap ∧ va_D A (w1 u)
/-- THE CONTRACT of a method: from the world wc and these arguments it returns rv u, for some u of which post holds, the world being w1 u -/
def Ct {S : Type} (l : Launch) (D : va_G) (g : Nat → ClassId) (y : MethodName) (cc : ByteArray) (n : Nat) (r : Option FieldType) (rm : Room) (args : List Value) (wc : va_W) (rv : S → Option Value) (post : S → Prop) (w1 : S → va_W) : Prop :=
  ∀ sz, Met l y (wd y cc n r) rm (Pw D g args wc sz) (QV rv post (Bw D g (va_A wc sz) w1) (va_A wc sz)) rm.cells rm.slots (va_A wc sz)
set_option maxHeartbeats 4000000 in
theorem Ct.of {S : Type} {l : Launch} {D : va_G} {g : Nat → ClassId} {y : MethodName} {cc : ByteArray} {n : Nat} {r : Option FieldType} {rm : Room} {args : List Value} {wc : va_W} {rv : S → Option Value} {post : S → Prop} {w1 : S → va_W}
    (own : String) (hown : y.cls = own) (hy : plainName y.cls = true) (lv : List (Nat × Value)) (hlv : lv_args 0 args = lv) (hn : (lg_sl args).length ≤ n)
    (body : ∀ (p : Program) (e : Env) (s : State) (m : MethodId) (below : List Frame) (meth : Method) (c : Code) (A : Nat → Prop) (ls : Array Slot) (ar : Array Value) (Q : State → Prop),
      Cx p m c cc n s ar own → meth.sig.returnType = r → meth.locks = false → meth.name = y.name → Q = MQ below (QV rv post (Bw D g A w1) A) ar s rm.cells rm.slots A → Hx D g s A s.heap wc s.heap [] → lv_has ls n lv →
      W p l e rm s m ar below meth c s.heap [] 0 0 Q (F0 m 0 ls [])) : Ct l D g y cc n r rm args wc rv post w1 := by
  intro sz
  refine Met.ofW (cc := cc) (maxL := n) (ret := r) hy rfl ?_
  intro p e s m a below meth c s₁ B hml hv
  obtain ⟨rfl, hsz, hP, hK, hD0⟩ := hv
  have hts := atoms_spec (ws := wd y cc n r) B.pre
  have hown2 : s.vm.findClass own = some m.cls := hown ▸ findClass_of_methodNamed B.named
  have hl := lv_entry args (n := n) hn
  rw [hlv] at hl
  rw [lg_entry_eq]
  subst hsz
  have hD := hD0.self (sz := s.heap.size)
  exact body p e s m below meth c _ _ _ _ ⟨B.exec, B.bytes, hml, hown2, fun w hw => hts w (List.mem_cons_of_mem _ hw)⟩ B.returns B.notSynchronized (name_of_methodNamed B.named B.method).1 rfl ⟨hK, hP, hD, va_S.rf, fun q h => Or.inr h⟩ hl
section BASE
variable {p : Program} {l : Launch} {e : Env} {R : Room} {s : State} {m : MethodId} {args : Array Value} {below : List Frame} {meth : Method} {c : Code} {H H0 : Heap} {locs : List Loc} {cells slots : Nat} {Q : State → Prop}
variable {cc : ByteArray} {pc : Nat} {ls : Array Slot} {rest : List Value} {D : va_G} {g : Nat → ClassId} {A : Nat → Prop} {ws ws' : va_W} {nL : Nat} {own : String}
/-! returns -/
theorem r_done {S : Type} {rv : S → Option Value} {post : S → Prop} {w1 : S → va_W} {mc ms : Nat} (h : Hx D g s A s.heap ws H locs) (u : S) {v : Option Value} (hv : v = rv u) (hp : post u) (hw : ws.Perm (w1 u)) (t : State) (ht : t.heap = H) (hW : s.WarmedH t.vm) : QV rv post (Bw D g A w1) A args s (.returned v) t := by
  subst hv
  exact ⟨⟨u, rfl, hp, by rw [ht]; exact vP_perm hw h.2.1, vD_perm hw h.2.2.1⟩, h.2.2.2.1.F ht⟩
theorem r_iret {S : Type} {rv : S → Option Value} {post : S → Prop} {w1 : S → va_W} {mc ms : Nat} (C : Cx p m c cc nL s args own) (hQ : Q = MQ below (QV rv post (Bw D g A w1) A) args s mc ms A) (hr : meth.sig.returnType = some .int) (hlk : meth.locks = false) (h : Hx D g s A s.heap ws H locs) (hdg : decode cc pc = .ok (.ireturn, 1)) {v : Int32}
    (u : S) (hv : some (.int v) = rv u) (hw : ws.Perm (w1 u)) (hp : post u) (h1 : cells ≤ mc) (h2 : slots ≤ ms) : W p l e R s m args below meth c H locs cells slots Q (F0 m pc ls [.int v]) := by
  subst hQ
  exact W.widen h1 h2 (W.iret C.1 C.2.1 hr (fun t ht hW => r_done (mc := 0) (ms := 0) h u hv hp hw t ht hW) h.S.2.2 hdg hlk)
theorem r_lret {S : Type} {rv : S → Option Value} {post : S → Prop} {w1 : S → va_W} {mc ms : Nat} (C : Cx p m c cc nL s args own) (hQ : Q = MQ below (QV rv post (Bw D g A w1) A) args s mc ms A) (hr : meth.sig.returnType = some .long) (hlk : meth.locks = false) (h : Hx D g s A s.heap ws H locs) (hdg : decode cc pc = .ok (.lreturn, 1)) {v : Int64}
    (u : S) (hv : some (.long v) = rv u) (hw : ws.Perm (w1 u)) (hp : post u) (h1 : cells ≤ mc) (h2 : slots ≤ ms) : W p l e R s m args below meth c H locs cells slots Q (F0 m pc ls [.long v]) := by
  subst hQ
  exact W.widen h1 h2 (W.lret C.1 C.2.1 hr (fun t ht hW => r_done (mc := 0) (ms := 0) h u hv hp hw t ht hW) h.S.2.2 hdg hlk)
theorem r_vret {S : Type} {rv : S → Option Value} {post : S → Prop} {w1 : S → va_W} {mc ms : Nat} (C : Cx p m c cc nL s args own) (hQ : Q = MQ below (QV rv post (Bw D g A w1) A) args s mc ms A) (hr : meth.sig.returnType = none) (hlk : meth.locks = false) (h : Hx D g s A s.heap ws H locs) (hdg : decode cc pc = .ok (.return_, 1))
    (u : S) (hv : none = rv u) (hw : ws.Perm (w1 u)) (hp : post u) (h1 : cells ≤ mc) (h2 : slots ≤ ms) : W p l e R s m args below meth c H locs cells slots Q (F0 m pc ls []) := by
  subst hQ
  exact W.widen h1 h2 (W.vret C.1 C.2.1 hr (fun t ht hW => r_done (mc := 0) (ms := 0) h u hv hp hw t ht hW) h.S.2.2 hdg hlk)
theorem r_aret {S : Type} {rv : S → Option Value} {post : S → Prop} {w1 : S → va_W} {mc ms : Nat} {C0 : String} (C : Cx p m c cc nL s args own) (hQ : Q = MQ below (QV rv post (Bw D g A w1) A) args s mc ms A) (hr : meth.sig.returnType = some (.object C0)) (hlk : meth.locks = false) (h : Hx D g s A s.heap ws H locs) (hdg : decode cc pc = .ok (.areturn, 1)) {v : Nat}
    (u : S) (hv : some (.ref v) = rv u) (hw : ws.Perm (w1 u)) (hp : post u) (h1 : cells ≤ mc) (h2 : slots ≤ ms) : W p l e R s m args below meth c H locs cells slots Q (F0 m pc ls [.ref v]) := by
  subst hQ
  exact W.widen h1 h2 (W.aret C.1 C.2.1 hr (Or.inl ⟨_, rfl⟩) (Or.inr ⟨_, rfl⟩) (fun t ht hW => r_done (mc := 0) (ms := 0) h u hv hp hw t ht hW) h.S.2.2 hdg hlk)
/-- a boolean as the machine has it -/
def bI (b : Bool) : Int32 := if b then 1 else 0
theorem bI_t : bI true = 1 := rfl
theorem bI_f : bI false = 0 := rfl
theorem bI_nar (b : Bool) : narrow .boolean (.int (bI b)) = .int (bI b) := by cases b <;> rfl
theorem bI_0 {b : Bool} : bI b = 0 ↔ b = false := by cases b <;> decide
theorem bI_inj {a b : Bool} : bI a = bI b ↔ a = b := by cases a <;> cases b <;> decide
theorem bI_1 : (1 : Int32) = bI true := rfl
theorem bI_00 : (0 : Int32) = bI false := rfl
theorem r_zret {S : Type} {rv : S → Option Value} {post : S → Prop} {w1 : S → va_W} {mc ms : Nat} (C : Cx p m c cc nL s args own) (hQ : Q = MQ below (QV rv post (Bw D g A w1) A) args s mc ms A) (hr : meth.sig.returnType = some .boolean) (hlk : meth.locks = false) (h : Hx D g s A s.heap ws H locs) (hdg : decode cc pc = .ok (.ireturn, 1)) {v : Int32} (b : Bool) (hb : v = bI b)
    (u : S) (hv : some (.int v) = rv u) (hw : ws.Perm (w1 u)) (hp : post u) (h1 : cells ≤ mc) (h2 : slots ≤ ms) : W p l e R s m args below meth c H locs cells slots Q (F0 m pc ls [.int v]) := by
  subst hQ
  exact W.widen h1 h2 (W.zret C.1 C.2.1 hr (by rw [hb]; exact bI_nar b) (fun t ht hW => r_done (mc := 0) (ms := 0) h u hv hp hw t ht hW) h.S.2.2 hdg hlk)
/-! calls -/
theorem r_call {S : Type} {rv : S → Option Value} {post : S → Prop} {w1 ws2 : S → va_W} {wc wr : va_W} {mc ms : Nat} {a : Array Value} {st0 : List Value} (k n : Nat)
    (hr : va_Run p l e R s m args below meth c H locs cells slots mc ms (F0 m pc ls st0) rest (QV rv post (Bw D g (va_A wc H.size) w1) (va_A wc H.size) a) (va_A wc H.size))
    (h : Hx D g s A H0 ws H locs) (hp : ws.Perm (wc ++ wr)) (hq : ∀ u, (w1 u ++ wr).Perm (ws2 u)) (hk : cells + mc ≤ k) (hn : slots + ms ≤ n)
    (kk : ∀ (u : S) (H1 : Heap) (locs1 : List Loc), post u → H.size ≤ H1.size → Hx D g s A H0 (ws2 u) H1 locs1 → W p l e R s m args below meth c H1 locs1 k n Q (F0 m (pc + 3) ls ((rv u).toList ++ rest))) : W p l e R s m args below meth c H locs cells slots Q (F0 m pc ls st0) := by
  obtain ⟨hK, hP, hD, hS, hA⟩ := h
  have hP2 := vP_perm hp hP
  have hD2 := vD_perm hp hD
  have hDi := vD_iff.mp hD2
  rw [List.map_append, List.nodup_append] at hDi
  have hF : ∀ q, va_A wc H.size q → A q := by
    rintro q (⟨k1, e1, h1⟩ | h1)
    · exact hDi.2 (q, e1) (List.mem_append_left _ (List.mem_of_getElem? h1))
    · exact hA q (Nat.le_trans hS.1 h1)
  have hap : ∀ q ∈ wr, q.1 < H.size ∧ ¬ va_A wc H.size q.1 := by
    intro q hq1
    have hlt : q.1 < H.size := (vP_iff.mp hP2 q (List.mem_append_right _ hq1)).lt
    refine ⟨hlt, ?_⟩
    rintro (⟨k1, e1, h1⟩ | h1)
    · exact hDi.1.2.2 q.1 (List.mem_map.mpr ⟨(q.1, e1), List.mem_of_getElem? h1, rfl⟩) q.1 (List.mem_map.mpr ⟨q, hq1, rfl⟩) rfl
    · omega
  intro T hT X
  obtain ⟨v, st₀, t, T', L, h0, X', hL, e1, e2, ⟨⟨u, hv, hpo, hbP, hbD⟩, hz, hkk⟩, st⟩ := hr T hT X
  cases hv
  rw [h0] at hz hkk
  have hal : s.vm.Alike t.vm := by rw [← e2]; exact X'.warmed.alike
  have hbDi := vD_iff.mp hbD
  have hP3 : va_P D vwCl (w1 u ++ wr) T'.heap := by
    rw [e1]
    refine va_P.app hbP (vP_iff.mpr fun q hq1 => ?_)
    exact (vP_iff.mp hP2 q (List.mem_append_right _ hq1)).kept (hkk q.1 (hap q hq1).1 (hap q hq1).2)
  have hD3 : va_D A (w1 u ++ wr) := by
    refine vD_iff.mpr ⟨?_, fun q hq1 => ?_⟩
    · rw [List.map_append, List.nodup_append]
      refine ⟨hbDi.1, hDi.1.2.1, fun x hx y hy hxy => ?_⟩
      obtain ⟨q1, hq1, rfl⟩ := List.mem_map.mp hx
      obtain ⟨q2, hq2, rfl⟩ := List.mem_map.mp hy
      exact (hap q2 hq2).2 (by rw [← hxy]; exact hbDi.2 q1 hq1)
    · rcases List.mem_append.mp hq1 with h1 | h1
      · exact hF _ (hbDi.2 q h1)
      · exact hDi.2 q (List.mem_append_right _ h1)
  have hS3 : va_S A H0 T'.heap (locs ++ L) := ⟨Nat.le_trans hS.1 (by rw [e1]; exact hz), fun q h1 h2 => by
      rw [e1, hkk q (Nat.lt_of_lt_of_le h1 hS.1) (fun z => h2 (hF q z))]; exact hS.2.1 q h1 h2, fun q hq => by
      rcases List.mem_append.mp hq with h | h
      · exact hS.2.2 q h
      · exact hF _ (hL q h)⟩
  obtain ⟨t2, a1, b1⟩ := W.widen hk hn (kk u T'.heap (locs ++ L) hpo (by rw [e1]; exact hz) ⟨hK, vP_perm (hq u) hP3, vD_perm (hq u) hD3, hS3, hA⟩) T' rfl X'
  exact ⟨t2, st t2 a1, b1⟩
theorem r_pre {av : List Value} {wc wr : va_W} (h : Hx D g s A H0 ws H locs) (hp : ws.Perm (wc ++ wr)) : FrameBlind (Pw D g av wc H.size) ∧ ∀ U : State, U.heap = H → s.WarmedH U.vm → Pw D g av wc H.size av.toArray U := by
  refine ⟨Pw_blind, fun U hU hW => ⟨rfl, by rw [hU], ?_, ⟨va_K.moved hW.alike h.1.1, h.1.2.warm hW⟩, ?_⟩⟩
  · rw [hU]
    exact vP_iff.mpr fun q hq => vP_iff.mp (vP_perm hp h.2.1) q (List.mem_append_left _ hq)
  · have h2 := vD_iff.mp (vD_perm hp h.2.2.1)
    refine vD_iff.mpr ⟨?_, fun _ _ => trivial⟩
    have := h2.1
    rw [List.map_append, List.nodup_append] at this
    exact this.1
/-- what a call site says of the tables: virtual -/
theorem kV {ownr Cn : String} {idx maxL n : Nat} {y : MethodName} {bytes : ByteArray} {ret : Option FieldType} {rm : Room} (C : Cx p m c cc nL s args own) (hc : Cond.code y bytes maxL ret ∈ wsL_law) (hl : Cond.methodLink ownr idx y ∈ wsL_law) (hi : Cond.instanceMethod y ∈ wsL_law) (hs : Cond.selects Cn y y ∈ wsL_law) (hini : Cond.initialized y.cls ∈ wsL_law)
    (hd : y.cls ≠ "java/lang/invoke/MethodHandle" ∧ y.cls ≠ "java/lang/invoke/VarHandle" ∧ (parseMethodDescriptor y.desc).map (fun d => d.parameters.length) = some n) (hR : rm.frames + 1 ≤ R.frames ∧ 8 + (maxL + 11) + rm.locals ≤ R.locals) : CallW R s args ownr Cn idx y bytes maxL ret (wd y bytes maxL ret) rm rm.cells rm.slots n :=
  ⟨callB_of n C.2.2.2.2 (gIn hc) rfl rfl rfl (C.2.2.2.2 _ hini) (C.2.2.2.2 _ hl) hd hR, C.2.2.2.2 _ hi, C.2.2.2.2 _ hs⟩
theorem kS {ownr : String} {idx maxL n : Nat} {y : MethodName} {bytes : ByteArray} {ret : Option FieldType} {rm : Room} (C : Cx p m c cc nL s args own) (hc : Cond.code y bytes maxL ret ∈ wsL_law) (hl : Cond.methodLink ownr idx y ∈ wsL_law) (hi : Cond.static y ∈ wsL_law) (hini : Cond.initialized y.cls ∈ wsL_law)
    (hd : y.cls ≠ "java/lang/invoke/MethodHandle" ∧ y.cls ≠ "java/lang/invoke/VarHandle" ∧ (parseMethodDescriptor y.desc).map (fun d => d.parameters.length) = some n) (hR : rm.frames + 1 ≤ R.frames ∧ 8 + (maxL + 11) + rm.locals ≤ R.locals) : CallB R s args ownr idx y bytes maxL ret (wd y bytes maxL ret) rm rm.cells rm.slots n ∧ (Cond.static y).before args s = true :=
  ⟨callB_of n C.2.2.2.2 (gIn hc) rfl rfl rfl (C.2.2.2.2 _ hini) (C.2.2.2.2 _ hl) hd hR, C.2.2.2.2 _ hi⟩
theorem kI {ownr : String} {idx maxL n : Nat} {y : MethodName} {bytes : ByteArray} {rm : Room} (C : Cx p m c cc nL s args own) (hc : Cond.code y bytes maxL none ∈ wsL_law) (hl : Cond.methodLink ownr idx y ∈ wsL_law) (hi : Cond.instanceMethod y ∈ wsL_law) (hini : Cond.initialized y.cls ∈ wsL_law) (hy1 : y.name = "<init>")
    (hd : y.cls ≠ "java/lang/invoke/MethodHandle" ∧ y.cls ≠ "java/lang/invoke/VarHandle" ∧ (parseMethodDescriptor y.desc).map (fun d => d.parameters.length) = some n) (hR : rm.frames + 1 ≤ R.frames ∧ 8 + (maxL + 11) + rm.locals ≤ R.locals) : CallB R s args ownr idx y bytes maxL none (wd y bytes maxL none) rm rm.cells rm.slots n ∧ y.name = "<init>" ∧ (Cond.instanceMethod y).before args s = true :=
  ⟨callB_of n C.2.2.2.2 (gIn hc) rfl rfl rfl (C.2.2.2.2 _ hini) (C.2.2.2.2 _ hl) hd hR, hy1, C.2.2.2.2 _ hi⟩
theorem kIN {ownr host : String} {idx maxL n : Nat} {y : MethodName} {bytes : ByteArray} {rm : Room} (C : Cx p m c cc nL s args own) (hK : Kx D g s) (hc : Cond.code y bytes maxL none ∈ wsL_law) (hl : (ownr, idx, y, host) ∈ nstW) (hi : Cond.instanceMethod y ∈ wsL_law) (hini : Cond.initialized y.cls ∈ wsL_law) (hy1 : y.name = "<init>")
    (hd : y.cls ≠ "java/lang/invoke/MethodHandle" ∧ y.cls ≠ "java/lang/invoke/VarHandle" ∧ (parseMethodDescriptor y.desc).map (fun d => d.parameters.length) = some n) (hR : rm.frames + 1 ≤ R.frames ∧ 8 + (maxL + 11) + rm.locals ≤ R.locals) : va_CN R s args ownr idx y host bytes maxL none (wd y bytes maxL none) rm rm.cells rm.slots n ∧ y.name = "<init>" ∧ (Cond.instanceMethod y).before args s = true :=
  ⟨va_cnB n C.2.2.2.2 (gIn hc) rfl rfl rfl (hK.2.1 _ hl) (C.2.2.2.2 _ hini) hd hR, hy1, C.2.2.2.2 _ hi⟩
theorem r_invV {S : Type} {rv : S → Option Value} {post : S → Prop} {w1 ws2 : S → va_W} {wc wr : va_W} {y : MethodName} {bytes : ByteArray} {maxL idx n2 ci b : Nat} {ret : Option FieldType} {rm : Room} {Cn : vw_C} {fs As st0 : List Value} (k n : Nat)
    (C : Cx p m c cc nL s args own) (h : Hx D g s A H0 ws H locs) (hl : ls.size = nL) (ct : Ct l D g y bytes maxL ret rm (.ref b :: As) wc rv post w1) (cw : CallW R s args own Cn.1 idx y bytes maxL ret (wd y bytes maxL ret) rm rm.cells rm.slots n2)
    (hb : (b, .inr (ci, fs)) ∈ ws) (hci : vwCl[ci]? = some Cn) (hn2 : As.length = n2) (hst : st0 = As.reverse ++ .ref b :: rest) (hro : (rest.map fun v => v.category).sum ≤ 8) (hp : ws.Perm (wc ++ wr)) (hq : ∀ u, (w1 u ++ wr).Perm (ws2 u))
    (hf : cells + rm.cells ≤ R.cells ∧ slots + rm.slots ≤ R.slots) (hk : cells + rm.cells ≤ k) (hn : slots + rm.slots ≤ n) (hdg : decode cc pc = .ok (.invokevirtual idx, 3))
    (kk : ∀ (u : S) (H1 : Heap) (locs1 : List Loc), post u → H.size ≤ H1.size → Hx D g s A H0 (ws2 u) H1 locs1 → W p l e R s m args below meth c H1 locs1 k n Q (F0 m (pc + 3) ls ((rv u).toList ++ rest))) : W p l e R s m args below meth c H locs cells slots Q (F0 m pc ls st0) :=
  (List.getElem?_of_mem hb).elim fun q0 hq0 =>
  r_call k n (va_runV (As := As) (rest := rest) C (ct H.size) cw ⟨(r_pre (av := .ref b :: As) h hp).1, va_recv h.1.1 h.2.1 hci hq0, (r_pre (av := .ref b :: As) h hp).2⟩ rfl hn2 hl hst (lv_room hro) hdg hf) h hp hq hk hn kk
theorem r_invS {S : Type} {rv : S → Option Value} {post : S → Prop} {w1 ws2 : S → va_W} {wc wr : va_W} {y : MethodName} {bytes : ByteArray} {maxL idx n2 : Nat} {ret : Option FieldType} {rm : Room} {As st0 : List Value} (k n : Nat)
    (C : Cx p m c cc nL s args own) (h : Hx D g s A H0 ws H locs) (hl : ls.size = nL) (ct : Ct l D g y bytes maxL ret rm As wc rv post w1) (cw : CallB R s args own idx y bytes maxL ret (wd y bytes maxL ret) rm rm.cells rm.slots n2 ∧ (Cond.static y).before args s = true)
    (hn2 : As.length = n2) (hst : st0 = As.reverse ++ rest) (hro : (rest.map fun v => v.category).sum ≤ 8) (hp : ws.Perm (wc ++ wr)) (hq : ∀ u, (w1 u ++ wr).Perm (ws2 u))
    (hf : cells + rm.cells ≤ R.cells ∧ slots + rm.slots ≤ R.slots) (hk : cells + rm.cells ≤ k) (hn : slots + rm.slots ≤ n) (hdg : decode cc pc = .ok (.invokestatic idx, 3))
    (kk : ∀ (u : S) (H1 : Heap) (locs1 : List Loc), post u → H.size ≤ H1.size → Hx D g s A H0 (ws2 u) H1 locs1 → W p l e R s m args below meth c H1 locs1 k n Q (F0 m (pc + 3) ls ((rv u).toList ++ rest))) : W p l e R s m args below meth c H locs cells slots Q (F0 m pc ls st0) :=
  r_call k n (va_runS (As := As) (rest := rest) C (ct H.size) cw (r_pre (av := As) h hp) rfl hn2 hl hst (lv_room hro) hdg hf) h hp hq hk hn kk
theorem r_invI {S : Type} {rv : S → Option Value} {post : S → Prop} {w1 ws2 : S → va_W} {wc wr : va_W} {y : MethodName} {bytes : ByteArray} {maxL idx n2 b : Nat} {rm : Room} {As st0 : List Value} (k n : Nat)
    (C : Cx p m c cc nL s args own) (h : Hx D g s A H0 ws H locs) (hl : ls.size = nL) (ct : Ct l D g y bytes maxL none rm (.ref b :: As) wc rv post w1) (cw : CallB R s args own idx y bytes maxL none (wd y bytes maxL none) rm rm.cells rm.slots n2 ∧ y.name = "<init>" ∧ (Cond.instanceMethod y).before args s = true)
    (hn2 : As.length = n2) (hst : st0 = As.reverse ++ .ref b :: rest) (hro : (rest.map fun v => v.category).sum ≤ 8) (hp : ws.Perm (wc ++ wr)) (hq : ∀ u, (w1 u ++ wr).Perm (ws2 u))
    (hf : cells + rm.cells ≤ R.cells ∧ slots + rm.slots ≤ R.slots) (hk : cells + rm.cells ≤ k) (hn : slots + rm.slots ≤ n) (hdg : decode cc pc = .ok (.invokespecial idx, 3))
    (kk : ∀ (u : S) (H1 : Heap) (locs1 : List Loc), post u → H.size ≤ H1.size → Hx D g s A H0 (ws2 u) H1 locs1 → W p l e R s m args below meth c H1 locs1 k n Q (F0 m (pc + 3) ls ((rv u).toList ++ rest))) : W p l e R s m args below meth c H locs cells slots Q (F0 m pc ls st0) :=
  r_call k n (va_runI (As := As) (rest := rest) C (ct H.size) cw (r_pre (av := .ref b :: As) h hp) rfl hn2 hl hst (lv_room hro) hdg hf) h hp hq hk hn kk
theorem r_invIN {S : Type} {rv : S → Option Value} {post : S → Prop} {w1 ws2 : S → va_W} {wc wr : va_W} {y : MethodName} {bytes : ByteArray} {maxL idx n2 b : Nat} {host : String} {rm : Room} {As st0 : List Value} (k n : Nat)
    (C : Cx p m c cc nL s args own) (h : Hx D g s A H0 ws H locs) (hl : ls.size = nL) (ct : Ct l D g y bytes maxL none rm (.ref b :: As) wc rv post w1) (cw : va_CN R s args own idx y host bytes maxL none (wd y bytes maxL none) rm rm.cells rm.slots n2 ∧ y.name = "<init>" ∧ (Cond.instanceMethod y).before args s = true)
    (hn2 : As.length = n2) (hst : st0 = As.reverse ++ .ref b :: rest) (hro : (rest.map fun v => v.category).sum ≤ 8) (hp : ws.Perm (wc ++ wr)) (hq : ∀ u, (w1 u ++ wr).Perm (ws2 u))
    (hf : cells + rm.cells ≤ R.cells ∧ slots + rm.slots ≤ R.slots) (hk : cells + rm.cells ≤ k) (hn : slots + rm.slots ≤ n) (hdg : decode cc pc = .ok (.invokespecial idx, 3))
    (kk : ∀ (u : S) (H1 : Heap) (locs1 : List Loc), post u → H.size ≤ H1.size → Hx D g s A H0 (ws2 u) H1 locs1 → W p l e R s m args below meth c H1 locs1 k n Q (F0 m (pc + 3) ls ((rv u).toList ++ rest))) : W p l e R s m args below meth c H locs cells slots Q (F0 m pc ls st0) :=
  r_call k n (va_runIN (As := As) (rest := rest) C (ct H.size) cw (r_pre (av := .ref b :: As) h hp) rfl hn2 hl hst (lv_room hro) hdg hf) h hp hq hk hn kk
end BASE
