/-! THE LAW'S LOOP (the first rows begin with the skeleton's text) -/
def R_law : String := "TraceQuestionsLaw"
def lw_P (b : Addr) (xs : List Int32) (args : Array Value) (s : State) : Prop := args = #[.ref b] ∧ s.IntsAt b xs ∧ xs.length ≤ 448 ∧ (Jvm.Cond.and given_1 narrow_1).before args s = true
def lw_Q (_ : Array Value) (s : State) (o : Outcome) (t : State) : Prop := o = .returned (some (.int 1)) ∧ Framed s o t [] 600000 7302250
def lw_Z (below : List Frame) (a : Array Value) (s : State) : State → Prop := fun t => ∃ o, t.status = .running ∧ Ended t below o ∧ lw_Q a s o t
/-- the law's own end, with 1 on the stack, nothing written that was there before, its room as the claim has it -/
theorem lw_ret {p : Program} {l : Launch} {e : Env} {s : State} {m : MethodId} {below : List Frame} {meth : Method} {c : Code} {b : Nat} (hx : p.tables.exec = Jvm.exec) (hb : c.code = code) (hr : meth.sig.returnType = ret) (hlocks : meth.locks = false) {pc : Nat} {H : Heap} {ls : Array Slot} (hdg : decode code pc = .ok (.ireturn, 1)) : W p l e room_1 s m #[Value.ref b] below meth c H [] 600000 7302250 (lw_Z below #[Value.ref b] s) (F0 m pc ls [.int 1]) := by
  intro T hT X
  obtain ⟨fs, hret, hrun, hended, hW, hframe⟩ := X.leave (v := some (.int 1)) (hlocks := hlocks) (fun h => by rw [hr] at h; cases h)
  have hmeth' : T.vm.method? m = some meth := X.method'
  refine ⟨T.setFrames fs, ?_, .returned (some (.int 1)), hrun, hended, rfl, ⟨_, rfl⟩, hW, hframe⟩
  jvm_step X.here [X.here.top, hx, hb, hdg, hmeth', hr, ret, narrow_b1]
  (try refine ⟨rfl, ?_⟩); (try refine ⟨rfl, ?_⟩)
  first | (intro acts; rw [hret _ acts rfl rfl rfl]) | rw [hret _ _ rfl rfl rfl]
  exact Steps.refl _
/-- what holds at the law's entry: the machine, the code, the tables' words (any of lw_tbl by 'hts w (by decide +kernel)'), the script of L ints xs at the cell b, what the Statement gives of the start (any of its parts by flat_of_before) -/
def lw_At (p : Program) (s : State) (m : MethodId) (meth : Method) (c : Code) (b L : Nat) (xs : Nat → Int32) : Prop :=
  p.tables.exec = Jvm.exec ∧ c.code = code ∧ meth.sig.returnType = ret ∧ c.maxLocals = 4 ∧ s.vm.findClass R_law = some m.cls ∧ (∀ w ∈ lw_tbl, w.before #[Value.ref b] s = true) ∧ va_X b L xs s s.heap ∧ b < s.heap.size ∧ meth.locks = false ∧ (Jvm.Cond.and given_1 narrow_1).before #[Value.ref b] s = true

theorem and15 (x : Int32) : ∃ k : Nat, k < 16 ∧ x &&& iI 15 = iI (k : Int) := by
  have h1 : x.toBitVec.toNat &&& 15 ≤ 15 := Nat.and_le_right
  refine ⟨x.toBitVec.toNat &&& 15, by omega, ?_⟩
  apply Int32.toBitVec_inj.mp
  apply BitVec.eq_of_toNat_eq
  show (x.toBitVec &&& 15#32).toNat = (BitVec.ofInt 32 ((x.toBitVec.toNat &&& 15 : Nat) : Int)).toNat
  rw [BitVec.toNat_and, BitVec.ofInt_natCast, BitVec.toNat_ofNat]
  show x.toBitVec.toNat &&& 15 = (x.toBitVec.toNat &&& 15) % 2 ^ 32
  rw [Nat.mod_eq_of_lt (by omega)]
theorem linv_up {i : Nat} {sg : Nat} {kc : Nat} {mk : Nat → Bool} {cb : Int} {tm : Int} {an : Bool} {gn : Nat} {B : Nat → Nat → Nat → Bool} {Cn : Nat → Int} {n : Nat} {Vv : Nat → Nat → Int} {U : Nat → Nat → Int} {Dn : Nat → Nat → Int} {tx : Nat → Int} {r : RS} {A : QC} {F : FS} {Kf : Nat → KD} {ak : Nat} {ct : Nat} {who : Int} {gz : Bool} {FI : Nat → Int} {RO : Nat → Int} {RW : Nat → Int} {RK : Nat → Int} {AQ : Nat → Int} {KS : Nat → Int} {KT : Nat → Int} {KO : Nat → Int} {EV : Nat → Int} {DU : Nat → Int} {SA : Nat → Int} {FR : Nat → Int} {SE : Nat → Int} {rq : RS} {rr : Nat → RS} (h : LInv i sg kc mk cb tm an gn B Cn n Vv U Dn tx r A F Kf ak ct who gz FI RO RW RK AQ KS KT KO EV DU SA FR SE rq rr) : LInv (i + 1) sg kc mk cb tm an gn B Cn n Vv U Dn tx r A F Kf ak ct who gz FI RO RW RK AQ KS KT KO EV DU SA FR SE rq rr := by
  obtain ⟨hI, hR, ⟨hn, hgn, hsg⟩, hM5, hcb, htm, h2⟩ := h
  exact ⟨hI, hR, ⟨by omega, by omega, by omega⟩, hM5, hcb, ⟨htm.1, by omega⟩, h2⟩
