/-! what is made: objects, arrays, grids; the new cells come first in the world -/
theorem up0 : (fun _ : Nat => (0 : Int32)) = aI (fun _ => 0) := rfl
section NEW
variable {p : Program} {l : Launch} {e : Env} {R : Room} {s : State} {m : MethodId} {args : Array Value} {below : List Frame} {meth : Method} {c : Code} {H H0 : Heap} {locs : List Loc} {cells slots : Nat} {Q : State → Prop}
variable {cc : ByteArray} {pc : Nat} {ls : Array Slot} {rest : List Value} {D : va_G} {g : Nat → ClassId} {A : Nat → Prop} {ws : va_W} {nL : Nat} {own : String}
theorem r_new {idx N ci : Nat} {Cn : String} {T : u_T} {ty : Nat → FieldType} {fs : List Value} (k n : Nat) (C : Cx p m c cc nL s args own) (h : Hx D g s A H0 ws H locs) (hin : ∀ w ∈ u_ws Cn T N, w ∈ wsL_law) (hty : ∀ k, k < N → parseFieldDescriptor (T k).2.2.1 = some (ty k)) (hcl : Cond.classLink own idx Cn ∈ wsL_law) (hinst : Cond.instantiable Cn N ∈ wsL_law) (hini : Cond.initialized Cn ∈ wsL_law)
    (hc : vwCl[ci]? = some (Cn, T, N)) (hfs : ∀ j, j < N → defaultValue (ty j) = vp_V fs j) (hce : cells + 1 ≤ R.cells) (hsl : slots + N ≤ R.slots) (hk : cells + 1 ≤ k) (hn : slots + N ≤ n) (hdg : decode cc pc = .ok (.new idx, 3))
    (kk : ∀ (q : Nat) (H1 : Heap), Hx D g s A H0 ((q, .inr (ci, fs)) :: ws) H1 locs → W p l e R s m args below meth c H1 locs k n Q (F0 m (pc + 3) ls (.ref q :: rest))) : W p l e R s m args below meth c H locs cells slots Q (F0 m pc ls rest) :=
  va_new C.1 C.2.1 C.2.2.2.2 hin ty hty C.2.2.2.1 (C.2.2.2.2 _ hcl) (C.2.2.2.2 _ hinst) (C.2.2.2.2 _ hini) h.1.1 h.2.1 h.2.2.1 h.2.2.2.1 h.2.2.2.2 hc hfs hce hsl hdg (fun q H1 hP hD hS => W.widen hk hn (kk q H1 (Hx.perm ⟨h.1, hP, hD, hS, h.2.2.2.2⟩ List.perm_append_comm)))
theorem r_newI {z : Int} {N : Nat} (k n : Nat) (C : Cx p m c cc nL s args own) (h : Hx D g s A H0 ws H locs) (hz : z = (N : Int)) (hN : N ≤ 100000) (hce : cells + 1 ≤ R.cells) (hsl : slots + N ≤ R.slots) (hk : cells + 1 ≤ k) (hn : slots + N ≤ n) (hw : Cond.arrayClass .int ∈ wsL_law) (hdg : decode cc pc = .ok (.newarray .int, 2))
    (kk : ∀ (q : Nat) (H1 : Heap), Hx D g s A H0 ((q, cI g N (fun _ => 0)) :: ws) H1 locs → W p l e R s m args below meth c H1 locs k n Q (F0 m (pc + 2) ls (.ref q :: rest))) : W p l e R s m args below meth c H locs cells slots Q (F0 m pc ls (.int (iI z) :: rest)) := by
  have hR : R32 z := by constructor <;> omega
  refine va_newa (atype := .int) (N' := N) (a0 := (N, .inl (aI fun _ => 0))) C.1 C.2.1 (C.2.2.2.2 _ hw) rfl h.1.1 h.2.1 h.2.2.1 h.2.2.2.1 h.2.2.2.2 (fun _ => rfl) (by rw [Int32.lt_iff_toInt_lt, iI_toInt hR, Int32.toInt_zero]; omega) (by show (iI z).toInt.toNat = N; rw [iI_toInt hR]; omega) (by show N * 4 ≤ 536870912; omega) hce hsl hdg (fun q cA H1 hK hP hD hS => ?_)
  have e : cA = g 0 := by
    have h1 : s.vm.findClass ("[" ++ FieldType.int.toString) = some cA := (hK.2 6 (cA, .int) rfl).2
    have h2 : s.vm.findClass ("[" ++ FieldType.int.toString) = some (g 0) := (h.1.1.2 0 (g 0, .int) rfl).2
    exact Option.some.inj (h1.symm.trans h2)
  subst e
  exact W.widen hk hn (kk q H1 (Hx.perm ⟨h.1, hP, hD, hS, h.2.2.2.2⟩ List.perm_append_comm))
theorem r_newC {z : Int} {N : Nat} (k n : Nat) (C : Cx p m c cc nL s args own) (h : Hx D g s A H0 ws H locs) (hz : z = (N : Int)) (hN : N ≤ 100000) (hce : cells + 1 ≤ R.cells) (hsl : slots + N ≤ R.slots) (hk : cells + 1 ≤ k) (hn : slots + N ≤ n) (hw : Cond.arrayClass .char ∈ wsL_law) (hdg : decode cc pc = .ok (.newarray .char, 2))
    (kk : ∀ (q : Nat) (H1 : Heap), Hx D g s A H0 ((q, cC g N (fun _ => 0)) :: ws) H1 locs → W p l e R s m args below meth c H1 locs k n Q (F0 m (pc + 2) ls (.ref q :: rest))) : W p l e R s m args below meth c H locs cells slots Q (F0 m pc ls (.int (iI z) :: rest)) := by
  have hR : R32 z := by constructor <;> omega
  refine va_newa (atype := .char) (N' := N) (a0 := (N, .inl (aI fun _ => 0))) C.1 C.2.1 (C.2.2.2.2 _ hw) rfl h.1.1 h.2.1 h.2.2.1 h.2.2.2.1 h.2.2.2.2 (fun _ => rfl) (by rw [Int32.lt_iff_toInt_lt, iI_toInt hR, Int32.toInt_zero]; omega) (by show (iI z).toInt.toNat = N; rw [iI_toInt hR]; omega) (by show N * 2 ≤ 536870912; omega) hce hsl hdg (fun q cA H1 hK hP hD hS => ?_)
  have e : cA = g 1 := by
    have h1 : s.vm.findClass ("[" ++ FieldType.char.toString) = some cA := (hK.2 6 (cA, .char) rfl).2
    have h2 : s.vm.findClass ("[" ++ FieldType.char.toString) = some (g 1) := (h.1.1.2 1 (g 1, .char) rfl).2
    exact Option.some.inj (h1.symm.trans h2)
  subst e
  exact W.widen hk hn (kk q H1 (Hx.perm ⟨h.1, hP, hD, hS, h.2.2.2.2⟩ List.perm_append_comm))
theorem r_newZ {z : Int} {N : Nat} (k n : Nat) (C : Cx p m c cc nL s args own) (h : Hx D g s A H0 ws H locs) (hz : z = (N : Int)) (hN : N ≤ 100000) (hce : cells + 1 ≤ R.cells) (hsl : slots + N ≤ R.slots) (hk : cells + 1 ≤ k) (hn : slots + N ≤ n) (hw : Cond.arrayClass .boolean ∈ wsL_law) (hdg : decode cc pc = .ok (.newarray .boolean, 2))
    (kk : ∀ (q : Nat) (H1 : Heap), Hx D g s A H0 ((q, cZ g N (fun _ => false)) :: ws) H1 locs → W p l e R s m args below meth c H1 locs k n Q (F0 m (pc + 2) ls (.ref q :: rest))) : W p l e R s m args below meth c H locs cells slots Q (F0 m pc ls (.int (iI z) :: rest)) := by
  have hR : R32 z := by constructor <;> omega
  refine va_newa (atype := .boolean) (N' := N) (a0 := (N, .inl (aB fun _ => false))) C.1 C.2.1 (C.2.2.2.2 _ hw) rfl h.1.1 h.2.1 h.2.2.1 h.2.2.2.1 h.2.2.2.2 (fun _ => rfl) (by rw [Int32.lt_iff_toInt_lt, iI_toInt hR, Int32.toInt_zero]; omega) (by show (iI z).toInt.toNat = N; rw [iI_toInt hR]; omega) (by show N * 1 ≤ 536870912; omega) hce hsl hdg (fun q cA H1 hK hP hD hS => ?_)
  have e : cA = g 2 := by
    have h1 : s.vm.findClass ("[" ++ FieldType.boolean.toString) = some cA := (hK.2 6 (cA, .boolean) rfl).2
    have h2 : s.vm.findClass ("[" ++ FieldType.boolean.toString) = some (g 2) := (h.1.1.2 2 (g 2, .boolean) rfl).2
    exact Option.some.inj (h1.symm.trans h2)
  subst e
  exact W.widen hk hn (kk q H1 (Hx.perm ⟨h.1, hP, hD, hS, h.2.2.2.2⟩ List.perm_append_comm))
theorem r_newJ {z : Int} {N : Nat} (k n : Nat) (C : Cx p m c cc nL s args own) (h : Hx D g s A H0 ws H locs) (hz : z = (N : Int)) (hN : N ≤ 100000) (hce : cells + 1 ≤ R.cells) (hsl : slots + N ≤ R.slots) (hk : cells + 1 ≤ k) (hn : slots + N ≤ n) (hw : Cond.arrayClass .long ∈ wsL_law) (hdg : decode cc pc = .ok (.newarray .long, 2))
    (kk : ∀ (q : Nat) (H1 : Heap), Hx D g s A H0 ((q, cJ g N (fun _ => 0)) :: ws) H1 locs → W p l e R s m args below meth c H1 locs k n Q (F0 m (pc + 2) ls (.ref q :: rest))) : W p l e R s m args below meth c H locs cells slots Q (F0 m pc ls (.int (iI z) :: rest)) := by
  have hR : R32 z := by constructor <;> omega
  refine va_newa (atype := .long) (N' := N) (a0 := (N, .inr (.inl (aL fun _ => 0)))) C.1 C.2.1 (C.2.2.2.2 _ hw) rfl h.1.1 h.2.1 h.2.2.1 h.2.2.2.1 h.2.2.2.2 (fun _ => rfl) (by rw [Int32.lt_iff_toInt_lt, iI_toInt hR, Int32.toInt_zero]; omega) (by show (iI z).toInt.toNat = N; rw [iI_toInt hR]; omega) (by show N * 8 ≤ 536870912; omega) hce hsl hdg (fun q cA H1 hK hP hD hS => ?_)
  have e : cA = g 3 := by
    have h1 : s.vm.findClass ("[" ++ FieldType.long.toString) = some cA := (hK.2 6 (cA, .long) rfl).2
    have h2 : s.vm.findClass ("[" ++ FieldType.long.toString) = some (g 3) := (h.1.1.2 3 (g 3, .long) rfl).2
    exact Option.some.inj (h1.symm.trans h2)
  subst e
  exact W.widen hk hn (kk q H1 (Hx.perm ⟨h.1, hP, hD, hS, h.2.2.2.2⟩ List.perm_append_comm))
theorem r_newq {idx : Nat} {z : Int} {N : Nat} (k n : Nat) (C : Cx p m c cc nL s args own) (h : Hx D g s A H0 ws H locs) (hz : z = (N : Int)) (hN : N ≤ 100000) (hce : cells + 1 ≤ R.cells) (hsl : slots + N ≤ R.slots) (hk : cells + 1 ≤ k) (hn : slots + N ≤ n) (hcl : Cond.classLink own idx "TraceQuestions$Kept" ∈ wsL_law) (hdg : decode cc pc = .ok (.anewarray idx, 3))
    (kk : ∀ (q : Nat) (H1 : Heap), Hx D g s A H0 ((q, cQ g N (fun _ => none)) :: ws) H1 locs → W p l e R s m args below meth c H1 locs k n Q (F0 m (pc + 3) ls (.ref q :: rest))) : W p l e R s m args below meth c H locs cells slots Q (F0 m pc ls (.int (iI z) :: rest)) := by
  have hR : R32 z := by constructor <;> omega
  refine va_newq (C := "TraceQuestions$Kept") (N' := N) C.1 C.2.1 C.2.2.2.1 (C.2.2.2.2 _ hcl) h.1.2.2.1 h.1.1 h.2.1 h.2.2.1 h.2.2.2.1 h.2.2.2.2 (by rw [Int32.lt_iff_toInt_lt, iI_toInt hR, Int32.toInt_zero]; omega) (by show (iI z).toInt.toNat = N; rw [iI_toInt hR]; omega) (by omega) hce hsl hdg (fun q cA H1 hK hP hD hS => ?_)
  have e : cA = g 5 := by
    obtain ⟨kA, comp, -, -, -, h1⟩ := (hK.2 6 (cA, .object "TraceQuestions$Kept") rfl).2
    obtain ⟨kA2, comp2, -, -, -, h2⟩ := (h.1.1.2 5 (g 5, .object "TraceQuestions$Kept") rfl).2
    exact Option.some.inj (h1.symm.trans h2)
  subst e
  exact W.widen hk hn (kk q H1 (Hx.perm ⟨h.1, hP, hD, hS, h.2.2.2.2⟩ List.perm_append_comm))
theorem r_grid {idx : Nat} {z1 z2 : Int} {N M : Nat} (k n : Nat) (C : Cx p m c cc nL s args own) (h : Hx D g s A H0 ws H locs) (hz1 : z1 = (N : Int)) (hz2 : z2 = (M : Int)) (hN : N ≤ 1000) (hM : M ≤ 1000) (hce : cells + (1 + N) ≤ R.cells) (hsl : slots + (N + N * M) ≤ R.slots) (hk : cells + 1 + N ≤ k) (hn : slots + N + N * M ≤ n) (hcl : Cond.classLink own idx "[[I" ∈ wsL_law) (hw : Cond.arrayClass .int ∈ wsL_law) (hdg : decode cc pc = .ok (.multianewarray idx 2, 4))
    (kk : ∀ (q : Nat) (r : Nat → Nat) (H1 : Heap), Hx D g s A H0 ((q, cG g N r) :: (ws ++ sG g r N M (fun _ _ => 0))) H1 locs → W p l e R s m args below meth c H1 locs k n Q (F0 m (pc + 4) ls (.ref q :: rest))) : W p l e R s m args below meth c H locs cells slots Q (F0 m pc ls (.int (iI z2) :: .int (iI z1) :: rest)) := by
  have hR1 : R32 z1 := by constructor <;> omega
  have hR2 : R32 z2 := by constructor <;> omega
  have hcy : s.vm.findClass (FieldType.array .int).toString = some (g 0) := (h.1.1.2 0 (g 0, .int) rfl).2
  refine va_mna (X := ws) (L := []) (f := fun _ => cI g 0 (fun _ => 0)) (ty := .int) (cy := g 0) (N' := N) (K' := M) (z := (M, .inl (aI fun _ => 0))) C.1 C.2.1 C.2.2.2.1 (C.2.2.2.2 _ hcl) h.1.2.2.2 (C.2.2.2.2 _ hw) hcy h.1.1 (by show va_P D vwCl (ws ++ []) H; rw [List.append_nil]; exact h.2.1) (by show va_D A (ws ++ []); rw [List.append_nil]; exact h.2.2.1) h.2.2.2.1 h.2.2.2.2
    (by rw [Int32.lt_iff_toInt_lt, iI_toInt hR1, Int32.toInt_zero]; omega) (by rw [Int32.lt_iff_toInt_lt, iI_toInt hR2, Int32.toInt_zero]; omega) (by show (iI z1).toInt.toNat = N; rw [iI_toInt hR1]; omega) (by show (iI z2).toInt.toNat = M; rw [iI_toInt hR2]; omega) (by omega) (by show M * 4 ≤ 536870912; omega) (by omega) rfl rfl hce hsl (fun c0 => ?_) hdg (fun q r cA H1 hinj hni hK hP hD hS => ?_)
  · show ({ cls := c0, slots := Array.replicate M (.int 0), vm := .none } : Cell) = _
    rw [arrV_new]
    rfl
  · have e : cA = g 4 := by
      have h1 : s.vm.findClass ("[" ++ (FieldType.array .int).toString) = some cA := (hK.2 6 (cA, .array .int) rfl).2
      have h2 : s.vm.findClass ("[" ++ (FieldType.array .int).toString) = some (g 4) := (h.1.1.2 4 (g 4, .array .int) rfl).2
      exact Option.some.inj (h1.symm.trans h2)
    subst e
    have e2 : va_pl ([] ++ (List.range N).map r) (vr_up (fun _ => cI g 0 (fun _ => 0)) ((List.range N).map r) (.inl (g 0, (M, .inl (aI fun _ => 0))))) = sG g r N M (fun _ _ => 0) := by
      unfold va_pl sG
      rw [List.nil_append, List.map_map]
      apply List.map_congr_left
      intro i hi
      show (r i, vr_up (fun _ => cI g 0 (fun _ => 0)) ((List.range N).map r) (.inl (g 0, (M, .inl (aI fun _ => 0)))) (r i)) = _
      rw [vr_up_in (List.mem_map.mpr ⟨i, hi, rfl⟩)]
      rfl
    rw [e2] at hP hD
    refine W.widen hk hn (kk q r H1 (Hx.perm (ws := (ws ++ [(q, cG g N r)]) ++ sG g r N M (fun _ _ => 0)) ⟨h.1, hP, hD, hS, h.2.2.2.2⟩ (pm fun cp_q => by simp only [cp_o, List.countP_append, List.countP_nil] <;> omega)))
end NEW
