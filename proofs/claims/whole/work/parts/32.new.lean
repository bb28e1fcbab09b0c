/-! objects and arrays that are made -/
theorem oi_im : Cond.instanceMethod Lib.objectInit ∈ WT := wt_of 64 (by decide +kernel) rfl
theorem oi_cd : Cond.code Lib.objectInit ⟨#[0xb1]⟩ 1 none ∈ WT := wt_of 65 (by decide +kernel) rfl
theorem oi_X8 : Cond.methodLink RX8 3 Lib.objectInit ∈ WT := wt_of 63 (by decide +kernel) rfl
theorem oi_X0 : Cond.methodLink RX0 3 Lib.objectInit ∈ WT := wt_of 71 (by decide +kernel) rfl
theorem oi_X4 : Cond.methodLink RX4 3 Lib.objectInit ∈ WT := wt_of 107 (by decide +kernel) rfl
theorem oi_X3 : Cond.methodLink RX3 3 Lib.objectInit ∈ WT := wt_of 141 (by decide +kernel) rfl
theorem oi_X5 : Cond.methodLink RX5 1 Lib.objectInit ∈ WT := wt_of 290 (by decide +kernel) rfl
theorem oi_X9 : Cond.methodLink RX9 1 Lib.objectInit ∈ WT := wt_of 734 (by decide +kernel) rfl
section NRows
variable {Z : LZ} {J : MD} {E : State → Array Value → (Nat → Prop) → Prop} {Q : List Frame → Array Value → State → (Nat → Prop) → State → Prop} {pc : Nat} {ls st : List Value} {ws : va_W} {k n : Nat}
theorem g_objInit {i a : Nat} (d : decode J.2.1 pc = .ok (.invokespecial i, 3)) (hl : Cond.methodLink J.1.cls i Lib.objectInit ∈ WT) (h1 : 1 ≤ J.2.2.2.2.frames) (h2 : (st.map fun v => v.category).sum + 12 ≤ J.2.2.2.2.locals) (K : G Z J E Q (pc + 3) ls st ws k n) : G Z J E Q pc ls (.ref a :: st) ws k n := by
  intro p l e s m args below meth c A H locs lsA C hE hP hD hS hL
  exact W.objInit C.ex C.by C.ow (C.ts _ hl) (C.ts _ oi_im) (C.ts _ oi_cd) rfl (by rw [C.ml]; exact hL.size) rfl d h1 (by show 2 * 0 + _ + 12 ≤ _; omega) (K p l e s m args below meth c A H locs lsA C hE hP hD hS hL)
theorem g_newI (N : Nat) (d : decode J.2.1 pc = .ok (.newarray .int, 2)) (hN : N ≤ 100000) (h1 : k + 1 ≤ J.2.2.2.2.cells) (h2 : n + N ≤ J.2.2.2.2.slots) (K : ∀ q : Nat, G Z J E Q (pc + 2) ls (.ref q :: st) (ws ++ [(q, .inl (Z.2 0, N, .inl (rowI (fun _ => 0))))]) (k + 1) (n + N)) : G Z J E Q pc ls (.int (iI N) :: st) ws k n := by
  intro p l e s m args below meth c A H locs lsA C hE hP hD hS hL
  refine va_newa (D := Z.1) (atype := .int) (ty := .int) (a0 := (N, .inl (rowI (fun _ => 0)))) C.ex C.by (C.ts _ ac_int) rfl C.kk hP hD hS C.hA (fun cA => rfl) (by rw [iI_nat]; exact nI_pos (by omega)) (by rw [iI_nat, nI_clamp (by omega)]) (by show N * _ ≤ _; simp [componentBytes]; omega) h1 h2 d (fun q cA H1 hK1 hP1 hD1 hS1 => ?_)
  have e1 := (hK1.2 4 (cA, .int) rfl).2
  have e0 := (C.kk.2 0 (Z.2 0, .int) rfl).2
  have e2 : cA = Z.2 0 := Option.some.inj (e1.symm.trans e0)
  subst e2
  exact K q p l e s m args below meth c A H1 locs lsA C hE hP1 hD1 hS1 hL
theorem g_newZ (N : Nat) (d : decode J.2.1 pc = .ok (.newarray .boolean, 2)) (hN : N ≤ 100000) (h1 : k + 1 ≤ J.2.2.2.2.cells) (h2 : n + N ≤ J.2.2.2.2.slots) (K : ∀ q : Nat, G Z J E Q (pc + 2) ls (.ref q :: st) (ws ++ [(q, .inl (Z.2 1, N, .inl (rowI (fun _ => 0))))]) (k + 1) (n + N)) : G Z J E Q pc ls (.int (iI N) :: st) ws k n := by
  intro p l e s m args below meth c A H locs lsA C hE hP hD hS hL
  refine va_newa (D := Z.1) (atype := .boolean) (ty := .boolean) (a0 := (N, .inl (rowI (fun _ => 0)))) C.ex C.by (C.ts _ ac_boolean) rfl C.kk hP hD hS C.hA (fun cA => rfl) (by rw [iI_nat]; exact nI_pos (by omega)) (by rw [iI_nat, nI_clamp (by omega)]) (by show N * _ ≤ _; simp [componentBytes]; omega) h1 h2 d (fun q cA H1 hK1 hP1 hD1 hS1 => ?_)
  have e1 := (hK1.2 4 (cA, .boolean) rfl).2
  have e0 := (C.kk.2 1 (Z.2 1, .boolean) rfl).2
  have e2 : cA = Z.2 1 := Option.some.inj (e1.symm.trans e0)
  subst e2
  exact K q p l e s m args below meth c A H1 locs lsA C hE hP1 hD1 hS1 hL
theorem g_newq2 {i : Nat} (N : Nat) (d : decode J.2.1 pc = .ok (.anewarray i, 3)) (hcl : Cond.classLink J.1.cls i "ManyPens$Slip" ∈ WT) (hN : N ≤ 100000) (h1 : k + 1 ≤ J.2.2.2.2.cells) (h2 : n + N ≤ J.2.2.2.2.slots) (K : ∀ q : Nat, G Z J E Q (pc + 3) ls (.ref q :: st) (ws ++ [(q, .inl (Z.2 2, N, .inr (.inr (.inr (.inr (fun _ => none))))))]) (k + 1) (n + N)) : G Z J E Q pc ls (.int (iI N) :: st) ws k n := by
  intro p l e s m args below meth c A H locs lsA C hE hP hD hS hL
  refine va_newq (D := Z.1) (C := "ManyPens$Slip") C.ex C.by C.ow (C.ts _ hcl) C.en.2.2.2.1 C.kk hP hD hS C.hA (by rw [iI_nat]; exact nI_pos (by omega)) (by rw [iI_nat, nI_clamp (by omega)]) (by omega) h1 h2 d (fun q cA H1 hK1 hP1 hD1 hS1 => ?_)
  obtain ⟨kA, comp, a1, a2, a3, a4⟩ := (hK1.2 4 (cA, .object "ManyPens$Slip") rfl).2
  obtain ⟨kB, compB, b1, b2, b3, b4⟩ := (C.kk.2 2 (Z.2 2, .object "ManyPens$Slip") rfl).2
  have e2 : cA = Z.2 2 := Option.some.inj (a4.symm.trans b4)
  subst e2
  exact K q p l e s m args below meth c A H1 locs lsA C hE hP1 hD1 hS1 hL
theorem g_newq3 {i : Nat} (N : Nat) (d : decode J.2.1 pc = .ok (.anewarray i, 3)) (hcl : Cond.classLink J.1.cls i "ManyPens$Sheet" ∈ WT) (hN : N ≤ 100000) (h1 : k + 1 ≤ J.2.2.2.2.cells) (h2 : n + N ≤ J.2.2.2.2.slots) (K : ∀ q : Nat, G Z J E Q (pc + 3) ls (.ref q :: st) (ws ++ [(q, .inl (Z.2 3, N, .inr (.inr (.inr (.inr (fun _ => none))))))]) (k + 1) (n + N)) : G Z J E Q pc ls (.int (iI N) :: st) ws k n := by
  intro p l e s m args below meth c A H locs lsA C hE hP hD hS hL
  refine va_newq (D := Z.1) (C := "ManyPens$Sheet") C.ex C.by C.ow (C.ts _ hcl) C.en.2.2.2.2 C.kk hP hD hS C.hA (by rw [iI_nat]; exact nI_pos (by omega)) (by rw [iI_nat, nI_clamp (by omega)]) (by omega) h1 h2 d (fun q cA H1 hK1 hP1 hD1 hS1 => ?_)
  obtain ⟨kA, comp, a1, a2, a3, a4⟩ := (hK1.2 4 (cA, .object "ManyPens$Sheet") rfl).2
  obtain ⟨kB, compB, b1, b2, b3, b4⟩ := (C.kk.2 3 (Z.2 3, .object "ManyPens$Sheet") rfl).2
  have e2 : cA = Z.2 3 := Option.some.inj (a4.symm.trans b4)
  subst e2
  exact K q p l e s m args below meth c A H1 locs lsA C hE hP1 hD1 hS1 hL
theorem g_newO {i : Nat} (ci : Nat) {Cn : String} {T : u_T} {N : Nat} (ty : Nat → FieldType) (fs : List Value) (d : decode J.2.1 pc = .ok (.new i, 3)) (hc : vwCl[ci]? = some (Cn, T, N)) (hin : ∀ w ∈ u_ws Cn T N, w ∈ WT) (hty : ∀ k, k < N → parseFieldDescriptor (T k).2.2.1 = some (ty k)) (hcl : Cond.classLink J.1.cls i Cn ∈ WT) (his : Cond.instantiable Cn N ∈ WT) (hini : Cond.initialized Cn ∈ WT) (hfs : ∀ j, j < N → defaultValue (ty j) = vp_V fs j) (h1 : k + 1 ≤ J.2.2.2.2.cells) (h2 : n + N ≤ J.2.2.2.2.slots) (K : ∀ q : Nat, G Z J E Q (pc + 3) ls (.ref q :: st) (ws ++ [(q, .inr (ci, fs))]) (k + 1) (n + N)) : G Z J E Q pc ls st ws k n := by
  intro p l e s m args below meth c A H locs lsA C hE hP hD hS hL
  exact va_new (D := Z.1) C.ex C.by C.ts hin ty hty C.ow (C.ts _ hcl) (C.ts _ his) (C.ts _ hini) C.kk hP hD hS C.hA hc hfs h1 h2 d (fun q H1 hP1 hD1 hS1 => K q p l e s m args below meth c A H1 locs lsA C hE hP1 hD1 hS1 hL)
end NRows
