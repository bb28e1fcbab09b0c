/-! THE CLASS: rows for calls of its own methods, of its slips, instanceof, aastore -/
section KRows
variable {Z : LZ} {J : MD} {E : State → Array Value → (Nat → Prop) → Prop} {Q : List Frame → Array Value → State → (Nat → Prop) → State → Prop} {pc : Nat} {ls st : List Value} {k n : Nat} {ws : va_W}
theorem ckE {J2 : MD} {As : List Value} {b i ci N q0 : Nat} {fs : List Value} {T : u_T} {v : Value} {w3 : va_W} (hlk : lkV J.1.cls i J2 As.length) (hT : Tr Z J2 (.ref b :: As) ws (fun r w => r = some v ∧ w = w3)) (d : decode J.2.1 pc = .ok (.invokevirtual i, 3)) (hfit : fitR J J2) (hc : vwCl[ci]? = some (J2.1.cls, T, N)) (he : ws[q0]? = some (b, .inr (ci, fs))) (hst : (st.map fun v => v.category).sum ≤ 8) (h1 : J2.2.2.2.2.cells = 0) (h2 : J2.2.2.2.2.slots = 0) (h3 : k ≤ J.2.2.2.2.cells) (h4 : n ≤ J.2.2.2.2.slots) {st2 : List Value} (hs : As.reverse ++ .ref b :: st = st2) (K : G Z J E Q (pc + 3) ls (v :: st) w3 k n) : G Z J E Q pc ls st2 ws k n := by
  refine g_callVF hlk hT d hfit hc he hst (by omega) (by omega) (fun r w2 h => ?_) hs
  obtain ⟨rfl, rfl⟩ := h
  rw [h1, h2]
  exact K
theorem ckV {J2 : MD} {As : List Value} {b i ci N q0 : Nat} {fs : List Value} {T : u_T} {w3 : va_W} (hlk : lkV J.1.cls i J2 As.length) (hT : Tr Z J2 (.ref b :: As) ws (fun r w => r = none ∧ w = w3)) (d : decode J.2.1 pc = .ok (.invokevirtual i, 3)) (hfit : fitR J J2) (hc : vwCl[ci]? = some (J2.1.cls, T, N)) (he : ws[q0]? = some (b, .inr (ci, fs))) (hst : (st.map fun v => v.category).sum ≤ 8) (h1 : J2.2.2.2.2.cells = 0) (h2 : J2.2.2.2.2.slots = 0) (h3 : k ≤ J.2.2.2.2.cells) (h4 : n ≤ J.2.2.2.2.slots) {st2 : List Value} (hs : As.reverse ++ .ref b :: st = st2) (K : G Z J E Q (pc + 3) ls st w3 k n) : G Z J E Q pc ls st2 ws k n := by
  refine g_callVF hlk hT d hfit hc he hst (by omega) (by omega) (fun r w2 h => ?_) hs
  obtain ⟨rfl, rfl⟩ := h
  rw [h1, h2]
  exact K
theorem ckX {J2 : MD} {As : List Value} {b i ci N q0 : Nat} {fs : List Value} {T : u_T} {a : Nat → Nat} {fS fA : Nat → Option Nat} {W : va_W} {P : Mem → Prop} (hlk : lkV J.1.cls i J2 As.length) (hT : Tr Z J2 (.ref b :: As) ws (fun r w => ∃ C2 : Mem, r = none ∧ w = cW Z a C2 fS fA W ∧ P C2)) (d : decode J.2.1 pc = .ok (.invokevirtual i, 3)) (hfit : fitR J J2) (hc : vwCl[ci]? = some (J2.1.cls, T, N)) (he : ws[q0]? = some (b, .inr (ci, fs))) (hst : (st.map fun v => v.category).sum ≤ 8) (h1 : J2.2.2.2.2.cells = 0) (h2 : J2.2.2.2.2.slots = 0) (h3 : k ≤ J.2.2.2.2.cells) (h4 : n ≤ J.2.2.2.2.slots) {st2 : List Value} (hs : As.reverse ++ .ref b :: st = st2) (K : ∀ C2 : Mem, P C2 → G Z J E Q (pc + 3) ls st (cW Z a C2 fS fA W) k n) : G Z J E Q pc ls st2 ws k n := by
  refine g_callVF hlk hT d hfit hc he hst (by omega) (by omega) (fun r w2 h => ?_) hs
  obtain ⟨C2, rfl, rfl, hp⟩ := h
  rw [h1, h2]
  exact K C2 hp
theorem ckY {J2 : MD} {As : List Value} {b i ci N q0 : Nat} {fs : List Value} {T : u_T} {a : Nat → Nat} {fS fA : Nat → Option Nat} {W : va_W} {v : Value} {P : Mem → Prop} (hlk : lkV J.1.cls i J2 As.length) (hT : Tr Z J2 (.ref b :: As) ws (fun r w => ∃ C2 : Mem, r = some v ∧ w = cW Z a C2 fS fA W ∧ P C2)) (d : decode J.2.1 pc = .ok (.invokevirtual i, 3)) (hfit : fitR J J2) (hc : vwCl[ci]? = some (J2.1.cls, T, N)) (he : ws[q0]? = some (b, .inr (ci, fs))) (hst : (st.map fun v => v.category).sum ≤ 8) (h1 : J2.2.2.2.2.cells = 0) (h2 : J2.2.2.2.2.slots = 0) (h3 : k ≤ J.2.2.2.2.cells) (h4 : n ≤ J.2.2.2.2.slots) {st2 : List Value} (hs : As.reverse ++ .ref b :: st = st2) (K : ∀ C2 : Mem, P C2 → G Z J E Q (pc + 3) ls (v :: st) (cW Z a C2 fS fA W) k n) : G Z J E Q pc ls st2 ws k n := by
  refine g_callVF hlk hT d hfit hc he hst (by omega) (by omega) (fun r w2 h => ?_) hs
  obtain ⟨C2, rfl, rfl, hp⟩ := h
  rw [h1, h2]
  exact K C2 hp
theorem ckB {J2 : MD} {As : List Value} {b i ci N q0 : Nat} {fs : List Value} {T : u_T} {a : Nat → Nat} {fS : Nat → Option Nat} {W : va_W} {P : Mem → (Nat → Option Nat) → Prop} (hlk : lkV J.1.cls i J2 As.length) (hT : Tr Z J2 (.ref b :: As) ws (fun r w => ∃ (C2 : Mem) (f2 : Nat → Option Nat), r = none ∧ w = cW Z a C2 fS f2 W ∧ P C2 f2)) (d : decode J.2.1 pc = .ok (.invokevirtual i, 3)) (hfit : fitR J J2) (hc : vwCl[ci]? = some (J2.1.cls, T, N)) (he : ws[q0]? = some (b, .inr (ci, fs))) (hst : (st.map fun v => v.category).sum ≤ 8) (h1 : J2.2.2.2.2.cells = 0) (h2 : J2.2.2.2.2.slots = 0) (h3 : k ≤ J.2.2.2.2.cells) (h4 : n ≤ J.2.2.2.2.slots) {st2 : List Value} (hs : As.reverse ++ .ref b :: st = st2) (K : ∀ (C2 : Mem) (f2 : Nat → Option Nat), P C2 f2 → G Z J E Q (pc + 3) ls st (cW Z a C2 fS f2 W) k n) : G Z J E Q pc ls st2 ws k n := by
  refine g_callVF hlk hT d hfit hc he hst (by omega) (by omega) (fun r w2 h => ?_) hs
  obtain ⟨C2, f2, rfl, rfl, hp⟩ := h
  rw [h1, h2]
  exact K C2 f2 hp
theorem ckA {J2 : MD} {As : List Value} {b i ci N q0 : Nat} {fs : List Value} {T : u_T} {a : Nat → Nat} {W : va_W} {P : Mem → (Nat → Option Nat) → (Nat → Option Nat) → Prop} (hlk : lkV J.1.cls i J2 As.length) (hT : Tr Z J2 (.ref b :: As) ws (fun r w => ∃ (C2 : Mem) (f1 f2 : Nat → Option Nat), r = none ∧ w = cW Z a C2 f1 f2 W ∧ P C2 f1 f2)) (d : decode J.2.1 pc = .ok (.invokevirtual i, 3)) (hfit : fitR J J2) (hc : vwCl[ci]? = some (J2.1.cls, T, N)) (he : ws[q0]? = some (b, .inr (ci, fs))) (hst : (st.map fun v => v.category).sum ≤ 8) (h1 : J2.2.2.2.2.cells = 0) (h2 : J2.2.2.2.2.slots = 0) (h3 : k ≤ J.2.2.2.2.cells) (h4 : n ≤ J.2.2.2.2.slots) {st2 : List Value} (hs : As.reverse ++ .ref b :: st = st2) (K : ∀ (C2 : Mem) (f1 f2 : Nat → Option Nat), P C2 f1 f2 → G Z J E Q (pc + 3) ls st (cW Z a C2 f1 f2 W) k n) : G Z J E Q pc ls st2 ws k n := by
  refine g_callVF hlk hT d hfit hc he hst (by omega) (by omega) (fun r w2 h => ?_) hs
  obtain ⟨C2, f1, f2, rfl, rfl, hp⟩ := h
  rw [h1, h2]
  exact K C2 f1 f2 hp
theorem ckS {J2 : MD} {As : List Value} {i : Nat} {v : Value} {w3 : va_W} (hlk : lkS J.1.cls i J2 As.length) (hT : Tr Z J2 As ws (fun r w => r = some v ∧ w = w3)) (d : decode J.2.1 pc = .ok (.invokestatic i, 3)) (hfit : fitR J J2) (hst : (st.map fun v => v.category).sum ≤ 8) (h1 : J2.2.2.2.2.cells = 0) (h2 : J2.2.2.2.2.slots = 0) (h3 : k ≤ J.2.2.2.2.cells) (h4 : n ≤ J.2.2.2.2.slots) {st2 : List Value} (hs : As.reverse ++ st = st2) (K : G Z J E Q (pc + 3) ls (v :: st) w3 k n) : G Z J E Q pc ls st2 ws k n := by
  refine g_callSF hlk hT d hfit hst (by omega) (by omega) (fun r w2 h => ?_) hs
  obtain ⟨rfl, rfl⟩ := h
  rw [h1, h2]
  exact K
theorem ckN {i : Nat} {x : Int} (hx : Rg x) (hlk : lkN J.1.cls i "ManyPens" jX8_putOf 1) (d : decode J.2.1 pc = .ok (.invokestatic i, 3)) (hfit : fitR J jX8_putOf) (hst : (st.map fun v => v.category).sum ≤ 8) (h3 : k ≤ J.2.2.2.2.cells) (h4 : n ≤ J.2.2.2.2.slots) (K : G Z J E Q (pc + 3) ls (.int (iI (ptF x)) :: st) ws k n) : G Z J E Q pc ls (.int (iI x) :: st) ws k n := by
  refine g_callSN (As := [.int (iI x)]) hlk (k_putOf Z ws x hx) d hfit hst (by show k + 0 ≤ _; omega) (by show n + 0 ≤ _; omega) (fun r w2 h => ?_) rfl
  obtain ⟨rfl, rfl⟩ := h
  exact K
theorem g_aast2 {a v : Nat} {i : Int32} {N : Nat} {f : Nat → Option Nat} (q0 qk ci : Nat) {vs : List Value} {r : vw_C} {ws2 : va_W} (d : decode J.2.1 pc = .ok (.aastore, 1)) (he : ws[q0]? = some (a, .inl (Z.2 2, N, .inr (.inr (.inr (.inr f)))))) (hv : ws[qk]? = some (v, .inr (ci, vs))) (hc : vwCl[ci]? = some r) (hca : Cond.castable r.1 "ManyPens$Slip" ∈ NWs) (hi : vp_in i N) (h2 : ws.set q0 (a, .inl (Z.2 2, N, .inr (.inr (.inr (.inr (va_up f i.toNatClampNeg (some v))))))) = ws2) (K : G Z J E Q (pc + 1) ls st ws2 k n) : G Z J E Q pc ls (.ref v :: .int i :: .ref a :: st) ws k n := by
  intro p l e s m args below meth c A H locs lsA C hE hP hD hS hL
  subst h2
  exact va_astqO (D := Z.1) C.ex C.by C.kk hP hD hS q0 2 qk ci he rfl (C.en.2.1 _ hca) hv hc hi d (fun H1 locs1 hP1 hD1 hS1 => K p l e s m args below meth c A H1 locs1 lsA C hE hP1 hD1 hS1 hL)
theorem g_aast3 {a v : Nat} {i : Int32} {N : Nat} {f : Nat → Option Nat} (q0 qk ci : Nat) {vs : List Value} {ws2 : va_W} {T : u_T} {M : Nat} (d : decode J.2.1 pc = .ok (.aastore, 1)) (he : ws[q0]? = some (a, .inl (Z.2 3, N, .inr (.inr (.inr (.inr f)))))) (hv : ws[qk]? = some (v, .inr (ci, vs))) (hc : vwCl[ci]? = some ("ManyPens$Sheet", T, M)) (hi : vp_in i N) (h2 : ws.set q0 (a, .inl (Z.2 3, N, .inr (.inr (.inr (.inr (va_up f i.toNatClampNeg (some v))))))) = ws2) (K : G Z J E Q (pc + 1) ls st ws2 k n) : G Z J E Q pc ls (.ref v :: .int i :: .ref a :: st) ws k n := by
  intro p l e s m args below meth c A H locs lsA C hE hP hD hS hL
  subst h2
  exact va_astq (D := Z.1) C.ex C.by C.kk hP hD hS q0 3 qk ci (r := ("ManyPens$Sheet", T, M)) he rfl hv hc hi d (fun H1 locs1 hP1 hD1 hS1 => K p l e s m args below meth c A H1 locs1 lsA C hE hP1 hD1 hS1 hL)
theorem g_cut (m : Nat) (K : G Z J E Q pc (ls.take m) st ws k n) : G Z J E Q pc ls st ws k n := by
  intro p l e s m2 args below meth c A H locs lsA C hE hP hD hS hL
  obtain ⟨l0, h1, h2⟩ := hL
  refine K p l e s m2 args below meth c A H locs lsA C hE hP hD hS ⟨l0, h1, fun i v h => h2 i v ?_⟩
  rw [List.getElem?_take] at h
  split at h
  · exact h
  · cases h
end KRows
section KSlips
variable {Z : LZ} {J : MD} {E : State → Array Value → (Nat → Prop) → Prop} {Q : List Frame → Array Value → State → (Nat → Prop) → State → Prop} {pc : Nat} {ls st : List Value} {k n : Nat} {x y : Int} {a : Nat → Nat} {C : Mem} {fS fA : Nat → Option Nat} {i : Nat} {D : Mem} {sa sb : Nat → Nat} {N s : Nat}
theorem he_sh {W : va_W} (p : Nat) (hp : p < 6) : (cW Z a C fS fA W)[6 + p]? = some (a (110 + p), .inr (4, [.int (iI p), .ref (a (20 + p)), .ref (a (30 + p)), .ref (a (40 + p)), .int (iI (C (50 + p) 0)), .int (iI (C (60 + p) 0))])) := by
  have h : p = 0 ∨ p = 1 ∨ p = 2 ∨ p = 3 ∨ p = 4 ∨ p = 5 := by omega
  rcases h with h | h | h | h | h | h <;> subst h <;> rfl
theorem sl_ex (hs : s < N) : ∃ q : Nat, (cW Z a C fS fA (sW Z D sa sb N))[q]? = some (sa s, slC D sb s) := by
  obtain ⟨q, hq⟩ := sW_sl (Z := Z) (D := D) (sa := sa) (sb := sb) N s hs
  exact ⟨q + 39, (cW_off q).trans hq⟩
theorem slC0 (h : D 2 s = 0) : slC D sb s = .inr (2, [.int (iI s), .int (iI (D 0 s)), .int (iI (D 1 s)), .int (iI (pri D s)), .int (iI (D 6 s)), .ref (sb s)]) := by unfold slC; rw [if_pos h]
theorem slC1 (h : D 2 s = 1) : slC D sb s = .inr (5, [.int (iI s), .int (iI (D 0 s)), .int (iI (D 1 s)), .int (iI (pri D s)), .ref (sb s)]) := by unfold slC; rw [if_neg (by omega), if_pos h]
theorem slC2 (h : D 2 s = 2) : slC D sb s = .inr (1, [.int (iI s), .int (iI (D 0 s)), .int (iI (D 1 s)), .int (iI (pri D s)), .int (iI (D 4 (12 * s))), .int (iI (D 4 (12 * s + 1))), .int (iI (D 6 s)), .int (iI (D 7 s)), .int (iI (D 8 s))]) := by unfold slC; rw [if_neg (by omega), if_neg (by omega), if_pos h]
theorem slC3 (h : D 2 s = 3) : slC D sb s = .inr (6, [.int (iI s), .int (iI (D 0 s)), .int (iI (D 1 s)), .int (iI (pri D s)), .int (iI (D 6 s))]) := by unfold slC; rw [if_neg (by omega), if_neg (by omega), if_neg (by omega)]
theorem cy_put (hs : s < N) (hk : D 2 s = 0) (d : decode J.2.1 pc = .ok (.instanceof i, 3)) (hcl : Cond.classLink J.1.cls i RX2 ∈ WT) (K : G Z J E Q (pc + 3) ls (.int (iI 1) :: st) (cW Z a C fS fA (sW Z D sa sb N)) k n) : G Z J E Q pc ls (.ref (sa s) :: st) (cW Z a C fS fA (sW Z D sa sb N)) k n := by
  obtain ⟨q, hq⟩ := sl_ex (Z := Z) (a := a) (C := C) (fS := fS) (fA := fA) (D := D) (sa := sa) (sb := sb) hs
  rw [slC0 hk] at hq
  exact g_instS (ci := 2) d hcl rfl hq K
theorem cz_put (hs : s < N) (hk : D 2 s = 0) (d : decode J.2.1 pc = .ok (.checkcast i, 3)) (hcl : Cond.classLink J.1.cls i RX2 ∈ WT) (K : G Z J E Q (pc + 3) ls (.ref (sa s) :: st) (cW Z a C fS fA (sW Z D sa sb N)) k n) : G Z J E Q pc ls (.ref (sa s) :: st) (cW Z a C fS fA (sW Z D sa sb N)) k n := by
  obtain ⟨q, hq⟩ := sl_ex (Z := Z) (a := a) (C := C) (fS := fS) (fA := fA) (D := D) (sa := sa) (sb := sb) hs
  rw [slC0 hk] at hq
  exact g_castS (ci := 2) d hcl rfl hq K
theorem cn_put (hs : s < N) (hk : ¬ D 2 s = 0) (hr : 0 ≤ D 2 s ∧ D 2 s ≤ 3) (d : decode J.2.1 pc = .ok (.instanceof i, 3)) (hcl : Cond.classLink J.1.cls i RX2 ∈ WT) (K : G Z J E Q (pc + 3) ls (.int (iI 0) :: st) (cW Z a C fS fA (sW Z D sa sb N)) k n) : G Z J E Q pc ls (.ref (sa s) :: st) (cW Z a C fS fA (sW Z D sa sb N)) k n := by
  obtain ⟨q, hq⟩ := sl_ex (Z := Z) (a := a) (C := C) (fS := fS) (fA := fA) (D := D) (sa := sa) (sb := sb) hs
  have hh : D 2 s = 1 ∨ D 2 s = 2 ∨ D 2 s = 3 := by omega
  rcases hh with h | h | h
  · rw [slC1 h] at hq
    exact g_instNo (ci := 5) d hcl rfl hq (by decide +kernel) K
  · rw [slC2 h] at hq
    exact g_instNo (ci := 1) d hcl rfl hq (by decide +kernel) K
  · rw [slC3 h] at hq
    exact g_instNo (ci := 6) d hcl rfl hq (by decide +kernel) K
theorem cy_stk (hs : s < N) (hk : D 2 s = 1) (d : decode J.2.1 pc = .ok (.instanceof i, 3)) (hcl : Cond.classLink J.1.cls i RX6 ∈ WT) (K : G Z J E Q (pc + 3) ls (.int (iI 1) :: st) (cW Z a C fS fA (sW Z D sa sb N)) k n) : G Z J E Q pc ls (.ref (sa s) :: st) (cW Z a C fS fA (sW Z D sa sb N)) k n := by
  obtain ⟨q, hq⟩ := sl_ex (Z := Z) (a := a) (C := C) (fS := fS) (fA := fA) (D := D) (sa := sa) (sb := sb) hs
  rw [slC1 hk] at hq
  exact g_instS (ci := 5) d hcl rfl hq K
theorem cz_stk (hs : s < N) (hk : D 2 s = 1) (d : decode J.2.1 pc = .ok (.checkcast i, 3)) (hcl : Cond.classLink J.1.cls i RX6 ∈ WT) (K : G Z J E Q (pc + 3) ls (.ref (sa s) :: st) (cW Z a C fS fA (sW Z D sa sb N)) k n) : G Z J E Q pc ls (.ref (sa s) :: st) (cW Z a C fS fA (sW Z D sa sb N)) k n := by
  obtain ⟨q, hq⟩ := sl_ex (Z := Z) (a := a) (C := C) (fS := fS) (fA := fA) (D := D) (sa := sa) (sb := sb) hs
  rw [slC1 hk] at hq
  exact g_castS (ci := 5) d hcl rfl hq K
theorem cn_stk (hs : s < N) (hk : ¬ D 2 s = 1) (hr : 0 ≤ D 2 s ∧ D 2 s ≤ 3) (d : decode J.2.1 pc = .ok (.instanceof i, 3)) (hcl : Cond.classLink J.1.cls i RX6 ∈ WT) (K : G Z J E Q (pc + 3) ls (.int (iI 0) :: st) (cW Z a C fS fA (sW Z D sa sb N)) k n) : G Z J E Q pc ls (.ref (sa s) :: st) (cW Z a C fS fA (sW Z D sa sb N)) k n := by
  obtain ⟨q, hq⟩ := sl_ex (Z := Z) (a := a) (C := C) (fS := fS) (fA := fA) (D := D) (sa := sa) (sb := sb) hs
  have hh : D 2 s = 0 ∨ D 2 s = 2 ∨ D 2 s = 3 := by omega
  rcases hh with h | h | h
  · rw [slC0 h] at hq
    exact g_instNo (ci := 2) d hcl rfl hq (by decide +kernel) K
  · rw [slC2 h] at hq
    exact g_instNo (ci := 1) d hcl rfl hq (by decide +kernel) K
  · rw [slC3 h] at hq
    exact g_instNo (ci := 6) d hcl rfl hq (by decide +kernel) K
theorem cy_mrk (hs : s < N) (hk : D 2 s = 2) (d : decode J.2.1 pc = .ok (.instanceof i, 3)) (hcl : Cond.classLink J.1.cls i RX1 ∈ WT) (K : G Z J E Q (pc + 3) ls (.int (iI 1) :: st) (cW Z a C fS fA (sW Z D sa sb N)) k n) : G Z J E Q pc ls (.ref (sa s) :: st) (cW Z a C fS fA (sW Z D sa sb N)) k n := by
  obtain ⟨q, hq⟩ := sl_ex (Z := Z) (a := a) (C := C) (fS := fS) (fA := fA) (D := D) (sa := sa) (sb := sb) hs
  rw [slC2 hk] at hq
  exact g_instS (ci := 1) d hcl rfl hq K
theorem cz_mrk (hs : s < N) (hk : D 2 s = 2) (d : decode J.2.1 pc = .ok (.checkcast i, 3)) (hcl : Cond.classLink J.1.cls i RX1 ∈ WT) (K : G Z J E Q (pc + 3) ls (.ref (sa s) :: st) (cW Z a C fS fA (sW Z D sa sb N)) k n) : G Z J E Q pc ls (.ref (sa s) :: st) (cW Z a C fS fA (sW Z D sa sb N)) k n := by
  obtain ⟨q, hq⟩ := sl_ex (Z := Z) (a := a) (C := C) (fS := fS) (fA := fA) (D := D) (sa := sa) (sb := sb) hs
  rw [slC2 hk] at hq
  exact g_castS (ci := 1) d hcl rfl hq K
theorem cn_mrk (hs : s < N) (hk : ¬ D 2 s = 2) (hr : 0 ≤ D 2 s ∧ D 2 s ≤ 3) (d : decode J.2.1 pc = .ok (.instanceof i, 3)) (hcl : Cond.classLink J.1.cls i RX1 ∈ WT) (K : G Z J E Q (pc + 3) ls (.int (iI 0) :: st) (cW Z a C fS fA (sW Z D sa sb N)) k n) : G Z J E Q pc ls (.ref (sa s) :: st) (cW Z a C fS fA (sW Z D sa sb N)) k n := by
  obtain ⟨q, hq⟩ := sl_ex (Z := Z) (a := a) (C := C) (fS := fS) (fA := fA) (D := D) (sa := sa) (sb := sb) hs
  have hh : D 2 s = 0 ∨ D 2 s = 1 ∨ D 2 s = 3 := by omega
  rcases hh with h | h | h
  · rw [slC0 h] at hq
    exact g_instNo (ci := 2) d hcl rfl hq (by decide +kernel) K
  · rw [slC1 h] at hq
    exact g_instNo (ci := 5) d hcl rfl hq (by decide +kernel) K
  · rw [slC3 h] at hq
    exact g_instNo (ci := 6) d hcl rfl hq (by decide +kernel) K
theorem cy_und (hs : s < N) (hk : D 2 s = 3) (d : decode J.2.1 pc = .ok (.instanceof i, 3)) (hcl : Cond.classLink J.1.cls i RX7 ∈ WT) (K : G Z J E Q (pc + 3) ls (.int (iI 1) :: st) (cW Z a C fS fA (sW Z D sa sb N)) k n) : G Z J E Q pc ls (.ref (sa s) :: st) (cW Z a C fS fA (sW Z D sa sb N)) k n := by
  obtain ⟨q, hq⟩ := sl_ex (Z := Z) (a := a) (C := C) (fS := fS) (fA := fA) (D := D) (sa := sa) (sb := sb) hs
  rw [slC3 hk] at hq
  exact g_instS (ci := 6) d hcl rfl hq K
theorem cz_und (hs : s < N) (hk : D 2 s = 3) (d : decode J.2.1 pc = .ok (.checkcast i, 3)) (hcl : Cond.classLink J.1.cls i RX7 ∈ WT) (K : G Z J E Q (pc + 3) ls (.ref (sa s) :: st) (cW Z a C fS fA (sW Z D sa sb N)) k n) : G Z J E Q pc ls (.ref (sa s) :: st) (cW Z a C fS fA (sW Z D sa sb N)) k n := by
  obtain ⟨q, hq⟩ := sl_ex (Z := Z) (a := a) (C := C) (fS := fS) (fA := fA) (D := D) (sa := sa) (sb := sb) hs
  rw [slC3 hk] at hq
  exact g_castS (ci := 6) d hcl rfl hq K
theorem cn_und (hs : s < N) (hk : ¬ D 2 s = 3) (hr : 0 ≤ D 2 s ∧ D 2 s ≤ 3) (d : decode J.2.1 pc = .ok (.instanceof i, 3)) (hcl : Cond.classLink J.1.cls i RX7 ∈ WT) (K : G Z J E Q (pc + 3) ls (.int (iI 0) :: st) (cW Z a C fS fA (sW Z D sa sb N)) k n) : G Z J E Q pc ls (.ref (sa s) :: st) (cW Z a C fS fA (sW Z D sa sb N)) k n := by
  obtain ⟨q, hq⟩ := sl_ex (Z := Z) (a := a) (C := C) (fS := fS) (fA := fA) (D := D) (sa := sa) (sb := sb) hs
  have hh : D 2 s = 0 ∨ D 2 s = 1 ∨ D 2 s = 2 := by omega
  rcases hh with h | h | h
  · rw [slC0 h] at hq
    exact g_instNo (ci := 2) d hcl rfl hq (by decide +kernel) K
  · rw [slC1 h] at hq
    exact g_instNo (ci := 5) d hcl rfl hq (by decide +kernel) K
  · rw [slC2 h] at hq
    exact g_instNo (ci := 1) d hcl rfl hq (by decide +kernel) K
theorem py_put (hs : s < N) (hk : D 2 s = 0) {i2 : Nat} {off : Int} (d0 : decode J.2.1 pc = .ok (.astore_n 3, 1)) (d1 : decode J.2.1 (pc + 1) = .ok (.aload_n 3, 1)) (d2 : decode J.2.1 (pc + 2) = .ok (.instanceof i, 3)) (hcl : Cond.classLink J.1.cls i RX2 ∈ WT) (tgt : Nat) (d3 : decode J.2.1 (pc + 5) = .ok (.ifCond .eq off, 3)) (ht : ((pc + 5 : Nat) : Int) + off = (tgt : Int)) (d4 : decode J.2.1 (pc + 8) = .ok (.aload_n 3, 1)) (d5 : decode J.2.1 (pc + 9) = .ok (.checkcast i2, 3)) (hcl2 : Cond.classLink J.1.cls i2 RX2 ∈ WT) (d6 : decode J.2.1 (pc + 12) = .ok (.astore_n 2, 1)) (hn : 3 < J.2.2.1) (hlen : ls.length = 2) (K : G Z J E Q (pc + 13) (ls ++ [.ref (sa s), .ref (sa s)]) st (cW Z a C fS fA (sW Z D sa sb N)) k n) : G Z J E Q pc ls (.ref (sa s) :: st) (cW Z a C fS fA (sW Z D sa sb N)) k n := by
  obtain ⟨q, hq⟩ := sl_ex (Z := Z) (a := a) (C := C) (fS := fS) (fA := fA) (D := D) (sa := sa) (sb := sb) hs
  rw [slC0 hk] at hq
  intro p l e s0 m args below meth c A H locs lsA CC hE hP hD hS hL
  obtain ⟨l0, h1, h2⟩ := hL
  refine lv_astore_n CC.ex CC.by d0 rfl h1 hn rfl (fun ls2 hl2 => ?_)
  have g3 : ls2[3]? = some (.val (.ref (sa s))) := hl2.2.2 (3, _) List.mem_cons_self
  refine lv_aload_n CC.ex CC.by d1 rfl g3 ?_
  refine va_instS CC.ex CC.by CC.ow (CC.ts _ hcl) (CC.kk.1 2 _ rfl).2 (va_recv CC.kk hP (ci := 2) rfl hq) d2 ?_
  refine lv_if_eq CC.ex CC.by d3 ht (fun z => absurd z (by decide)) (fun _ => ?_)
  refine lv_aload_n CC.ex CC.by d4 rfl g3 ?_
  refine va_castS CC.ex CC.by CC.ow (CC.ts _ hcl2) (CC.kk.1 2 _ rfl).2 (va_recv CC.kk hP (ci := 2) rfl hq) d5 ?_
  refine lv_astore_n CC.ex CC.by d6 rfl hl2 (by omega) rfl (fun ls3 hl3 => K p l e s0 m args below meth c A H locs ls3 CC hE hP hD hS ⟨_, hl3, fun i v h => ?_⟩)
  by_cases e2 : i < 2
  · rw [List.getElem?_append_left (by omega)] at h
    obtain ⟨m1, m2⟩ := h2 i v h
    refine ⟨List.mem_cons_of_mem _ (List.mem_filter.mpr ⟨List.mem_cons_of_mem _ (List.mem_filter.mpr ⟨m1, ?_⟩), ?_⟩), m2⟩
    · simp [m2]; show ¬ i = 3; omega
    · simp [m2, show ¬ i = 2 by omega]
  · rw [List.getElem?_append_right (by omega), hlen] at h
    by_cases e3 : i = 2
    · subst e3
      have : v = .ref (sa s) := by simpa using h.symm
      subst this
      exact ⟨List.mem_cons_self, rfl⟩
    · by_cases e4 : i = 3
      · subst e4
        have : v = .ref (sa s) := by simpa using h.symm
        subst this
        exact ⟨List.mem_cons_of_mem _ (List.mem_filter.mpr ⟨List.mem_cons_self, by simp⟩), rfl⟩
      · have : ([Value.ref (sa s), Value.ref (sa s)])[i - 2]? = none := List.getElem?_eq_none (by simp; omega)
        rw [this] at h
        cases h
theorem pn_put (hs : s < N) (hk : ¬ D 2 s = 0) (hr : 0 ≤ D 2 s ∧ D 2 s ≤ 3) {off : Int} (d0 : decode J.2.1 pc = .ok (.astore_n 3, 1)) (d1 : decode J.2.1 (pc + 1) = .ok (.aload_n 3, 1)) (d2 : decode J.2.1 (pc + 2) = .ok (.instanceof i, 3)) (hcl : Cond.classLink J.1.cls i RX2 ∈ WT) (tgt : Nat) (d3 : decode J.2.1 (pc + 5) = .ok (.ifCond .eq off, 3)) (ht : ((pc + 5 : Nat) : Int) + off = (tgt : Int)) (hn : 3 < J.2.2.1) (hlen : ls.length = 2) (K : G Z J E Q tgt ls st (cW Z a C fS fA (sW Z D sa sb N)) k n) : G Z J E Q pc ls (.ref (sa s) :: st) (cW Z a C fS fA (sW Z D sa sb N)) k n := by
  obtain ⟨q, hq⟩ := sl_ex (Z := Z) (a := a) (C := C) (fS := fS) (fA := fA) (D := D) (sa := sa) (sb := sb) hs
  have hh : D 2 s = 1 ∨ D 2 s = 2 ∨ D 2 s = 3 := by omega
  intro p l e s0 m args below meth c A H locs lsA CC hE hP hD hS hL
  obtain ⟨l0, h1, h2⟩ := hL
  refine lv_astore_n CC.ex CC.by d0 rfl h1 hn rfl (fun ls2 hl2 => ?_)
  have g3 : ls2[3]? = some (.val (.ref (sa s))) := hl2.2.2 (3, _) List.mem_cons_self
  refine lv_aload_n CC.ex CC.by d1 rfl g3 ?_
  have K2 := K p l e s0 m args below meth c A H locs ls2 CC hE hP hD hS ⟨_, hl2, fun i v h => by
    have hi : i < 2 := by
      rw [← hlen]
      exact (List.getElem?_eq_some_iff.mp h).1
    obtain ⟨m1, m2⟩ := h2 i v h
    exact ⟨List.mem_cons_of_mem _ (List.mem_filter.mpr ⟨m1, by simp [m2]; show ¬ i = 3; omega⟩), m2⟩⟩
  rcases hh with h | h | h
  · rw [slC1 h] at hq
    refine va_instNo CC.ex CC.by CC.ow (CC.ts _ hcl) (CC.en.2.2.1 (RX6, RX2) (by decide +kernel)) (va_recv CC.kk hP (ci := 5) rfl hq) d2 ?_
    exact lv_if_eq CC.ex CC.by d3 ht (fun _ => K2) (fun z => absurd rfl z)
  · rw [slC2 h] at hq
    refine va_instNo CC.ex CC.by CC.ow (CC.ts _ hcl) (CC.en.2.2.1 (RX1, RX2) (by decide +kernel)) (va_recv CC.kk hP (ci := 1) rfl hq) d2 ?_
    exact lv_if_eq CC.ex CC.by d3 ht (fun _ => K2) (fun z => absurd rfl z)
  · rw [slC3 h] at hq
    refine va_instNo CC.ex CC.by CC.ow (CC.ts _ hcl) (CC.en.2.2.1 (RX7, RX2) (by decide +kernel)) (va_recv CC.kk hP (ci := 6) rfl hq) d2 ?_
    exact lv_if_eq CC.ex CC.by d3 ht (fun _ => K2) (fun z => absurd rfl z)
theorem py_stk (hs : s < N) (hk : D 2 s = 1) {i2 : Nat} {off : Int} (d0 : decode J.2.1 pc = .ok (.astore_n 3, 1)) (d1 : decode J.2.1 (pc + 1) = .ok (.aload_n 3, 1)) (d2 : decode J.2.1 (pc + 2) = .ok (.instanceof i, 3)) (hcl : Cond.classLink J.1.cls i RX6 ∈ WT) (tgt : Nat) (d3 : decode J.2.1 (pc + 5) = .ok (.ifCond .eq off, 3)) (ht : ((pc + 5 : Nat) : Int) + off = (tgt : Int)) (d4 : decode J.2.1 (pc + 8) = .ok (.aload_n 3, 1)) (d5 : decode J.2.1 (pc + 9) = .ok (.checkcast i2, 3)) (hcl2 : Cond.classLink J.1.cls i2 RX6 ∈ WT) (d6 : decode J.2.1 (pc + 12) = .ok (.astore_n 2, 1)) (hn : 3 < J.2.2.1) (hlen : ls.length = 2) (K : G Z J E Q (pc + 13) (ls ++ [.ref (sa s), .ref (sa s)]) st (cW Z a C fS fA (sW Z D sa sb N)) k n) : G Z J E Q pc ls (.ref (sa s) :: st) (cW Z a C fS fA (sW Z D sa sb N)) k n := by
  obtain ⟨q, hq⟩ := sl_ex (Z := Z) (a := a) (C := C) (fS := fS) (fA := fA) (D := D) (sa := sa) (sb := sb) hs
  rw [slC1 hk] at hq
  intro p l e s0 m args below meth c A H locs lsA CC hE hP hD hS hL
  obtain ⟨l0, h1, h2⟩ := hL
  refine lv_astore_n CC.ex CC.by d0 rfl h1 hn rfl (fun ls2 hl2 => ?_)
  have g3 : ls2[3]? = some (.val (.ref (sa s))) := hl2.2.2 (3, _) List.mem_cons_self
  refine lv_aload_n CC.ex CC.by d1 rfl g3 ?_
  refine va_instS CC.ex CC.by CC.ow (CC.ts _ hcl) (CC.kk.1 5 _ rfl).2 (va_recv CC.kk hP (ci := 5) rfl hq) d2 ?_
  refine lv_if_eq CC.ex CC.by d3 ht (fun z => absurd z (by decide)) (fun _ => ?_)
  refine lv_aload_n CC.ex CC.by d4 rfl g3 ?_
  refine va_castS CC.ex CC.by CC.ow (CC.ts _ hcl2) (CC.kk.1 5 _ rfl).2 (va_recv CC.kk hP (ci := 5) rfl hq) d5 ?_
  refine lv_astore_n CC.ex CC.by d6 rfl hl2 (by omega) rfl (fun ls3 hl3 => K p l e s0 m args below meth c A H locs ls3 CC hE hP hD hS ⟨_, hl3, fun i v h => ?_⟩)
  by_cases e2 : i < 2
  · rw [List.getElem?_append_left (by omega)] at h
    obtain ⟨m1, m2⟩ := h2 i v h
    refine ⟨List.mem_cons_of_mem _ (List.mem_filter.mpr ⟨List.mem_cons_of_mem _ (List.mem_filter.mpr ⟨m1, ?_⟩), ?_⟩), m2⟩
    · simp [m2]; show ¬ i = 3; omega
    · simp [m2, show ¬ i = 2 by omega]
  · rw [List.getElem?_append_right (by omega), hlen] at h
    by_cases e3 : i = 2
    · subst e3
      have : v = .ref (sa s) := by simpa using h.symm
      subst this
      exact ⟨List.mem_cons_self, rfl⟩
    · by_cases e4 : i = 3
      · subst e4
        have : v = .ref (sa s) := by simpa using h.symm
        subst this
        exact ⟨List.mem_cons_of_mem _ (List.mem_filter.mpr ⟨List.mem_cons_self, by simp⟩), rfl⟩
      · have : ([Value.ref (sa s), Value.ref (sa s)])[i - 2]? = none := List.getElem?_eq_none (by simp; omega)
        rw [this] at h
        cases h
theorem pn_stk (hs : s < N) (hk : ¬ D 2 s = 1) (hr : 0 ≤ D 2 s ∧ D 2 s ≤ 3) {off : Int} (d0 : decode J.2.1 pc = .ok (.astore_n 3, 1)) (d1 : decode J.2.1 (pc + 1) = .ok (.aload_n 3, 1)) (d2 : decode J.2.1 (pc + 2) = .ok (.instanceof i, 3)) (hcl : Cond.classLink J.1.cls i RX6 ∈ WT) (tgt : Nat) (d3 : decode J.2.1 (pc + 5) = .ok (.ifCond .eq off, 3)) (ht : ((pc + 5 : Nat) : Int) + off = (tgt : Int)) (hn : 3 < J.2.2.1) (hlen : ls.length = 2) (K : G Z J E Q tgt ls st (cW Z a C fS fA (sW Z D sa sb N)) k n) : G Z J E Q pc ls (.ref (sa s) :: st) (cW Z a C fS fA (sW Z D sa sb N)) k n := by
  obtain ⟨q, hq⟩ := sl_ex (Z := Z) (a := a) (C := C) (fS := fS) (fA := fA) (D := D) (sa := sa) (sb := sb) hs
  have hh : D 2 s = 0 ∨ D 2 s = 2 ∨ D 2 s = 3 := by omega
  intro p l e s0 m args below meth c A H locs lsA CC hE hP hD hS hL
  obtain ⟨l0, h1, h2⟩ := hL
  refine lv_astore_n CC.ex CC.by d0 rfl h1 hn rfl (fun ls2 hl2 => ?_)
  have g3 : ls2[3]? = some (.val (.ref (sa s))) := hl2.2.2 (3, _) List.mem_cons_self
  refine lv_aload_n CC.ex CC.by d1 rfl g3 ?_
  have K2 := K p l e s0 m args below meth c A H locs ls2 CC hE hP hD hS ⟨_, hl2, fun i v h => by
    have hi : i < 2 := by
      rw [← hlen]
      exact (List.getElem?_eq_some_iff.mp h).1
    obtain ⟨m1, m2⟩ := h2 i v h
    exact ⟨List.mem_cons_of_mem _ (List.mem_filter.mpr ⟨m1, by simp [m2]; show ¬ i = 3; omega⟩), m2⟩⟩
  rcases hh with h | h | h
  · rw [slC0 h] at hq
    refine va_instNo CC.ex CC.by CC.ow (CC.ts _ hcl) (CC.en.2.2.1 (RX2, RX6) (by decide +kernel)) (va_recv CC.kk hP (ci := 2) rfl hq) d2 ?_
    exact lv_if_eq CC.ex CC.by d3 ht (fun _ => K2) (fun z => absurd rfl z)
  · rw [slC2 h] at hq
    refine va_instNo CC.ex CC.by CC.ow (CC.ts _ hcl) (CC.en.2.2.1 (RX1, RX6) (by decide +kernel)) (va_recv CC.kk hP (ci := 1) rfl hq) d2 ?_
    exact lv_if_eq CC.ex CC.by d3 ht (fun _ => K2) (fun z => absurd rfl z)
  · rw [slC3 h] at hq
    refine va_instNo CC.ex CC.by CC.ow (CC.ts _ hcl) (CC.en.2.2.1 (RX7, RX6) (by decide +kernel)) (va_recv CC.kk hP (ci := 6) rfl hq) d2 ?_
    exact lv_if_eq CC.ex CC.by d3 ht (fun _ => K2) (fun z => absurd rfl z)
theorem py_mrk (hs : s < N) (hk : D 2 s = 2) {i2 : Nat} {off : Int} (d0 : decode J.2.1 pc = .ok (.astore_n 3, 1)) (d1 : decode J.2.1 (pc + 1) = .ok (.aload_n 3, 1)) (d2 : decode J.2.1 (pc + 2) = .ok (.instanceof i, 3)) (hcl : Cond.classLink J.1.cls i RX1 ∈ WT) (tgt : Nat) (d3 : decode J.2.1 (pc + 5) = .ok (.ifCond .eq off, 3)) (ht : ((pc + 5 : Nat) : Int) + off = (tgt : Int)) (d4 : decode J.2.1 (pc + 8) = .ok (.aload_n 3, 1)) (d5 : decode J.2.1 (pc + 9) = .ok (.checkcast i2, 3)) (hcl2 : Cond.classLink J.1.cls i2 RX1 ∈ WT) (d6 : decode J.2.1 (pc + 12) = .ok (.astore_n 2, 1)) (hn : 3 < J.2.2.1) (hlen : ls.length = 2) (K : G Z J E Q (pc + 13) (ls ++ [.ref (sa s), .ref (sa s)]) st (cW Z a C fS fA (sW Z D sa sb N)) k n) : G Z J E Q pc ls (.ref (sa s) :: st) (cW Z a C fS fA (sW Z D sa sb N)) k n := by
  obtain ⟨q, hq⟩ := sl_ex (Z := Z) (a := a) (C := C) (fS := fS) (fA := fA) (D := D) (sa := sa) (sb := sb) hs
  rw [slC2 hk] at hq
  intro p l e s0 m args below meth c A H locs lsA CC hE hP hD hS hL
  obtain ⟨l0, h1, h2⟩ := hL
  refine lv_astore_n CC.ex CC.by d0 rfl h1 hn rfl (fun ls2 hl2 => ?_)
  have g3 : ls2[3]? = some (.val (.ref (sa s))) := hl2.2.2 (3, _) List.mem_cons_self
  refine lv_aload_n CC.ex CC.by d1 rfl g3 ?_
  refine va_instS CC.ex CC.by CC.ow (CC.ts _ hcl) (CC.kk.1 1 _ rfl).2 (va_recv CC.kk hP (ci := 1) rfl hq) d2 ?_
  refine lv_if_eq CC.ex CC.by d3 ht (fun z => absurd z (by decide)) (fun _ => ?_)
  refine lv_aload_n CC.ex CC.by d4 rfl g3 ?_
  refine va_castS CC.ex CC.by CC.ow (CC.ts _ hcl2) (CC.kk.1 1 _ rfl).2 (va_recv CC.kk hP (ci := 1) rfl hq) d5 ?_
  refine lv_astore_n CC.ex CC.by d6 rfl hl2 (by omega) rfl (fun ls3 hl3 => K p l e s0 m args below meth c A H locs ls3 CC hE hP hD hS ⟨_, hl3, fun i v h => ?_⟩)
  by_cases e2 : i < 2
  · rw [List.getElem?_append_left (by omega)] at h
    obtain ⟨m1, m2⟩ := h2 i v h
    refine ⟨List.mem_cons_of_mem _ (List.mem_filter.mpr ⟨List.mem_cons_of_mem _ (List.mem_filter.mpr ⟨m1, ?_⟩), ?_⟩), m2⟩
    · simp [m2]; show ¬ i = 3; omega
    · simp [m2, show ¬ i = 2 by omega]
  · rw [List.getElem?_append_right (by omega), hlen] at h
    by_cases e3 : i = 2
    · subst e3
      have : v = .ref (sa s) := by simpa using h.symm
      subst this
      exact ⟨List.mem_cons_self, rfl⟩
    · by_cases e4 : i = 3
      · subst e4
        have : v = .ref (sa s) := by simpa using h.symm
        subst this
        exact ⟨List.mem_cons_of_mem _ (List.mem_filter.mpr ⟨List.mem_cons_self, by simp⟩), rfl⟩
      · have : ([Value.ref (sa s), Value.ref (sa s)])[i - 2]? = none := List.getElem?_eq_none (by simp; omega)
        rw [this] at h
        cases h
theorem pn_mrk (hs : s < N) (hk : ¬ D 2 s = 2) (hr : 0 ≤ D 2 s ∧ D 2 s ≤ 3) {off : Int} (d0 : decode J.2.1 pc = .ok (.astore_n 3, 1)) (d1 : decode J.2.1 (pc + 1) = .ok (.aload_n 3, 1)) (d2 : decode J.2.1 (pc + 2) = .ok (.instanceof i, 3)) (hcl : Cond.classLink J.1.cls i RX1 ∈ WT) (tgt : Nat) (d3 : decode J.2.1 (pc + 5) = .ok (.ifCond .eq off, 3)) (ht : ((pc + 5 : Nat) : Int) + off = (tgt : Int)) (hn : 3 < J.2.2.1) (hlen : ls.length = 2) (K : G Z J E Q tgt ls st (cW Z a C fS fA (sW Z D sa sb N)) k n) : G Z J E Q pc ls (.ref (sa s) :: st) (cW Z a C fS fA (sW Z D sa sb N)) k n := by
  obtain ⟨q, hq⟩ := sl_ex (Z := Z) (a := a) (C := C) (fS := fS) (fA := fA) (D := D) (sa := sa) (sb := sb) hs
  have hh : D 2 s = 0 ∨ D 2 s = 1 ∨ D 2 s = 3 := by omega
  intro p l e s0 m args below meth c A H locs lsA CC hE hP hD hS hL
  obtain ⟨l0, h1, h2⟩ := hL
  refine lv_astore_n CC.ex CC.by d0 rfl h1 hn rfl (fun ls2 hl2 => ?_)
  have g3 : ls2[3]? = some (.val (.ref (sa s))) := hl2.2.2 (3, _) List.mem_cons_self
  refine lv_aload_n CC.ex CC.by d1 rfl g3 ?_
  have K2 := K p l e s0 m args below meth c A H locs ls2 CC hE hP hD hS ⟨_, hl2, fun i v h => by
    have hi : i < 2 := by
      rw [← hlen]
      exact (List.getElem?_eq_some_iff.mp h).1
    obtain ⟨m1, m2⟩ := h2 i v h
    exact ⟨List.mem_cons_of_mem _ (List.mem_filter.mpr ⟨m1, by simp [m2]; show ¬ i = 3; omega⟩), m2⟩⟩
  rcases hh with h | h | h
  · rw [slC0 h] at hq
    refine va_instNo CC.ex CC.by CC.ow (CC.ts _ hcl) (CC.en.2.2.1 (RX2, RX1) (by decide +kernel)) (va_recv CC.kk hP (ci := 2) rfl hq) d2 ?_
    exact lv_if_eq CC.ex CC.by d3 ht (fun _ => K2) (fun z => absurd rfl z)
  · rw [slC1 h] at hq
    refine va_instNo CC.ex CC.by CC.ow (CC.ts _ hcl) (CC.en.2.2.1 (RX6, RX1) (by decide +kernel)) (va_recv CC.kk hP (ci := 5) rfl hq) d2 ?_
    exact lv_if_eq CC.ex CC.by d3 ht (fun _ => K2) (fun z => absurd rfl z)
  · rw [slC3 h] at hq
    refine va_instNo CC.ex CC.by CC.ow (CC.ts _ hcl) (CC.en.2.2.1 (RX7, RX1) (by decide +kernel)) (va_recv CC.kk hP (ci := 6) rfl hq) d2 ?_
    exact lv_if_eq CC.ex CC.by d3 ht (fun _ => K2) (fun z => absurd rfl z)
theorem py_und (hs : s < N) (hk : D 2 s = 3) {i2 : Nat} {off : Int} (d0 : decode J.2.1 pc = .ok (.astore_n 3, 1)) (d1 : decode J.2.1 (pc + 1) = .ok (.aload_n 3, 1)) (d2 : decode J.2.1 (pc + 2) = .ok (.instanceof i, 3)) (hcl : Cond.classLink J.1.cls i RX7 ∈ WT) (tgt : Nat) (d3 : decode J.2.1 (pc + 5) = .ok (.ifCond .eq off, 3)) (ht : ((pc + 5 : Nat) : Int) + off = (tgt : Int)) (d4 : decode J.2.1 (pc + 8) = .ok (.aload_n 3, 1)) (d5 : decode J.2.1 (pc + 9) = .ok (.checkcast i2, 3)) (hcl2 : Cond.classLink J.1.cls i2 RX7 ∈ WT) (d6 : decode J.2.1 (pc + 12) = .ok (.astore_n 2, 1)) (hn : 3 < J.2.2.1) (hlen : ls.length = 2) (K : G Z J E Q (pc + 13) (ls ++ [.ref (sa s), .ref (sa s)]) st (cW Z a C fS fA (sW Z D sa sb N)) k n) : G Z J E Q pc ls (.ref (sa s) :: st) (cW Z a C fS fA (sW Z D sa sb N)) k n := by
  obtain ⟨q, hq⟩ := sl_ex (Z := Z) (a := a) (C := C) (fS := fS) (fA := fA) (D := D) (sa := sa) (sb := sb) hs
  rw [slC3 hk] at hq
  intro p l e s0 m args below meth c A H locs lsA CC hE hP hD hS hL
  obtain ⟨l0, h1, h2⟩ := hL
  refine lv_astore_n CC.ex CC.by d0 rfl h1 hn rfl (fun ls2 hl2 => ?_)
  have g3 : ls2[3]? = some (.val (.ref (sa s))) := hl2.2.2 (3, _) List.mem_cons_self
  refine lv_aload_n CC.ex CC.by d1 rfl g3 ?_
  refine va_instS CC.ex CC.by CC.ow (CC.ts _ hcl) (CC.kk.1 6 _ rfl).2 (va_recv CC.kk hP (ci := 6) rfl hq) d2 ?_
  refine lv_if_eq CC.ex CC.by d3 ht (fun z => absurd z (by decide)) (fun _ => ?_)
  refine lv_aload_n CC.ex CC.by d4 rfl g3 ?_
  refine va_castS CC.ex CC.by CC.ow (CC.ts _ hcl2) (CC.kk.1 6 _ rfl).2 (va_recv CC.kk hP (ci := 6) rfl hq) d5 ?_
  refine lv_astore_n CC.ex CC.by d6 rfl hl2 (by omega) rfl (fun ls3 hl3 => K p l e s0 m args below meth c A H locs ls3 CC hE hP hD hS ⟨_, hl3, fun i v h => ?_⟩)
  by_cases e2 : i < 2
  · rw [List.getElem?_append_left (by omega)] at h
    obtain ⟨m1, m2⟩ := h2 i v h
    refine ⟨List.mem_cons_of_mem _ (List.mem_filter.mpr ⟨List.mem_cons_of_mem _ (List.mem_filter.mpr ⟨m1, ?_⟩), ?_⟩), m2⟩
    · simp [m2]; show ¬ i = 3; omega
    · simp [m2, show ¬ i = 2 by omega]
  · rw [List.getElem?_append_right (by omega), hlen] at h
    by_cases e3 : i = 2
    · subst e3
      have : v = .ref (sa s) := by simpa using h.symm
      subst this
      exact ⟨List.mem_cons_self, rfl⟩
    · by_cases e4 : i = 3
      · subst e4
        have : v = .ref (sa s) := by simpa using h.symm
        subst this
        exact ⟨List.mem_cons_of_mem _ (List.mem_filter.mpr ⟨List.mem_cons_self, by simp⟩), rfl⟩
      · have : ([Value.ref (sa s), Value.ref (sa s)])[i - 2]? = none := List.getElem?_eq_none (by simp; omega)
        rw [this] at h
        cases h
theorem pn_und (hs : s < N) (hk : ¬ D 2 s = 3) (hr : 0 ≤ D 2 s ∧ D 2 s ≤ 3) {off : Int} (d0 : decode J.2.1 pc = .ok (.astore_n 3, 1)) (d1 : decode J.2.1 (pc + 1) = .ok (.aload_n 3, 1)) (d2 : decode J.2.1 (pc + 2) = .ok (.instanceof i, 3)) (hcl : Cond.classLink J.1.cls i RX7 ∈ WT) (tgt : Nat) (d3 : decode J.2.1 (pc + 5) = .ok (.ifCond .eq off, 3)) (ht : ((pc + 5 : Nat) : Int) + off = (tgt : Int)) (hn : 3 < J.2.2.1) (hlen : ls.length = 2) (K : G Z J E Q tgt ls st (cW Z a C fS fA (sW Z D sa sb N)) k n) : G Z J E Q pc ls (.ref (sa s) :: st) (cW Z a C fS fA (sW Z D sa sb N)) k n := by
  obtain ⟨q, hq⟩ := sl_ex (Z := Z) (a := a) (C := C) (fS := fS) (fA := fA) (D := D) (sa := sa) (sb := sb) hs
  have hh : D 2 s = 0 ∨ D 2 s = 1 ∨ D 2 s = 2 := by omega
  intro p l e s0 m args below meth c A H locs lsA CC hE hP hD hS hL
  obtain ⟨l0, h1, h2⟩ := hL
  refine lv_astore_n CC.ex CC.by d0 rfl h1 hn rfl (fun ls2 hl2 => ?_)
  have g3 : ls2[3]? = some (.val (.ref (sa s))) := hl2.2.2 (3, _) List.mem_cons_self
  refine lv_aload_n CC.ex CC.by d1 rfl g3 ?_
  have K2 := K p l e s0 m args below meth c A H locs ls2 CC hE hP hD hS ⟨_, hl2, fun i v h => by
    have hi : i < 2 := by
      rw [← hlen]
      exact (List.getElem?_eq_some_iff.mp h).1
    obtain ⟨m1, m2⟩ := h2 i v h
    exact ⟨List.mem_cons_of_mem _ (List.mem_filter.mpr ⟨m1, by simp [m2]; show ¬ i = 3; omega⟩), m2⟩⟩
  rcases hh with h | h | h
  · rw [slC0 h] at hq
    refine va_instNo CC.ex CC.by CC.ow (CC.ts _ hcl) (CC.en.2.2.1 (RX2, RX7) (by decide +kernel)) (va_recv CC.kk hP (ci := 2) rfl hq) d2 ?_
    exact lv_if_eq CC.ex CC.by d3 ht (fun _ => K2) (fun z => absurd rfl z)
  · rw [slC1 h] at hq
    refine va_instNo CC.ex CC.by CC.ow (CC.ts _ hcl) (CC.en.2.2.1 (RX6, RX7) (by decide +kernel)) (va_recv CC.kk hP (ci := 5) rfl hq) d2 ?_
    exact lv_if_eq CC.ex CC.by d3 ht (fun _ => K2) (fun z => absurd rfl z)
  · rw [slC2 h] at hq
    refine va_instNo CC.ex CC.by CC.ow (CC.ts _ hcl) (CC.en.2.2.1 (RX1, RX7) (by decide +kernel)) (va_recv CC.kk hP (ci := 1) rfl hq) d2 ?_
    exact lv_if_eq CC.ex CC.by d3 ht (fun _ => K2) (fun z => absurd rfl z)
theorem ct_slips (hs : s < N) (hr : 0 ≤ D 2 s ∧ D 2 s ≤ 3) (d : decode J.2.1 pc = .ok (.aastore, 1)) (h0 : 0 ≤ x) (h1 : x < 256) (K : G Z J E Q (pc + 1) ls st (cW Z a C (va_up fS x.toNat (some (sa s))) fA (sW Z D sa sb N)) k n) : G Z J E Q pc ls (.ref (sa s) :: .int (iI x) :: .ref (a 103) :: st) (cW Z a C fS fA (sW Z D sa sb N)) k n := by
  obtain ⟨q, hq⟩ := sl_ex (Z := Z) (a := a) (C := C) (fS := fS) (fA := fA) (D := D) (sa := sa) (sb := sb) hs
  have hh : D 2 s = 0 ∨ D 2 s = 1 ∨ D 2 s = 2 ∨ D 2 s = 3 := by omega
  have e : (iI x).toNatClampNeg = x.toNat := iI_clamp h0 (by omega)
  rcases hh with h | h | h | h
  · rw [slC0 h] at hq
    exact g_aast2 2 q 2 d rfl hq rfl (by decide +kernel) (iI_in h0 h1 (by decide)) (by rw [e]; rfl) K
  · rw [slC1 h] at hq
    exact g_aast2 2 q 5 d rfl hq rfl (by decide +kernel) (iI_in h0 h1 (by decide)) (by rw [e]; rfl) K
  · rw [slC2 h] at hq
    exact g_aast2 2 q 1 d rfl hq rfl (by decide +kernel) (iI_in h0 h1 (by decide)) (by rw [e]; rfl) K
  · rw [slC3 h] at hq
    exact g_aast2 2 q 6 d rfl hq rfl (by decide +kernel) (iI_in h0 h1 (by decide)) (by rw [e]; rfl) K
theorem ct_byAge (hs : s < N) (hr : 0 ≤ D 2 s ∧ D 2 s ≤ 3) (d : decode J.2.1 pc = .ok (.aastore, 1)) (h0 : 0 ≤ x) (h1 : x < 256) (K : G Z J E Q (pc + 1) ls st (cW Z a C fS (va_up fA x.toNat (some (sa s))) (sW Z D sa sb N)) k n) : G Z J E Q pc ls (.ref (sa s) :: .int (iI x) :: .ref (a 104) :: st) (cW Z a C fS fA (sW Z D sa sb N)) k n := by
  obtain ⟨q, hq⟩ := sl_ex (Z := Z) (a := a) (C := C) (fS := fS) (fA := fA) (D := D) (sa := sa) (sb := sb) hs
  have hh : D 2 s = 0 ∨ D 2 s = 1 ∨ D 2 s = 2 ∨ D 2 s = 3 := by omega
  have e : (iI x).toNatClampNeg = x.toNat := iI_clamp h0 (by omega)
  rcases hh with h | h | h | h
  · rw [slC0 h] at hq
    exact g_aast2 3 q 2 d rfl hq rfl (by decide +kernel) (iI_in h0 h1 (by decide)) (by rw [e]; rfl) K
  · rw [slC1 h] at hq
    exact g_aast2 3 q 5 d rfl hq rfl (by decide +kernel) (iI_in h0 h1 (by decide)) (by rw [e]; rfl) K
  · rw [slC2 h] at hq
    exact g_aast2 3 q 1 d rfl hq rfl (by decide +kernel) (iI_in h0 h1 (by decide)) (by rw [e]; rfl) K
  · rw [slC3 h] at hq
    exact g_aast2 3 q 6 d rfl hq rfl (by decide +kernel) (iI_in h0 h1 (by decide)) (by rw [e]; rfl) K
theorem cu_isLaterThan_X8_177 (hJ : J.1.cls = RX8) (hs : s < N) {t : Nat} (ht : t < N) (hM : RM D) (hr : 0 ≤ D 2 s ∧ D 2 s ≤ 3) (d : decode J.2.1 pc = .ok (.invokevirtual 177, 3)) (f0 : fitR J jX5_isLaterThan) (hst : (st.map fun v => v.category).sum ≤ 8) (hk3 : k ≤ J.2.2.2.2.cells) (hk4 : n ≤ J.2.2.2.2.slots) (K : G Z J E Q (pc + 3) ls (.int (iI (bI (laterB D s t))) :: st) (cW Z a C fS fA (sW Z D sa sb N)) k n) : G Z J E Q pc ls (.ref (sa t) :: .ref (sa s) :: st) (cW Z a C fS fA (sW Z D sa sb N)) k n := by
  obtain ⟨q, hq⟩ := sl_ex (Z := Z) (a := a) (C := C) (fS := fS) (fA := fA) (D := D) (sa := sa) (sb := sb) hs
  have hh : D 2 s = 0 ∨ D 2 s = 1 ∨ D 2 s = 2 ∨ D 2 s = 3 := by omega
  rcases hh with h | h | h | h
  · rw [slC0 h] at hq
    refine g_callU (post := fun r w => r = some (.int (iI (bI (laterB D s t)))) ∧ w = (cW Z a C fS fA (sW Z D sa sb N))) (As := [.ref (sa t)]) (by rw [hJ]; exact lkuX8_177_X2) (k_isLaterThan Z a C fS fA hM sa sb N s t hs ht) d f0 (ci := 2) rfl hq hst (by show k + 0 ≤ _; omega) (by show n + 0 ≤ _; omega) (fun r w2 hh => ?_) rfl
    obtain ⟨rfl, rfl⟩ := hh
    exact K
  · rw [slC1 h] at hq
    refine g_callU (post := fun r w => r = some (.int (iI (bI (laterB D s t)))) ∧ w = (cW Z a C fS fA (sW Z D sa sb N))) (As := [.ref (sa t)]) (by rw [hJ]; exact lkuX8_177_X6) (k_isLaterThan Z a C fS fA hM sa sb N s t hs ht) d f0 (ci := 5) rfl hq hst (by show k + 0 ≤ _; omega) (by show n + 0 ≤ _; omega) (fun r w2 hh => ?_) rfl
    obtain ⟨rfl, rfl⟩ := hh
    exact K
  · rw [slC2 h] at hq
    refine g_callU (post := fun r w => r = some (.int (iI (bI (laterB D s t)))) ∧ w = (cW Z a C fS fA (sW Z D sa sb N))) (As := [.ref (sa t)]) (by rw [hJ]; exact lkuX8_177_X1) (k_isLaterThan Z a C fS fA hM sa sb N s t hs ht) d f0 (ci := 1) rfl hq hst (by show k + 0 ≤ _; omega) (by show n + 0 ≤ _; omega) (fun r w2 hh => ?_) rfl
    obtain ⟨rfl, rfl⟩ := hh
    exact K
  · rw [slC3 h] at hq
    refine g_callU (post := fun r w => r = some (.int (iI (bI (laterB D s t)))) ∧ w = (cW Z a C fS fA (sW Z D sa sb N))) (As := [.ref (sa t)]) (by rw [hJ]; exact lkuX8_177_X7) (k_isLaterThan Z a C fS fA hM sa sb N s t hs ht) d f0 (ci := 6) rfl hq hst (by show k + 0 ≤ _; omega) (by show n + 0 ≤ _; omega) (fun r w2 hh => ?_) rfl
    obtain ⟨rfl, rfl⟩ := hh
    exact K
theorem cu_isLaterThan_X0_56 (hJ : J.1.cls = RX0) (hs : s < N) {t : Nat} (ht : t < N) (hM : RM D) (hr : 0 ≤ D 2 s ∧ D 2 s ≤ 3) (d : decode J.2.1 pc = .ok (.invokevirtual 56, 3)) (f0 : fitR J jX5_isLaterThan) (hst : (st.map fun v => v.category).sum ≤ 8) (hk3 : k ≤ J.2.2.2.2.cells) (hk4 : n ≤ J.2.2.2.2.slots) (K : G Z J E Q (pc + 3) ls (.int (iI (bI (laterB D s t))) :: st) (cW Z a C fS fA (sW Z D sa sb N)) k n) : G Z J E Q pc ls (.ref (sa t) :: .ref (sa s) :: st) (cW Z a C fS fA (sW Z D sa sb N)) k n := by
  obtain ⟨q, hq⟩ := sl_ex (Z := Z) (a := a) (C := C) (fS := fS) (fA := fA) (D := D) (sa := sa) (sb := sb) hs
  have hh : D 2 s = 0 ∨ D 2 s = 1 ∨ D 2 s = 2 ∨ D 2 s = 3 := by omega
  rcases hh with h | h | h | h
  · rw [slC0 h] at hq
    refine g_callU (post := fun r w => r = some (.int (iI (bI (laterB D s t)))) ∧ w = (cW Z a C fS fA (sW Z D sa sb N))) (As := [.ref (sa t)]) (by rw [hJ]; exact lkuX0_56_X2) (k_isLaterThan Z a C fS fA hM sa sb N s t hs ht) d f0 (ci := 2) rfl hq hst (by show k + 0 ≤ _; omega) (by show n + 0 ≤ _; omega) (fun r w2 hh => ?_) rfl
    obtain ⟨rfl, rfl⟩ := hh
    exact K
  · rw [slC1 h] at hq
    refine g_callU (post := fun r w => r = some (.int (iI (bI (laterB D s t)))) ∧ w = (cW Z a C fS fA (sW Z D sa sb N))) (As := [.ref (sa t)]) (by rw [hJ]; exact lkuX0_56_X6) (k_isLaterThan Z a C fS fA hM sa sb N s t hs ht) d f0 (ci := 5) rfl hq hst (by show k + 0 ≤ _; omega) (by show n + 0 ≤ _; omega) (fun r w2 hh => ?_) rfl
    obtain ⟨rfl, rfl⟩ := hh
    exact K
  · rw [slC2 h] at hq
    refine g_callU (post := fun r w => r = some (.int (iI (bI (laterB D s t)))) ∧ w = (cW Z a C fS fA (sW Z D sa sb N))) (As := [.ref (sa t)]) (by rw [hJ]; exact lkuX0_56_X1) (k_isLaterThan Z a C fS fA hM sa sb N s t hs ht) d f0 (ci := 1) rfl hq hst (by show k + 0 ≤ _; omega) (by show n + 0 ≤ _; omega) (fun r w2 hh => ?_) rfl
    obtain ⟨rfl, rfl⟩ := hh
    exact K
  · rw [slC3 h] at hq
    refine g_callU (post := fun r w => r = some (.int (iI (bI (laterB D s t)))) ∧ w = (cW Z a C fS fA (sW Z D sa sb N))) (As := [.ref (sa t)]) (by rw [hJ]; exact lkuX0_56_X7) (k_isLaterThan Z a C fS fA hM sa sb N s t hs ht) d f0 (ci := 6) rfl hq hst (by show k + 0 ≤ _; omega) (by show n + 0 ≤ _; omega) (fun r w2 hh => ?_) rfl
    obtain ⟨rfl, rfl⟩ := hh
    exact K
theorem cu_kind_X8_158 (hJ : J.1.cls = RX8) (hs : s < N)  (hr : 0 ≤ D 2 s ∧ D 2 s ≤ 3) (d : decode J.2.1 pc = .ok (.invokevirtual 158, 3)) (f0 : fitR J jX2_kind) (f1 : fitR J jX6_kind) (f2 : fitR J jX1_kind) (f3 : fitR J jX7_kind) (hst : (st.map fun v => v.category).sum ≤ 8) (hk3 : k ≤ J.2.2.2.2.cells) (hk4 : n ≤ J.2.2.2.2.slots) (K : G Z J E Q (pc + 3) ls (.int (iI (D 2 s)) :: st) (cW Z a C fS fA (sW Z D sa sb N)) k n) : G Z J E Q pc ls (.ref (sa s) :: st) (cW Z a C fS fA (sW Z D sa sb N)) k n := by
  obtain ⟨q, hq⟩ := sl_ex (Z := Z) (a := a) (C := C) (fS := fS) (fA := fA) (D := D) (sa := sa) (sb := sb) hs
  have hh : D 2 s = 0 ∨ D 2 s = 1 ∨ D 2 s = 2 ∨ D 2 s = 3 := by omega
  rcases hh with h | h | h | h
  · rw [slC0 h] at hq
    refine g_callU (post := fun r w => r = some (.int (iI (D 2 s))) ∧ w = (cW Z a C fS fA (sW Z D sa sb N))) (As := []) (by rw [hJ]; exact lkuX8_158_X2) (tr_post (k_X2_kind Z _ _) (fun r w hh => by obtain ⟨e1, e2⟩ := hh; exact ⟨by rw [e1, h], e2⟩)) d f0 (ci := 2) rfl hq hst (by show k + 0 ≤ _; omega) (by show n + 0 ≤ _; omega) (fun r w2 hh => ?_) rfl
    obtain ⟨rfl, rfl⟩ := hh
    exact K
  · rw [slC1 h] at hq
    refine g_callU (post := fun r w => r = some (.int (iI (D 2 s))) ∧ w = (cW Z a C fS fA (sW Z D sa sb N))) (As := []) (by rw [hJ]; exact lkuX8_158_X6) (tr_post (k_X6_kind Z _ _) (fun r w hh => by obtain ⟨e1, e2⟩ := hh; exact ⟨by rw [e1, h], e2⟩)) d f1 (ci := 5) rfl hq hst (by show k + 0 ≤ _; omega) (by show n + 0 ≤ _; omega) (fun r w2 hh => ?_) rfl
    obtain ⟨rfl, rfl⟩ := hh
    exact K
  · rw [slC2 h] at hq
    refine g_callU (post := fun r w => r = some (.int (iI (D 2 s))) ∧ w = (cW Z a C fS fA (sW Z D sa sb N))) (As := []) (by rw [hJ]; exact lkuX8_158_X1) (tr_post (k_X1_kind Z _ _) (fun r w hh => by obtain ⟨e1, e2⟩ := hh; exact ⟨by rw [e1, h], e2⟩)) d f2 (ci := 1) rfl hq hst (by show k + 0 ≤ _; omega) (by show n + 0 ≤ _; omega) (fun r w2 hh => ?_) rfl
    obtain ⟨rfl, rfl⟩ := hh
    exact K
  · rw [slC3 h] at hq
    refine g_callU (post := fun r w => r = some (.int (iI (D 2 s))) ∧ w = (cW Z a C fS fA (sW Z D sa sb N))) (As := []) (by rw [hJ]; exact lkuX8_158_X7) (tr_post (k_X7_kind Z _ _) (fun r w hh => by obtain ⟨e1, e2⟩ := hh; exact ⟨by rw [e1, h], e2⟩)) d f3 (ci := 6) rfl hq hst (by show k + 0 ≤ _; omega) (by show n + 0 ≤ _; omega) (fun r w2 hh => ?_) rfl
    obtain ⟨rfl, rfl⟩ := hh
    exact K
theorem cu_size_X8_162 (hJ : J.1.cls = RX8) (hs : s < N) (h3a : 0 ≤ D 3 s) (h3m : D 2 s = 2 → D 3 s = 2) (h3u : D 2 s = 3 → D 3 s = 0) (hr : 0 ≤ D 2 s ∧ D 2 s ≤ 3) (d : decode J.2.1 pc = .ok (.invokevirtual 162, 3)) (f0 : fitR J jX2_size) (f1 : fitR J jX6_size) (f2 : fitR J jX1_size) (f3 : fitR J jX7_size) (hst : (st.map fun v => v.category).sum ≤ 8) (hk3 : k ≤ J.2.2.2.2.cells) (hk4 : n ≤ J.2.2.2.2.slots) (K : G Z J E Q (pc + 3) ls (.int (iI (D 3 s)) :: st) (cW Z a C fS fA (sW Z D sa sb N)) k n) : G Z J E Q pc ls (.ref (sa s) :: st) (cW Z a C fS fA (sW Z D sa sb N)) k n := by
  obtain ⟨q, hq⟩ := sl_ex (Z := Z) (a := a) (C := C) (fS := fS) (fA := fA) (D := D) (sa := sa) (sb := sb) hs
  have hh : D 2 s = 0 ∨ D 2 s = 1 ∨ D 2 s = 2 ∨ D 2 s = 3 := by omega
  rcases hh with h | h | h | h
  · rw [slC0 h] at hq
    refine g_callU (post := fun r w => r = some (.int (iI (D 3 s))) ∧ w = (cW Z a C fS fA (sW Z D sa sb N))) (As := []) (by rw [hJ]; exact lkuX8_162_X2) (k_X2_size Z a C fS fA sa sb N s hs h h3a) d f0 (ci := 2) rfl hq hst (by show k + 0 ≤ _; omega) (by show n + 0 ≤ _; omega) (fun r w2 hh => ?_) rfl
    obtain ⟨rfl, rfl⟩ := hh
    exact K
  · rw [slC1 h] at hq
    refine g_callU (post := fun r w => r = some (.int (iI (D 3 s))) ∧ w = (cW Z a C fS fA (sW Z D sa sb N))) (As := []) (by rw [hJ]; exact lkuX8_162_X6) (k_X6_size Z a C fS fA sa sb N s hs h h3a) d f1 (ci := 5) rfl hq hst (by show k + 0 ≤ _; omega) (by show n + 0 ≤ _; omega) (fun r w2 hh => ?_) rfl
    obtain ⟨rfl, rfl⟩ := hh
    exact K
  · rw [slC2 h] at hq
    refine g_callU (post := fun r w => r = some (.int (iI (D 3 s))) ∧ w = (cW Z a C fS fA (sW Z D sa sb N))) (As := []) (by rw [hJ]; exact lkuX8_162_X1) (tr_post (k_X1_size Z _ _) (fun r w hh => by obtain ⟨e1, e2⟩ := hh; exact ⟨by rw [e1, h3m h], e2⟩)) d f2 (ci := 1) rfl hq hst (by show k + 0 ≤ _; omega) (by show n + 0 ≤ _; omega) (fun r w2 hh => ?_) rfl
    obtain ⟨rfl, rfl⟩ := hh
    exact K
  · rw [slC3 h] at hq
    refine g_callU (post := fun r w => r = some (.int (iI (D 3 s))) ∧ w = (cW Z a C fS fA (sW Z D sa sb N))) (As := []) (by rw [hJ]; exact lkuX8_162_X7) (tr_post (k_X7_size Z _ _) (fun r w hh => by obtain ⟨e1, e2⟩ := hh; exact ⟨by rw [e1, h3u h], e2⟩)) d f3 (ci := 6) rfl hq hst (by show k + 0 ≤ _; omega) (by show n + 0 ≤ _; omega) (fun r w2 hh => ?_) rfl
    obtain ⟨rfl, rfl⟩ := hh
    exact K
def hmN (D : Mem) (s : Int) : Int := if D 2 s = 1 then D 3 s else if D 2 s = 2 then 3 else 1
theorem cu_howManyNeeds_X4_63 (hJ : J.1.cls = RX4) (hs : s < N) (h3a : 0 ≤ D 3 s) (hr : 0 ≤ D 2 s ∧ D 2 s ≤ 3) (d : decode J.2.1 pc = .ok (.invokevirtual 63, 3)) (f0 : fitR J jX2_howManyNeeds) (f1 : fitR J jX6_howManyNeeds) (f2 : fitR J jX1_howManyNeeds) (f3 : fitR J jX7_howManyNeeds) (hst : (st.map fun v => v.category).sum ≤ 8) (hk3 : k ≤ J.2.2.2.2.cells) (hk4 : n ≤ J.2.2.2.2.slots) (K : G Z J E Q (pc + 3) ls (.int (iI (hmN D s)) :: st) (cW Z a C fS fA (sW Z D sa sb N)) k n) : G Z J E Q pc ls (.ref (sa s) :: st) (cW Z a C fS fA (sW Z D sa sb N)) k n := by
  obtain ⟨q, hq⟩ := sl_ex (Z := Z) (a := a) (C := C) (fS := fS) (fA := fA) (D := D) (sa := sa) (sb := sb) hs
  have hh : D 2 s = 0 ∨ D 2 s = 1 ∨ D 2 s = 2 ∨ D 2 s = 3 := by omega
  rcases hh with h | h | h | h
  · rw [slC0 h] at hq
    refine g_callU (post := fun r w => r = some (.int (iI (hmN D s))) ∧ w = (cW Z a C fS fA (sW Z D sa sb N))) (As := []) (by rw [hJ]; exact lkuX4_63_X2) (tr_post (k_X2_howManyNeeds Z _ _) (fun r w hh => by obtain ⟨e1, e2⟩ := hh; exact ⟨by rw [e1]; unfold hmN; rw [if_neg (by omega), if_neg (by omega)], e2⟩)) d f0 (ci := 2) rfl hq hst (by show k + 0 ≤ _; omega) (by show n + 0 ≤ _; omega) (fun r w2 hh => ?_) rfl
    obtain ⟨rfl, rfl⟩ := hh
    exact K
  · rw [slC1 h] at hq
    refine g_callU (post := fun r w => r = some (.int (iI (hmN D s))) ∧ w = (cW Z a C fS fA (sW Z D sa sb N))) (As := []) (by rw [hJ]; exact lkuX4_63_X6) (tr_post (k_X6_howManyNeeds Z a C fS fA sa sb N s hs h h3a) (fun r w hh => by obtain ⟨e1, e2⟩ := hh; exact ⟨by rw [e1]; unfold hmN; rw [if_pos h], e2⟩)) d f1 (ci := 5) rfl hq hst (by show k + 0 ≤ _; omega) (by show n + 0 ≤ _; omega) (fun r w2 hh => ?_) rfl
    obtain ⟨rfl, rfl⟩ := hh
    exact K
  · rw [slC2 h] at hq
    refine g_callU (post := fun r w => r = some (.int (iI (hmN D s))) ∧ w = (cW Z a C fS fA (sW Z D sa sb N))) (As := []) (by rw [hJ]; exact lkuX4_63_X1) (tr_post (k_X1_howManyNeeds Z _ _) (fun r w hh => by obtain ⟨e1, e2⟩ := hh; exact ⟨by rw [e1]; unfold hmN; rw [if_neg (by omega), if_pos h], e2⟩)) d f2 (ci := 1) rfl hq hst (by show k + 0 ≤ _; omega) (by show n + 0 ≤ _; omega) (fun r w2 hh => ?_) rfl
    obtain ⟨rfl, rfl⟩ := hh
    exact K
  · rw [slC3 h] at hq
    refine g_callU (post := fun r w => r = some (.int (iI (hmN D s))) ∧ w = (cW Z a C fS fA (sW Z D sa sb N))) (As := []) (by rw [hJ]; exact lkuX4_63_X7) (tr_post (k_X7_howManyNeeds Z _ _) (fun r w hh => by obtain ⟨e1, e2⟩ := hh; exact ⟨by rw [e1]; unfold hmN; rw [if_neg (by omega), if_neg (by omega)], e2⟩)) d f3 (ci := 6) rfl hq hst (by show k + 0 ≤ _; omega) (by show n + 0 ≤ _; omega) (fun r w2 hh => ?_) rfl
    obtain ⟨rfl, rfl⟩ := hh
    exact K
theorem ckE_put {J2 : MD} {As : List Value} {v : Value} {w3 : va_W} (hs : s < N) (hk : D 2 s = 0) (hlk : lkV J.1.cls i J2 As.length) (hT : Tr Z J2 (.ref (sa s) :: As) (cW Z a C fS fA (sW Z D sa sb N)) (fun r w => r = some v ∧ w = w3)) (d : decode J.2.1 pc = .ok (.invokevirtual i, 3)) (hfit : fitR J J2) (hcl : J2.1.cls = RX2) (hst : (st.map fun v => v.category).sum ≤ 8) (h1 : J2.2.2.2.2.cells = 0) (h2 : J2.2.2.2.2.slots = 0) (h3 : k ≤ J.2.2.2.2.cells) (h4 : n ≤ J.2.2.2.2.slots) {st2 : List Value} (hs2 : As.reverse ++ .ref (sa s) :: st = st2) (K : G Z J E Q (pc + 3) ls (v :: st) w3 k n) : G Z J E Q pc ls st2 (cW Z a C fS fA (sW Z D sa sb N)) k n := by
  obtain ⟨q, hq⟩ := sl_ex (Z := Z) (a := a) (C := C) (fS := fS) (fA := fA) (D := D) (sa := sa) (sb := sb) hs
  rw [slC0 hk] at hq
  exact ckE (ci := 2) hlk hT d hfit (by rw [hcl]; rfl) hq hst h1 h2 h3 h4 hs2 K
theorem ckE_stk {J2 : MD} {As : List Value} {v : Value} {w3 : va_W} (hs : s < N) (hk : D 2 s = 1) (hlk : lkV J.1.cls i J2 As.length) (hT : Tr Z J2 (.ref (sa s) :: As) (cW Z a C fS fA (sW Z D sa sb N)) (fun r w => r = some v ∧ w = w3)) (d : decode J.2.1 pc = .ok (.invokevirtual i, 3)) (hfit : fitR J J2) (hcl : J2.1.cls = RX6) (hst : (st.map fun v => v.category).sum ≤ 8) (h1 : J2.2.2.2.2.cells = 0) (h2 : J2.2.2.2.2.slots = 0) (h3 : k ≤ J.2.2.2.2.cells) (h4 : n ≤ J.2.2.2.2.slots) {st2 : List Value} (hs2 : As.reverse ++ .ref (sa s) :: st = st2) (K : G Z J E Q (pc + 3) ls (v :: st) w3 k n) : G Z J E Q pc ls st2 (cW Z a C fS fA (sW Z D sa sb N)) k n := by
  obtain ⟨q, hq⟩ := sl_ex (Z := Z) (a := a) (C := C) (fS := fS) (fA := fA) (D := D) (sa := sa) (sb := sb) hs
  rw [slC1 hk] at hq
  exact ckE (ci := 5) hlk hT d hfit (by rw [hcl]; rfl) hq hst h1 h2 h3 h4 hs2 K
theorem ckE_mrk {J2 : MD} {As : List Value} {v : Value} {w3 : va_W} (hs : s < N) (hk : D 2 s = 2) (hlk : lkV J.1.cls i J2 As.length) (hT : Tr Z J2 (.ref (sa s) :: As) (cW Z a C fS fA (sW Z D sa sb N)) (fun r w => r = some v ∧ w = w3)) (d : decode J.2.1 pc = .ok (.invokevirtual i, 3)) (hfit : fitR J J2) (hcl : J2.1.cls = RX1) (hst : (st.map fun v => v.category).sum ≤ 8) (h1 : J2.2.2.2.2.cells = 0) (h2 : J2.2.2.2.2.slots = 0) (h3 : k ≤ J.2.2.2.2.cells) (h4 : n ≤ J.2.2.2.2.slots) {st2 : List Value} (hs2 : As.reverse ++ .ref (sa s) :: st = st2) (K : G Z J E Q (pc + 3) ls (v :: st) w3 k n) : G Z J E Q pc ls st2 (cW Z a C fS fA (sW Z D sa sb N)) k n := by
  obtain ⟨q, hq⟩ := sl_ex (Z := Z) (a := a) (C := C) (fS := fS) (fA := fA) (D := D) (sa := sa) (sb := sb) hs
  rw [slC2 hk] at hq
  exact ckE (ci := 1) hlk hT d hfit (by rw [hcl]; rfl) hq hst h1 h2 h3 h4 hs2 K
end KSlips
