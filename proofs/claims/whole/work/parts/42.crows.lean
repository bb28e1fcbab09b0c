/-! rows for the class: calls of inherited, abstract and nest mates' methods, instanceof, checkcast, Math -/
def notMH (n : String) : Prop := n ≠ "java/lang/invoke/MethodHandle" ∧ n ≠ "java/lang/invoke/VarHandle"
def lkU (own : String) (i : Nat) (Cn : String) (x : MethodName) (J2 : MD) (n : Nat) : Prop := Cond.methodLink own i x ∈ WT ∧ Cond.sameMethod x.cls x.cls x.name x.desc ∈ WT ∧ Cond.selects Cn x J2.1 ∈ WT ∧ Cond.instanceMethod J2.1 ∈ WT ∧ Cond.initialized J2.1.cls ∈ WT ∧ cdW J2 ∈ WT ∧ (x.cls ≠ "java/lang/invoke/MethodHandle" ∧ x.cls ≠ "java/lang/invoke/VarHandle" ∧ (parseMethodDescriptor x.desc).map (fun d => d.parameters.length) = some n) ∧ (J2.1 = x ∨ Cond.declares x ∈ NWs)
section URows
variable {Z : LZ} {J : MD} {E : State → Array Value → (Nat → Prop) → Prop} {Q : List Frame → Array Value → State → (Nat → Prop) → State → Prop} {pc : Nat} {ls st : List Value} {ws : va_W} {k n : Nat}
theorem g_callU {post : Option Value → va_W → Prop} {J2 : MD} {As : List Value} {b i ci N q0 : Nat} {fs : List Value} {T : u_T} {Cn : String} {x : MethodName} (hlk : lkU J.1.cls i Cn x J2 As.length) (hT : Tr Z J2 (.ref b :: As) ws post) (d : decode J.2.1 pc = .ok (.invokevirtual i, 3)) (hfit : fitR J J2)
    (hc : vwCl[ci]? = some (Cn, T, N)) (he : ws[q0]? = some (b, .inr (ci, fs))) (hst : (st.map fun v => v.category).sum ≤ 8) (h1 : k + J2.2.2.2.2.cells ≤ J.2.2.2.2.cells) (h2 : n + J2.2.2.2.2.slots ≤ J.2.2.2.2.slots)
    (K : ∀ (r : Option Value) (w2 : va_W), post r w2 → G Z J E Q (pc + 3) ls (r.toList ++ st) w2 (k + J2.2.2.2.2.cells) (n + J2.2.2.2.2.slots)) {st2 : List Value} (hs : As.reverse ++ .ref b :: st = st2) : G Z J E Q pc ls st2 ws k n := by
  intro p l e s m args below meth c A H locs lsA C hE hP hD hS hL
  subst hs
  obtain ⟨l1, l2, l3, l4, l5, l6, l7, l8⟩ := hlk
  have hFc := va_free (wc := ws) hD hS C.hA (List.range ws.length) (range_all ws)
  have hG : GoodIn WT (va_wsU J.1.cls i Cn x.cls x J2.1 (cdW J2 :: WT)) := wt_GI_cons l1 (wt_GI_cons l2 (wt_GI_cons l3 (wt_GI_cons l4 (wt_GI_cons l5 (wt_GI_cons l6 wt_GI)))))
  have hcw : va_CU J.2.2.2.2 s args J.1.cls Cn x.cls i x J2.1 J2.2.1 J2.2.2.1 J2.2.2.2.1 (cdW J2 :: WT) J2.2.2.2.2 J2.2.2.2.2.cells J2.2.2.2.2.slots As.length := by
    rcases l8 with h | h
    · exact va_cwU As.length C.ts hG rfl rfl rfl h l7 hfit
    · exact va_cwA As.length C.ts hG rfl rfl rfl (C.en.2.1 _ h) l7 hfit
  refine va_callg (va_runU (As := As) (rest := st) ⟨C.ex, C.by, C.ml, C.ow, C.ts⟩ (hT l H.size) hcw ⟨pcB, va_recv C.kk hP hc he, fun U hU hW => ⟨rfl, by rw [hU], by rw [hU]; exact hP, C.en.warm hW, hD.weaken (fun _ _ _ _ => trivial)⟩⟩ rfl rfl (hL.size) rfl (lv_room hst) d ⟨h1, h2⟩) hS (fun q _ h => hFc q h) hFc (fun r w2 H1 locs1 hp hP1 hD1 hz hk1 hS1 => ?_)
  exact K r w2 hp p l e s m args below meth c A H1 locs1 lsA C hE hP1 (hD1.weaken (fun j q _ h => hFc q.1 h)) hS1 hL
def lkN (own : String) (i : Nat) (host : String) (J2 : MD) (n : Nat) : Prop := Cond.methodLinkNest own i J2.1 host ∈ NWs ∧ Cond.static J2.1 ∈ WT ∧ Cond.initialized J2.1.cls ∈ WT ∧ cdW J2 ∈ WT ∧ nDesc J2.1 n
theorem g_callSN {post : Option Value → va_W → Prop} {J2 : MD} {As : List Value} {i : Nat} {host : String} (hlk : lkN J.1.cls i host J2 As.length) (hT : Tr Z J2 As ws post) (d : decode J.2.1 pc = .ok (.invokestatic i, 3)) (hfit : fitR J J2)
    (hst : (st.map fun v => v.category).sum ≤ 8) (h1 : k + J2.2.2.2.2.cells ≤ J.2.2.2.2.cells) (h2 : n + J2.2.2.2.2.slots ≤ J.2.2.2.2.slots)
    (K : ∀ (r : Option Value) (w2 : va_W), post r w2 → G Z J E Q (pc + 3) ls (r.toList ++ st) w2 (k + J2.2.2.2.2.cells) (n + J2.2.2.2.2.slots)) {st2 : List Value} (hs : As.reverse ++ st = st2) : G Z J E Q pc ls st2 ws k n := by
  intro p l e s m args below meth c A H locs lsA C hE hP hD hS hL
  subst hs
  obtain ⟨l1, l2, l4, l5, l6⟩ := hlk
  have hFc := va_free (wc := ws) hD hS C.hA (List.range ws.length) (range_all ws)
  refine va_callg (va_runSN (As := As) (rest := st) ⟨C.ex, C.by, C.ml, C.ow, C.ts⟩ (hT l H.size) ⟨va_cnB As.length C.ts (wt_GI_cons l5 wt_GI) rfl rfl rfl (C.en.2.1 _ l1) (C.ts _ l4) l6 hfit, C.ts _ l2, trivial⟩ ⟨pcB, fun U hU hW => ⟨rfl, by rw [hU], by rw [hU]; exact hP, C.en.warm hW, hD.weaken (fun _ _ _ _ => trivial)⟩⟩ rfl rfl (hL.size) rfl (lv_room hst) d ⟨h1, h2⟩) hS (fun q _ h => hFc q h) hFc (fun r w2 H1 locs1 hp hP1 hD1 hz hk1 hS1 => ?_)
  exact K r w2 hp p l e s m args below meth c A H1 locs1 lsA C hE hP1 (hD1.weaken (fun j q _ h => hFc q.1 h)) hS1 hL
theorem g_instNo {i a ci N q0 : Nat} {fs : List Value} {T : u_T} {Cn nm : String} (d : decode J.2.1 pc = .ok (.instanceof i, 3)) (hcl : Cond.classLink J.1.cls i nm ∈ WT) (hc : vwCl[ci]? = some (Cn, T, N)) (he : ws[q0]? = some (a, .inr (ci, fs))) (hn : (Cn, nm) ∈ NCs) (K : G Z J E Q (pc + 3) ls (.int (iI 0) :: st) ws k n) : G Z J E Q pc ls (.ref a :: st) ws k n := by
  intro p l e s m args below meth c A H locs lsA C hE hP hD hS hL
  exact va_instNo C.ex C.by C.ow (C.ts _ hcl) (C.en.2.2.1 _ hn) (va_recv C.kk hP hc he) d (K p l e s m args below meth c A H locs lsA C hE hP hD hS hL)
theorem g_instS {i a ci N q0 : Nat} {fs : List Value} {T : u_T} {Cn : String} (d : decode J.2.1 pc = .ok (.instanceof i, 3)) (hcl : Cond.classLink J.1.cls i Cn ∈ WT) (hc : vwCl[ci]? = some (Cn, T, N)) (he : ws[q0]? = some (a, .inr (ci, fs))) (K : G Z J E Q (pc + 3) ls (.int (iI 1) :: st) ws k n) : G Z J E Q pc ls (.ref a :: st) ws k n := by
  intro p l e s m args below meth c A H locs lsA C hE hP hD hS hL
  exact va_instS C.ex C.by C.ow (C.ts _ hcl) (C.kk.1 ci _ hc).2 (va_recv C.kk hP hc he) d (K p l e s m args below meth c A H locs lsA C hE hP hD hS hL)
theorem g_castS {i a ci N q0 : Nat} {fs : List Value} {T : u_T} {Cn : String} (d : decode J.2.1 pc = .ok (.checkcast i, 3)) (hcl : Cond.classLink J.1.cls i Cn ∈ WT) (hc : vwCl[ci]? = some (Cn, T, N)) (he : ws[q0]? = some (a, .inr (ci, fs))) (K : G Z J E Q (pc + 3) ls (.ref a :: st) ws k n) : G Z J E Q pc ls (.ref a :: st) ws k n := by
  intro p l e s m args below meth c A H locs lsA C hE hP hD hS hL
  exact va_castS C.ex C.by C.ow (C.ts _ hcl) (C.kk.1 ci _ hc).2 (va_recv C.kk hP hc he) d (K p l e s m args below meth c A H locs lsA C hE hP hD hS hL)
theorem g_instN {i : Nat} (d : decode J.2.1 pc = .ok (.instanceof i, 3)) (K : G Z J E Q (pc + 3) ls (.int (iI 0) :: st) ws k n) : G Z J E Q pc ls (.null :: st) ws k n := by
  intro p l e s m args below meth c A H locs lsA C hE hP hD hS hL
  exact lv_instN C.ex C.by d (K p l e s m args below meth c A H locs lsA C hE hP hD hS hL)
theorem g_mmax {i : Nat} {x y : Int} (d : decode J.2.1 pc = .ok (.invokestatic i, 3)) (hl : Cond.methodLink J.1.cls i Lib.Math.max.name ∈ WT) (hs : Cond.static Lib.Math.max.name ∈ WT) (hi : Cond.initialized "java/lang/Math" ∈ WT) (hcd : Cond.code Lib.Math.max.name Lib.Math.max.code 2 (some .int) ∈ WT) (h1 : 1 ≤ J.2.2.2.2.frames) (h2 : (st.map fun v => v.category).sum + 13 ≤ J.2.2.2.2.locals) (h3 : k ≤ J.2.2.2.2.cells) (h4 : n ≤ J.2.2.2.2.slots) (hx : Rg x) (hy : Rg y) (K : G Z J E Q (pc + 3) ls (.int (iI (if x < y then y else x)) :: st) ws k n) : G Z J E Q pc ls (.int (iI y) :: .int (iI x) :: st) ws k n := by
  intro p l e s m args below meth c A H locs lsA C hE hP hD hS hL
  refine va_mmax C.ex C.by (C.ml.trans hL.size.symm) C.ow (C.ts _ hl) (C.ts _ hs) (C.ts _ hi) (C.ts _ hcd) h1 h2 h3 h4 d ?_
  have K2 := (K p l e s m args below meth c A H locs lsA C hE hP hD hS hL)
  have e : (if iI x < iI y then iI y else iI x) = iI (if x < y then y else x) := by
    by_cases h : x < y
    · rw [if_pos h, if_pos ((iI_lt hx hy).mpr h)]
    · rw [if_neg h, if_neg (fun q => h ((iI_lt hx hy).mp q))]
  first | exact e ▸ K2 | (rw [← e] at K2; exact K2)
theorem g_mmin {i : Nat} {x y : Int} (d : decode J.2.1 pc = .ok (.invokestatic i, 3)) (hl : Cond.methodLink J.1.cls i Lib.Math.min.name ∈ WT) (hs : Cond.static Lib.Math.min.name ∈ WT) (hi : Cond.initialized "java/lang/Math" ∈ WT) (hcd : Cond.code Lib.Math.min.name Lib.Math.min.code 2 (some .int) ∈ WT) (h1 : 1 ≤ J.2.2.2.2.frames) (h2 : (st.map fun v => v.category).sum + 13 ≤ J.2.2.2.2.locals) (h3 : k ≤ J.2.2.2.2.cells) (h4 : n ≤ J.2.2.2.2.slots) (hx : Rg x) (hy : Rg y) (K : G Z J E Q (pc + 3) ls (.int (iI (if y < x then y else x)) :: st) ws k n) : G Z J E Q pc ls (.int (iI y) :: .int (iI x) :: st) ws k n := by
  intro p l e s m args below meth c A H locs lsA C hE hP hD hS hL
  refine va_mmin C.ex C.by (C.ml.trans hL.size.symm) C.ow (C.ts _ hl) (C.ts _ hs) (C.ts _ hi) (C.ts _ hcd) h1 h2 h3 h4 d ?_
  have K2 := (K p l e s m args below meth c A H locs lsA C hE hP hD hS hL)
  have e : (if iI y < iI x then iI y else iI x) = iI (if y < x then y else x) := by
    by_cases h : y < x
    · rw [if_pos h, if_pos ((iI_lt hy hx).mpr h)]
    · rw [if_neg h, if_neg (fun q => h ((iI_lt hy hx).mp q))]
  first | exact e ▸ K2 | (rw [← e] at K2; exact K2)
end URows
