/-! THE LAYER: G Z J E Q pc ls st ws k n: the machine at pc of the method J, locals ls, stack st, world ws, k cells of n slots made so far, comes to Q. All of the machine is hidden in it; a row an instruction. -/
abbrev LZ : Type := va_G × (Nat → ClassId)
def tyZ (Z : LZ) : List (ClassId × FieldType) := [(Z.2 0, .int), (Z.2 1, .boolean), (Z.2 2, .object "ManyPens$Slip"), (Z.2 3, .object "ManyPens$Sheet")]
theorem wt_GI : GoodIn WT WT := fun w h => ⟨h, wt_good w h⟩
theorem wt_GI_cons {w : Cond} {l : List Cond} (h : w ∈ WT) (hl : GoodIn WT l) : GoodIn WT (w :: l) := fun v hv => (List.mem_cons.mp hv).elim (fun e => e ▸ ⟨h, wt_good w h⟩) (hl v)
def EnvZ (Z : LZ) (U : State) : Prop := va_K Z.1 vwCl (tyZ Z) U ∧ (∀ w ∈ NWs, va_Nw w U) ∧ (∀ q ∈ NCs, va_Nc q.1 q.2 U) ∧ va_AO "ManyPens$Slip" U ∧ va_AO "ManyPens$Sheet" U
theorem EnvZ.warm {Z : LZ} {s U : State} (h : EnvZ Z s) (hW : s.WarmedH U.vm) : EnvZ Z U :=
  ⟨va_K.moved hW.alike h.1, fun w hw => (NWs_ok w hw).2 s U hW (h.2.1 w hw), fun q hq => (h.2.2.1 q hq).moved hW.alike, h.2.2.2.1.moved hW.alike, h.2.2.2.2.moved hW.alike⟩
theorem EnvZ.same {Z : LZ} {s U : State} (h : EnvZ Z s) (hv : s.vm = U.vm) : EnvZ Z U :=
  ⟨va_K.moved (by rw [← hv]; exact Vm.Alike.refl s.vm) h.1, fun w hw => va_Nw.same (NWs_ok w hw).1 hv (h.2.1 w hw), fun q hq => (h.2.2.1 q hq).moved (by rw [← hv]; exact Vm.Alike.refl s.vm), h.2.2.2.1.moved (by rw [← hv]; exact Vm.Alike.refl s.vm), h.2.2.2.2.moved (by rw [← hv]; exact Vm.Alike.refl s.vm)⟩
abbrev MD : Type := MethodName × ByteArray × Nat × Option FieldType × Jvm.Room
def Cx (Z : LZ) (J : MD) (p : Program) (s : State) (m : MethodId) (args : Array Value) (meth : Method) (c : Code) (A : Nat → Prop) : Prop :=
  p.tables.exec = Jvm.exec ∧ c.code = J.2.1 ∧ c.maxLocals = J.2.2.1 ∧ meth.sig.returnType = J.2.2.2.1 ∧ meth.locks = false ∧ s.vm.findClass J.1.cls = some m.cls ∧ meth.name = J.1.name ∧ (∀ w ∈ WT, w.before args s = true) ∧ EnvZ Z s ∧ ∀ q : Nat, s.heap.size ≤ q → A q
section CxP
variable {Z : LZ} {J : MD} {p : Program} {s : State} {m : MethodId} {args : Array Value} {meth : Method} {c : Code} {A : Nat → Prop}
theorem Cx.ex (h : Cx Z J p s m args meth c A) : p.tables.exec = Jvm.exec := h.1
theorem Cx.by (h : Cx Z J p s m args meth c A) : c.code = J.2.1 := h.2.1
theorem Cx.ml (h : Cx Z J p s m args meth c A) : c.maxLocals = J.2.2.1 := h.2.2.1
theorem Cx.rt (h : Cx Z J p s m args meth c A) : meth.sig.returnType = J.2.2.2.1 := h.2.2.2.1
theorem Cx.lk (h : Cx Z J p s m args meth c A) : meth.locks = false := h.2.2.2.2.1
theorem Cx.ow (h : Cx Z J p s m args meth c A) : s.vm.findClass J.1.cls = some m.cls := h.2.2.2.2.2.1
theorem Cx.nm (h : Cx Z J p s m args meth c A) : meth.name = J.1.name := h.2.2.2.2.2.2.1
theorem Cx.ts (h : Cx Z J p s m args meth c A) : ∀ w ∈ WT, w.before args s = true := h.2.2.2.2.2.2.2.1
theorem Cx.en (h : Cx Z J p s m args meth c A) : EnvZ Z s := h.2.2.2.2.2.2.2.2.1
theorem Cx.kk (h : Cx Z J p s m args meth c A) : va_K Z.1 vwCl (tyZ Z) s := h.en.1
theorem Cx.hA (h : Cx Z J p s m args meth c A) : ∀ q : Nat, s.heap.size ≤ q → A q := h.2.2.2.2.2.2.2.2.2
end CxP
/-! locals by their places -/
def sto : List Value → Nat → Value → List Value
  | [], _, v => [v]
  | _ :: t, 0, v => v :: t
  | x :: t, i + 1, v => x :: sto t i v
theorem sto_get : ∀ (ls : List Value) (i : Nat) (x : Value), i ≤ ls.length → ∀ (j : Nat) (v : Value), (sto ls i x)[j]? = some v → (j = i ∧ v = x) ∨ (j ≠ i ∧ ls[j]? = some v) := by
  intro ls
  induction ls with
  | nil =>
    intro i x hi j v h
    have hi0 : i = 0 := by simpa using hi
    subst hi0
    cases j with
    | zero => left; simp [sto] at h; exact ⟨rfl, h.symm⟩
    | succ j => simp [sto] at h
  | cons y t ih =>
    intro i x hi j v h
    cases i with
    | zero =>
      cases j with
      | zero => left; simp [sto] at h; exact ⟨rfl, h.symm⟩
      | succ j => right; simp [sto] at h; exact ⟨by omega, by simpa using h⟩
    | succ i =>
      cases j with
      | zero => right; simp [sto] at h; exact ⟨by omega, by simpa using h⟩
      | succ j =>
        have h' : (sto t i x)[j]? = some v := by simpa [sto] using h
        rcases ih i x (by simpa using hi) j v h' with ⟨h1, h2⟩ | ⟨h1, h2⟩
        · left; exact ⟨by omega, h2⟩
        · right; exact ⟨by omega, by simpa using h2⟩
def LH (lsA : Array Slot) (nL : Nat) (ls : List Value) : Prop := ∃ l, lv_has lsA nL l ∧ ∀ (i : Nat) (v : Value), ls[i]? = some v → (i, v) ∈ l ∧ v.category = 1
theorem LH.get {lsA : Array Slot} {nL : Nat} {ls : List Value} (h : LH lsA nL ls) {i : Nat} {v : Value} (hi : ls[i]? = some v) : lsA[i]? = some (.val v) := by
  obtain ⟨l, h1, h2⟩ := h
  exact h1.2.2 (i, v) (h2 i v hi).1
theorem LH.size {lsA : Array Slot} {nL : Nat} {ls : List Value} (h : LH lsA nL ls) : lsA.size = nL := by
  obtain ⟨l, h1, h2⟩ := h
  exact h1.1
theorem LH.put {l : List (Nat × Value)} {ls : List Value} {i : Nat} {x : Value} (h : ∀ (i : Nat) (v : Value), ls[i]? = some v → (i, v) ∈ l ∧ v.category = 1) (hi : i ≤ ls.length) (hx : x.category = 1) :
    ∀ (j : Nat) (v : Value), (sto ls i x)[j]? = some v → (j, v) ∈ ((i, x) :: l.filter (fun q => !(q.1 == i) && !(q.1 + 1 == i && q.2.category == 2))) ∧ v.category = 1 := by
  intro j v hv
  rcases sto_get ls i x hi j v hv with ⟨rfl, rfl⟩ | ⟨hne, hl⟩
  · exact ⟨List.mem_cons_self, hx⟩
  · obtain ⟨h1, h2⟩ := h j v hl
    refine ⟨List.mem_cons_of_mem _ (List.mem_filter.mpr ⟨h1, ?_⟩), h2⟩
    simp [hne, h2]
theorem lv_args_mem : ∀ (vs : List Value) (b : Nat), (∀ v ∈ vs, v.category = 1) → ∀ (i : Nat) (v : Value), vs[i]? = some v → (b + i, v) ∈ lv_args b vs := by
  intro vs
  induction vs with
  | nil => intro b _ i v h; simp at h
  | cons y t ih =>
    intro b hc i v h
    have hy : ¬ y.category = 2 := by have := hc y List.mem_cons_self; omega
    simp only [lv_args, if_neg hy]
    cases i with
    | zero => simp at h; subst h; exact List.mem_cons_self
    | succ i =>
      have := ih (b + 1) (fun v hv => hc v (List.mem_cons_of_mem _ hv)) i v (by simpa using h)
      rw [show b + (i + 1) = b + 1 + i by omega]
      exact List.mem_cons_of_mem _ this
theorem lg_sl_len : ∀ (vs : List Value), (∀ v ∈ vs, v.category = 1) → (lg_sl vs).length = vs.length := by
  intro vs
  induction vs with
  | nil => intro _; rfl
  | cons y t ih =>
    intro hc
    have hy : y.category = 1 := hc y List.mem_cons_self
    have := ih (fun v hv => hc v (List.mem_cons_of_mem _ hv))
    simp [lg_sl, hy] at this ⊢
    exact this
theorem LH.entry (vs : List Value) (n : Nat) (hc : ∀ v ∈ vs, v.category = 1) (hn : vs.length ≤ n) : LH ((lg_sl vs ++ List.replicate (n - (lg_sl vs).length) Slot.unset).toArray) n vs := by
  refine ⟨lv_args 0 vs, lv_entry vs (by rw [lg_sl_len vs hc]; exact hn), fun i v h => ⟨?_, hc v (List.mem_of_getElem? h)⟩⟩
  have := lv_args_mem vs 0 hc i v h
  rwa [Nat.zero_add] at this
def G (Z : LZ) (J : MD) (E : State → Array Value → (Nat → Prop) → Prop) (Q : List Frame → Array Value → State → (Nat → Prop) → State → Prop) (pc : Nat) (ls st : List Value) (ws : va_W) (k n : Nat) : Prop :=
  ∀ (p : Program) (l : Launch) (e : Env) (s : State) (m : MethodId) (args : Array Value) (below : List Frame) (meth : Method) (c : Code) (A : Nat → Prop) (H : Heap) (locs : List Loc) (lsA : Array Slot),
    Cx Z J p s m args meth c A → E s args A → va_P Z.1 vwCl ws H → va_D A ws → va_S A s.heap H locs → LH lsA J.2.2.1 ls →
    W p l e J.2.2.2.2 s m args below meth c H locs k n (Q below args s A) (F0 m pc lsA st)
section Rows
variable {Z : LZ} {J : MD} {E : State → Array Value → (Nat → Prop) → Prop} {Q : List Frame → Array Value → State → (Nat → Prop) → State → Prop} {pc : Nat} {ls st : List Value} {ws : va_W} {k n : Nat}
theorem g_iconst {i : Int} (v : Int32) (d : decode J.2.1 pc = .ok (.iconst i, 1)) (hv : Int32.ofInt i = v) (K : G Z J E Q (pc + 1) ls (.int v :: st) ws k n) : G Z J E Q pc ls (st) ws k n := by
  intro p l e s m args below meth c A H locs lsA C hE hP hD hS hL
  exact lv_iconst C.ex C.by d hv (K p l e s m args below meth c A H locs lsA C hE hP hD hS hL)
theorem g_bipush {i : Int} (v : Int32) (d : decode J.2.1 pc = .ok (.bipush i, 2)) (hv : (Int8.ofInt i).toInt32 = v) (K : G Z J E Q (pc + 2) ls (.int v :: st) ws k n) : G Z J E Q pc ls (st) ws k n := by
  intro p l e s m args below meth c A H locs lsA C hE hP hD hS hL
  exact lv_bipush C.ex C.by d hv (K p l e s m args below meth c A H locs lsA C hE hP hD hS hL)
theorem g_sipush {i : Int} (v : Int32) (d : decode J.2.1 pc = .ok (.sipush i, 3)) (hv : (Int16.ofInt i).toInt32 = v) (K : G Z J E Q (pc + 3) ls (.int v :: st) ws k n) : G Z J E Q pc ls (st) ws k n := by
  intro p l e s m args below meth c A H locs lsA C hE hP hD hS hL
  exact lv_sipush C.ex C.by d hv (K p l e s m args below meth c A H locs lsA C hE hP hD hS hL)
theorem g_iload_n {j : Fin 4} (i : Nat) {x : Int32} (d : decode J.2.1 pc = .ok (.iload_n j, 1)) (hi : (j : Nat) = i) (hl : ls[i]? = some (.int x)) (K : G Z J E Q (pc + 1) ls (.int x :: st) ws k n) : G Z J E Q pc ls (st) ws k n := by
  intro p l e s m args below meth c A H locs lsA C hE hP hD hS hL
  exact lv_iload_n C.ex C.by d hi (hL.get hl) (K p l e s m args below meth c A H locs lsA C hE hP hD hS hL)
theorem g_iload {i : Nat} {x : Int32} (d : decode J.2.1 pc = .ok (.iload i, 2)) (hl : ls[i]? = some (.int x)) (K : G Z J E Q (pc + 2) ls (.int x :: st) ws k n) : G Z J E Q pc ls (st) ws k n := by
  intro p l e s m args below meth c A H locs lsA C hE hP hD hS hL
  exact lv_iload C.ex C.by d (hL.get hl) (K p l e s m args below meth c A H locs lsA C hE hP hD hS hL)
theorem g_aload_n {j : Fin 4} (i : Nat) {x : Nat} (d : decode J.2.1 pc = .ok (.aload_n j, 1)) (hi : (j : Nat) = i) (hl : ls[i]? = some (.ref x)) (K : G Z J E Q (pc + 1) ls (.ref x :: st) ws k n) : G Z J E Q pc ls (st) ws k n := by
  intro p l e s m args below meth c A H locs lsA C hE hP hD hS hL
  exact lv_aload_n C.ex C.by d hi (hL.get hl) (K p l e s m args below meth c A H locs lsA C hE hP hD hS hL)
theorem g_aload {i : Nat} {x : Nat} (d : decode J.2.1 pc = .ok (.aload i, 2)) (hl : ls[i]? = some (.ref x)) (K : G Z J E Q (pc + 2) ls (.ref x :: st) ws k n) : G Z J E Q pc ls (st) ws k n := by
  intro p l e s m args below meth c A H locs lsA C hE hP hD hS hL
  exact lv_aload C.ex C.by d (hL.get hl) (K p l e s m args below meth c A H locs lsA C hE hP hD hS hL)
theorem g_aload_nN {j : Fin 4} (i : Nat) (d : decode J.2.1 pc = .ok (.aload_n j, 1)) (hi : (j : Nat) = i) (hl : ls[i]? = some .null) (K : G Z J E Q (pc + 1) ls (.null :: st) ws k n) : G Z J E Q pc ls (st) ws k n := by
  intro p l e s m args below meth c A H locs lsA C hE hP hD hS hL
  exact lv_aload_nN C.ex C.by d hi (hL.get hl) (K p l e s m args below meth c A H locs lsA C hE hP hD hS hL)
theorem g_aloadN {i : Nat} (d : decode J.2.1 pc = .ok (.aload i, 2)) (hl : ls[i]? = some .null) (K : G Z J E Q (pc + 2) ls (.null :: st) ws k n) : G Z J E Q pc ls (st) ws k n := by
  intro p l e s m args below meth c A H locs lsA C hE hP hD hS hL
  exact lv_aloadN C.ex C.by d (hL.get hl) (K p l e s m args below meth c A H locs lsA C hE hP hD hS hL)
theorem g_iadd {x y : Int32} (d : decode J.2.1 pc = .ok (.iadd, 1))  (K : G Z J E Q (pc + 1) ls (.int (x + y) :: st) ws k n) : G Z J E Q pc ls (.int y :: .int x :: st) ws k n := by
  intro p l e s m args below meth c A H locs lsA C hE hP hD hS hL
  exact lv_iadd C.ex C.by d (K p l e s m args below meth c A H locs lsA C hE hP hD hS hL)
theorem g_isub {x y : Int32} (d : decode J.2.1 pc = .ok (.isub, 1))  (K : G Z J E Q (pc + 1) ls (.int (x - y) :: st) ws k n) : G Z J E Q pc ls (.int y :: .int x :: st) ws k n := by
  intro p l e s m args below meth c A H locs lsA C hE hP hD hS hL
  exact lv_isub C.ex C.by d (K p l e s m args below meth c A H locs lsA C hE hP hD hS hL)
theorem g_imul {x y : Int32} (d : decode J.2.1 pc = .ok (.imul, 1))  (K : G Z J E Q (pc + 1) ls (.int (x * y) :: st) ws k n) : G Z J E Q pc ls (.int y :: .int x :: st) ws k n := by
  intro p l e s m args below meth c A H locs lsA C hE hP hD hS hL
  exact lv_imul C.ex C.by d (K p l e s m args below meth c A H locs lsA C hE hP hD hS hL)
theorem g_iand {x y : Int32} (d : decode J.2.1 pc = .ok (.iand, 1))  (K : G Z J E Q (pc + 1) ls (.int (x &&& y) :: st) ws k n) : G Z J E Q pc ls (.int y :: .int x :: st) ws k n := by
  intro p l e s m args below meth c A H locs lsA C hE hP hD hS hL
  exact lv_iand C.ex C.by d (K p l e s m args below meth c A H locs lsA C hE hP hD hS hL)
theorem g_ior {x y : Int32} (d : decode J.2.1 pc = .ok (.ior, 1))  (K : G Z J E Q (pc + 1) ls (.int (x ||| y) :: st) ws k n) : G Z J E Q pc ls (.int y :: .int x :: st) ws k n := by
  intro p l e s m args below meth c A H locs lsA C hE hP hD hS hL
  exact lv_ior C.ex C.by d (K p l e s m args below meth c A H locs lsA C hE hP hD hS hL)
theorem g_ixor {x y : Int32} (d : decode J.2.1 pc = .ok (.ixor, 1))  (K : G Z J E Q (pc + 1) ls (.int (x ^^^ y) :: st) ws k n) : G Z J E Q pc ls (.int y :: .int x :: st) ws k n := by
  intro p l e s m args below meth c A H locs lsA C hE hP hD hS hL
  exact lv_ixor C.ex C.by d (K p l e s m args below meth c A H locs lsA C hE hP hD hS hL)
theorem g_ishl {x y : Int32} (d : decode J.2.1 pc = .ok (.ishl, 1))  (K : G Z J E Q (pc + 1) ls (.int (x <<< (y &&& 31)) :: st) ws k n) : G Z J E Q pc ls (.int y :: .int x :: st) ws k n := by
  intro p l e s m args below meth c A H locs lsA C hE hP hD hS hL
  exact lv_ishl C.ex C.by d (K p l e s m args below meth c A H locs lsA C hE hP hD hS hL)
theorem g_idiv {x y : Int32} (d : decode J.2.1 pc = .ok (.idiv, 1)) (hne : ¬ y = 0) (K : G Z J E Q (pc + 1) ls (.int (x / y) :: st) ws k n) : G Z J E Q pc ls (.int y :: .int x :: st) ws k n := by
  intro p l e s m args below meth c A H locs lsA C hE hP hD hS hL
  exact lv_idiv C.ex C.by d hne (K p l e s m args below meth c A H locs lsA C hE hP hD hS hL)
theorem g_irem {x y : Int32} (d : decode J.2.1 pc = .ok (.irem, 1)) (hne : ¬ y = 0) (K : G Z J E Q (pc + 1) ls (.int (x - x / y * y) :: st) ws k n) : G Z J E Q pc ls (.int y :: .int x :: st) ws k n := by
  intro p l e s m args below meth c A H locs lsA C hE hP hD hS hL
  exact lv_irem C.ex C.by d hne (K p l e s m args below meth c A H locs lsA C hE hP hD hS hL)
theorem g_dup {v : Value} (d : decode J.2.1 pc = .ok (.dup, 1)) (hv : v.category = 1) (K : G Z J E Q (pc + 1) ls (v :: v :: st) ws k n) : G Z J E Q pc ls (v :: st) ws k n := by
  intro p l e s m args below meth c A H locs lsA C hE hP hD hS hL
  exact lv_dup C.ex C.by d hv (K p l e s m args below meth c A H locs lsA C hE hP hD hS hL)
theorem g_pop {v : Value} (d : decode J.2.1 pc = .ok (.pop, 1)) (hv : v.category = 1) (K : G Z J E Q (pc + 1) ls (st) ws k n) : G Z J E Q pc ls (v :: st) ws k n := by
  intro p l e s m args below meth c A H locs lsA C hE hP hD hS hL
  exact lv_pop C.ex C.by d hv (K p l e s m args below meth c A H locs lsA C hE hP hD hS hL)
theorem g_dup2 {v w : Value} (d : decode J.2.1 pc = .ok (.dup2, 1)) (hv : v.category = 1) (hw : w.category = 1) (K : G Z J E Q (pc + 1) ls (v :: w :: v :: w :: st) ws k n) : G Z J E Q pc ls (v :: w :: st) ws k n := by
  intro p l e s m args below meth c A H locs lsA C hE hP hD hS hL
  exact lv_dup2_11 C.ex C.by d hv hw (K p l e s m args below meth c A H locs lsA C hE hP hD hS hL)
theorem g_null  (d : decode J.2.1 pc = .ok (.aconst_null, 1))  (K : G Z J E Q (pc + 1) ls (.null :: st) ws k n) : G Z J E Q pc ls (st) ws k n := by
  intro p l e s m args below meth c A H locs lsA C hE hP hD hS hL
  exact lv_null C.ex C.by d (K p l e s m args below meth c A H locs lsA C hE hP hD hS hL)
theorem g_istore_n {j : Fin 4} (i : Nat) {x : Int32} (d : decode J.2.1 pc = .ok (.istore_n j, 1)) (hi : (j : Nat) = i) (hn : i < J.2.2.1) (hle : i ≤ ls.length) {ls2 : List Value} (hs : sto ls i (.int x) = ls2) (K : G Z J E Q (pc + 1) ls2 st ws k n) : G Z J E Q pc ls (.int x :: st) ws k n := by
  intro p l e s m args below meth c A H locs lsA C hE hP hD hS hL
  obtain ⟨l0, h1, h2⟩ := hL
  subst hs
  exact lv_istore_n C.ex C.by d hi h1 hn rfl (fun ls2 hl2 => K p l e s m args below meth c A H locs ls2 C hE hP hD hS ⟨_, hl2, LH.put h2 hle rfl⟩)
theorem g_istore {i : Nat} {x : Int32} (d : decode J.2.1 pc = .ok (.istore i, 2)) (hn : i < J.2.2.1) (hle : i ≤ ls.length) {ls2 : List Value} (hs : sto ls i (.int x) = ls2) (K : G Z J E Q (pc + 2) ls2 st ws k n) : G Z J E Q pc ls (.int x :: st) ws k n := by
  intro p l e s m args below meth c A H locs lsA C hE hP hD hS hL
  obtain ⟨l0, h1, h2⟩ := hL
  subst hs
  exact lv_istore C.ex C.by d h1 hn rfl (fun ls2 hl2 => K p l e s m args below meth c A H locs ls2 C hE hP hD hS ⟨_, hl2, LH.put h2 hle rfl⟩)
theorem g_astore_n {j : Fin 4} (i : Nat) {x : Nat} (d : decode J.2.1 pc = .ok (.astore_n j, 1)) (hi : (j : Nat) = i) (hn : i < J.2.2.1) (hle : i ≤ ls.length) {ls2 : List Value} (hs : sto ls i (.ref x) = ls2) (K : G Z J E Q (pc + 1) ls2 st ws k n) : G Z J E Q pc ls (.ref x :: st) ws k n := by
  intro p l e s m args below meth c A H locs lsA C hE hP hD hS hL
  obtain ⟨l0, h1, h2⟩ := hL
  subst hs
  exact lv_astore_n C.ex C.by d hi h1 hn rfl (fun ls2 hl2 => K p l e s m args below meth c A H locs ls2 C hE hP hD hS ⟨_, hl2, LH.put h2 hle rfl⟩)
theorem g_astore {i : Nat} {x : Nat} (d : decode J.2.1 pc = .ok (.astore i, 2)) (hn : i < J.2.2.1) (hle : i ≤ ls.length) {ls2 : List Value} (hs : sto ls i (.ref x) = ls2) (K : G Z J E Q (pc + 2) ls2 st ws k n) : G Z J E Q pc ls (.ref x :: st) ws k n := by
  intro p l e s m args below meth c A H locs lsA C hE hP hD hS hL
  obtain ⟨l0, h1, h2⟩ := hL
  subst hs
  exact lv_astore C.ex C.by d h1 hn rfl (fun ls2 hl2 => K p l e s m args below meth c A H locs ls2 C hE hP hD hS ⟨_, hl2, LH.put h2 hle rfl⟩)
theorem g_astore_nN {j : Fin 4} (i : Nat) (d : decode J.2.1 pc = .ok (.astore_n j, 1)) (hi : (j : Nat) = i) (hn : i < J.2.2.1) (hle : i ≤ ls.length) {ls2 : List Value} (hs : sto ls i (.null) = ls2) (K : G Z J E Q (pc + 1) ls2 st ws k n) : G Z J E Q pc ls (.null :: st) ws k n := by
  intro p l e s m args below meth c A H locs lsA C hE hP hD hS hL
  obtain ⟨l0, h1, h2⟩ := hL
  subst hs
  exact lv_astore_nN C.ex C.by d hi h1 hn rfl (fun ls2 hl2 => K p l e s m args below meth c A H locs ls2 C hE hP hD hS ⟨_, hl2, LH.put h2 hle rfl⟩)
theorem g_astoreN {i : Nat} (d : decode J.2.1 pc = .ok (.astore i, 2)) (hn : i < J.2.2.1) (hle : i ≤ ls.length) {ls2 : List Value} (hs : sto ls i (.null) = ls2) (K : G Z J E Q (pc + 2) ls2 st ws k n) : G Z J E Q pc ls (.null :: st) ws k n := by
  intro p l e s m args below meth c A H locs lsA C hE hP hD hS hL
  obtain ⟨l0, h1, h2⟩ := hL
  subst hs
  exact lv_astoreN C.ex C.by d h1 hn rfl (fun ls2 hl2 => K p l e s m args below meth c A H locs ls2 C hE hP hD hS ⟨_, hl2, LH.put h2 hle rfl⟩)
theorem g_iinc {i : Nat} {q : Int} {x : Int32} (v : Int32) (d : decode J.2.1 pc = .ok (.iinc i q, 3)) (hl : ls[i]? = some (.int x)) (hv : x + Int32.ofInt q = v) (hn : i < J.2.2.1) {ls2 : List Value} (hs : sto ls i (.int v) = ls2) (K : G Z J E Q (pc + 3) ls2 st ws k n) : G Z J E Q pc ls st ws k n := by
  intro p l e s m args below meth c A H locs lsA C hE hP hD hS hL
  obtain ⟨l0, h1, h2⟩ := hL
  subst hs
  obtain ⟨kk, hkk⟩ := List.getElem?_of_mem (h2 i _ hl).1
  have hle : i ≤ ls.length := Nat.le_of_lt (List.getElem?_eq_some_iff.mp hl).1
  exact lv_iinc (k := kk) C.ex C.by d h1 hkk hv hn rfl (fun ls2 hl2 => K p l e s m args below meth c A H locs ls2 C hE hP hD hS ⟨_, hl2, LH.put h2 hle rfl⟩)
theorem g_if_eq {x : Int32} {off : Int} (tgt : Nat) (d : decode J.2.1 pc = .ok (.ifCond .eq off, 3)) (ht : (pc : Int) + off = (tgt : Int)) (kt : x = 0 → G Z J E Q tgt ls st ws k n) (kf : ¬ x = 0 → G Z J E Q (pc + 3) ls st ws k n) : G Z J E Q pc ls (.int x :: st) ws k n := by
  intro p l e s m args below meth c A H locs lsA C hE hP hD hS hL
  exact lv_if_eq C.ex C.by d ht (fun q => kt q p l e s m args below meth c A H locs lsA C hE hP hD hS hL) (fun q => kf q p l e s m args below meth c A H locs lsA C hE hP hD hS hL)
theorem g_if_ne {x : Int32} {off : Int} (tgt : Nat) (d : decode J.2.1 pc = .ok (.ifCond .ne off, 3)) (ht : (pc : Int) + off = (tgt : Int)) (kt : ¬ x = 0 → G Z J E Q tgt ls st ws k n) (kf : x = 0 → G Z J E Q (pc + 3) ls st ws k n) : G Z J E Q pc ls (.int x :: st) ws k n := by
  intro p l e s m args below meth c A H locs lsA C hE hP hD hS hL
  exact lv_if_ne C.ex C.by d ht (fun q => kt q p l e s m args below meth c A H locs lsA C hE hP hD hS hL) (fun q => kf q p l e s m args below meth c A H locs lsA C hE hP hD hS hL)
theorem g_if_lt {x : Int32} {off : Int} (tgt : Nat) (d : decode J.2.1 pc = .ok (.ifCond .lt off, 3)) (ht : (pc : Int) + off = (tgt : Int)) (kt : x < 0 → G Z J E Q tgt ls st ws k n) (kf : ¬ x < 0 → G Z J E Q (pc + 3) ls st ws k n) : G Z J E Q pc ls (.int x :: st) ws k n := by
  intro p l e s m args below meth c A H locs lsA C hE hP hD hS hL
  exact lv_if_lt C.ex C.by d ht (fun q => kt q p l e s m args below meth c A H locs lsA C hE hP hD hS hL) (fun q => kf q p l e s m args below meth c A H locs lsA C hE hP hD hS hL)
theorem g_if_ge {x : Int32} {off : Int} (tgt : Nat) (d : decode J.2.1 pc = .ok (.ifCond .ge off, 3)) (ht : (pc : Int) + off = (tgt : Int)) (kt : 0 ≤ x → G Z J E Q tgt ls st ws k n) (kf : ¬ 0 ≤ x → G Z J E Q (pc + 3) ls st ws k n) : G Z J E Q pc ls (.int x :: st) ws k n := by
  intro p l e s m args below meth c A H locs lsA C hE hP hD hS hL
  exact lv_if_ge C.ex C.by d ht (fun q => kt q p l e s m args below meth c A H locs lsA C hE hP hD hS hL) (fun q => kf q p l e s m args below meth c A H locs lsA C hE hP hD hS hL)
theorem g_if_gt {x : Int32} {off : Int} (tgt : Nat) (d : decode J.2.1 pc = .ok (.ifCond .gt off, 3)) (ht : (pc : Int) + off = (tgt : Int)) (kt : 0 < x → G Z J E Q tgt ls st ws k n) (kf : ¬ 0 < x → G Z J E Q (pc + 3) ls st ws k n) : G Z J E Q pc ls (.int x :: st) ws k n := by
  intro p l e s m args below meth c A H locs lsA C hE hP hD hS hL
  exact lv_if_gt C.ex C.by d ht (fun q => kt q p l e s m args below meth c A H locs lsA C hE hP hD hS hL) (fun q => kf q p l e s m args below meth c A H locs lsA C hE hP hD hS hL)
theorem g_if_le {x : Int32} {off : Int} (tgt : Nat) (d : decode J.2.1 pc = .ok (.ifCond .le off, 3)) (ht : (pc : Int) + off = (tgt : Int)) (kt : x ≤ 0 → G Z J E Q tgt ls st ws k n) (kf : ¬ x ≤ 0 → G Z J E Q (pc + 3) ls st ws k n) : G Z J E Q pc ls (.int x :: st) ws k n := by
  intro p l e s m args below meth c A H locs lsA C hE hP hD hS hL
  exact lv_if_le C.ex C.by d ht (fun q => kt q p l e s m args below meth c A H locs lsA C hE hP hD hS hL) (fun q => kf q p l e s m args below meth c A H locs lsA C hE hP hD hS hL)
theorem g_icmp_eq {x y : Int32} {off : Int} (tgt : Nat) (d : decode J.2.1 pc = .ok (.if_icmp .eq off, 3)) (ht : (pc : Int) + off = (tgt : Int)) (kt : x = y → G Z J E Q tgt ls st ws k n) (kf : ¬ x = y → G Z J E Q (pc + 3) ls st ws k n) : G Z J E Q pc ls (.int y :: .int x :: st) ws k n := by
  intro p l e s m args below meth c A H locs lsA C hE hP hD hS hL
  exact lv_icmp_eq C.ex C.by d ht (fun q => kt q p l e s m args below meth c A H locs lsA C hE hP hD hS hL) (fun q => kf q p l e s m args below meth c A H locs lsA C hE hP hD hS hL)
theorem g_icmp_ne {x y : Int32} {off : Int} (tgt : Nat) (d : decode J.2.1 pc = .ok (.if_icmp .ne off, 3)) (ht : (pc : Int) + off = (tgt : Int)) (kt : ¬ x = y → G Z J E Q tgt ls st ws k n) (kf : x = y → G Z J E Q (pc + 3) ls st ws k n) : G Z J E Q pc ls (.int y :: .int x :: st) ws k n := by
  intro p l e s m args below meth c A H locs lsA C hE hP hD hS hL
  exact lv_icmp_ne C.ex C.by d ht (fun q => kt q p l e s m args below meth c A H locs lsA C hE hP hD hS hL) (fun q => kf q p l e s m args below meth c A H locs lsA C hE hP hD hS hL)
theorem g_icmp_lt {x y : Int32} {off : Int} (tgt : Nat) (d : decode J.2.1 pc = .ok (.if_icmp .lt off, 3)) (ht : (pc : Int) + off = (tgt : Int)) (kt : x < y → G Z J E Q tgt ls st ws k n) (kf : ¬ x < y → G Z J E Q (pc + 3) ls st ws k n) : G Z J E Q pc ls (.int y :: .int x :: st) ws k n := by
  intro p l e s m args below meth c A H locs lsA C hE hP hD hS hL
  exact lv_icmp_lt C.ex C.by d ht (fun q => kt q p l e s m args below meth c A H locs lsA C hE hP hD hS hL) (fun q => kf q p l e s m args below meth c A H locs lsA C hE hP hD hS hL)
theorem g_icmp_ge {x y : Int32} {off : Int} (tgt : Nat) (d : decode J.2.1 pc = .ok (.if_icmp .ge off, 3)) (ht : (pc : Int) + off = (tgt : Int)) (kt : y ≤ x → G Z J E Q tgt ls st ws k n) (kf : ¬ y ≤ x → G Z J E Q (pc + 3) ls st ws k n) : G Z J E Q pc ls (.int y :: .int x :: st) ws k n := by
  intro p l e s m args below meth c A H locs lsA C hE hP hD hS hL
  exact lv_icmp_ge C.ex C.by d ht (fun q => kt q p l e s m args below meth c A H locs lsA C hE hP hD hS hL) (fun q => kf q p l e s m args below meth c A H locs lsA C hE hP hD hS hL)
theorem g_icmp_gt {x y : Int32} {off : Int} (tgt : Nat) (d : decode J.2.1 pc = .ok (.if_icmp .gt off, 3)) (ht : (pc : Int) + off = (tgt : Int)) (kt : y < x → G Z J E Q tgt ls st ws k n) (kf : ¬ y < x → G Z J E Q (pc + 3) ls st ws k n) : G Z J E Q pc ls (.int y :: .int x :: st) ws k n := by
  intro p l e s m args below meth c A H locs lsA C hE hP hD hS hL
  exact lv_icmp_gt C.ex C.by d ht (fun q => kt q p l e s m args below meth c A H locs lsA C hE hP hD hS hL) (fun q => kf q p l e s m args below meth c A H locs lsA C hE hP hD hS hL)
theorem g_icmp_le {x y : Int32} {off : Int} (tgt : Nat) (d : decode J.2.1 pc = .ok (.if_icmp .le off, 3)) (ht : (pc : Int) + off = (tgt : Int)) (kt : x ≤ y → G Z J E Q tgt ls st ws k n) (kf : ¬ x ≤ y → G Z J E Q (pc + 3) ls st ws k n) : G Z J E Q pc ls (.int y :: .int x :: st) ws k n := by
  intro p l e s m args below meth c A H locs lsA C hE hP hD hS hL
  exact lv_icmp_le C.ex C.by d ht (fun q => kt q p l e s m args below meth c A H locs lsA C hE hP hD hS hL) (fun q => kf q p l e s m args below meth c A H locs lsA C hE hP hD hS hL)
theorem g_goto {off : Int} (tgt : Nat) (d : decode J.2.1 pc = .ok (.goto off, 3)) (ht : (pc : Int) + off = (tgt : Int)) (K : G Z J E Q tgt ls st ws k n) : G Z J E Q pc ls st ws k n := by
  intro p l e s m args below meth c A H locs lsA C hE hP hD hS hL
  exact lv_goto C.ex C.by d ht (K p l e s m args below meth c A H locs lsA C hE hP hD hS hL)
theorem g_ifnonnull {x : Nat} {off : Int} (tgt : Nat) (d : decode J.2.1 pc = .ok (.ifnonnull off, 3)) (ht : (pc : Int) + off = (tgt : Int)) (K : G Z J E Q tgt ls st ws k n) : G Z J E Q pc ls (.ref x :: st) ws k n := by
  intro p l e s m args below meth c A H locs lsA C hE hP hD hS hL
  exact lv_ifnonnull C.ex C.by d ht (K p l e s m args below meth c A H locs lsA C hE hP hD hS hL)
theorem g_ifnull {x : Nat} {off : Int} (d : decode J.2.1 pc = .ok (.ifnull off, 3)) (K : G Z J E Q (pc + 3) ls st ws k n) : G Z J E Q pc ls (.ref x :: st) ws k n := by
  intro p l e s m args below meth c A H locs lsA C hE hP hD hS hL
  exact lv_ifnull C.ex C.by d (K p l e s m args below meth c A H locs lsA C hE hP hD hS hL)
theorem g_ifnullN {off : Int} (tgt : Nat) (d : decode J.2.1 pc = .ok (.ifnull off, 3)) (ht : (pc : Int) + off = (tgt : Int)) (K : G Z J E Q tgt ls st ws k n) : G Z J E Q pc ls (.null :: st) ws k n := by
  intro p l e s m args below meth c A H locs lsA C hE hP hD hS hL
  exact lv_ifnullN C.ex C.by d ht (K p l e s m args below meth c A H locs lsA C hE hP hD hS hL)
theorem g_ifnonnullN {off : Int} (d : decode J.2.1 pc = .ok (.ifnonnull off, 3)) (K : G Z J E Q (pc + 3) ls st ws k n) : G Z J E Q pc ls (.null :: st) ws k n := by
  intro p l e s m args below meth c A H locs lsA C hE hP hD hS hL
  exact lv_ifnonnullN C.ex C.by d (K p l e s m args below meth c A H locs lsA C hE hP hD hS hL)
theorem g_ldc {i : Nat} (v : Int32) (d : decode J.2.1 pc = .ok (.ldc i, 2)) (hc : Cond.constant J.1.cls i v ∈ WT) (K : G Z J E Q (pc + 2) ls (.int v :: st) ws k n) : G Z J E Q pc ls st ws k n := by
  intro p l e s m args below meth c A H locs lsA C hE hP hD hS hL
  exact lv_ldc C.ex C.by C.ow (C.ts _ hc) d (K p l e s m args below meth c A H locs lsA C hE hP hD hS hL)
theorem g_tableOut {dflt lo hi : Int} {offs : Array Int} {len : Nat} {x : Int32} (tgt : Nat) (d : decode J.2.1 pc = .ok (.tableswitch dflt lo hi offs, len)) (h : x.toInt < lo ∨ hi < x.toInt) (ht : (pc : Int) + dflt = (tgt : Int)) (K : G Z J E Q tgt ls st ws k n) : G Z J E Q pc ls (.int x :: st) ws k n := by
  intro p l e s m args below meth c A H locs lsA C hE hP hD hS hL
  exact lv_tableOut C.ex C.by d h ht (K p l e s m args below meth c A H locs lsA C hE hP hD hS hL)
theorem g_tableIn {dflt lo hi : Int} {offs : Array Int} {len : Nat} {x : Int32} {off : Int} (tgt : Nat) (d : decode J.2.1 pc = .ok (.tableswitch dflt lo hi offs, len)) (h1 : ¬ x.toInt < lo) (h2 : ¬ hi < x.toInt) (ho : offs[(x.toInt - lo).toNat]? = some off) (ht : (pc : Int) + off = (tgt : Int)) (K : G Z J E Q tgt ls st ws k n) : G Z J E Q pc ls (.int x :: st) ws k n := by
  intro p l e s m args below meth c A H locs lsA C hE hP hD hS hL
  exact lv_tableIn C.ex C.by d h1 h2 ho ht (K p l e s m args below meth c A H locs lsA C hE hP hD hS hL)
theorem g_top {x : Int32} (K : ∀ y : Int32, y = x → G Z J E Q pc ls (.int y :: st) ws k n) : G Z J E Q pc ls (.int x :: st) ws k n := K x rfl
theorem g_widen {k2 n2 : Nat} (h1 : k ≤ k2) (h2 : n ≤ n2) (K : G Z J E Q pc ls st ws k2 n2) : G Z J E Q pc ls st ws k n := by
  intro p l e s m args below meth c A H locs lsA C hE hP hD hS hL
  exact W.widen h1 h2 (K p l e s m args below meth c A H locs lsA C hE hP hD hS hL)
theorem g_get {i : Nat} {a : Nat} {fs : List Value} {v : Value} (ci q0 kf : Nat) {Cn : String} {T : u_T} {N : Nat} (d : decode J.2.1 pc = .ok (.getfield i, 3)) (hc : vwCl[ci]? = some (Cn, T, N)) (hin : ∀ w ∈ u_ws Cn T N, w ∈ WT) (hk : kf < N) (hl : Cond.fieldLink J.1.cls i (T kf).1 (T kf).2.1 (T kf).2.2.1 ∈ WT) (he : ws[q0]? = some (a, .inr (ci, fs))) (hv : fs[kf]? = some v) (K : G Z J E Q (pc + 3) ls (v :: st) ws k n) : G Z J E Q pc ls (.ref a :: st) ws k n := by
  intro p l e s m args below meth c A H locs lsA C hE hP hD hS hL
  exact va_get (D := Z.1) (ref := (T kf).1) C.ex C.by C.ts hin C.ow C.kk hP q0 he hc kf hk (C.ts _ hl) (fun _ h => h) hv d (K p l e s m args below meth c A H locs lsA C hE hP hD hS hL)
theorem g_put {i : Nat} {a : Nat} {fs : List Value} {v : Value} (ci q0 kf : Nat) {Cn : String} {T : u_T} {N : Nat} (ty0 : Nat → FieldType) {ws2 : va_W} (d : decode J.2.1 pc = .ok (.putfield i, 3)) (hc : vwCl[ci]? = some (Cn, T, N)) (hin : ∀ w ∈ u_ws Cn T N, w ∈ WT) (hty : ∀ k, k < N → parseFieldDescriptor (T k).2.2.1 = some (ty0 k)) (hnm : ∀ a, a < N → ∀ b, b < N → a ≠ b → (T a).2.1 ≠ (T b).2.1) (hk : kf < N) (hl : Cond.fieldLink J.1.cls i (T kf).1 (T kf).2.1 (T kf).2.2.1 ∈ WT) (hfin : (T kf).2.2.2 = false) (he : ws[q0]? = some (a, .inr (ci, fs))) (hn : narrow (ty0 kf) v = v) (hfit : fits (ty0 kf) v = true) (hlen : kf < fs.length) (h2 : ws.set q0 (a, .inr (ci, fs.set kf v)) = ws2) (K : G Z J E Q (pc + 3) ls st ws2 k n) : G Z J E Q pc ls (v :: .ref a :: st) ws k n := by
  intro p l e s m args below meth c A H locs lsA C hE hP hD hS hL
  subst h2
  exact va_put (D := Z.1) (ref := (T kf).1) C.ex C.by C.ts hin ty0 hty hnm C.ow C.kk hP hD hS q0 he hc kf hk (C.ts _ hl) (fun _ h => h) hfin (hty kf hk) hn hfit hlen d (fun H1 locs1 hP1 hD1 hS1 => K p l e s m args below meth c A H1 locs1 lsA C hE hP1 hD1 hS1 hL)
theorem g_putF {i : Nat} {a : Nat} {fs : List Value} {v : Value} (ci q0 kf : Nat) {Cn : String} {T : u_T} {N : Nat} (ty0 : Nat → FieldType) {ws2 : va_W} (d : decode J.2.1 pc = .ok (.putfield i, 3)) (hc : vwCl[ci]? = some (Cn, T, N)) (hin : ∀ w ∈ u_ws Cn T N, w ∈ WT) (hty : ∀ k, k < N → parseFieldDescriptor (T k).2.2.1 = some (ty0 k)) (hnm : ∀ a, a < N → ∀ b, b < N → a ≠ b → (T a).2.1 ≠ (T b).2.1) (hk : kf < N) (hl : Cond.fieldLink J.1.cls i (T kf).1 (T kf).2.1 (T kf).2.2.1 ∈ WT) (hfin : (T kf).2.2.2 = true) (hini : J.1.name = "<init>") (hdecl : (T kf).1 = J.1.cls) (he : ws[q0]? = some (a, .inr (ci, fs))) (hn : narrow (ty0 kf) v = v) (hfit : fits (ty0 kf) v = true) (hlen : kf < fs.length) (h2 : ws.set q0 (a, .inr (ci, fs.set kf v)) = ws2) (K : G Z J E Q (pc + 3) ls st ws2 k n) : G Z J E Q pc ls (v :: .ref a :: st) ws k n := by
  intro p l e s m args below meth c A H locs lsA C hE hP hD hS hL
  subst h2
  exact va_putF (D := Z.1) (ref := (T kf).1) C.ex C.by C.ts hin ty0 hty hnm C.ow C.kk hP hD hS q0 he hc kf hk (C.ts _ hl) (fun _ h => h) hfin (C.nm.trans hini) hdecl (hty kf hk) hn hfit hlen d (fun H1 locs1 hP1 hD1 hS1 => K p l e s m args below meth c A H1 locs1 lsA C hE hP1 hD1 hS1 hL)
theorem g_iald {a : Nat} {i : Int32} {N : Nat} {f : Nat → Int32} (q0 : Nat) (d : decode J.2.1 pc = .ok (.iaload, 1)) (he : ws[q0]? = some (a, .inl (Z.2 0, N, .inl f))) (hi : vp_in i N) (K : G Z J E Q (pc + 1) ls (.int (f i.toNatClampNeg) :: st) ws k n) : G Z J E Q pc ls (.int i :: .ref a :: st) ws k n := by
  intro p l e s m args below meth c A H locs lsA C hE hP hD hS hL
  exact va_iald (D := Z.1) C.ex C.by C.kk hP q0 0 he rfl hi d (K p l e s m args below meth c A H locs lsA C hE hP hD hS hL)
theorem g_zald {a : Nat} {i : Int32} {N : Nat} {f : Nat → Int32} (q0 : Nat) (d : decode J.2.1 pc = .ok (.baload, 1)) (he : ws[q0]? = some (a, .inl (Z.2 1, N, .inl f))) (hi : vp_in i N) (K : G Z J E Q (pc + 1) ls (.int (f i.toNatClampNeg) :: st) ws k n) : G Z J E Q pc ls (.int i :: .ref a :: st) ws k n := by
  intro p l e s m args below meth c A H locs lsA C hE hP hD hS hL
  exact va_zald (D := Z.1) C.ex C.by C.kk hP q0 1 he rfl hi d (K p l e s m args below meth c A H locs lsA C hE hP hD hS hL)
theorem g_iast {a : Nat} {i x : Int32} {N : Nat} {f : Nat → Int32} (q0 : Nat) {ws2 : va_W} (d : decode J.2.1 pc = .ok (.iastore, 1)) (he : ws[q0]? = some (a, .inl (Z.2 0, N, .inl f))) (hi : vp_in i N) (h2 : ws.set q0 (a, .inl (Z.2 0, N, .inl (upd f i.toNatClampNeg x))) = ws2) (K : G Z J E Q (pc + 1) ls st ws2 k n) : G Z J E Q pc ls (.int x :: .int i :: .ref a :: st) ws k n := by
  intro p l e s m args below meth c A H locs lsA C hE hP hD hS hL
  subst h2
  exact va_iast (D := Z.1) C.ex C.by C.kk hP hD hS q0 0 he rfl hi d (fun H1 locs1 hP1 hD1 hS1 => K p l e s m args below meth c A H1 locs1 lsA C hE hP1 hD1 hS1 hL)
theorem g_zast {a : Nat} {i x : Int32} {N : Nat} {f : Nat → Int32} (q0 : Nat) {ws2 : va_W} (d : decode J.2.1 pc = .ok (.bastore, 1)) (he : ws[q0]? = some (a, .inl (Z.2 1, N, .inl f))) (hi : vp_in i N) (h2 : ws.set q0 (a, .inl (Z.2 1, N, .inl (upd f i.toNatClampNeg (vp_nar .boolean x)))) = ws2) (K : G Z J E Q (pc + 1) ls st ws2 k n) : G Z J E Q pc ls (.int x :: .int i :: .ref a :: st) ws k n := by
  intro p l e s m args below meth c A H locs lsA C hE hP hD hS hL
  subst h2
  exact va_zast (D := Z.1) C.ex C.by C.kk hP hD hS q0 1 he rfl hi d (fun H1 locs1 hP1 hD1 hS1 => K p l e s m args below meth c A H1 locs1 lsA C hE hP1 hD1 hS1 hL)
theorem g_alen {a : Nat} {cA : ClassId} {x : vp_A} (q0 t0 : Nat) {ty : FieldType} (v : Int32) (d : decode J.2.1 pc = .ok (.arraylength, 1)) (he : ws[q0]? = some (a, .inl (cA, x))) (ht : (tyZ Z)[t0]? = some (cA, ty)) (hv : Int32.ofNat x.1 = v) (K : G Z J E Q (pc + 1) ls (.int v :: st) ws k n) : G Z J E Q pc ls (.ref a :: st) ws k n := by
  intro p l e s m args below meth c A H locs lsA C hE hP hD hS hL
  exact va_alen (D := Z.1) C.ex C.by C.kk hP q0 t0 he ht hv d (K p l e s m args below meth c A H locs lsA C hE hP hD hS hL)
theorem g_aald2 {a : Nat} {i : Int32} {N : Nat} {f : Nat → Option Nat} (q0 : Nat) (d : decode J.2.1 pc = .ok (.aaload, 1)) (he : ws[q0]? = some (a, .inl (Z.2 2, N, .inr (.inr (.inr (.inr f)))))) (hi : vp_in i N) (K : G Z J E Q (pc + 1) ls (va_rf (f i.toNatClampNeg) :: st) ws k n) : G Z J E Q pc ls (.int i :: .ref a :: st) ws k n := by
  intro p l e s m args below meth c A H locs lsA C hE hP hD hS hL
  exact va_aldq (D := Z.1) (C := "ManyPens$Slip") C.ex C.by C.kk hP q0 2 he rfl hi d (K p l e s m args below meth c A H locs lsA C hE hP hD hS hL)
theorem g_aald3 {a : Nat} {i : Int32} {N : Nat} {f : Nat → Option Nat} (q0 : Nat) (d : decode J.2.1 pc = .ok (.aaload, 1)) (he : ws[q0]? = some (a, .inl (Z.2 3, N, .inr (.inr (.inr (.inr f)))))) (hi : vp_in i N) (K : G Z J E Q (pc + 1) ls (va_rf (f i.toNatClampNeg) :: st) ws k n) : G Z J E Q pc ls (.int i :: .ref a :: st) ws k n := by
  intro p l e s m args below meth c A H locs lsA C hE hP hD hS hL
  exact va_aldq (D := Z.1) (C := "ManyPens$Sheet") C.ex C.by C.kk hP q0 3 he rfl hi d (K p l e s m args below meth c A H locs lsA C hE hP hD hS hL)
end Rows
def Qg (Z : LZ) (post : Option Value → va_W → Prop) (A : Nat → Prop) : Array Value → State → Outcome → State → Prop := fun _ st oc t => (∃ (r : Option Value) (w2 : va_W), oc = .returned r ∧ post r w2 ∧ va_P Z.1 vwCl w2 t.heap ∧ va_D A w2) ∧ va_F A st t
def QM (Z : LZ) (J : MD) (post : Option Value → va_W → Prop) : List Frame → Array Value → State → (Nat → Prop) → State → Prop := fun below args s A => MQ below (Qg Z post A) args s J.2.2.2.2.cells J.2.2.2.2.slots A
def E0 : State → Array Value → (Nat → Prop) → Prop := fun _ _ _ => True
abbrev Gm (Z : LZ) (J : MD) (post : Option Value → va_W → Prop) := G Z J E0 (QM Z J post)
def Tr (Z : LZ) (J : MD) (args : List Value) (ws : va_W) (post : Option Value → va_W → Prop) : Prop :=
  ∀ (l : Launch) (sz : Nat), Met l J.1 (.code J.1 J.2.1 J.2.2.1 J.2.2.2.1 :: WT) J.2.2.2.2 (va_Pc args (fun U => U.heap.size = sz ∧ va_P Z.1 vwCl ws U.heap ∧ EnvZ Z U ∧ va_D (fun _ => True) ws)) (Qg Z post (va_A ws sz)) J.2.2.2.2.cells J.2.2.2.2.slots (va_A ws sz)
section Ret
variable {Z : LZ} {J : MD} {post : Option Value → va_W → Prop} {pc : Nat} {ls st : List Value} {ws : va_W} {k n : Nat}
theorem g_iret {v : Int32} (d : decode J.2.1 pc = .ok (.ireturn, 1)) (hr : J.2.2.2.1 = some .int) (h1 : k ≤ J.2.2.2.2.cells) (h2 : n ≤ J.2.2.2.2.slots) (hp : post (some (.int v)) ws) : Gm Z J post pc ls [.int v] ws k n := by
  intro p l e s m args below meth c A H locs lsA C hE hP hD hS hL
  refine W.widen h1 h2 ?_
  exact W.iret (v := v) C.ex C.by (C.rt.trans hr) (fun t ht hW => ⟨⟨_, ws, rfl, hp, by rw [ht]; exact hP, hD⟩, hS.F ht⟩) hS.2.2 d C.lk
theorem g_zret {v : Int32} (d : decode J.2.1 pc = .ok (.ireturn, 1)) (hr : J.2.2.2.1 = some .boolean) (hv : narrow .boolean (.int v) = .int v) (h1 : k ≤ J.2.2.2.2.cells) (h2 : n ≤ J.2.2.2.2.slots) (hp : post (some (.int v)) ws) : Gm Z J post pc ls [.int v] ws k n := by
  intro p l e s m args below meth c A H locs lsA C hE hP hD hS hL
  refine W.widen h1 h2 ?_
  exact W.zret (v := v) C.ex C.by (C.rt.trans hr) hv (fun t ht hW => ⟨⟨_, ws, rfl, hp, by rw [ht]; exact hP, hD⟩, hS.F ht⟩) hS.2.2 d C.lk
theorem g_vret (d : decode J.2.1 pc = .ok (.return_, 1)) (hr : J.2.2.2.1 = none) (h1 : k ≤ J.2.2.2.2.cells) (h2 : n ≤ J.2.2.2.2.slots) (hp : post none ws) : Gm Z J post pc ls [] ws k n := by
  intro p l e s m args below meth c A H locs lsA C hE hP hD hS hL
  refine W.widen h1 h2 ?_
  exact W.vret C.ex C.by (C.rt.trans hr) (fun t ht hW => ⟨⟨_, ws, rfl, hp, by rw [ht]; exact hP, hD⟩, hS.F ht⟩) hS.2.2 d C.lk
theorem g_aret {v : Value} {rt : FieldType} (d : decode J.2.1 pc = .ok (.areturn, 1)) (hr : J.2.2.2.1 = some rt) (hrt : (∃ n, rt = .object n) ∨ ∃ t, rt = .array t) (hv : v = .null ∨ ∃ a, v = .ref a) (h1 : k ≤ J.2.2.2.2.cells) (h2 : n ≤ J.2.2.2.2.slots) (hp : post (some v) ws) : Gm Z J post pc ls [v] ws k n := by
  intro p l e s m args below meth c A H locs lsA C hE hP hD hS hL
  refine W.widen h1 h2 ?_
  exact W.aret (v := v) C.ex C.by (C.rt.trans hr) hrt hv (fun t ht hW => ⟨⟨_, ws, rfl, hp, by rw [ht]; exact hP, hD⟩, hS.F ht⟩) hS.2.2 d C.lk
/-- the world may be narrowed to some of its cells, in any order, before the return -/
theorem g_sub {E : State → Array Value → (Nat → Prop) → Prop} {Q : List Frame → Array Value → State → (Nat → Prop) → State → Prop} {ws2 : va_W} (is : List Nat) (hn : va_nd is = true) (h : is.map (fun i => ws[i]?) = ws2.map some) (K : G Z J E Q pc ls st ws2 k n) : G Z J E Q pc ls st ws k n := by
  intro p l e s m args below meth c A H locs lsA C hE hP hD hS hL
  refine K p l e s m args below meth c A H locs lsA C hE ?_ (hD.sub is hn h) hS hL
  intro j q hq
  have h1 : (is.map (fun i => ws[i]?))[j]? = some (some q) := by rw [h, List.getElem?_map, hq]; rfl
  rw [List.getElem?_map] at h1
  cases hi : is[j]? with
  | none => rw [hi] at h1; cases h1
  | some i => rw [hi] at h1; exact hP i q (Option.some.inj h1)
theorem tr_of {args : List Value} (hy : plainName J.1.cls = true) (hlen : args.length ≤ J.2.2.1) (hcat : ∀ v ∈ args, v.category = 1) (K : Gm Z J post 0 args [] ws 0 0) : Tr Z J args ws post := by
  intro l sz
  refine Met.ofW (cc := J.2.1) (maxL := J.2.2.1) (ret := J.2.2.2.1) hy rfl ?_
  intro p e s m args' below meth c s₁ B hml hv
  obtain ⟨rfl, hsz, hP, hE, hD0⟩ := hv
  subst hsz
  have hts := atoms_spec (ws := .code J.1 J.2.1 J.2.2.1 J.2.2.2.1 :: WT) B.pre
  rw [lg_entry_eq]
  exact K p l e s m _ below meth c (va_A ws s.heap.size) s.heap [] _ ⟨B.exec, B.bytes, hml, B.returns, B.notSynchronized, findClass_of_methodNamed B.named, (name_of_methodNamed B.named B.method).1, fun w h => hts w (List.mem_cons_of_mem _ h), hE, fun q h => Or.inr h⟩ trivial hP hD0.self va_S.rf (LH.entry args J.2.2.1 hcat hlen)
theorem tr_post {args : List Value} {post2 : Option Value → va_W → Prop} (h : Tr Z J args ws post) (hp : ∀ r w, post r w → post2 r w) : Tr Z J args ws post2 := by
  intro l sz
  have hM := h l sz
  unfold Met MetFree at hM ⊢
  intro p e ha hc hk s m a below hf hap hP hK
  obtain ⟨t, o, h1, h2, h3, ⟨⟨⟨r, w2, e1, e2, e3, e4⟩, e5⟩, e6⟩⟩ := hM p e ha hc hk s m a below hf hap hP hK
  exact ⟨t, o, h1, h2, h3, ⟨⟨⟨r, w2, e1, hp r w2 e2, e3, e4⟩, e5⟩, e6⟩⟩
end Ret
section CallG
variable {p : Program} {l : Launch} {e : Env} {R : Room} {s : State} {m : MethodId} {args : Array Value} {below : List Frame} {meth : Method} {c : Code} {H : Heap} {locs : List Loc} {cells slots : Nat} {Q : State → Prop}
variable {pc : Nat} {lsA : Array Slot} {rest st0 : List Value} {a : Array Value} {A0 A1 : Nat → Prop} {H0 : Heap} {mc ms : Nat} {free : Addr → Prop}
theorem va_callg {Z : LZ} {post : Option Value → va_W → Prop} (hr : va_Run p l e R s m args below meth c H locs cells slots mc ms (F0 m pc lsA st0) rest (Qg Z post A1 a) free) (hS : va_S A0 H0 H locs) (hA : ∀ q, q < H.size → A1 q → A0 q) (hf : ∀ q, free q → A0 q)
    (kk : ∀ (r : Option Value) (w2 : va_W) (H1 : Heap) (locs1 : List Loc), post r w2 → va_P Z.1 vwCl w2 H1 → va_D A1 w2 → H.size ≤ H1.size → (∀ q : Nat, q < H.size → ¬ A1 q → H1[q]? = H[q]?) → va_S A0 H0 H1 locs1 → W p l e R s m args below meth c H1 locs1 (cells + mc) (slots + ms) Q (F0 m (pc + 3) lsA (r.toList ++ rest))) : W p l e R s m args below meth c H locs cells slots Q (F0 m pc lsA st0) := by
  intro T hT X
  obtain ⟨v, st₀, t, T', L, h0, X', hL, e1, e2, ⟨⟨r, u, hv, hp, hb, hd⟩, hz, hk⟩, st⟩ := hr T hT X
  cases hv
  rw [h0] at hz hk
  obtain ⟨t2, a1, b1⟩ := kk v u T'.heap (locs ++ L) hp (by rw [e1]; exact hb) hd (by rw [e1]; exact hz) (fun q h1 h2 => by rw [e1]; exact hk q h1 h2)
    ⟨Nat.le_trans hS.1 (by rw [e1]; exact hz), fun q h1 h2 => by rw [e1, hk q (Nat.lt_of_lt_of_le h1 hS.1) (fun z => h2 (hA q (Nat.lt_of_lt_of_le h1 hS.1) z))]; exact hS.2.1 q h1 h2, fun q hq => by
      rcases List.mem_append.mp hq with h | h
      · exact hS.2.2 q h
      · exact hf _ (hL q h)⟩ T' rfl X'
  exact ⟨t2, st t2 a1, b1⟩
end CallG
def pcB {Z : LZ} {args : List Value} {ws : va_W} {sz : Nat} : FrameBlind (va_Pc args (fun U => U.heap.size = sz ∧ va_P Z.1 vwCl ws U.heap ∧ EnvZ Z U ∧ va_D (fun _ => True) ws)) := by
  intro a U g mk q
  obtain ⟨q0, q1, qP, qE, qD⟩ := q
  exact ⟨q0, q1, qP, qE.same rfl, qD⟩
def nDesc (y : MethodName) (n : Nat) : Prop := y.cls ≠ "java/lang/invoke/MethodHandle" ∧ y.cls ≠ "java/lang/invoke/VarHandle" ∧ (parseMethodDescriptor y.desc).map (fun d => d.parameters.length) = some n
def fitR (J J2 : MD) : Prop := J2.2.2.2.2.frames + 1 ≤ J.2.2.2.2.frames ∧ 8 + (J2.2.2.1 + 11) + J2.2.2.2.2.locals ≤ J.2.2.2.2.locals
abbrev cdW (J : MD) : Cond := .code J.1 J.2.1 J.2.2.1 J.2.2.2.1
def lkV (own : String) (i : Nat) (J2 : MD) (n : Nat) : Prop := Cond.methodLink own i J2.1 ∈ WT ∧ Cond.instanceMethod J2.1 ∈ WT ∧ Cond.selects J2.1.cls J2.1 J2.1 ∈ WT ∧ Cond.initialized J2.1.cls ∈ WT ∧ cdW J2 ∈ WT ∧ nDesc J2.1 n
def lkS (own : String) (i : Nat) (J2 : MD) (n : Nat) : Prop := Cond.methodLink own i J2.1 ∈ WT ∧ Cond.static J2.1 ∈ WT ∧ Cond.initialized J2.1.cls ∈ WT ∧ cdW J2 ∈ WT ∧ nDesc J2.1 n
def lkI (own : String) (i : Nat) (J2 : MD) (n : Nat) : Prop := Cond.methodLink own i J2.1 ∈ WT ∧ Cond.instanceMethod J2.1 ∈ WT ∧ Cond.initialized J2.1.cls ∈ WT ∧ cdW J2 ∈ WT ∧ nDesc J2.1 n ∧ J2.1.name = "<init>" ∧ J2.2.2.2.1 = none
section Calls
variable {Z : LZ} {J : MD} {E : State → Array Value → (Nat → Prop) → Prop} {Q : List Frame → Array Value → State → (Nat → Prop) → State → Prop} {pc : Nat} {ls st : List Value} {ws : va_W} {k n : Nat}
/-- a call of the object's own method: the callee's world wc is cut out of ws (places ic), the rest wr (places ir) stays -/
theorem g_callV {post : Option Value → va_W → Prop} {J2 : MD} {As : List Value} {b i ci N q0 : Nat} {fs : List Value} {T : u_T} {wc wr : va_W} (ic ir : List Nat) (hlk : lkV J.1.cls i J2 As.length) (hT : Tr Z J2 (.ref b :: As) wc post) (d : decode J.2.1 pc = .ok (.invokevirtual i, 3)) (hfit : fitR J J2)
    (hc : vwCl[ci]? = some (J2.1.cls, T, N)) (he : ws[q0]? = some (b, .inr (ci, fs))) (hC : ic.map (fun i => ws[i]?) = wc.map some) (hR : ir.map (fun i => ws[i]?) = wr.map some) (hn : va_nd ir = true) (hdis : ∀ i ∈ ir, i ∉ ic) (hnc : va_nd ic = true) (hst : (st.map fun v => v.category).sum ≤ 8) (h1 : k + J2.2.2.2.2.cells ≤ J.2.2.2.2.cells) (h2 : n + J2.2.2.2.2.slots ≤ J.2.2.2.2.slots)
    (K : ∀ (r : Option Value) (w2 : va_W), post r w2 → G Z J E Q (pc + 3) ls (r.toList ++ st) (wr ++ w2) (k + J2.2.2.2.2.cells) (n + J2.2.2.2.2.slots)) {st2 : List Value} (hs : As.reverse ++ .ref b :: st = st2) : G Z J E Q pc ls st2 ws k n := by
  intro p l e s m args below meth c A H locs lsA C hE hP hD hS hL
  subst hs
  obtain ⟨l1, l2, l3, l4, l5, l6⟩ := hlk
  have hPc : va_P Z.1 vwCl wc H := by
    intro j q hq
    have h1 : (ic.map (fun i => ws[i]?))[j]? = some (some q) := by rw [hC, List.getElem?_map, hq]; rfl
    rw [List.getElem?_map] at h1
    cases hi : ic[j]? with
    | none => rw [hi] at h1; cases h1
    | some i => rw [hi] at h1; exact hP i q (Option.some.inj h1)
  have hDc := hD.sub ic hnc hC
  have hFc := va_free (wc := wc) hD hS C.hA ic hC
  refine va_callg (va_runV (As := As) (rest := st) ⟨C.ex, C.by, C.ml, C.ow, C.ts⟩ (hT l H.size) (cwV As.length C.ts (wt_GI_cons l1 (wt_GI_cons l2 (wt_GI_cons l3 (wt_GI_cons l4 (wt_GI_cons l5 wt_GI))))) rfl rfl rfl ⟨rfl, l6⟩ hfit) ⟨pcB, va_recv C.kk hP hc he, fun U hU hW => ⟨rfl, by rw [hU], by rw [hU]; exact hPc, C.en.warm hW, hDc.weaken (fun _ _ _ _ => trivial)⟩⟩ rfl rfl (hL.size) rfl (lv_room hst) d ⟨h1, h2⟩) hS (fun q _ h => hFc q h) hFc (fun r w2 H1 locs1 hp hP1 hD1 hz hk1 hS1 => ?_)
  obtain ⟨hP2, hD2⟩ := va_join (wr := wr) (w1 := w2) hP hD ic ir hC hR hn hdis hk1 hFc hP1 hD1
  exact K r w2 hp p l e s m args below meth c A H1 locs1 lsA C hE hP2 hD2 hS1 hL
theorem g_callS {post : Option Value → va_W → Prop} {J2 : MD} {As : List Value} {i : Nat} {wc wr : va_W} (ic ir : List Nat) (hlk : lkS J.1.cls i J2 As.length) (hT : Tr Z J2 As wc post) (d : decode J.2.1 pc = .ok (.invokestatic i, 3)) (hfit : fitR J J2)
    (hC : ic.map (fun i => ws[i]?) = wc.map some) (hR : ir.map (fun i => ws[i]?) = wr.map some) (hn : va_nd ir = true) (hdis : ∀ i ∈ ir, i ∉ ic) (hnc : va_nd ic = true) (hst : (st.map fun v => v.category).sum ≤ 8) (h1 : k + J2.2.2.2.2.cells ≤ J.2.2.2.2.cells) (h2 : n + J2.2.2.2.2.slots ≤ J.2.2.2.2.slots)
    (K : ∀ (r : Option Value) (w2 : va_W), post r w2 → G Z J E Q (pc + 3) ls (r.toList ++ st) (wr ++ w2) (k + J2.2.2.2.2.cells) (n + J2.2.2.2.2.slots)) {st2 : List Value} (hs : As.reverse ++ st = st2) : G Z J E Q pc ls st2 ws k n := by
  intro p l e s m args below meth c A H locs lsA C hE hP hD hS hL
  subst hs
  obtain ⟨l1, l2, l4, l5, l6⟩ := hlk
  have hPc : va_P Z.1 vwCl wc H := by
    intro j q hq
    have h1 : (ic.map (fun i => ws[i]?))[j]? = some (some q) := by rw [hC, List.getElem?_map, hq]; rfl
    rw [List.getElem?_map] at h1
    cases hi : ic[j]? with
    | none => rw [hi] at h1; cases h1
    | some i => rw [hi] at h1; exact hP i q (Option.some.inj h1)
  have hDc := hD.sub ic hnc hC
  have hFc := va_free (wc := wc) hD hS C.hA ic hC
  refine va_callg (va_runS (As := As) (rest := st) ⟨C.ex, C.by, C.ml, C.ow, C.ts⟩ (hT l H.size) (va_cwS As.length C.ts (wt_GI_cons l1 (wt_GI_cons l2 (wt_GI_cons l4 (wt_GI_cons l5 wt_GI)))) rfl rfl rfl l6 hfit) ⟨pcB, fun U hU hW => ⟨rfl, by rw [hU], by rw [hU]; exact hPc, C.en.warm hW, hDc.weaken (fun _ _ _ _ => trivial)⟩⟩ rfl rfl (hL.size) rfl (lv_room hst) d ⟨h1, h2⟩) hS (fun q _ h => hFc q h) hFc (fun r w2 H1 locs1 hp hP1 hD1 hz hk1 hS1 => ?_)
  obtain ⟨hP2, hD2⟩ := va_join (wr := wr) (w1 := w2) hP hD ic ir hC hR hn hdis hk1 hFc hP1 hD1
  exact K r w2 hp p l e s m args below meth c A H1 locs1 lsA C hE hP2 hD2 hS1 hL
theorem g_callI {post : Option Value → va_W → Prop} {J2 : MD} {As : List Value} {b i : Nat} {wc wr : va_W} (ic ir : List Nat) (hlk : lkI J.1.cls i J2 As.length) (hT : Tr Z J2 (.ref b :: As) wc post) (d : decode J.2.1 pc = .ok (.invokespecial i, 3)) (hfit : fitR J J2)
    (hC : ic.map (fun i => ws[i]?) = wc.map some) (hR : ir.map (fun i => ws[i]?) = wr.map some) (hn : va_nd ir = true) (hdis : ∀ i ∈ ir, i ∉ ic) (hnc : va_nd ic = true) (hst : (st.map fun v => v.category).sum ≤ 8) (h1 : k + J2.2.2.2.2.cells ≤ J.2.2.2.2.cells) (h2 : n + J2.2.2.2.2.slots ≤ J.2.2.2.2.slots)
    (K : ∀ (r : Option Value) (w2 : va_W), post r w2 → G Z J E Q (pc + 3) ls (r.toList ++ st) (wr ++ w2) (k + J2.2.2.2.2.cells) (n + J2.2.2.2.2.slots)) {st2 : List Value} (hs : As.reverse ++ .ref b :: st = st2) : G Z J E Q pc ls st2 ws k n := by
  intro p l e s m args below meth c A H locs lsA C hE hP hD hS hL
  subst hs
  obtain ⟨l1, l2, l4, l5, l6, l7, l8⟩ := hlk
  have hPc : va_P Z.1 vwCl wc H := by
    intro j q hq
    have h1 : (ic.map (fun i => ws[i]?))[j]? = some (some q) := by rw [hC, List.getElem?_map, hq]; rfl
    rw [List.getElem?_map] at h1
    cases hi : ic[j]? with
    | none => rw [hi] at h1; cases h1
    | some i => rw [hi] at h1; exact hP i q (Option.some.inj h1)
  have hDc := hD.sub ic hnc hC
  have hFc := va_free (wc := wc) hD hS C.hA ic hC
  have hM := hT l H.size
  have l5' := l5
  unfold cdW at l5'
  rw [l8] at hM l5'
  refine va_callg (va_runI (As := As) (rest := st) ⟨C.ex, C.by, C.ml, C.ow, C.ts⟩ hM (cwI As.length C.ts (wt_GI_cons l5' wt_GI) rfl rfl rfl (C.ts _ l4) (C.ts _ l1) (C.ts _ l2) l7 l6 hfit) ⟨pcB, fun U hU hW => ⟨rfl, by rw [hU], by rw [hU]; exact hPc, C.en.warm hW, hDc.weaken (fun _ _ _ _ => trivial)⟩⟩ rfl rfl (hL.size) rfl (lv_room hst) d ⟨h1, h2⟩) hS (fun q _ h => hFc q h) hFc (fun r w2 H1 locs1 hp hP1 hD1 hz hk1 hS1 => ?_)
  obtain ⟨hP2, hD2⟩ := va_join (wr := wr) (w1 := w2) hP hD ic ir hC hR hn hdis hk1 hFc hP1 hD1
  exact K r w2 hp p l e s m args below meth c A H1 locs1 lsA C hE hP2 hD2 hS1 hL
end Calls
