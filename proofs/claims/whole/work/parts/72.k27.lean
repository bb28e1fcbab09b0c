/-! THE CLAIM OUT OF ONE WALK OF THE LAW'S BODY. Your part is whole_start (and what it stands on); all else here is the same for every law, but numbers. -/
def R_law : String := "ManyPensLaw"
def lw_P (b : Addr) (xs : List Int32) (args : Array Value) (s : State) : Prop := args = #[.ref b] ∧ s.IntsAt b xs ∧ xs.length ≤ 3072 ∧ (Jvm.Cond.and given_1 narrow_1).before args s = true
def lw_Q (_ : Array Value) (s : State) (o : Outcome) (t : State) : Prop := o = .returned (some (.int 1)) ∧ Framed s o t [] 600000 7302250
def lw_Z (below : List Frame) (a : Array Value) (s : State) : State → Prop := fun t => ∃ o, t.status = .running ∧ Ended t below o ∧ lw_Q a s o t
/-- the law's own end, with 1 on the stack, nothing written that was there before, its room as the claim has it -/
theorem lw_ret {p : Program} {l : Launch} {e : Env} {s : State} {m : MethodId} {below : List Frame} {meth : Method} {c : Code} {b : Nat} (hx : p.tables.exec = Jvm.exec) (hb : c.code = code) (hr : meth.sig.returnType = ret) (hlocks : meth.locks = false) {pc : Nat} {H : Heap} {ls : Array Slot} (hdg : decode code pc = .ok (.ireturn, 1)) : W p l e room_1 s m #[Value.ref b] below meth c H [] 600000 7302250 (lw_Z below #[Value.ref b] s) (F0 m pc ls [.int 1]) := by
  intro T hT X
  obtain ⟨fs, hret, hrun, hended, hW, hframe⟩ := X.leave (v := some (.int 1)) (hlocks := hlocks) (fun h => by rw [hr] at h; cases h)
  have hmeth' : T.vm.method? m = some meth := X.method'
  refine ⟨T.setFrames fs, ?_, .returned (some (.int 1)), hrun, hended, rfl, ⟨_, rfl⟩, hW, hframe⟩
  jvm_step X.here [X.here.top, hx, hb, hdg, hmeth', hr, ret, narrow_b1]
  (try refine ⟨rfl, ?_⟩); (try refine ⟨rfl, ?_⟩)
  first | (intro acts; rw [hret _ acts rfl rfl rfl]) | rw [hret _ _ rfl rfl rfl]
  exact Steps.refl _
/-- what holds at the law's entry: the machine, the code, the tables' words (any of lw_tbl by 'hts w (by decide +kernel)'), the script of L ints xs at the cell b, what the Statement gives of the start (any of its parts by flat_of_before) -/
def lw_At (p : Program) (s : State) (m : MethodId) (meth : Method) (c : Code) (b L : Nat) (xs : Nat → Int32) : Prop :=
  p.tables.exec = Jvm.exec ∧ c.code = code ∧ meth.sig.returnType = ret ∧ c.maxLocals = 4 ∧ s.vm.findClass R_law = some m.cls ∧ (∀ w ∈ lw_tbl, w.before #[Value.ref b] s = true) ∧ va_X b L xs s s.heap ∧ b < s.heap.size ∧ meth.locks = false ∧ (Jvm.Cond.and given_1 narrow_1).before #[Value.ref b] s = true ∧ meth.name = "law"
abbrev jL : MD := (yL_law, cL_law, 4, ret, room_1)
def EL (b L : Nat) (xs : Nat → Int32) : State → Array Value → (Nat → Prop) → Prop := fun s args A => args = #[.ref b] ∧ va_X b L xs s s.heap ∧ b < s.heap.size ∧ ¬ A b ∧ ∀ q, A q → s.heap.size ≤ q
def QL : List Frame → Array Value → State → (Nat → Prop) → State → Prop := fun below args s _ => lw_Z below args s
section LRows
variable {Z : LZ} {b L : Nat} {xs : Nat → Int32} {pc : Nat} {ls st : List Value} {ws : va_W} {k n : Nat}
theorem gl_ld {x : Int} (hL : L ≤ 3072) (d : decode cL_law pc = .ok (.iaload, 1)) (h0 : 0 ≤ x) (h1 : x < L) (K : G Z jL (EL b L xs) QL (pc + 1) ls (.int (iI (xs x.toNat).toInt) :: st) ws k n) : G Z jL (EL b L xs) QL pc ls (.int (iI x) :: .ref b :: st) ws k n := by
  intro p l e s m args below meth c A H locs lsA C hE hP hD hS hL2
  have hE2 := hE
  obtain ⟨e1, hX, hbl, hbA, hq⟩ := hE
  refine va_sld C.ex C.by hX hbl hbA hS (iI_in h0 h1 (by omega)) d ?_
  rw [iI_clamp h0 (by omega)]
  have K2 := K p l e s m args below meth c A H locs lsA C hE2 hP hD hS hL2
  rw [← iI_of] at K2
  exact K2
theorem gl_len (d : decode cL_law pc = .ok (.arraylength, 1)) (K : G Z jL (EL b L xs) QL (pc + 1) ls (.int (iI (L : Int)) :: st) ws k n) : G Z jL (EL b L xs) QL pc ls (.ref b :: st) ws k n := by
  intro p l e s m args below meth c A H locs lsA C hE hP hD hS hL2
  have hE2 := hE
  obtain ⟨e1, hX, hbl, hbA, hq⟩ := hE
  refine va_slen C.ex C.by hX hbl hbA hS d ?_
  have K2 := K p l e s m args below meth c A H locs lsA C hE2 hP hD hS hL2
  rw [iI_nat] at K2
  exact K2
theorem gl_ret (d : decode cL_law pc = .ok (.ireturn, 1)) (hk : k ≤ 600000) (hn : n ≤ 7302250) : G Z jL (EL b L xs) QL pc ls [.int (iI 1)] ws k n := by
  intro p l e s m args below meth c A H locs lsA C hE hP hD hS hL2
  obtain ⟨e1, hX, hbl, hbA, hq⟩ := hE
  subst e1
  refine va_forget (fun q hq2 => hq _ (hS.2.2 q hq2)) ?_
  refine W.widen hk hn ?_
  exact lw_ret C.ex C.by C.rt C.lk d
end LRows
theorem suf_all {α : Type} (P R : List α) : ((List.range R.length).map (fun i => i + P.length)).map (fun i => (P ++ R)[i]?) = R.map some := by
  rw [List.map_map, ← range_all R]
  refine List.map_congr_left (fun i hi => ?_)
  show (P ++ R)[i + P.length]? = R[i]?
  rw [List.getElem?_append_right (by omega), Nat.add_sub_cancel]
section CRows2
variable {Z : LZ} {J : MD} {E : State → Array Value → (Nat → Prop) → Prop} {Q : List Frame → Array Value → State → (Nat → Prop) → State → Prop} {pc : Nat} {ls st : List Value} {k n : Nat}
theorem g_call2 {post : Option Value → va_W → Prop} {J2 : MD} {As : List Value} {b0 i ci N q0 : Nat} {fs : List Value} {T : u_T} {P R : va_W} (hlk : lkV J.1.cls i J2 As.length) (hT : Tr Z J2 (.ref b0 :: As) P post) (d : decode J.2.1 pc = .ok (.invokevirtual i, 3)) (hfit : fitR J J2) (hc : vwCl[ci]? = some (J2.1.cls, T, N)) (he : P[q0]? = some (b0, .inr (ci, fs))) (hst : (st.map fun v => v.category).sum ≤ 8) (h1 : k + J2.2.2.2.2.cells ≤ J.2.2.2.2.cells) (h2 : n + J2.2.2.2.2.slots ≤ J.2.2.2.2.slots)
    (K : ∀ (r : Option Value) (w2 : va_W), post r w2 → G Z J E Q (pc + 3) ls (r.toList ++ st) (R ++ w2) (k + J2.2.2.2.2.cells) (n + J2.2.2.2.2.slots)) {st2 : List Value} (hs : As.reverse ++ .ref b0 :: st = st2) : G Z J E Q pc ls st2 (P ++ R) k n := by
  refine g_callV (wc := P) (wr := R) (List.range P.length) ((List.range R.length).map (fun i => i + P.length)) hlk hT d hfit hc (q0 := q0) (by rw [List.getElem?_append_left (List.getElem?_eq_some_iff.mp he).1]; exact he) (pre_all P R) (suf_all P R) (nd_of _ ?_) (fun j hj h => ?_) (nd_range _) hst h1 h2 K hs
  · exact List.Pairwise.map _ (fun x y h => by show x + P.length ≠ y + P.length; omega) List.nodup_range
  · obtain ⟨u, hu, rfl⟩ := List.mem_map.mp hj
    have := List.mem_range.mp h
    omega
end CRows2
section LCalls
variable {Z : LZ} {b L : Nat} {xs : Nat → Int32} {pc : Nat} {ls st : List Value} {k n : Nat} {a a2 : Nat → Nat} {o : Nat} {D D2 M : Mem}
theorem gl_X {J2 : MD} {As : List Int} {v : Int} {w : va_W} {i : Nat} (hlk : lkV RL i J2 (As.map vI).length) (hw : HC Z a D w) (hT : Tr Z J2 (.ref (a 99) :: As.map vI) w (fun r w2 => r = some (.int (iI v)) ∧ HC Z a D2 w2)) (d : decode cL_law pc = .ok (.invokevirtual i, 3)) (hfit : fitR jL J2) (hcl : J2.1.cls = RX8) (hst : (st.map fun v => v.category).sum ≤ 8) (hc3 : J2.2.2.2.2.cells ≤ 3) (hs17 : J2.2.2.2.2.slots ≤ 17) (hk : k + 3 ≤ 600000) (hn : n + 17 ≤ 7302250) {st2 : List Value} (hs : (As.map vI).reverse ++ .ref (a 99) :: st = st2) (K : ∀ w2 : va_W, HC Z a D2 w2 → G Z jL (EL b L xs) QL (pc + 3) ls (.int (iI v) :: st) (mW Z o a2 M ++ w2) (k + 3) (n + 17)) : G Z jL (EL b L xs) QL pc ls st2 (w ++ mW Z o a2 M) k n := by
  have he : ∃ fs, w[0]? = some (a 99, .inr (7, fs)) := by
    obtain ⟨C, fS, fA, sa, sb, N, rfl, _⟩ := hw
    exact ⟨_, rfl⟩
  obtain ⟨fs, he⟩ := he
  refine g_call2 (J := jL) (ci := 7) (q0 := 0) hlk hT d hfit (by rw [hcl]; rfl) he hst (by show k + _ ≤ 600000; omega) (by show n + _ ≤ 7302250; omega) (fun r w2 h => ?_) hs
  obtain ⟨rfl, h2⟩ := h
  exact g_widen (by omega) (by omega) (K w2 h2)
theorem gl_M {J2 : MD} {As : List Int} {v : Int} {w : va_W} {i : Nat} (hlk : lkV RL i J2 (As.map vI).length) (hT : Tm Z o a2 J2 As M (fun z M2 => z = v ∧ Pers D2 M2)) (d : decode cL_law pc = .ok (.invokevirtual i, 3)) (hfit : fitR jL J2) (hcl : J2.1.cls = RX9) (hst : (st.map fun v => v.category).sum ≤ 8) (h1 : J2.2.2.2.2.cells = 0) (h2 : J2.2.2.2.2.slots = 0) (hk : k ≤ 600000) (hn : n ≤ 7302250) {st2 : List Value} (hs : (As.map vI).reverse ++ .ref o :: st = st2) (K : ∀ M2 : Mem, Pers D2 M2 → G Z jL (EL b L xs) QL (pc + 3) ls (.int (iI v) :: st) (w ++ mW Z o a2 M2) k n) : G Z jL (EL b L xs) QL pc ls st2 (mW Z o a2 M ++ w) k n := by
  refine g_call2 (J := jL) (ci := 8) (q0 := 0) (fs := mF a2 M) (T := TX9) (N := 28) hlk hT d hfit (by rw [hcl]; rfl) rfl hst (by show k + _ ≤ 600000; omega) (by show n + _ ≤ 7302250; omega) (fun r w2 h => ?_) hs
  obtain ⟨z, M2, rfl, rfl, rfl, h3⟩ := h
  rw [h1, h2]
  exact K M2 h3
end LCalls
section Cases
variable {Z : LZ} {b L : Nat} {xs : Nat → Int32} {k n : Nat} {a a2 : Nat → Nat} {o : Nat} {D M : Mem} {i : Int} {w : va_W}
set_option maxHeartbeats 4000000 in
set_option maxRecDepth 100000 in
theorem case_type (hL : L ≤ 3072) (h0 : 0 ≤ i) (h5 : i + 5 < L) (hG : Good D) (hI : Inv D) (hP : Pers D M) (hw : HC Z a D w) (hk : k + 3 ≤ 600000) (hn : n + 17 ≤ 7302250) (next : ∀ (D2 M2 : Mem) (w2 : va_W), Good D2 → Inv D2 → Pers D2 M2 → HC Z a D2 w2 → G Z jL (EL b L xs) QL 1104 [.ref b, .ref (a 99), .ref o, .int (iI i)] [] (w2 ++ mW Z o a2 M2) (k + 3) (n + 17)) : G Z jL (EL b L xs) QL 160 [.ref b, .ref (a 99), .ref o, .int (iI i)] [] (w ++ mW Z o a2 M) k n := by
  refine g_aload_n 1 dL_law_160 rfl rfl ?_
  refine g_aload_n 0 dL_law_161 rfl rfl ?_
  refine g_iload_n 3 dL_law_162 rfl rfl ?_
  refine g_iconst (iI 1) dL_law_163 rfl ?_
  refine gi_add dL_law_164 ?_
  refine gl_ld hL dL_law_165 (by omega) (by omega) ?_
  refine g_aload_n 0 dL_law_166 rfl rfl ?_
  refine g_iload_n 3 dL_law_167 rfl rfl ?_
  refine g_iconst (iI 2) dL_law_168 rfl ?_
  refine gi_add dL_law_169 ?_
  refine gl_ld hL dL_law_170 (by omega) (by omega) ?_
  refine g_aload_n 0 dL_law_171 rfl rfl ?_
  refine g_iload_n 3 dL_law_172 rfl rfl ?_
  refine g_iconst (iI 3) dL_law_173 rfl ?_
  refine gi_add dL_law_174 ?_
  refine gl_ld hL dL_law_175 (by omega) (by omega) ?_
  refine g_aload_n 0 dL_law_176 rfl rfl ?_
  refine g_iload_n 3 dL_law_177 rfl rfl ?_
  refine g_iconst (iI 4) dL_law_178 rfl ?_
  refine gi_add dL_law_179 ?_
  refine gl_ld hL dL_law_180 (by omega) (by omega) ?_
  refine g_aload_n 0 dL_law_181 rfl rfl ?_
  refine g_iload_n 3 dL_law_182 rfl rfl ?_
  refine g_iconst (iI 5) dL_law_183 rfl ?_
  refine gi_add dL_law_184 ?_
  refine gl_ld hL dL_law_185 (by omega) (by omega) ?_
  refine gl_X (As := [(xs (i + 1).toNat).toInt, (xs (i + 2).toNat).toInt, (xs (i + 3).toNat).toInt, (xs (i + 4).toNat).toInt, (xs (i + 5).toNat).toInt]) lkL_13 hw (x_type Z a hG hI hw ((xs (i + 1).toNat).toInt) ((xs (i + 2).toNat).toInt) ((xs (i + 3).toNat).toInt) ((xs (i + 4).toNat).toInt) ((xs (i + 5).toNat).toInt) (Rg_of _) (Rg_of _) (Rg_of _) (Rg_of _) (Rg_of _)) dL_law_186 (And.intro (Nat.le_of_ble_eq_true rfl) (Nat.le_of_ble_eq_true rfl)) rfl (Nat.le_of_ble_eq_true rfl) (Nat.le_of_ble_eq_true rfl) (Nat.le_of_ble_eq_true rfl) hk hn rfl (fun w2 hw2 => ?_)
  refine g_aload_n 2 dL_law_189 rfl rfl ?_
  refine g_aload_n 0 dL_law_190 rfl rfl ?_
  refine g_iload_n 3 dL_law_191 rfl rfl ?_
  refine g_iconst (iI 1) dL_law_192 rfl ?_
  refine gi_add dL_law_193 ?_
  refine gl_ld hL dL_law_194 (by omega) (by omega) ?_
  refine g_aload_n 0 dL_law_195 rfl rfl ?_
  refine g_iload_n 3 dL_law_196 rfl rfl ?_
  refine g_iconst (iI 2) dL_law_197 rfl ?_
  refine gi_add dL_law_198 ?_
  refine gl_ld hL dL_law_199 (by omega) (by omega) ?_
  refine g_aload_n 0 dL_law_200 rfl rfl ?_
  refine g_iload_n 3 dL_law_201 rfl rfl ?_
  refine g_iconst (iI 3) dL_law_202 rfl ?_
  refine gi_add dL_law_203 ?_
  refine gl_ld hL dL_law_204 (by omega) (by omega) ?_
  refine g_aload_n 0 dL_law_205 rfl rfl ?_
  refine g_iload_n 3 dL_law_206 rfl rfl ?_
  refine g_iconst (iI 4) dL_law_207 rfl ?_
  refine gi_add dL_law_208 ?_
  refine gl_ld hL dL_law_209 (by omega) (by omega) ?_
  refine g_aload_n 0 dL_law_210 rfl rfl ?_
  refine g_iload_n 3 dL_law_211 rfl rfl ?_
  refine g_iconst (iI 5) dL_law_212 rfl ?_
  refine gi_add dL_law_213 ?_
  refine gl_ld hL dL_law_214 (by omega) (by omega) ?_
  refine gl_M (As := [(xs (i + 1).toNat).toInt, (xs (i + 2).toNat).toInt, (xs (i + 3).toNat).toInt, (xs (i + 4).toNat).toInt, (xs (i + 5).toNat).toInt]) lkL_17 (y_type Z o a2 hG hP ((xs (i + 1).toNat).toInt) ((xs (i + 2).toNat).toInt) ((xs (i + 3).toNat).toInt) ((xs (i + 4).toNat).toInt) ((xs (i + 5).toNat).toInt) (Rg_of _) (Rg_of _) (Rg_of _) (Rg_of _) (Rg_of _)) dL_law_215 (And.intro (Nat.le_of_ble_eq_true rfl) (Nat.le_of_ble_eq_true rfl)) rfl (Nat.le_of_ble_eq_true rfl) rfl rfl (by omega) (by omega) rfl (fun M2 hP2 => ?_)
  refine g_icmp_eq 1104 dL_law_218 (by decide) (fun _ => ?_) (fun h => absurd rfl h)
  have g := gi_type hG hI ((xs (i + 1).toNat).toInt) ((xs (i + 2).toNat).toInt) ((xs (i + 3).toNat).toInt) ((xs (i + 4).toNat).toInt) ((xs (i + 5).toNat).toInt) (Rg_of _) (Rg_of _) (Rg_of _) (Rg_of _) (Rg_of _)
  exact next _ M2 w2 g.1 g.2 hP2 hw2
set_option maxHeartbeats 4000000 in
set_option maxRecDepth 100000 in
theorem case_strike (hL : L ≤ 3072) (h0 : 0 ≤ i) (h5 : i + 5 < L) (hG : Good D) (hI : Inv D) (hP : Pers D M) (hw : HC Z a D w) (hk : k + 3 ≤ 600000) (hn : n + 17 ≤ 7302250) (next : ∀ (D2 M2 : Mem) (w2 : va_W), Good D2 → Inv D2 → Pers D2 M2 → HC Z a D2 w2 → G Z jL (EL b L xs) QL 1104 [.ref b, .ref (a 99), .ref o, .int (iI i)] [] (w2 ++ mW Z o a2 M2) (k + 3) (n + 17)) : G Z jL (EL b L xs) QL 223 [.ref b, .ref (a 99), .ref o, .int (iI i)] [] (w ++ mW Z o a2 M) k n := by
  refine g_aload_n 1 dL_law_223 rfl rfl ?_
  refine g_aload_n 0 dL_law_224 rfl rfl ?_
  refine g_iload_n 3 dL_law_225 rfl rfl ?_
  refine g_iconst (iI 1) dL_law_226 rfl ?_
  refine gi_add dL_law_227 ?_
  refine gl_ld hL dL_law_228 (by omega) (by omega) ?_
  refine g_aload_n 0 dL_law_229 rfl rfl ?_
  refine g_iload_n 3 dL_law_230 rfl rfl ?_
  refine g_iconst (iI 2) dL_law_231 rfl ?_
  refine gi_add dL_law_232 ?_
  refine gl_ld hL dL_law_233 (by omega) (by omega) ?_
  refine g_aload_n 0 dL_law_234 rfl rfl ?_
  refine g_iload_n 3 dL_law_235 rfl rfl ?_
  refine g_iconst (iI 3) dL_law_236 rfl ?_
  refine gi_add dL_law_237 ?_
  refine gl_ld hL dL_law_238 (by omega) (by omega) ?_
  refine gl_X (As := [(xs (i + 1).toNat).toInt, (xs (i + 2).toNat).toInt, (xs (i + 3).toNat).toInt]) lkL_18 hw (x_strike Z a hG hI hw ((xs (i + 1).toNat).toInt) ((xs (i + 2).toNat).toInt) ((xs (i + 3).toNat).toInt) (Rg_of _) (Rg_of _) (Rg_of _)) dL_law_239 (And.intro (Nat.le_of_ble_eq_true rfl) (Nat.le_of_ble_eq_true rfl)) rfl (Nat.le_of_ble_eq_true rfl) (Nat.le_of_ble_eq_true rfl) (Nat.le_of_ble_eq_true rfl) hk hn rfl (fun w2 hw2 => ?_)
  refine g_aload_n 2 dL_law_242 rfl rfl ?_
  refine g_aload_n 0 dL_law_243 rfl rfl ?_
  refine g_iload_n 3 dL_law_244 rfl rfl ?_
  refine g_iconst (iI 1) dL_law_245 rfl ?_
  refine gi_add dL_law_246 ?_
  refine gl_ld hL dL_law_247 (by omega) (by omega) ?_
  refine g_aload_n 0 dL_law_248 rfl rfl ?_
  refine g_iload_n 3 dL_law_249 rfl rfl ?_
  refine g_iconst (iI 2) dL_law_250 rfl ?_
  refine gi_add dL_law_251 ?_
  refine gl_ld hL dL_law_252 (by omega) (by omega) ?_
  refine g_aload_n 0 dL_law_253 rfl rfl ?_
  refine g_iload_n 3 dL_law_254 rfl rfl ?_
  refine g_iconst (iI 3) dL_law_255 rfl ?_
  refine gi_add dL_law_256 ?_
  refine gl_ld hL dL_law_257 (by omega) (by omega) ?_
  refine gl_M (As := [(xs (i + 1).toNat).toInt, (xs (i + 2).toNat).toInt, (xs (i + 3).toNat).toInt]) lkL_22 (y_strike Z o a2 hG hP ((xs (i + 1).toNat).toInt) ((xs (i + 2).toNat).toInt) ((xs (i + 3).toNat).toInt) (Rg_of _) (Rg_of _) (Rg_of _)) dL_law_258 (And.intro (Nat.le_of_ble_eq_true rfl) (Nat.le_of_ble_eq_true rfl)) rfl (Nat.le_of_ble_eq_true rfl) rfl rfl (by omega) (by omega) rfl (fun M2 hP2 => ?_)
  refine g_icmp_eq 1104 dL_law_261 (by decide) (fun _ => ?_) (fun h => absurd rfl h)
  have g := gi_strike hG hI ((xs (i + 1).toNat).toInt) ((xs (i + 2).toNat).toInt) ((xs (i + 3).toNat).toInt) (Rg_of _) (Rg_of _) (Rg_of _)
  exact next _ M2 w2 g.1 g.2 hP2 hw2
set_option maxHeartbeats 4000000 in
set_option maxRecDepth 100000 in
theorem case_mark (hL : L ≤ 3072) (h0 : 0 ≤ i) (h5 : i + 5 < L) (hG : Good D) (hI : Inv D) (hP : Pers D M) (hw : HC Z a D w) (hk : k + 3 ≤ 600000) (hn : n + 17 ≤ 7302250) (next : ∀ (D2 M2 : Mem) (w2 : va_W), Good D2 → Inv D2 → Pers D2 M2 → HC Z a D2 w2 → G Z jL (EL b L xs) QL 1104 [.ref b, .ref (a 99), .ref o, .int (iI i)] [] (w2 ++ mW Z o a2 M2) (k + 3) (n + 17)) : G Z jL (EL b L xs) QL 266 [.ref b, .ref (a 99), .ref o, .int (iI i)] [] (w ++ mW Z o a2 M) k n := by
  refine g_aload_n 1 dL_law_266 rfl rfl ?_
  refine g_aload_n 0 dL_law_267 rfl rfl ?_
  refine g_iload_n 3 dL_law_268 rfl rfl ?_
  refine g_iconst (iI 1) dL_law_269 rfl ?_
  refine gi_add dL_law_270 ?_
  refine gl_ld hL dL_law_271 (by omega) (by omega) ?_
  refine g_aload_n 0 dL_law_272 rfl rfl ?_
  refine g_iload_n 3 dL_law_273 rfl rfl ?_
  refine g_iconst (iI 2) dL_law_274 rfl ?_
  refine gi_add dL_law_275 ?_
  refine gl_ld hL dL_law_276 (by omega) (by omega) ?_
  refine g_aload_n 0 dL_law_277 rfl rfl ?_
  refine g_iload_n 3 dL_law_278 rfl rfl ?_
  refine g_iconst (iI 3) dL_law_279 rfl ?_
  refine gi_add dL_law_280 ?_
  refine gl_ld hL dL_law_281 (by omega) (by omega) ?_
  refine g_aload_n 0 dL_law_282 rfl rfl ?_
  refine g_iload_n 3 dL_law_283 rfl rfl ?_
  refine g_iconst (iI 4) dL_law_284 rfl ?_
  refine gi_add dL_law_285 ?_
  refine gl_ld hL dL_law_286 (by omega) (by omega) ?_
  refine g_aload_n 0 dL_law_287 rfl rfl ?_
  refine g_iload_n 3 dL_law_288 rfl rfl ?_
  refine g_iconst (iI 5) dL_law_289 rfl ?_
  refine gi_add dL_law_290 ?_
  refine gl_ld hL dL_law_291 (by omega) (by omega) ?_
  refine gl_X (As := [(xs (i + 1).toNat).toInt, (xs (i + 2).toNat).toInt, (xs (i + 3).toNat).toInt, (xs (i + 4).toNat).toInt, (xs (i + 5).toNat).toInt]) lkL_23 hw (x_mark Z a hG hI hw ((xs (i + 1).toNat).toInt) ((xs (i + 2).toNat).toInt) ((xs (i + 3).toNat).toInt) ((xs (i + 4).toNat).toInt) ((xs (i + 5).toNat).toInt) (Rg_of _) (Rg_of _) (Rg_of _) (Rg_of _) (Rg_of _)) dL_law_292 (And.intro (Nat.le_of_ble_eq_true rfl) (Nat.le_of_ble_eq_true rfl)) rfl (Nat.le_of_ble_eq_true rfl) (Nat.le_of_ble_eq_true rfl) (Nat.le_of_ble_eq_true rfl) hk hn rfl (fun w2 hw2 => ?_)
  refine g_aload_n 2 dL_law_295 rfl rfl ?_
  refine g_aload_n 0 dL_law_296 rfl rfl ?_
  refine g_iload_n 3 dL_law_297 rfl rfl ?_
  refine g_iconst (iI 1) dL_law_298 rfl ?_
  refine gi_add dL_law_299 ?_
  refine gl_ld hL dL_law_300 (by omega) (by omega) ?_
  refine g_aload_n 0 dL_law_301 rfl rfl ?_
  refine g_iload_n 3 dL_law_302 rfl rfl ?_
  refine g_iconst (iI 2) dL_law_303 rfl ?_
  refine gi_add dL_law_304 ?_
  refine gl_ld hL dL_law_305 (by omega) (by omega) ?_
  refine g_aload_n 0 dL_law_306 rfl rfl ?_
  refine g_iload_n 3 dL_law_307 rfl rfl ?_
  refine g_iconst (iI 3) dL_law_308 rfl ?_
  refine gi_add dL_law_309 ?_
  refine gl_ld hL dL_law_310 (by omega) (by omega) ?_
  refine g_aload_n 0 dL_law_311 rfl rfl ?_
  refine g_iload_n 3 dL_law_312 rfl rfl ?_
  refine g_iconst (iI 4) dL_law_313 rfl ?_
  refine gi_add dL_law_314 ?_
  refine gl_ld hL dL_law_315 (by omega) (by omega) ?_
  refine g_aload_n 0 dL_law_316 rfl rfl ?_
  refine g_iload_n 3 dL_law_317 rfl rfl ?_
  refine g_iconst (iI 5) dL_law_318 rfl ?_
  refine gi_add dL_law_319 ?_
  refine gl_ld hL dL_law_320 (by omega) (by omega) ?_
  refine gl_M (As := [(xs (i + 1).toNat).toInt, (xs (i + 2).toNat).toInt, (xs (i + 3).toNat).toInt, (xs (i + 4).toNat).toInt, (xs (i + 5).toNat).toInt]) lkL_26 (y_mark Z o a2 hG hP ((xs (i + 1).toNat).toInt) ((xs (i + 2).toNat).toInt) ((xs (i + 3).toNat).toInt) ((xs (i + 4).toNat).toInt) ((xs (i + 5).toNat).toInt) (Rg_of _) (Rg_of _) (Rg_of _) (Rg_of _) (Rg_of _)) dL_law_321 (And.intro (Nat.le_of_ble_eq_true rfl) (Nat.le_of_ble_eq_true rfl)) rfl (Nat.le_of_ble_eq_true rfl) rfl rfl (by omega) (by omega) rfl (fun M2 hP2 => ?_)
  refine g_icmp_eq 1104 dL_law_324 (by decide) (fun _ => ?_) (fun h => absurd rfl h)
  have g := gi_mark hG hI ((xs (i + 1).toNat).toInt) ((xs (i + 2).toNat).toInt) ((xs (i + 3).toNat).toInt) ((xs (i + 4).toNat).toInt) ((xs (i + 5).toNat).toInt) (Rg_of _) (Rg_of _) (Rg_of _) (Rg_of _) (Rg_of _)
  exact next _ M2 w2 g.1 g.2 hP2 hw2
set_option maxHeartbeats 4000000 in
set_option maxRecDepth 100000 in
theorem case_undo (hL : L ≤ 3072) (h0 : 0 ≤ i) (h5 : i + 5 < L) (hG : Good D) (hI : Inv D) (hP : Pers D M) (hw : HC Z a D w) (hk : k + 3 ≤ 600000) (hn : n + 17 ≤ 7302250) (next : ∀ (D2 M2 : Mem) (w2 : va_W), Good D2 → Inv D2 → Pers D2 M2 → HC Z a D2 w2 → G Z jL (EL b L xs) QL 1104 [.ref b, .ref (a 99), .ref o, .int (iI i)] [] (w2 ++ mW Z o a2 M2) (k + 3) (n + 17)) : G Z jL (EL b L xs) QL 329 [.ref b, .ref (a 99), .ref o, .int (iI i)] [] (w ++ mW Z o a2 M) k n := by
  refine g_aload_n 1 dL_law_329 rfl rfl ?_
  refine g_aload_n 0 dL_law_330 rfl rfl ?_
  refine g_iload_n 3 dL_law_331 rfl rfl ?_
  refine g_iconst (iI 1) dL_law_332 rfl ?_
  refine gi_add dL_law_333 ?_
  refine gl_ld hL dL_law_334 (by omega) (by omega) ?_
  refine g_aload_n 0 dL_law_335 rfl rfl ?_
  refine g_iload_n 3 dL_law_336 rfl rfl ?_
  refine g_iconst (iI 2) dL_law_337 rfl ?_
  refine gi_add dL_law_338 ?_
  refine gl_ld hL dL_law_339 (by omega) (by omega) ?_
  refine gl_X (As := [(xs (i + 1).toNat).toInt, (xs (i + 2).toNat).toInt]) lkL_27 hw (x_undo Z a hG hI hw ((xs (i + 1).toNat).toInt) ((xs (i + 2).toNat).toInt) (Rg_of _) (Rg_of _)) dL_law_340 (And.intro (Nat.le_of_ble_eq_true rfl) (Nat.le_of_ble_eq_true rfl)) rfl (Nat.le_of_ble_eq_true rfl) (Nat.le_of_ble_eq_true rfl) (Nat.le_of_ble_eq_true rfl) hk hn rfl (fun w2 hw2 => ?_)
  refine g_aload_n 2 dL_law_343 rfl rfl ?_
  refine g_aload_n 0 dL_law_344 rfl rfl ?_
  refine g_iload_n 3 dL_law_345 rfl rfl ?_
  refine g_iconst (iI 1) dL_law_346 rfl ?_
  refine gi_add dL_law_347 ?_
  refine gl_ld hL dL_law_348 (by omega) (by omega) ?_
  refine g_aload_n 0 dL_law_349 rfl rfl ?_
  refine g_iload_n 3 dL_law_350 rfl rfl ?_
  refine g_iconst (iI 2) dL_law_351 rfl ?_
  refine gi_add dL_law_352 ?_
  refine gl_ld hL dL_law_353 (by omega) (by omega) ?_
  refine gl_M (As := [(xs (i + 1).toNat).toInt, (xs (i + 2).toNat).toInt]) lkL_31 (y_undo Z o a2 hG hP ((xs (i + 1).toNat).toInt) ((xs (i + 2).toNat).toInt) (Rg_of _) (Rg_of _)) dL_law_354 (And.intro (Nat.le_of_ble_eq_true rfl) (Nat.le_of_ble_eq_true rfl)) rfl (Nat.le_of_ble_eq_true rfl) rfl rfl (by omega) (by omega) rfl (fun M2 hP2 => ?_)
  refine g_icmp_eq 1104 dL_law_357 (by decide) (fun _ => ?_) (fun h => absurd rfl h)
  have g := gi_undo hG hI ((xs (i + 1).toNat).toInt) ((xs (i + 2).toNat).toInt) (Rg_of _) (Rg_of _)
  exact next _ M2 w2 g.1 g.2 hP2 hw2
set_option maxHeartbeats 4000000 in
set_option maxRecDepth 100000 in
theorem case_carry (hL : L ≤ 3072) (h0 : 0 ≤ i) (h5 : i + 5 < L) (hG : Good D) (hI : Inv D) (hP : Pers D M) (hw : HC Z a D w) (hk : k + 3 ≤ 600000) (hn : n + 17 ≤ 7302250) (next : ∀ (D2 M2 : Mem) (w2 : va_W), Good D2 → Inv D2 → Pers D2 M2 → HC Z a D2 w2 → G Z jL (EL b L xs) QL 1104 [.ref b, .ref (a 99), .ref o, .int (iI i)] [] (w2 ++ mW Z o a2 M2) (k + 3) (n + 17)) : G Z jL (EL b L xs) QL 362 [.ref b, .ref (a 99), .ref o, .int (iI i)] [] (w ++ mW Z o a2 M) k n := by
  refine g_aload_n 1 dL_law_362 rfl rfl ?_
  refine g_aload_n 0 dL_law_363 rfl rfl ?_
  refine g_iload_n 3 dL_law_364 rfl rfl ?_
  refine g_iconst (iI 1) dL_law_365 rfl ?_
  refine gi_add dL_law_366 ?_
  refine gl_ld hL dL_law_367 (by omega) (by omega) ?_
  refine g_aload_n 0 dL_law_368 rfl rfl ?_
  refine g_iload_n 3 dL_law_369 rfl rfl ?_
  refine g_iconst (iI 2) dL_law_370 rfl ?_
  refine gi_add dL_law_371 ?_
  refine gl_ld hL dL_law_372 (by omega) (by omega) ?_
  refine gl_X (As := [(xs (i + 1).toNat).toInt, (xs (i + 2).toNat).toInt]) lkL_32 hw (x_carry Z a hG hI hw ((xs (i + 1).toNat).toInt) ((xs (i + 2).toNat).toInt) (Rg_of _) (Rg_of _)) dL_law_373 (And.intro (Nat.le_of_ble_eq_true rfl) (Nat.le_of_ble_eq_true rfl)) rfl (Nat.le_of_ble_eq_true rfl) (Nat.le_of_ble_eq_true rfl) (Nat.le_of_ble_eq_true rfl) hk hn rfl (fun w2 hw2 => ?_)
  refine g_aload_n 2 dL_law_376 rfl rfl ?_
  refine g_aload_n 0 dL_law_377 rfl rfl ?_
  refine g_iload_n 3 dL_law_378 rfl rfl ?_
  refine g_iconst (iI 1) dL_law_379 rfl ?_
  refine gi_add dL_law_380 ?_
  refine gl_ld hL dL_law_381 (by omega) (by omega) ?_
  refine g_aload_n 0 dL_law_382 rfl rfl ?_
  refine g_iload_n 3 dL_law_383 rfl rfl ?_
  refine g_iconst (iI 2) dL_law_384 rfl ?_
  refine gi_add dL_law_385 ?_
  refine gl_ld hL dL_law_386 (by omega) (by omega) ?_
  refine gl_M (As := [(xs (i + 1).toNat).toInt, (xs (i + 2).toNat).toInt]) lkL_35 (y_carry Z o a2 hG hP ((xs (i + 1).toNat).toInt) ((xs (i + 2).toNat).toInt) (Rg_of _) (Rg_of _)) dL_law_387 (And.intro (Nat.le_of_ble_eq_true rfl) (Nat.le_of_ble_eq_true rfl)) rfl (Nat.le_of_ble_eq_true rfl) rfl rfl (by omega) (by omega) rfl (fun M2 hP2 => ?_)
  refine g_icmp_eq 1104 dL_law_390 (by decide) (fun _ => ?_) (fun h => absurd rfl h)
  have g := gi_carry hG hI ((xs (i + 1).toNat).toInt) ((xs (i + 2).toNat).toInt) (Rg_of _) (Rg_of _)
  exact next _ M2 w2 g.1 g.2 hP2 hw2
set_option maxHeartbeats 4000000 in
set_option maxRecDepth 100000 in
theorem case_all (hL : L ≤ 3072) (h0 : 0 ≤ i) (h5 : i + 5 < L) (hG : Good D) (hI : Inv D) (hP : Pers D M) (hw : HC Z a D w) (hk : k + 3 ≤ 600000) (hn : n + 17 ≤ 7302250) (next : ∀ (D2 M2 : Mem) (w2 : va_W), Good D2 → Inv D2 → Pers D2 M2 → HC Z a D2 w2 → G Z jL (EL b L xs) QL 1104 [.ref b, .ref (a 99), .ref o, .int (iI i)] [] (w2 ++ mW Z o a2 M2) (k + 3) (n + 17)) : G Z jL (EL b L xs) QL 395 [.ref b, .ref (a 99), .ref o, .int (iI i)] [] (w ++ mW Z o a2 M) k n := by
  refine g_aload_n 1 dL_law_395 rfl rfl ?_
  refine g_aload_n 0 dL_law_396 rfl rfl ?_
  refine g_iload_n 3 dL_law_397 rfl rfl ?_
  refine g_iconst (iI 1) dL_law_398 rfl ?_
  refine gi_add dL_law_399 ?_
  refine gl_ld hL dL_law_400 (by omega) (by omega) ?_
  refine g_aload_n 0 dL_law_401 rfl rfl ?_
  refine g_iload_n 3 dL_law_402 rfl rfl ?_
  refine g_iconst (iI 2) dL_law_403 rfl ?_
  refine gi_add dL_law_404 ?_
  refine gl_ld hL dL_law_405 (by omega) (by omega) ?_
  refine gl_X (As := [(xs (i + 1).toNat).toInt, (xs (i + 2).toNat).toInt]) lkL_36 hw (x_all Z a hG hI hw ((xs (i + 1).toNat).toInt) ((xs (i + 2).toNat).toInt) (Rg_of _) (Rg_of _)) dL_law_406 (And.intro (Nat.le_of_ble_eq_true rfl) (Nat.le_of_ble_eq_true rfl)) rfl (Nat.le_of_ble_eq_true rfl) (Nat.le_of_ble_eq_true rfl) (Nat.le_of_ble_eq_true rfl) hk hn rfl (fun w2 hw2 => ?_)
  refine g_aload_n 2 dL_law_409 rfl rfl ?_
  refine g_aload_n 0 dL_law_410 rfl rfl ?_
  refine g_iload_n 3 dL_law_411 rfl rfl ?_
  refine g_iconst (iI 1) dL_law_412 rfl ?_
  refine gi_add dL_law_413 ?_
  refine gl_ld hL dL_law_414 (by omega) (by omega) ?_
  refine g_aload_n 0 dL_law_415 rfl rfl ?_
  refine g_iload_n 3 dL_law_416 rfl rfl ?_
  refine g_iconst (iI 2) dL_law_417 rfl ?_
  refine gi_add dL_law_418 ?_
  refine gl_ld hL dL_law_419 (by omega) (by omega) ?_
  refine gl_M (As := [(xs (i + 1).toNat).toInt, (xs (i + 2).toNat).toInt]) lkL_39 (y_all Z o a2 hG hP ((xs (i + 1).toNat).toInt) ((xs (i + 2).toNat).toInt) (Rg_of _) (Rg_of _)) dL_law_420 (And.intro (Nat.le_of_ble_eq_true rfl) (Nat.le_of_ble_eq_true rfl)) rfl (Nat.le_of_ble_eq_true rfl) rfl rfl (by omega) (by omega) rfl (fun M2 hP2 => ?_)
  refine g_icmp_eq 1104 dL_law_423 (by decide) (fun _ => ?_) (fun h => absurd rfl h)
  have g := gi_all hG hI ((xs (i + 1).toNat).toInt) ((xs (i + 2).toNat).toInt) (Rg_of _) (Rg_of _)
  exact next _ M2 w2 g.1 g.2 hP2 hw2
set_option maxHeartbeats 4000000 in
set_option maxRecDepth 100000 in
theorem case_state (hL : L ≤ 3072) (h0 : 0 ≤ i) (h5 : i + 5 < L) (hG : Good D) (hI : Inv D) (hP : Pers D M) (hw : HC Z a D w) (hk : k + 3 ≤ 600000) (hn : n + 17 ≤ 7302250) (next : ∀ (D2 M2 : Mem) (w2 : va_W), Good D2 → Inv D2 → Pers D2 M2 → HC Z a D2 w2 → G Z jL (EL b L xs) QL 1104 [.ref b, .ref (a 99), .ref o, .int (iI i)] [] (w2 ++ mW Z o a2 M2) (k + 3) (n + 17)) : G Z jL (EL b L xs) QL 428 [.ref b, .ref (a 99), .ref o, .int (iI i)] [] (w ++ mW Z o a2 M) k n := by
  refine g_aload_n 1 dL_law_428 rfl rfl ?_
  refine g_aload_n 0 dL_law_429 rfl rfl ?_
  refine g_iload_n 3 dL_law_430 rfl rfl ?_
  refine g_iconst (iI 1) dL_law_431 rfl ?_
  refine gi_add dL_law_432 ?_
  refine gl_ld hL dL_law_433 (by omega) (by omega) ?_
  refine g_aload_n 0 dL_law_434 rfl rfl ?_
  refine g_iload_n 3 dL_law_435 rfl rfl ?_
  refine g_iconst (iI 2) dL_law_436 rfl ?_
  refine gi_add dL_law_437 ?_
  refine gl_ld hL dL_law_438 (by omega) (by omega) ?_
  refine gl_X (As := [(xs (i + 1).toNat).toInt, (xs (i + 2).toNat).toInt]) lkL_40 hw (x_state Z a hG hI hw ((xs (i + 1).toNat).toInt) ((xs (i + 2).toNat).toInt) (Rg_of _) (Rg_of _)) dL_law_439 (And.intro (Nat.le_of_ble_eq_true rfl) (Nat.le_of_ble_eq_true rfl)) rfl (Nat.le_of_ble_eq_true rfl) (Nat.le_of_ble_eq_true rfl) (Nat.le_of_ble_eq_true rfl) hk hn rfl (fun w2 hw2 => ?_)
  refine g_aload_n 2 dL_law_442 rfl rfl ?_
  refine g_aload_n 0 dL_law_443 rfl rfl ?_
  refine g_iload_n 3 dL_law_444 rfl rfl ?_
  refine g_iconst (iI 1) dL_law_445 rfl ?_
  refine gi_add dL_law_446 ?_
  refine gl_ld hL dL_law_447 (by omega) (by omega) ?_
  refine g_aload_n 0 dL_law_448 rfl rfl ?_
  refine g_iload_n 3 dL_law_449 rfl rfl ?_
  refine g_iconst (iI 2) dL_law_450 rfl ?_
  refine gi_add dL_law_451 ?_
  refine gl_ld hL dL_law_452 (by omega) (by omega) ?_
  refine gl_M (As := [(xs (i + 1).toNat).toInt, (xs (i + 2).toNat).toInt]) lkL_43 (y_state Z o a2 hG hP ((xs (i + 1).toNat).toInt) ((xs (i + 2).toNat).toInt) (Rg_of _) (Rg_of _)) dL_law_453 (And.intro (Nat.le_of_ble_eq_true rfl) (Nat.le_of_ble_eq_true rfl)) rfl (Nat.le_of_ble_eq_true rfl) rfl rfl (by omega) (by omega) rfl (fun M2 hP2 => ?_)
  refine g_icmp_eq 1104 dL_law_456 (by decide) (fun _ => ?_) (fun h => absurd rfl h)
  exact next _ M2 w2 hG hI hP2 hw2
set_option maxHeartbeats 4000000 in
set_option maxRecDepth 100000 in
theorem case_lacks (hL : L ≤ 3072) (h0 : 0 ≤ i) (h5 : i + 5 < L) (hG : Good D) (hI : Inv D) (hP : Pers D M) (hw : HC Z a D w) (hk : k + 3 ≤ 600000) (hn : n + 17 ≤ 7302250) (next : ∀ (D2 M2 : Mem) (w2 : va_W), Good D2 → Inv D2 → Pers D2 M2 → HC Z a D2 w2 → G Z jL (EL b L xs) QL 1104 [.ref b, .ref (a 99), .ref o, .int (iI i)] [] (w2 ++ mW Z o a2 M2) (k + 3) (n + 17)) : G Z jL (EL b L xs) QL 461 [.ref b, .ref (a 99), .ref o, .int (iI i)] [] (w ++ mW Z o a2 M) k n := by
  refine g_aload_n 1 dL_law_461 rfl rfl ?_
  refine g_aload_n 0 dL_law_462 rfl rfl ?_
  refine g_iload_n 3 dL_law_463 rfl rfl ?_
  refine g_iconst (iI 1) dL_law_464 rfl ?_
  refine gi_add dL_law_465 ?_
  refine gl_ld hL dL_law_466 (by omega) (by omega) ?_
  refine g_aload_n 0 dL_law_467 rfl rfl ?_
  refine g_iload_n 3 dL_law_468 rfl rfl ?_
  refine g_iconst (iI 2) dL_law_469 rfl ?_
  refine gi_add dL_law_470 ?_
  refine gl_ld hL dL_law_471 (by omega) (by omega) ?_
  refine gl_X (As := [(xs (i + 1).toNat).toInt, (xs (i + 2).toNat).toInt]) lkL_44 hw (x_lacks Z a hG hI hw ((xs (i + 1).toNat).toInt) ((xs (i + 2).toNat).toInt) (Rg_of _) (Rg_of _)) dL_law_472 (And.intro (Nat.le_of_ble_eq_true rfl) (Nat.le_of_ble_eq_true rfl)) rfl (Nat.le_of_ble_eq_true rfl) (Nat.le_of_ble_eq_true rfl) (Nat.le_of_ble_eq_true rfl) hk hn rfl (fun w2 hw2 => ?_)
  refine g_aload_n 2 dL_law_475 rfl rfl ?_
  refine g_aload_n 0 dL_law_476 rfl rfl ?_
  refine g_iload_n 3 dL_law_477 rfl rfl ?_
  refine g_iconst (iI 1) dL_law_478 rfl ?_
  refine gi_add dL_law_479 ?_
  refine gl_ld hL dL_law_480 (by omega) (by omega) ?_
  refine g_aload_n 0 dL_law_481 rfl rfl ?_
  refine g_iload_n 3 dL_law_482 rfl rfl ?_
  refine g_iconst (iI 2) dL_law_483 rfl ?_
  refine gi_add dL_law_484 ?_
  refine gl_ld hL dL_law_485 (by omega) (by omega) ?_
  refine gl_M (As := [(xs (i + 1).toNat).toInt, (xs (i + 2).toNat).toInt]) lkL_47 (y_lacks Z o a2 hG hP ((xs (i + 1).toNat).toInt) ((xs (i + 2).toNat).toInt) (Rg_of _) (Rg_of _)) dL_law_486 (And.intro (Nat.le_of_ble_eq_true rfl) (Nat.le_of_ble_eq_true rfl)) rfl (Nat.le_of_ble_eq_true rfl) rfl rfl (by omega) (by omega) rfl (fun M2 hP2 => ?_)
  refine g_icmp_eq 1104 dL_law_489 (by decide) (fun _ => ?_) (fun h => absurd rfl h)
  exact next _ M2 w2 hG hI hP2 hw2
set_option maxHeartbeats 4000000 in
set_option maxRecDepth 100000 in
theorem case_slips (hL : L ≤ 3072) (h0 : 0 ≤ i) (h5 : i + 5 < L) (hG : Good D) (hI : Inv D) (hP : Pers D M) (hw : HC Z a D w) (hk : k + 3 ≤ 600000) (hn : n + 17 ≤ 7302250) (next : ∀ (D2 M2 : Mem) (w2 : va_W), Good D2 → Inv D2 → Pers D2 M2 → HC Z a D2 w2 → G Z jL (EL b L xs) QL 1104 [.ref b, .ref (a 99), .ref o, .int (iI i)] [] (w2 ++ mW Z o a2 M2) (k + 3) (n + 17)) : G Z jL (EL b L xs) QL 494 [.ref b, .ref (a 99), .ref o, .int (iI i)] [] (w ++ mW Z o a2 M) k n := by
  refine g_aload_n 1 dL_law_494 rfl rfl ?_
  refine gl_X (As := []) lkL_48 hw (x_slips Z a hG hI hw  ) dL_law_495 (And.intro (Nat.le_of_ble_eq_true rfl) (Nat.le_of_ble_eq_true rfl)) rfl (Nat.le_of_ble_eq_true rfl) (Nat.le_of_ble_eq_true rfl) (Nat.le_of_ble_eq_true rfl) hk hn rfl (fun w2 hw2 => ?_)
  refine g_aload_n 2 dL_law_498 rfl rfl ?_
  refine gl_M (As := []) lkL_52 (y_slips Z o a2 hG hP  ) dL_law_499 (And.intro (Nat.le_of_ble_eq_true rfl) (Nat.le_of_ble_eq_true rfl)) rfl (Nat.le_of_ble_eq_true rfl) rfl rfl (by omega) (by omega) rfl (fun M2 hP2 => ?_)
  refine g_icmp_eq 1104 dL_law_502 (by decide) (fun _ => ?_) (fun h => absurd rfl h)
  exact next _ M2 w2 hG hI hP2 hw2
set_option maxHeartbeats 4000000 in
set_option maxRecDepth 100000 in
theorem case_slip (hL : L ≤ 3072) (h0 : 0 ≤ i) (h5 : i + 5 < L) (hG : Good D) (hI : Inv D) (hP : Pers D M) (hw : HC Z a D w) (hk : k + 3 ≤ 600000) (hn : n + 17 ≤ 7302250) (next : ∀ (D2 M2 : Mem) (w2 : va_W), Good D2 → Inv D2 → Pers D2 M2 → HC Z a D2 w2 → G Z jL (EL b L xs) QL 1104 [.ref b, .ref (a 99), .ref o, .int (iI i)] [] (w2 ++ mW Z o a2 M2) (k + 3) (n + 17)) : G Z jL (EL b L xs) QL 507 [.ref b, .ref (a 99), .ref o, .int (iI i)] [] (w ++ mW Z o a2 M) k n := by
  refine g_aload_n 1 dL_law_507 rfl rfl ?_
  refine g_aload_n 0 dL_law_508 rfl rfl ?_
  refine g_iload_n 3 dL_law_509 rfl rfl ?_
  refine g_iconst (iI 1) dL_law_510 rfl ?_
  refine gi_add dL_law_511 ?_
  refine gl_ld hL dL_law_512 (by omega) (by omega) ?_
  refine g_aload_n 0 dL_law_513 rfl rfl ?_
  refine g_iload_n 3 dL_law_514 rfl rfl ?_
  refine g_iconst (iI 2) dL_law_515 rfl ?_
  refine gi_add dL_law_516 ?_
  refine gl_ld hL dL_law_517 (by omega) (by omega) ?_
  refine gl_X (As := [(xs (i + 1).toNat).toInt, (xs (i + 2).toNat).toInt]) lkL_53 hw (x_slip Z a hG hI hw ((xs (i + 1).toNat).toInt) ((xs (i + 2).toNat).toInt) (Rg_of _) (Rg_of _)) dL_law_518 (And.intro (Nat.le_of_ble_eq_true rfl) (Nat.le_of_ble_eq_true rfl)) rfl (Nat.le_of_ble_eq_true rfl) (Nat.le_of_ble_eq_true rfl) (Nat.le_of_ble_eq_true rfl) hk hn rfl (fun w2 hw2 => ?_)
  refine g_aload_n 2 dL_law_521 rfl rfl ?_
  refine g_aload_n 0 dL_law_522 rfl rfl ?_
  refine g_iload_n 3 dL_law_523 rfl rfl ?_
  refine g_iconst (iI 1) dL_law_524 rfl ?_
  refine gi_add dL_law_525 ?_
  refine gl_ld hL dL_law_526 (by omega) (by omega) ?_
  refine g_aload_n 0 dL_law_527 rfl rfl ?_
  refine g_iload_n 3 dL_law_528 rfl rfl ?_
  refine g_iconst (iI 2) dL_law_529 rfl ?_
  refine gi_add dL_law_530 ?_
  refine gl_ld hL dL_law_531 (by omega) (by omega) ?_
  refine gl_M (As := [(xs (i + 1).toNat).toInt, (xs (i + 2).toNat).toInt]) lkL_56 (y_slip Z o a2 hG hP ((xs (i + 1).toNat).toInt) ((xs (i + 2).toNat).toInt) (Rg_of _) (Rg_of _)) dL_law_532 (And.intro (Nat.le_of_ble_eq_true rfl) (Nat.le_of_ble_eq_true rfl)) rfl (Nat.le_of_ble_eq_true rfl) rfl rfl (by omega) (by omega) rfl (fun M2 hP2 => ?_)
  refine g_icmp_eq 1104 dL_law_535 (by decide) (fun _ => ?_) (fun h => absurd rfl h)
  exact next _ M2 w2 hG hI hP2 hw2
set_option maxHeartbeats 4000000 in
set_option maxRecDepth 100000 in
theorem case_part (hL : L ≤ 3072) (h0 : 0 ≤ i) (h5 : i + 5 < L) (hG : Good D) (hI : Inv D) (hP : Pers D M) (hw : HC Z a D w) (hk : k + 3 ≤ 600000) (hn : n + 17 ≤ 7302250) (next : ∀ (D2 M2 : Mem) (w2 : va_W), Good D2 → Inv D2 → Pers D2 M2 → HC Z a D2 w2 → G Z jL (EL b L xs) QL 1104 [.ref b, .ref (a 99), .ref o, .int (iI i)] [] (w2 ++ mW Z o a2 M2) (k + 3) (n + 17)) : G Z jL (EL b L xs) QL 540 [.ref b, .ref (a 99), .ref o, .int (iI i)] [] (w ++ mW Z o a2 M) k n := by
  refine g_aload_n 1 dL_law_540 rfl rfl ?_
  refine g_aload_n 0 dL_law_541 rfl rfl ?_
  refine g_iload_n 3 dL_law_542 rfl rfl ?_
  refine g_iconst (iI 1) dL_law_543 rfl ?_
  refine gi_add dL_law_544 ?_
  refine gl_ld hL dL_law_545 (by omega) (by omega) ?_
  refine g_aload_n 0 dL_law_546 rfl rfl ?_
  refine g_iload_n 3 dL_law_547 rfl rfl ?_
  refine g_iconst (iI 2) dL_law_548 rfl ?_
  refine gi_add dL_law_549 ?_
  refine gl_ld hL dL_law_550 (by omega) (by omega) ?_
  refine gl_X (As := [(xs (i + 1).toNat).toInt, (xs (i + 2).toNat).toInt]) lkL_57 hw (x_part Z a hG hI hw ((xs (i + 1).toNat).toInt) ((xs (i + 2).toNat).toInt) (Rg_of _) (Rg_of _)) dL_law_551 (And.intro (Nat.le_of_ble_eq_true rfl) (Nat.le_of_ble_eq_true rfl)) rfl (Nat.le_of_ble_eq_true rfl) (Nat.le_of_ble_eq_true rfl) (Nat.le_of_ble_eq_true rfl) hk hn rfl (fun w2 hw2 => ?_)
  refine g_aload_n 2 dL_law_554 rfl rfl ?_
  refine g_aload_n 0 dL_law_555 rfl rfl ?_
  refine g_iload_n 3 dL_law_556 rfl rfl ?_
  refine g_iconst (iI 1) dL_law_557 rfl ?_
  refine gi_add dL_law_558 ?_
  refine gl_ld hL dL_law_559 (by omega) (by omega) ?_
  refine g_aload_n 0 dL_law_560 rfl rfl ?_
  refine g_iload_n 3 dL_law_561 rfl rfl ?_
  refine g_iconst (iI 2) dL_law_562 rfl ?_
  refine gi_add dL_law_563 ?_
  refine gl_ld hL dL_law_564 (by omega) (by omega) ?_
  refine gl_M (As := [(xs (i + 1).toNat).toInt, (xs (i + 2).toNat).toInt]) lkL_60 (y_part Z o a2 hG hP ((xs (i + 1).toNat).toInt) ((xs (i + 2).toNat).toInt) (Rg_of _) (Rg_of _)) dL_law_565 (And.intro (Nat.le_of_ble_eq_true rfl) (Nat.le_of_ble_eq_true rfl)) rfl (Nat.le_of_ble_eq_true rfl) rfl rfl (by omega) (by omega) rfl (fun M2 hP2 => ?_)
  refine g_icmp_eq 1104 dL_law_568 (by decide) (fun _ => ?_) (fun h => absurd rfl h)
  have g := gi_part hG hI ((xs (i + 1).toNat).toInt) ((xs (i + 2).toNat).toInt) (Rg_of _) (Rg_of _)
  exact next _ M2 w2 g.1 g.2 hP2 hw2
set_option maxHeartbeats 4000000 in
set_option maxRecDepth 100000 in
theorem case_left (hL : L ≤ 3072) (h0 : 0 ≤ i) (h5 : i + 5 < L) (hG : Good D) (hI : Inv D) (hP : Pers D M) (hw : HC Z a D w) (hk : k + 3 ≤ 600000) (hn : n + 17 ≤ 7302250) (next : ∀ (D2 M2 : Mem) (w2 : va_W), Good D2 → Inv D2 → Pers D2 M2 → HC Z a D2 w2 → G Z jL (EL b L xs) QL 1104 [.ref b, .ref (a 99), .ref o, .int (iI i)] [] (w2 ++ mW Z o a2 M2) (k + 3) (n + 17)) : G Z jL (EL b L xs) QL 573 [.ref b, .ref (a 99), .ref o, .int (iI i)] [] (w ++ mW Z o a2 M) k n := by
  refine g_aload_n 1 dL_law_573 rfl rfl ?_
  refine g_aload_n 0 dL_law_574 rfl rfl ?_
  refine g_iload_n 3 dL_law_575 rfl rfl ?_
  refine g_iconst (iI 1) dL_law_576 rfl ?_
  refine gi_add dL_law_577 ?_
  refine gl_ld hL dL_law_578 (by omega) (by omega) ?_
  refine gl_X (As := [(xs (i + 1).toNat).toInt]) lkL_61 hw (x_left Z a hG hI hw ((xs (i + 1).toNat).toInt) (Rg_of _)) dL_law_579 (And.intro (Nat.le_of_ble_eq_true rfl) (Nat.le_of_ble_eq_true rfl)) rfl (Nat.le_of_ble_eq_true rfl) (Nat.le_of_ble_eq_true rfl) (Nat.le_of_ble_eq_true rfl) hk hn rfl (fun w2 hw2 => ?_)
  refine g_aload_n 2 dL_law_582 rfl rfl ?_
  refine g_aload_n 0 dL_law_583 rfl rfl ?_
  refine g_iload_n 3 dL_law_584 rfl rfl ?_
  refine g_iconst (iI 1) dL_law_585 rfl ?_
  refine gi_add dL_law_586 ?_
  refine gl_ld hL dL_law_587 (by omega) (by omega) ?_
  refine gl_M (As := [(xs (i + 1).toNat).toInt]) lkL_65 (y_left Z o a2 hG hP ((xs (i + 1).toNat).toInt) (Rg_of _)) dL_law_588 (And.intro (Nat.le_of_ble_eq_true rfl) (Nat.le_of_ble_eq_true rfl)) rfl (Nat.le_of_ble_eq_true rfl) rfl rfl (by omega) (by omega) rfl (fun M2 hP2 => ?_)
  refine g_icmp_eq 1104 dL_law_591 (by decide) (fun _ => ?_) (fun h => absurd rfl h)
  have g := gi_left hG hI ((xs (i + 1).toNat).toInt) (Rg_of _)
  exact next _ M2 w2 g.1 g.2 hP2 hw2
set_option maxHeartbeats 4000000 in
set_option maxRecDepth 100000 in
theorem case_bound (hL : L ≤ 3072) (h0 : 0 ≤ i) (h5 : i + 5 < L) (hG : Good D) (hI : Inv D) (hP : Pers D M) (hw : HC Z a D w) (hk : k + 3 ≤ 600000) (hn : n + 17 ≤ 7302250) (next : ∀ (D2 M2 : Mem) (w2 : va_W), Good D2 → Inv D2 → Pers D2 M2 → HC Z a D2 w2 → G Z jL (EL b L xs) QL 1104 [.ref b, .ref (a 99), .ref o, .int (iI i)] [] (w2 ++ mW Z o a2 M2) (k + 3) (n + 17)) : G Z jL (EL b L xs) QL 596 [.ref b, .ref (a 99), .ref o, .int (iI i)] [] (w ++ mW Z o a2 M) k n := by
  refine g_aload_n 1 dL_law_596 rfl rfl ?_
  refine g_aload_n 0 dL_law_597 rfl rfl ?_
  refine g_iload_n 3 dL_law_598 rfl rfl ?_
  refine g_iconst (iI 1) dL_law_599 rfl ?_
  refine gi_add dL_law_600 ?_
  refine gl_ld hL dL_law_601 (by omega) (by omega) ?_
  refine gl_X (As := [(xs (i + 1).toNat).toInt]) lkL_66 hw (x_bound Z a hG hI hw ((xs (i + 1).toNat).toInt) (Rg_of _)) dL_law_602 (And.intro (Nat.le_of_ble_eq_true rfl) (Nat.le_of_ble_eq_true rfl)) rfl (Nat.le_of_ble_eq_true rfl) (Nat.le_of_ble_eq_true rfl) (Nat.le_of_ble_eq_true rfl) hk hn rfl (fun w2 hw2 => ?_)
  refine g_aload_n 2 dL_law_605 rfl rfl ?_
  refine g_aload_n 0 dL_law_606 rfl rfl ?_
  refine g_iload_n 3 dL_law_607 rfl rfl ?_
  refine g_iconst (iI 1) dL_law_608 rfl ?_
  refine gi_add dL_law_609 ?_
  refine gl_ld hL dL_law_610 (by omega) (by omega) ?_
  refine gl_M (As := [(xs (i + 1).toNat).toInt]) lkL_69 (y_bound Z o a2 hG hP ((xs (i + 1).toNat).toInt) (Rg_of _)) dL_law_611 (And.intro (Nat.le_of_ble_eq_true rfl) (Nat.le_of_ble_eq_true rfl)) rfl (Nat.le_of_ble_eq_true rfl) rfl rfl (by omega) (by omega) rfl (fun M2 hP2 => ?_)
  refine g_icmp_eq 1104 dL_law_614 (by decide) (fun _ => ?_) (fun h => absurd rfl h)
  have g := gi_bound hG hI ((xs (i + 1).toNat).toInt) (Rg_of _)
  exact next _ M2 w2 g.1 g.2 hP2 hw2
set_option maxHeartbeats 4000000 in
set_option maxRecDepth 100000 in
theorem case_undone (hL : L ≤ 3072) (h0 : 0 ≤ i) (h5 : i + 5 < L) (hG : Good D) (hI : Inv D) (hP : Pers D M) (hw : HC Z a D w) (hk : k + 3 ≤ 600000) (hn : n + 17 ≤ 7302250) (next : ∀ (D2 M2 : Mem) (w2 : va_W), Good D2 → Inv D2 → Pers D2 M2 → HC Z a D2 w2 → G Z jL (EL b L xs) QL 1104 [.ref b, .ref (a 99), .ref o, .int (iI i)] [] (w2 ++ mW Z o a2 M2) (k + 3) (n + 17)) : G Z jL (EL b L xs) QL 619 [.ref b, .ref (a 99), .ref o, .int (iI i)] [] (w ++ mW Z o a2 M) k n := by
  refine g_aload_n 1 dL_law_619 rfl rfl ?_
  refine g_aload_n 0 dL_law_620 rfl rfl ?_
  refine g_iload_n 3 dL_law_621 rfl rfl ?_
  refine g_iconst (iI 1) dL_law_622 rfl ?_
  refine gi_add dL_law_623 ?_
  refine gl_ld hL dL_law_624 (by omega) (by omega) ?_
  refine gl_X (As := [(xs (i + 1).toNat).toInt]) lkL_70 hw (x_undone Z a hG hI hw ((xs (i + 1).toNat).toInt) (Rg_of _)) dL_law_625 (And.intro (Nat.le_of_ble_eq_true rfl) (Nat.le_of_ble_eq_true rfl)) rfl (Nat.le_of_ble_eq_true rfl) (Nat.le_of_ble_eq_true rfl) (Nat.le_of_ble_eq_true rfl) hk hn rfl (fun w2 hw2 => ?_)
  refine g_aload_n 2 dL_law_628 rfl rfl ?_
  refine g_aload_n 0 dL_law_629 rfl rfl ?_
  refine g_iload_n 3 dL_law_630 rfl rfl ?_
  refine g_iconst (iI 1) dL_law_631 rfl ?_
  refine gi_add dL_law_632 ?_
  refine gl_ld hL dL_law_633 (by omega) (by omega) ?_
  refine gl_M (As := [(xs (i + 1).toNat).toInt]) lkL_73 (y_undone Z o a2 hG hP ((xs (i + 1).toNat).toInt) (Rg_of _)) dL_law_634 (And.intro (Nat.le_of_ble_eq_true rfl) (Nat.le_of_ble_eq_true rfl)) rfl (Nat.le_of_ble_eq_true rfl) rfl rfl (by omega) (by omega) rfl (fun M2 hP2 => ?_)
  refine g_icmp_eq 1104 dL_law_637 (by decide) (fun _ => ?_) (fun h => absurd rfl h)
  have g := gi_undone hG hI ((xs (i + 1).toNat).toInt) (Rg_of _)
  exact next _ M2 w2 g.1 g.2 hP2 hw2
set_option maxHeartbeats 4000000 in
set_option maxRecDepth 100000 in
theorem case_later (hL : L ≤ 3072) (h0 : 0 ≤ i) (h5 : i + 5 < L) (hG : Good D) (hI : Inv D) (hP : Pers D M) (hw : HC Z a D w) (hk : k + 3 ≤ 600000) (hn : n + 17 ≤ 7302250) (next : ∀ (D2 M2 : Mem) (w2 : va_W), Good D2 → Inv D2 → Pers D2 M2 → HC Z a D2 w2 → G Z jL (EL b L xs) QL 1104 [.ref b, .ref (a 99), .ref o, .int (iI i)] [] (w2 ++ mW Z o a2 M2) (k + 3) (n + 17)) : G Z jL (EL b L xs) QL 642 [.ref b, .ref (a 99), .ref o, .int (iI i)] [] (w ++ mW Z o a2 M) k n := by
  refine g_aload_n 1 dL_law_642 rfl rfl ?_
  refine g_aload_n 0 dL_law_643 rfl rfl ?_
  refine g_iload_n 3 dL_law_644 rfl rfl ?_
  refine g_iconst (iI 1) dL_law_645 rfl ?_
  refine gi_add dL_law_646 ?_
  refine gl_ld hL dL_law_647 (by omega) (by omega) ?_
  refine g_aload_n 0 dL_law_648 rfl rfl ?_
  refine g_iload_n 3 dL_law_649 rfl rfl ?_
  refine g_iconst (iI 2) dL_law_650 rfl ?_
  refine gi_add dL_law_651 ?_
  refine gl_ld hL dL_law_652 (by omega) (by omega) ?_
  refine gl_X (As := [(xs (i + 1).toNat).toInt, (xs (i + 2).toNat).toInt]) lkL_74 hw (x_later Z a hG hI hw ((xs (i + 1).toNat).toInt) ((xs (i + 2).toNat).toInt) (Rg_of _) (Rg_of _)) dL_law_653 (And.intro (Nat.le_of_ble_eq_true rfl) (Nat.le_of_ble_eq_true rfl)) rfl (Nat.le_of_ble_eq_true rfl) (Nat.le_of_ble_eq_true rfl) (Nat.le_of_ble_eq_true rfl) hk hn rfl (fun w2 hw2 => ?_)
  refine g_aload_n 2 dL_law_656 rfl rfl ?_
  refine g_aload_n 0 dL_law_657 rfl rfl ?_
  refine g_iload_n 3 dL_law_658 rfl rfl ?_
  refine g_iconst (iI 1) dL_law_659 rfl ?_
  refine gi_add dL_law_660 ?_
  refine gl_ld hL dL_law_661 (by omega) (by omega) ?_
  refine g_aload_n 0 dL_law_662 rfl rfl ?_
  refine g_iload_n 3 dL_law_663 rfl rfl ?_
  refine g_iconst (iI 2) dL_law_664 rfl ?_
  refine gi_add dL_law_665 ?_
  refine gl_ld hL dL_law_666 (by omega) (by omega) ?_
  refine gl_M (As := [(xs (i + 1).toNat).toInt, (xs (i + 2).toNat).toInt]) lkL_78 (y_later Z o a2 hG hP ((xs (i + 1).toNat).toInt) ((xs (i + 2).toNat).toInt) (Rg_of _) (Rg_of _)) dL_law_667 (And.intro (Nat.le_of_ble_eq_true rfl) (Nat.le_of_ble_eq_true rfl)) rfl (Nat.le_of_ble_eq_true rfl) rfl rfl (by omega) (by omega) rfl (fun M2 hP2 => ?_)
  refine g_icmp_eq 1104 dL_law_670 (by decide) (fun _ => ?_) (fun h => absurd rfl h)
  exact next _ M2 w2 hG hI hP2 hw2
set_option maxHeartbeats 4000000 in
set_option maxRecDepth 100000 in
theorem case_length (hL : L ≤ 3072) (h0 : 0 ≤ i) (h5 : i + 5 < L) (hG : Good D) (hI : Inv D) (hP : Pers D M) (hw : HC Z a D w) (hk : k + 3 ≤ 600000) (hn : n + 17 ≤ 7302250) (next : ∀ (D2 M2 : Mem) (w2 : va_W), Good D2 → Inv D2 → Pers D2 M2 → HC Z a D2 w2 → G Z jL (EL b L xs) QL 1104 [.ref b, .ref (a 99), .ref o, .int (iI i)] [] (w2 ++ mW Z o a2 M2) (k + 3) (n + 17)) : G Z jL (EL b L xs) QL 675 [.ref b, .ref (a 99), .ref o, .int (iI i)] [] (w ++ mW Z o a2 M) k n := by
  refine g_aload_n 1 dL_law_675 rfl rfl ?_
  refine g_aload_n 0 dL_law_676 rfl rfl ?_
  refine g_iload_n 3 dL_law_677 rfl rfl ?_
  refine g_iconst (iI 1) dL_law_678 rfl ?_
  refine gi_add dL_law_679 ?_
  refine gl_ld hL dL_law_680 (by omega) (by omega) ?_
  refine gl_X (As := [(xs (i + 1).toNat).toInt]) lkL_79 hw (x_length Z a hG hI hw ((xs (i + 1).toNat).toInt) (Rg_of _)) dL_law_681 (And.intro (Nat.le_of_ble_eq_true rfl) (Nat.le_of_ble_eq_true rfl)) rfl (Nat.le_of_ble_eq_true rfl) (Nat.le_of_ble_eq_true rfl) (Nat.le_of_ble_eq_true rfl) hk hn rfl (fun w2 hw2 => ?_)
  refine g_aload_n 2 dL_law_684 rfl rfl ?_
  refine g_aload_n 0 dL_law_685 rfl rfl ?_
  refine g_iload_n 3 dL_law_686 rfl rfl ?_
  refine g_iconst (iI 1) dL_law_687 rfl ?_
  refine gi_add dL_law_688 ?_
  refine gl_ld hL dL_law_689 (by omega) (by omega) ?_
  refine gl_M (As := [(xs (i + 1).toNat).toInt]) lkL_82 (y_length Z o a2 hG hP ((xs (i + 1).toNat).toInt) (Rg_of _)) dL_law_690 (And.intro (Nat.le_of_ble_eq_true rfl) (Nat.le_of_ble_eq_true rfl)) rfl (Nat.le_of_ble_eq_true rfl) rfl rfl (by omega) (by omega) rfl (fun M2 hP2 => ?_)
  refine g_icmp_eq 1104 dL_law_693 (by decide) (fun _ => ?_) (fun h => absurd rfl h)
  exact next _ M2 w2 hG hI hP2 hw2
set_option maxHeartbeats 4000000 in
set_option maxRecDepth 100000 in
theorem case_text (hL : L ≤ 3072) (h0 : 0 ≤ i) (h5 : i + 5 < L) (hG : Good D) (hI : Inv D) (hP : Pers D M) (hw : HC Z a D w) (hk : k + 3 ≤ 600000) (hn : n + 17 ≤ 7302250) (next : ∀ (D2 M2 : Mem) (w2 : va_W), Good D2 → Inv D2 → Pers D2 M2 → HC Z a D2 w2 → G Z jL (EL b L xs) QL 1104 [.ref b, .ref (a 99), .ref o, .int (iI i)] [] (w2 ++ mW Z o a2 M2) (k + 3) (n + 17)) : G Z jL (EL b L xs) QL 698 [.ref b, .ref (a 99), .ref o, .int (iI i)] [] (w ++ mW Z o a2 M) k n := by
  refine g_aload_n 1 dL_law_698 rfl rfl ?_
  refine g_aload_n 0 dL_law_699 rfl rfl ?_
  refine g_iload_n 3 dL_law_700 rfl rfl ?_
  refine g_iconst (iI 1) dL_law_701 rfl ?_
  refine gi_add dL_law_702 ?_
  refine gl_ld hL dL_law_703 (by omega) (by omega) ?_
  refine g_aload_n 0 dL_law_704 rfl rfl ?_
  refine g_iload_n 3 dL_law_705 rfl rfl ?_
  refine g_iconst (iI 2) dL_law_706 rfl ?_
  refine gi_add dL_law_707 ?_
  refine gl_ld hL dL_law_708 (by omega) (by omega) ?_
  refine g_aload_n 0 dL_law_709 rfl rfl ?_
  refine g_iload_n 3 dL_law_710 rfl rfl ?_
  refine g_iconst (iI 3) dL_law_711 rfl ?_
  refine gi_add dL_law_712 ?_
  refine gl_ld hL dL_law_713 (by omega) (by omega) ?_
  refine gl_X (As := [(xs (i + 1).toNat).toInt, (xs (i + 2).toNat).toInt, (xs (i + 3).toNat).toInt]) lkL_83 hw (x_text Z a hG hI hw ((xs (i + 1).toNat).toInt) ((xs (i + 2).toNat).toInt) ((xs (i + 3).toNat).toInt) (Rg_of _) (Rg_of _) (Rg_of _)) dL_law_714 (And.intro (Nat.le_of_ble_eq_true rfl) (Nat.le_of_ble_eq_true rfl)) rfl (Nat.le_of_ble_eq_true rfl) (Nat.le_of_ble_eq_true rfl) (Nat.le_of_ble_eq_true rfl) hk hn rfl (fun w2 hw2 => ?_)
  refine g_aload_n 2 dL_law_717 rfl rfl ?_
  refine g_aload_n 0 dL_law_718 rfl rfl ?_
  refine g_iload_n 3 dL_law_719 rfl rfl ?_
  refine g_iconst (iI 1) dL_law_720 rfl ?_
  refine gi_add dL_law_721 ?_
  refine gl_ld hL dL_law_722 (by omega) (by omega) ?_
  refine g_aload_n 0 dL_law_723 rfl rfl ?_
  refine g_iload_n 3 dL_law_724 rfl rfl ?_
  refine g_iconst (iI 2) dL_law_725 rfl ?_
  refine gi_add dL_law_726 ?_
  refine gl_ld hL dL_law_727 (by omega) (by omega) ?_
  refine g_aload_n 0 dL_law_728 rfl rfl ?_
  refine g_iload_n 3 dL_law_729 rfl rfl ?_
  refine g_iconst (iI 3) dL_law_730 rfl ?_
  refine gi_add dL_law_731 ?_
  refine gl_ld hL dL_law_732 (by omega) (by omega) ?_
  refine gl_M (As := [(xs (i + 1).toNat).toInt, (xs (i + 2).toNat).toInt, (xs (i + 3).toNat).toInt]) lkL_86 (y_text Z o a2 hG hP ((xs (i + 1).toNat).toInt) ((xs (i + 2).toNat).toInt) ((xs (i + 3).toNat).toInt) (Rg_of _) (Rg_of _) (Rg_of _)) dL_law_733 (And.intro (Nat.le_of_ble_eq_true rfl) (Nat.le_of_ble_eq_true rfl)) rfl (Nat.le_of_ble_eq_true rfl) rfl rfl (by omega) (by omega) rfl (fun M2 hP2 => ?_)
  refine g_icmp_eq 1104 dL_law_736 (by decide) (fun _ => ?_) (fun h => absurd rfl h)
  exact next _ M2 w2 hG hI hP2 hw2
set_option maxHeartbeats 4000000 in
set_option maxRecDepth 100000 in
theorem case_signs (hL : L ≤ 3072) (h0 : 0 ≤ i) (h5 : i + 5 < L) (hG : Good D) (hI : Inv D) (hP : Pers D M) (hw : HC Z a D w) (hk : k + 3 ≤ 600000) (hn : n + 17 ≤ 7302250) (next : ∀ (D2 M2 : Mem) (w2 : va_W), Good D2 → Inv D2 → Pers D2 M2 → HC Z a D2 w2 → G Z jL (EL b L xs) QL 1104 [.ref b, .ref (a 99), .ref o, .int (iI i)] [] (w2 ++ mW Z o a2 M2) (k + 3) (n + 17)) : G Z jL (EL b L xs) QL 741 [.ref b, .ref (a 99), .ref o, .int (iI i)] [] (w ++ mW Z o a2 M) k n := by
  refine g_aload_n 1 dL_law_741 rfl rfl ?_
  refine g_aload_n 0 dL_law_742 rfl rfl ?_
  refine g_iload_n 3 dL_law_743 rfl rfl ?_
  refine g_iconst (iI 1) dL_law_744 rfl ?_
  refine gi_add dL_law_745 ?_
  refine gl_ld hL dL_law_746 (by omega) (by omega) ?_
  refine gl_X (As := [(xs (i + 1).toNat).toInt]) lkL_87 hw (x_signs Z a hG hI hw ((xs (i + 1).toNat).toInt) (Rg_of _)) dL_law_747 (And.intro (Nat.le_of_ble_eq_true rfl) (Nat.le_of_ble_eq_true rfl)) rfl (Nat.le_of_ble_eq_true rfl) (Nat.le_of_ble_eq_true rfl) (Nat.le_of_ble_eq_true rfl) hk hn rfl (fun w2 hw2 => ?_)
  refine g_aload_n 2 dL_law_750 rfl rfl ?_
  refine g_aload_n 0 dL_law_751 rfl rfl ?_
  refine g_iload_n 3 dL_law_752 rfl rfl ?_
  refine g_iconst (iI 1) dL_law_753 rfl ?_
  refine gi_add dL_law_754 ?_
  refine gl_ld hL dL_law_755 (by omega) (by omega) ?_
  refine gl_M (As := [(xs (i + 1).toNat).toInt]) lkL_90 (y_signs Z o a2 hG hP ((xs (i + 1).toNat).toInt) (Rg_of _)) dL_law_756 (And.intro (Nat.le_of_ble_eq_true rfl) (Nat.le_of_ble_eq_true rfl)) rfl (Nat.le_of_ble_eq_true rfl) rfl rfl (by omega) (by omega) rfl (fun M2 hP2 => ?_)
  refine g_icmp_eq 1104 dL_law_759 (by decide) (fun _ => ?_) (fun h => absurd rfl h)
  exact next _ M2 w2 hG hI hP2 hw2
set_option maxHeartbeats 4000000 in
set_option maxRecDepth 100000 in
theorem case_order (hL : L ≤ 3072) (h0 : 0 ≤ i) (h5 : i + 5 < L) (hG : Good D) (hI : Inv D) (hP : Pers D M) (hw : HC Z a D w) (hk : k + 3 ≤ 600000) (hn : n + 17 ≤ 7302250) (next : ∀ (D2 M2 : Mem) (w2 : va_W), Good D2 → Inv D2 → Pers D2 M2 → HC Z a D2 w2 → G Z jL (EL b L xs) QL 1104 [.ref b, .ref (a 99), .ref o, .int (iI i)] [] (w2 ++ mW Z o a2 M2) (k + 3) (n + 17)) : G Z jL (EL b L xs) QL 764 [.ref b, .ref (a 99), .ref o, .int (iI i)] [] (w ++ mW Z o a2 M) k n := by
  refine g_aload_n 1 dL_law_764 rfl rfl ?_
  refine g_aload_n 0 dL_law_765 rfl rfl ?_
  refine g_iload_n 3 dL_law_766 rfl rfl ?_
  refine g_iconst (iI 1) dL_law_767 rfl ?_
  refine gi_add dL_law_768 ?_
  refine gl_ld hL dL_law_769 (by omega) (by omega) ?_
  refine g_aload_n 0 dL_law_770 rfl rfl ?_
  refine g_iload_n 3 dL_law_771 rfl rfl ?_
  refine g_iconst (iI 2) dL_law_772 rfl ?_
  refine gi_add dL_law_773 ?_
  refine gl_ld hL dL_law_774 (by omega) (by omega) ?_
  refine gl_X (As := [(xs (i + 1).toNat).toInt, (xs (i + 2).toNat).toInt]) lkL_91 hw (x_order Z a hG hI hw ((xs (i + 1).toNat).toInt) ((xs (i + 2).toNat).toInt) (Rg_of _) (Rg_of _)) dL_law_775 (And.intro (Nat.le_of_ble_eq_true rfl) (Nat.le_of_ble_eq_true rfl)) rfl (Nat.le_of_ble_eq_true rfl) (Nat.le_of_ble_eq_true rfl) (Nat.le_of_ble_eq_true rfl) hk hn rfl (fun w2 hw2 => ?_)
  refine g_aload_n 2 dL_law_778 rfl rfl ?_
  refine g_aload_n 0 dL_law_779 rfl rfl ?_
  refine g_iload_n 3 dL_law_780 rfl rfl ?_
  refine g_iconst (iI 1) dL_law_781 rfl ?_
  refine gi_add dL_law_782 ?_
  refine gl_ld hL dL_law_783 (by omega) (by omega) ?_
  refine g_aload_n 0 dL_law_784 rfl rfl ?_
  refine g_iload_n 3 dL_law_785 rfl rfl ?_
  refine g_iconst (iI 2) dL_law_786 rfl ?_
  refine gi_add dL_law_787 ?_
  refine gl_ld hL dL_law_788 (by omega) (by omega) ?_
  refine gl_M (As := [(xs (i + 1).toNat).toInt, (xs (i + 2).toNat).toInt]) lkL_94 (y_order Z o a2 hG hP ((xs (i + 1).toNat).toInt) ((xs (i + 2).toNat).toInt) (Rg_of _) (Rg_of _)) dL_law_789 (And.intro (Nat.le_of_ble_eq_true rfl) (Nat.le_of_ble_eq_true rfl)) rfl (Nat.le_of_ble_eq_true rfl) rfl rfl (by omega) (by omega) rfl (fun M2 hP2 => ?_)
  refine g_icmp_eq 1104 dL_law_792 (by decide) (fun _ => ?_) (fun h => absurd rfl h)
  exact next _ M2 w2 hG hI hP2 hw2
set_option maxHeartbeats 4000000 in
set_option maxRecDepth 100000 in
theorem case_place (hL : L ≤ 3072) (h0 : 0 ≤ i) (h5 : i + 5 < L) (hG : Good D) (hI : Inv D) (hP : Pers D M) (hw : HC Z a D w) (hk : k + 3 ≤ 600000) (hn : n + 17 ≤ 7302250) (next : ∀ (D2 M2 : Mem) (w2 : va_W), Good D2 → Inv D2 → Pers D2 M2 → HC Z a D2 w2 → G Z jL (EL b L xs) QL 1104 [.ref b, .ref (a 99), .ref o, .int (iI i)] [] (w2 ++ mW Z o a2 M2) (k + 3) (n + 17)) : G Z jL (EL b L xs) QL 797 [.ref b, .ref (a 99), .ref o, .int (iI i)] [] (w ++ mW Z o a2 M) k n := by
  refine g_aload_n 1 dL_law_797 rfl rfl ?_
  refine g_aload_n 0 dL_law_798 rfl rfl ?_
  refine g_iload_n 3 dL_law_799 rfl rfl ?_
  refine g_iconst (iI 1) dL_law_800 rfl ?_
  refine gi_add dL_law_801 ?_
  refine gl_ld hL dL_law_802 (by omega) (by omega) ?_
  refine g_aload_n 0 dL_law_803 rfl rfl ?_
  refine g_iload_n 3 dL_law_804 rfl rfl ?_
  refine g_iconst (iI 2) dL_law_805 rfl ?_
  refine gi_add dL_law_806 ?_
  refine gl_ld hL dL_law_807 (by omega) (by omega) ?_
  refine gl_X (As := [(xs (i + 1).toNat).toInt, (xs (i + 2).toNat).toInt]) lkL_95 hw (x_place Z a hG hI hw ((xs (i + 1).toNat).toInt) ((xs (i + 2).toNat).toInt) (Rg_of _) (Rg_of _)) dL_law_808 (And.intro (Nat.le_of_ble_eq_true rfl) (Nat.le_of_ble_eq_true rfl)) rfl (Nat.le_of_ble_eq_true rfl) (Nat.le_of_ble_eq_true rfl) (Nat.le_of_ble_eq_true rfl) hk hn rfl (fun w2 hw2 => ?_)
  refine g_aload_n 2 dL_law_811 rfl rfl ?_
  refine g_aload_n 0 dL_law_812 rfl rfl ?_
  refine g_iload_n 3 dL_law_813 rfl rfl ?_
  refine g_iconst (iI 1) dL_law_814 rfl ?_
  refine gi_add dL_law_815 ?_
  refine gl_ld hL dL_law_816 (by omega) (by omega) ?_
  refine g_aload_n 0 dL_law_817 rfl rfl ?_
  refine g_iload_n 3 dL_law_818 rfl rfl ?_
  refine g_iconst (iI 2) dL_law_819 rfl ?_
  refine gi_add dL_law_820 ?_
  refine gl_ld hL dL_law_821 (by omega) (by omega) ?_
  refine gl_M (As := [(xs (i + 1).toNat).toInt, (xs (i + 2).toNat).toInt]) lkL_98 (y_place Z o a2 hG hP ((xs (i + 1).toNat).toInt) ((xs (i + 2).toNat).toInt) (Rg_of _) (Rg_of _)) dL_law_822 (And.intro (Nat.le_of_ble_eq_true rfl) (Nat.le_of_ble_eq_true rfl)) rfl (Nat.le_of_ble_eq_true rfl) rfl rfl (by omega) (by omega) rfl (fun M2 hP2 => ?_)
  refine g_icmp_eq 1104 dL_law_825 (by decide) (fun _ => ?_) (fun h => absurd rfl h)
  exact next _ M2 w2 hG hI hP2 hw2
set_option maxHeartbeats 4000000 in
set_option maxRecDepth 100000 in
theorem case_strikers (hL : L ≤ 3072) (h0 : 0 ≤ i) (h5 : i + 5 < L) (hG : Good D) (hI : Inv D) (hP : Pers D M) (hw : HC Z a D w) (hk : k + 3 ≤ 600000) (hn : n + 17 ≤ 7302250) (next : ∀ (D2 M2 : Mem) (w2 : va_W), Good D2 → Inv D2 → Pers D2 M2 → HC Z a D2 w2 → G Z jL (EL b L xs) QL 1104 [.ref b, .ref (a 99), .ref o, .int (iI i)] [] (w2 ++ mW Z o a2 M2) (k + 3) (n + 17)) : G Z jL (EL b L xs) QL 830 [.ref b, .ref (a 99), .ref o, .int (iI i)] [] (w ++ mW Z o a2 M) k n := by
  refine g_aload_n 1 dL_law_830 rfl rfl ?_
  refine g_aload_n 0 dL_law_831 rfl rfl ?_
  refine g_iload_n 3 dL_law_832 rfl rfl ?_
  refine g_iconst (iI 1) dL_law_833 rfl ?_
  refine gi_add dL_law_834 ?_
  refine gl_ld hL dL_law_835 (by omega) (by omega) ?_
  refine g_aload_n 0 dL_law_836 rfl rfl ?_
  refine g_iload_n 3 dL_law_837 rfl rfl ?_
  refine g_iconst (iI 2) dL_law_838 rfl ?_
  refine gi_add dL_law_839 ?_
  refine gl_ld hL dL_law_840 (by omega) (by omega) ?_
  refine gl_X (As := [(xs (i + 1).toNat).toInt, (xs (i + 2).toNat).toInt]) lkL_99 hw (x_strikers Z a hG hI hw ((xs (i + 1).toNat).toInt) ((xs (i + 2).toNat).toInt) (Rg_of _) (Rg_of _)) dL_law_841 (And.intro (Nat.le_of_ble_eq_true rfl) (Nat.le_of_ble_eq_true rfl)) rfl (Nat.le_of_ble_eq_true rfl) (Nat.le_of_ble_eq_true rfl) (Nat.le_of_ble_eq_true rfl) hk hn rfl (fun w2 hw2 => ?_)
  refine g_aload_n 2 dL_law_844 rfl rfl ?_
  refine g_aload_n 0 dL_law_845 rfl rfl ?_
  refine g_iload_n 3 dL_law_846 rfl rfl ?_
  refine g_iconst (iI 1) dL_law_847 rfl ?_
  refine gi_add dL_law_848 ?_
  refine gl_ld hL dL_law_849 (by omega) (by omega) ?_
  refine g_aload_n 0 dL_law_850 rfl rfl ?_
  refine g_iload_n 3 dL_law_851 rfl rfl ?_
  refine g_iconst (iI 2) dL_law_852 rfl ?_
  refine gi_add dL_law_853 ?_
  refine gl_ld hL dL_law_854 (by omega) (by omega) ?_
  refine gl_M (As := [(xs (i + 1).toNat).toInt, (xs (i + 2).toNat).toInt]) lkL_102 (y_strikers Z o a2 hG hP ((xs (i + 1).toNat).toInt) ((xs (i + 2).toNat).toInt) (Rg_of _) (Rg_of _)) dL_law_855 (And.intro (Nat.le_of_ble_eq_true rfl) (Nat.le_of_ble_eq_true rfl)) rfl (Nat.le_of_ble_eq_true rfl) rfl rfl (by omega) (by omega) rfl (fun M2 hP2 => ?_)
  refine g_icmp_eq 1104 dL_law_858 (by decide) (fun _ => ?_) (fun h => absurd rfl h)
  exact next _ M2 w2 hG hI hP2 hw2
set_option maxHeartbeats 4000000 in
set_option maxRecDepth 100000 in
theorem case_spans (hL : L ≤ 3072) (h0 : 0 ≤ i) (h5 : i + 5 < L) (hG : Good D) (hI : Inv D) (hP : Pers D M) (hw : HC Z a D w) (hk : k + 3 ≤ 600000) (hn : n + 17 ≤ 7302250) (next : ∀ (D2 M2 : Mem) (w2 : va_W), Good D2 → Inv D2 → Pers D2 M2 → HC Z a D2 w2 → G Z jL (EL b L xs) QL 1104 [.ref b, .ref (a 99), .ref o, .int (iI i)] [] (w2 ++ mW Z o a2 M2) (k + 3) (n + 17)) : G Z jL (EL b L xs) QL 863 [.ref b, .ref (a 99), .ref o, .int (iI i)] [] (w ++ mW Z o a2 M) k n := by
  refine g_aload_n 1 dL_law_863 rfl rfl ?_
  refine g_aload_n 0 dL_law_864 rfl rfl ?_
  refine g_iload_n 3 dL_law_865 rfl rfl ?_
  refine g_iconst (iI 1) dL_law_866 rfl ?_
  refine gi_add dL_law_867 ?_
  refine gl_ld hL dL_law_868 (by omega) (by omega) ?_
  refine g_aload_n 0 dL_law_869 rfl rfl ?_
  refine g_iload_n 3 dL_law_870 rfl rfl ?_
  refine g_iconst (iI 2) dL_law_871 rfl ?_
  refine gi_add dL_law_872 ?_
  refine gl_ld hL dL_law_873 (by omega) (by omega) ?_
  refine gl_X (As := [(xs (i + 1).toNat).toInt, (xs (i + 2).toNat).toInt]) lkL_103 hw (x_spans Z a hG hI hw ((xs (i + 1).toNat).toInt) ((xs (i + 2).toNat).toInt) (Rg_of _) (Rg_of _)) dL_law_874 (And.intro (Nat.le_of_ble_eq_true rfl) (Nat.le_of_ble_eq_true rfl)) rfl (Nat.le_of_ble_eq_true rfl) (Nat.le_of_ble_eq_true rfl) (Nat.le_of_ble_eq_true rfl) hk hn rfl (fun w2 hw2 => ?_)
  refine g_aload_n 2 dL_law_877 rfl rfl ?_
  refine g_aload_n 0 dL_law_878 rfl rfl ?_
  refine g_iload_n 3 dL_law_879 rfl rfl ?_
  refine g_iconst (iI 1) dL_law_880 rfl ?_
  refine gi_add dL_law_881 ?_
  refine gl_ld hL dL_law_882 (by omega) (by omega) ?_
  refine g_aload_n 0 dL_law_883 rfl rfl ?_
  refine g_iload_n 3 dL_law_884 rfl rfl ?_
  refine g_iconst (iI 2) dL_law_885 rfl ?_
  refine gi_add dL_law_886 ?_
  refine gl_ld hL dL_law_887 (by omega) (by omega) ?_
  refine gl_M (As := [(xs (i + 1).toNat).toInt, (xs (i + 2).toNat).toInt]) lkL_106 (y_spans Z o a2 hG hP ((xs (i + 1).toNat).toInt) ((xs (i + 2).toNat).toInt) (Rg_of _) (Rg_of _)) dL_law_888 (And.intro (Nat.le_of_ble_eq_true rfl) (Nat.le_of_ble_eq_true rfl)) rfl (Nat.le_of_ble_eq_true rfl) rfl rfl (by omega) (by omega) rfl (fun M2 hP2 => ?_)
  refine g_icmp_eq 1104 dL_law_891 (by decide) (fun _ => ?_) (fun h => absurd rfl h)
  exact next _ M2 w2 hG hI hP2 hw2
set_option maxHeartbeats 4000000 in
set_option maxRecDepth 100000 in
theorem case_history (hL : L ≤ 3072) (h0 : 0 ≤ i) (h5 : i + 5 < L) (hG : Good D) (hI : Inv D) (hP : Pers D M) (hw : HC Z a D w) (hk : k + 3 ≤ 600000) (hn : n + 17 ≤ 7302250) (next : ∀ (D2 M2 : Mem) (w2 : va_W), Good D2 → Inv D2 → Pers D2 M2 → HC Z a D2 w2 → G Z jL (EL b L xs) QL 1104 [.ref b, .ref (a 99), .ref o, .int (iI i)] [] (w2 ++ mW Z o a2 M2) (k + 3) (n + 17)) : G Z jL (EL b L xs) QL 896 [.ref b, .ref (a 99), .ref o, .int (iI i)] [] (w ++ mW Z o a2 M) k n := by
  refine g_aload_n 1 dL_law_896 rfl rfl ?_
  refine g_aload_n 0 dL_law_897 rfl rfl ?_
  refine g_iload_n 3 dL_law_898 rfl rfl ?_
  refine g_iconst (iI 1) dL_law_899 rfl ?_
  refine gi_add dL_law_900 ?_
  refine gl_ld hL dL_law_901 (by omega) (by omega) ?_
  refine g_aload_n 0 dL_law_902 rfl rfl ?_
  refine g_iload_n 3 dL_law_903 rfl rfl ?_
  refine g_iconst (iI 2) dL_law_904 rfl ?_
  refine gi_add dL_law_905 ?_
  refine gl_ld hL dL_law_906 (by omega) (by omega) ?_
  refine gl_X (As := [(xs (i + 1).toNat).toInt, (xs (i + 2).toNat).toInt]) lkL_107 hw (x_history Z a hG hI hw ((xs (i + 1).toNat).toInt) ((xs (i + 2).toNat).toInt) (Rg_of _) (Rg_of _)) dL_law_907 (And.intro (Nat.le_of_ble_eq_true rfl) (Nat.le_of_ble_eq_true rfl)) rfl (Nat.le_of_ble_eq_true rfl) (Nat.le_of_ble_eq_true rfl) (Nat.le_of_ble_eq_true rfl) hk hn rfl (fun w2 hw2 => ?_)
  refine g_aload_n 2 dL_law_910 rfl rfl ?_
  refine g_aload_n 0 dL_law_911 rfl rfl ?_
  refine g_iload_n 3 dL_law_912 rfl rfl ?_
  refine g_iconst (iI 1) dL_law_913 rfl ?_
  refine gi_add dL_law_914 ?_
  refine gl_ld hL dL_law_915 (by omega) (by omega) ?_
  refine g_aload_n 0 dL_law_916 rfl rfl ?_
  refine g_iload_n 3 dL_law_917 rfl rfl ?_
  refine g_iconst (iI 2) dL_law_918 rfl ?_
  refine gi_add dL_law_919 ?_
  refine gl_ld hL dL_law_920 (by omega) (by omega) ?_
  refine gl_M (As := [(xs (i + 1).toNat).toInt, (xs (i + 2).toNat).toInt]) lkL_110 (y_history Z o a2 hG hP ((xs (i + 1).toNat).toInt) ((xs (i + 2).toNat).toInt) (Rg_of _) (Rg_of _)) dL_law_921 (And.intro (Nat.le_of_ble_eq_true rfl) (Nat.le_of_ble_eq_true rfl)) rfl (Nat.le_of_ble_eq_true rfl) rfl rfl (by omega) (by omega) rfl (fun M2 hP2 => ?_)
  refine g_icmp_eq 1104 dL_law_924 (by decide) (fun _ => ?_) (fun h => absurd rfl h)
  exact next _ M2 w2 hG hI hP2 hw2
set_option maxHeartbeats 4000000 in
set_option maxRecDepth 100000 in
theorem case_asOf (hL : L ≤ 3072) (h0 : 0 ≤ i) (h5 : i + 5 < L) (hG : Good D) (hI : Inv D) (hP : Pers D M) (hw : HC Z a D w) (hk : k + 3 ≤ 600000) (hn : n + 17 ≤ 7302250) (next : ∀ (D2 M2 : Mem) (w2 : va_W), Good D2 → Inv D2 → Pers D2 M2 → HC Z a D2 w2 → G Z jL (EL b L xs) QL 1104 [.ref b, .ref (a 99), .ref o, .int (iI i)] [] (w2 ++ mW Z o a2 M2) (k + 3) (n + 17)) : G Z jL (EL b L xs) QL 929 [.ref b, .ref (a 99), .ref o, .int (iI i)] [] (w ++ mW Z o a2 M) k n := by
  refine g_aload_n 1 dL_law_929 rfl rfl ?_
  refine g_aload_n 0 dL_law_930 rfl rfl ?_
  refine g_iload_n 3 dL_law_931 rfl rfl ?_
  refine g_iconst (iI 1) dL_law_932 rfl ?_
  refine gi_add dL_law_933 ?_
  refine gl_ld hL dL_law_934 (by omega) (by omega) ?_
  refine g_aload_n 0 dL_law_935 rfl rfl ?_
  refine g_iload_n 3 dL_law_936 rfl rfl ?_
  refine g_iconst (iI 2) dL_law_937 rfl ?_
  refine gi_add dL_law_938 ?_
  refine gl_ld hL dL_law_939 (by omega) (by omega) ?_
  refine g_aload_n 0 dL_law_940 rfl rfl ?_
  refine g_iload_n 3 dL_law_941 rfl rfl ?_
  refine g_iconst (iI 3) dL_law_942 rfl ?_
  refine gi_add dL_law_943 ?_
  refine gl_ld hL dL_law_944 (by omega) (by omega) ?_
  refine gl_X (As := [(xs (i + 1).toNat).toInt, (xs (i + 2).toNat).toInt, (xs (i + 3).toNat).toInt]) lkL_111 hw (x_asOf Z a hG hI hw ((xs (i + 1).toNat).toInt) ((xs (i + 2).toNat).toInt) ((xs (i + 3).toNat).toInt) (Rg_of _) (Rg_of _) (Rg_of _)) dL_law_945 (And.intro (Nat.le_of_ble_eq_true rfl) (Nat.le_of_ble_eq_true rfl)) rfl (Nat.le_of_ble_eq_true rfl) (Nat.le_of_ble_eq_true rfl) (Nat.le_of_ble_eq_true rfl) hk hn rfl (fun w2 hw2 => ?_)
  refine g_aload_n 2 dL_law_948 rfl rfl ?_
  refine g_aload_n 0 dL_law_949 rfl rfl ?_
  refine g_iload_n 3 dL_law_950 rfl rfl ?_
  refine g_iconst (iI 1) dL_law_951 rfl ?_
  refine gi_add dL_law_952 ?_
  refine gl_ld hL dL_law_953 (by omega) (by omega) ?_
  refine g_aload_n 0 dL_law_954 rfl rfl ?_
  refine g_iload_n 3 dL_law_955 rfl rfl ?_
  refine g_iconst (iI 2) dL_law_956 rfl ?_
  refine gi_add dL_law_957 ?_
  refine gl_ld hL dL_law_958 (by omega) (by omega) ?_
  refine g_aload_n 0 dL_law_959 rfl rfl ?_
  refine g_iload_n 3 dL_law_960 rfl rfl ?_
  refine g_iconst (iI 3) dL_law_961 rfl ?_
  refine gi_add dL_law_962 ?_
  refine gl_ld hL dL_law_963 (by omega) (by omega) ?_
  refine gl_M (As := [(xs (i + 1).toNat).toInt, (xs (i + 2).toNat).toInt, (xs (i + 3).toNat).toInt]) lkL_114 (y_asOf Z o a2 hG hP ((xs (i + 1).toNat).toInt) ((xs (i + 2).toNat).toInt) ((xs (i + 3).toNat).toInt) (Rg_of _) (Rg_of _) (Rg_of _)) dL_law_964 (And.intro (Nat.le_of_ble_eq_true rfl) (Nat.le_of_ble_eq_true rfl)) rfl (Nat.le_of_ble_eq_true rfl) rfl rfl (by omega) (by omega) rfl (fun M2 hP2 => ?_)
  refine g_icmp_eq 1104 dL_law_967 (by decide) (fun _ => ?_) (fun h => absurd rfl h)
  exact next _ M2 w2 hG hI hP2 hw2
set_option maxHeartbeats 4000000 in
set_option maxRecDepth 100000 in
theorem case_unlike (hL : L ≤ 3072) (h0 : 0 ≤ i) (h5 : i + 5 < L) (hG : Good D) (hI : Inv D) (hP : Pers D M) (hw : HC Z a D w) (hk : k + 3 ≤ 600000) (hn : n + 17 ≤ 7302250) (next : ∀ (D2 M2 : Mem) (w2 : va_W), Good D2 → Inv D2 → Pers D2 M2 → HC Z a D2 w2 → G Z jL (EL b L xs) QL 1104 [.ref b, .ref (a 99), .ref o, .int (iI i)] [] (w2 ++ mW Z o a2 M2) (k + 3) (n + 17)) : G Z jL (EL b L xs) QL 972 [.ref b, .ref (a 99), .ref o, .int (iI i)] [] (w ++ mW Z o a2 M) k n := by
  refine g_aload_n 1 dL_law_972 rfl rfl ?_
  refine g_aload_n 0 dL_law_973 rfl rfl ?_
  refine g_iload_n 3 dL_law_974 rfl rfl ?_
  refine g_iconst (iI 1) dL_law_975 rfl ?_
  refine gi_add dL_law_976 ?_
  refine gl_ld hL dL_law_977 (by omega) (by omega) ?_
  refine g_aload_n 0 dL_law_978 rfl rfl ?_
  refine g_iload_n 3 dL_law_979 rfl rfl ?_
  refine g_iconst (iI 2) dL_law_980 rfl ?_
  refine gi_add dL_law_981 ?_
  refine gl_ld hL dL_law_982 (by omega) (by omega) ?_
  refine gl_X (As := [(xs (i + 1).toNat).toInt, (xs (i + 2).toNat).toInt]) lkL_115 hw (x_unlike Z a hG hI hw ((xs (i + 1).toNat).toInt) ((xs (i + 2).toNat).toInt) (Rg_of _) (Rg_of _)) dL_law_983 (And.intro (Nat.le_of_ble_eq_true rfl) (Nat.le_of_ble_eq_true rfl)) rfl (Nat.le_of_ble_eq_true rfl) (Nat.le_of_ble_eq_true rfl) (Nat.le_of_ble_eq_true rfl) hk hn rfl (fun w2 hw2 => ?_)
  refine g_aload_n 2 dL_law_986 rfl rfl ?_
  refine g_aload_n 0 dL_law_987 rfl rfl ?_
  refine g_iload_n 3 dL_law_988 rfl rfl ?_
  refine g_iconst (iI 1) dL_law_989 rfl ?_
  refine gi_add dL_law_990 ?_
  refine gl_ld hL dL_law_991 (by omega) (by omega) ?_
  refine g_aload_n 0 dL_law_992 rfl rfl ?_
  refine g_iload_n 3 dL_law_993 rfl rfl ?_
  refine g_iconst (iI 2) dL_law_994 rfl ?_
  refine gi_add dL_law_995 ?_
  refine gl_ld hL dL_law_996 (by omega) (by omega) ?_
  refine gl_M (As := [(xs (i + 1).toNat).toInt, (xs (i + 2).toNat).toInt]) lkL_118 (y_unlike Z o a2 hG hP ((xs (i + 1).toNat).toInt) ((xs (i + 2).toNat).toInt) (Rg_of _) (Rg_of _)) dL_law_997 (And.intro (Nat.le_of_ble_eq_true rfl) (Nat.le_of_ble_eq_true rfl)) rfl (Nat.le_of_ble_eq_true rfl) rfl rfl (by omega) (by omega) rfl (fun M2 hP2 => ?_)
  refine g_icmp_eq 1104 dL_law_1000 (by decide) (fun _ => ?_) (fun h => absurd rfl h)
  exact next _ M2 w2 hG hI hP2 hw2
set_option maxHeartbeats 4000000 in
set_option maxRecDepth 100000 in
theorem case_cursor (hL : L ≤ 3072) (h0 : 0 ≤ i) (h5 : i + 5 < L) (hG : Good D) (hI : Inv D) (hP : Pers D M) (hw : HC Z a D w) (hk : k + 3 ≤ 600000) (hn : n + 17 ≤ 7302250) (next : ∀ (D2 M2 : Mem) (w2 : va_W), Good D2 → Inv D2 → Pers D2 M2 → HC Z a D2 w2 → G Z jL (EL b L xs) QL 1104 [.ref b, .ref (a 99), .ref o, .int (iI i)] [] (w2 ++ mW Z o a2 M2) (k + 3) (n + 17)) : G Z jL (EL b L xs) QL 1005 [.ref b, .ref (a 99), .ref o, .int (iI i)] [] (w ++ mW Z o a2 M) k n := by
  refine g_aload_n 1 dL_law_1005 rfl rfl ?_
  refine g_aload_n 0 dL_law_1006 rfl rfl ?_
  refine g_iload_n 3 dL_law_1007 rfl rfl ?_
  refine g_iconst (iI 1) dL_law_1008 rfl ?_
  refine gi_add dL_law_1009 ?_
  refine gl_ld hL dL_law_1010 (by omega) (by omega) ?_
  refine g_aload_n 0 dL_law_1011 rfl rfl ?_
  refine g_iload_n 3 dL_law_1012 rfl rfl ?_
  refine g_iconst (iI 2) dL_law_1013 rfl ?_
  refine gi_add dL_law_1014 ?_
  refine gl_ld hL dL_law_1015 (by omega) (by omega) ?_
  refine g_aload_n 0 dL_law_1016 rfl rfl ?_
  refine g_iload_n 3 dL_law_1017 rfl rfl ?_
  refine g_iconst (iI 3) dL_law_1018 rfl ?_
  refine gi_add dL_law_1019 ?_
  refine gl_ld hL dL_law_1020 (by omega) (by omega) ?_
  refine g_aload_n 0 dL_law_1021 rfl rfl ?_
  refine g_iload_n 3 dL_law_1022 rfl rfl ?_
  refine g_iconst (iI 4) dL_law_1023 rfl ?_
  refine gi_add dL_law_1024 ?_
  refine gl_ld hL dL_law_1025 (by omega) (by omega) ?_
  refine gl_X (As := [(xs (i + 1).toNat).toInt, (xs (i + 2).toNat).toInt, (xs (i + 3).toNat).toInt, (xs (i + 4).toNat).toInt]) lkL_119 hw (x_cursor Z a hG hI hw ((xs (i + 1).toNat).toInt) ((xs (i + 2).toNat).toInt) ((xs (i + 3).toNat).toInt) ((xs (i + 4).toNat).toInt) (Rg_of _) (Rg_of _) (Rg_of _) (Rg_of _)) dL_law_1026 (And.intro (Nat.le_of_ble_eq_true rfl) (Nat.le_of_ble_eq_true rfl)) rfl (Nat.le_of_ble_eq_true rfl) (Nat.le_of_ble_eq_true rfl) (Nat.le_of_ble_eq_true rfl) hk hn rfl (fun w2 hw2 => ?_)
  refine g_aload_n 2 dL_law_1029 rfl rfl ?_
  refine g_aload_n 0 dL_law_1030 rfl rfl ?_
  refine g_iload_n 3 dL_law_1031 rfl rfl ?_
  refine g_iconst (iI 1) dL_law_1032 rfl ?_
  refine gi_add dL_law_1033 ?_
  refine gl_ld hL dL_law_1034 (by omega) (by omega) ?_
  refine g_aload_n 0 dL_law_1035 rfl rfl ?_
  refine g_iload_n 3 dL_law_1036 rfl rfl ?_
  refine g_iconst (iI 2) dL_law_1037 rfl ?_
  refine gi_add dL_law_1038 ?_
  refine gl_ld hL dL_law_1039 (by omega) (by omega) ?_
  refine g_aload_n 0 dL_law_1040 rfl rfl ?_
  refine g_iload_n 3 dL_law_1041 rfl rfl ?_
  refine g_iconst (iI 3) dL_law_1042 rfl ?_
  refine gi_add dL_law_1043 ?_
  refine gl_ld hL dL_law_1044 (by omega) (by omega) ?_
  refine g_aload_n 0 dL_law_1045 rfl rfl ?_
  refine g_iload_n 3 dL_law_1046 rfl rfl ?_
  refine g_iconst (iI 4) dL_law_1047 rfl ?_
  refine gi_add dL_law_1048 ?_
  refine gl_ld hL dL_law_1049 (by omega) (by omega) ?_
  refine gl_M (As := [(xs (i + 1).toNat).toInt, (xs (i + 2).toNat).toInt, (xs (i + 3).toNat).toInt, (xs (i + 4).toNat).toInt]) lkL_123 (y_cursor Z o a2 hG hP ((xs (i + 1).toNat).toInt) ((xs (i + 2).toNat).toInt) ((xs (i + 3).toNat).toInt) ((xs (i + 4).toNat).toInt) (Rg_of _) (Rg_of _) (Rg_of _) (Rg_of _)) dL_law_1050 (And.intro (Nat.le_of_ble_eq_true rfl) (Nat.le_of_ble_eq_true rfl)) rfl (Nat.le_of_ble_eq_true rfl) rfl rfl (by omega) (by omega) rfl (fun M2 hP2 => ?_)
  refine g_icmp_eq 1104 dL_law_1053 (by decide) (fun _ => ?_) (fun h => absurd rfl h)
  have g := gi_cursor hG hI ((xs (i + 1).toNat).toInt) ((xs (i + 2).toNat).toInt) ((xs (i + 3).toNat).toInt) ((xs (i + 4).toNat).toInt) (Rg_of _) (Rg_of _) (Rg_of _) (Rg_of _)
  exact next _ M2 w2 g.1 g.2 hP2 hw2
set_option maxHeartbeats 4000000 in
set_option maxRecDepth 100000 in
theorem case_where (hL : L ≤ 3072) (h0 : 0 ≤ i) (h5 : i + 5 < L) (hG : Good D) (hI : Inv D) (hP : Pers D M) (hw : HC Z a D w) (hk : k + 3 ≤ 600000) (hn : n + 17 ≤ 7302250) (next : ∀ (D2 M2 : Mem) (w2 : va_W), Good D2 → Inv D2 → Pers D2 M2 → HC Z a D2 w2 → G Z jL (EL b L xs) QL 1104 [.ref b, .ref (a 99), .ref o, .int (iI i)] [] (w2 ++ mW Z o a2 M2) (k + 3) (n + 17)) : G Z jL (EL b L xs) QL 1058 [.ref b, .ref (a 99), .ref o, .int (iI i)] [] (w ++ mW Z o a2 M) k n := by
  refine g_aload_n 1 dL_law_1058 rfl rfl ?_
  refine g_aload_n 0 dL_law_1059 rfl rfl ?_
  refine g_iload_n 3 dL_law_1060 rfl rfl ?_
  refine g_iconst (iI 1) dL_law_1061 rfl ?_
  refine gi_add dL_law_1062 ?_
  refine gl_ld hL dL_law_1063 (by omega) (by omega) ?_
  refine g_aload_n 0 dL_law_1064 rfl rfl ?_
  refine g_iload_n 3 dL_law_1065 rfl rfl ?_
  refine g_iconst (iI 2) dL_law_1066 rfl ?_
  refine gi_add dL_law_1067 ?_
  refine gl_ld hL dL_law_1068 (by omega) (by omega) ?_
  refine gl_X (As := [(xs (i + 1).toNat).toInt, (xs (i + 2).toNat).toInt]) lkL_124 hw (x_where Z a hG hI hw ((xs (i + 1).toNat).toInt) ((xs (i + 2).toNat).toInt) (Rg_of _) (Rg_of _)) dL_law_1069 (And.intro (Nat.le_of_ble_eq_true rfl) (Nat.le_of_ble_eq_true rfl)) rfl (Nat.le_of_ble_eq_true rfl) (Nat.le_of_ble_eq_true rfl) (Nat.le_of_ble_eq_true rfl) hk hn rfl (fun w2 hw2 => ?_)
  refine g_aload_n 2 dL_law_1072 rfl rfl ?_
  refine g_aload_n 0 dL_law_1073 rfl rfl ?_
  refine g_iload_n 3 dL_law_1074 rfl rfl ?_
  refine g_iconst (iI 1) dL_law_1075 rfl ?_
  refine gi_add dL_law_1076 ?_
  refine gl_ld hL dL_law_1077 (by omega) (by omega) ?_
  refine g_aload_n 0 dL_law_1078 rfl rfl ?_
  refine g_iload_n 3 dL_law_1079 rfl rfl ?_
  refine g_iconst (iI 2) dL_law_1080 rfl ?_
  refine gi_add dL_law_1081 ?_
  refine gl_ld hL dL_law_1082 (by omega) (by omega) ?_
  refine gl_M (As := [(xs (i + 1).toNat).toInt, (xs (i + 2).toNat).toInt]) lkL_127 (y_where Z o a2 hG hP ((xs (i + 1).toNat).toInt) ((xs (i + 2).toNat).toInt) (Rg_of _) (Rg_of _)) dL_law_1083 (And.intro (Nat.le_of_ble_eq_true rfl) (Nat.le_of_ble_eq_true rfl)) rfl (Nat.le_of_ble_eq_true rfl) rfl rfl (by omega) (by omega) rfl (fun M2 hP2 => ?_)
  refine g_icmp_eq 1104 dL_law_1086 (by decide) (fun _ => ?_) (fun h => absurd rfl h)
  exact next _ M2 w2 hG hI hP2 hw2
set_option maxHeartbeats 4000000 in
set_option maxRecDepth 100000 in
theorem case_status (hL : L ≤ 3072) (h0 : 0 ≤ i) (h5 : i + 5 < L) (hG : Good D) (hI : Inv D) (hP : Pers D M) (hw : HC Z a D w) (hk : k + 3 ≤ 600000) (hn : n + 17 ≤ 7302250) (next : ∀ (D2 M2 : Mem) (w2 : va_W), Good D2 → Inv D2 → Pers D2 M2 → HC Z a D2 w2 → G Z jL (EL b L xs) QL 1104 [.ref b, .ref (a 99), .ref o, .int (iI i)] [] (w2 ++ mW Z o a2 M2) (k + 3) (n + 17)) : G Z jL (EL b L xs) QL 1091 [.ref b, .ref (a 99), .ref o, .int (iI i)] [] (w ++ mW Z o a2 M) k n := by
  refine g_aload_n 1 dL_law_1091 rfl rfl ?_
  refine gl_X (As := []) lkL_128 hw (x_status Z a hG hI hw  ) dL_law_1092 (And.intro (Nat.le_of_ble_eq_true rfl) (Nat.le_of_ble_eq_true rfl)) rfl (Nat.le_of_ble_eq_true rfl) (Nat.le_of_ble_eq_true rfl) (Nat.le_of_ble_eq_true rfl) hk hn rfl (fun w2 hw2 => ?_)
  refine g_aload_n 2 dL_law_1095 rfl rfl ?_
  refine gl_M (As := []) lkL_131 (y_status Z o a2 hG hP  ) dL_law_1096 (And.intro (Nat.le_of_ble_eq_true rfl) (Nat.le_of_ble_eq_true rfl)) rfl (Nat.le_of_ble_eq_true rfl) rfl rfl (by omega) (by omega) rfl (fun M2 hP2 => ?_)
  refine g_icmp_eq 1104 dL_law_1099 (by decide) (fun _ => ?_) (fun h => absurd rfl h)
  exact next _ M2 w2 hG hI hP2 hw2
end Cases
set_option maxHeartbeats 4000000 in
set_option maxRecDepth 100000 in
theorem law_loop {Z : LZ} {b L : Nat} {xs : Nat → Int32} {a a2 : Nat → Nat} {o : Nat} (hL : L ≤ 3072) : ∀ (fuel j : Nat) (i : Int) (D M : Mem) (w : va_W), 3100 - i < fuel → i = 6 * j → i ≤ 3072 → Good D → Inv D → Pers D M → HC Z a D w → G Z jL (EL b L xs) QL 18 [.ref b, .ref (a 99), .ref o, .int (iI i)] [] (w ++ mW Z o a2 M) (64 + 3 * j) (22000 + 17 * j) := by
  intro fuel
  induction fuel with
  | zero => intros; exfalso; omega
  | succ fuel ih =>
    intro j i D M w hf hj h3 hG hI hP hw
    refine g_iload_n 3 dL_law_18 rfl rfl ?_
    refine g_aload_n 0 dL_law_19 rfl rfl ?_
    refine gl_len dL_law_20 ?_
    refine g_bipush (iI 6) dL_law_21 (by decide) ?_
    refine gi_sub dL_law_23 ?_
    refine gi_icmp_gt 1110 dL_law_24 (by decide) ⟨by omega, by omega⟩ ⟨by omega, by omega⟩ (fun c24 => ?_) (fun c24 => ?_)
    · refine g_iconst (iI 1) dL_law_1110 rfl ?_
      exact gl_ret dL_law_1111 (by omega) (by omega)
    · have next : ∀ (D2 M2 : Mem) (w2 : va_W), Good D2 → Inv D2 → Pers D2 M2 → HC Z a D2 w2 → G Z jL (EL b L xs) QL 1104 [.ref b, .ref (a 99), .ref o, .int (iI i)] [] (w2 ++ mW Z o a2 M2) (64 + 3 * j + 3) (22000 + 17 * j + 17) := by
        intro D2 M2 w2 g1 g2 g3 g4
        refine gi_inc dL_law_1104 rfl (Nat.le_of_ble_eq_true rfl) rfl ?_
        dsimp only [sto]
        refine g_goto 18 dL_law_1107 (by decide) ?_
        have g := ih (j + 1) (i + 6) D2 M2 w2 (by omega) (by omega) (by omega) g1 g2 g3 g4
        exact g
      refine g_aload_n 0 dL_law_27 rfl rfl ?_
      refine g_iload_n 3 dL_law_28 rfl rfl ?_
      refine gl_ld hL dL_law_29 (by omega) (by omega) ?_
      refine g_bipush (iI 31) dL_law_30 (by decide) ?_
      refine g_iand dL_law_32 ?_
      generalize iI (xs i.toNat).toInt &&& iI 31 = t
      have hk : 64 + 3 * j + 3 ≤ 600000 := by omega
      have hn : 22000 + 17 * j + 17 ≤ 7302250 := by omega
      have h0 : 0 ≤ i := by omega
      have h5 : i + 5 < L := by omega
      by_cases w0 : t = iI 0
      · rw [w0]
        refine g_tableIn 160 dL_law_33 (by decide) (by decide) rfl (by decide) ?_
        exact case_type hL h0 h5 hG hI hP hw hk hn next
      by_cases w1 : t = iI 1
      · rw [w1]
        refine g_tableIn 223 dL_law_33 (by decide) (by decide) rfl (by decide) ?_
        exact case_strike hL h0 h5 hG hI hP hw hk hn next
      by_cases w2 : t = iI 2
      · rw [w2]
        refine g_tableIn 266 dL_law_33 (by decide) (by decide) rfl (by decide) ?_
        exact case_mark hL h0 h5 hG hI hP hw hk hn next
      by_cases w3 : t = iI 3
      · rw [w3]
        refine g_tableIn 329 dL_law_33 (by decide) (by decide) rfl (by decide) ?_
        exact case_undo hL h0 h5 hG hI hP hw hk hn next
      by_cases w4 : t = iI 4
      · rw [w4]
        refine g_tableIn 362 dL_law_33 (by decide) (by decide) rfl (by decide) ?_
        exact case_carry hL h0 h5 hG hI hP hw hk hn next
      by_cases w5 : t = iI 5
      · rw [w5]
        refine g_tableIn 395 dL_law_33 (by decide) (by decide) rfl (by decide) ?_
        exact case_all hL h0 h5 hG hI hP hw hk hn next
      by_cases w6 : t = iI 6
      · rw [w6]
        refine g_tableIn 428 dL_law_33 (by decide) (by decide) rfl (by decide) ?_
        exact case_state hL h0 h5 hG hI hP hw hk hn next
      by_cases w7 : t = iI 7
      · rw [w7]
        refine g_tableIn 461 dL_law_33 (by decide) (by decide) rfl (by decide) ?_
        exact case_lacks hL h0 h5 hG hI hP hw hk hn next
      by_cases w8 : t = iI 8
      · rw [w8]
        refine g_tableIn 494 dL_law_33 (by decide) (by decide) rfl (by decide) ?_
        exact case_slips hL h0 h5 hG hI hP hw hk hn next
      by_cases w9 : t = iI 9
      · rw [w9]
        refine g_tableIn 507 dL_law_33 (by decide) (by decide) rfl (by decide) ?_
        exact case_slip hL h0 h5 hG hI hP hw hk hn next
      by_cases w10 : t = iI 10
      · rw [w10]
        refine g_tableIn 540 dL_law_33 (by decide) (by decide) rfl (by decide) ?_
        exact case_part hL h0 h5 hG hI hP hw hk hn next
      by_cases w11 : t = iI 11
      · rw [w11]
        refine g_tableIn 573 dL_law_33 (by decide) (by decide) rfl (by decide) ?_
        exact case_left hL h0 h5 hG hI hP hw hk hn next
      by_cases w12 : t = iI 12
      · rw [w12]
        refine g_tableIn 596 dL_law_33 (by decide) (by decide) rfl (by decide) ?_
        exact case_bound hL h0 h5 hG hI hP hw hk hn next
      by_cases w13 : t = iI 13
      · rw [w13]
        refine g_tableIn 619 dL_law_33 (by decide) (by decide) rfl (by decide) ?_
        exact case_undone hL h0 h5 hG hI hP hw hk hn next
      by_cases w14 : t = iI 14
      · rw [w14]
        refine g_tableIn 642 dL_law_33 (by decide) (by decide) rfl (by decide) ?_
        exact case_later hL h0 h5 hG hI hP hw hk hn next
      by_cases w15 : t = iI 15
      · rw [w15]
        refine g_tableIn 675 dL_law_33 (by decide) (by decide) rfl (by decide) ?_
        exact case_length hL h0 h5 hG hI hP hw hk hn next
      by_cases w16 : t = iI 16
      · rw [w16]
        refine g_tableIn 698 dL_law_33 (by decide) (by decide) rfl (by decide) ?_
        exact case_text hL h0 h5 hG hI hP hw hk hn next
      by_cases w17 : t = iI 17
      · rw [w17]
        refine g_tableIn 741 dL_law_33 (by decide) (by decide) rfl (by decide) ?_
        exact case_signs hL h0 h5 hG hI hP hw hk hn next
      by_cases w18 : t = iI 18
      · rw [w18]
        refine g_tableIn 764 dL_law_33 (by decide) (by decide) rfl (by decide) ?_
        exact case_order hL h0 h5 hG hI hP hw hk hn next
      by_cases w19 : t = iI 19
      · rw [w19]
        refine g_tableIn 797 dL_law_33 (by decide) (by decide) rfl (by decide) ?_
        exact case_place hL h0 h5 hG hI hP hw hk hn next
      by_cases w20 : t = iI 20
      · rw [w20]
        refine g_tableIn 830 dL_law_33 (by decide) (by decide) rfl (by decide) ?_
        exact case_strikers hL h0 h5 hG hI hP hw hk hn next
      by_cases w21 : t = iI 21
      · rw [w21]
        refine g_tableIn 863 dL_law_33 (by decide) (by decide) rfl (by decide) ?_
        exact case_spans hL h0 h5 hG hI hP hw hk hn next
      by_cases w22 : t = iI 22
      · rw [w22]
        refine g_tableIn 896 dL_law_33 (by decide) (by decide) rfl (by decide) ?_
        exact case_history hL h0 h5 hG hI hP hw hk hn next
      by_cases w23 : t = iI 23
      · rw [w23]
        refine g_tableIn 929 dL_law_33 (by decide) (by decide) rfl (by decide) ?_
        exact case_asOf hL h0 h5 hG hI hP hw hk hn next
      by_cases w24 : t = iI 24
      · rw [w24]
        refine g_tableIn 972 dL_law_33 (by decide) (by decide) rfl (by decide) ?_
        exact case_unlike hL h0 h5 hG hI hP hw hk hn next
      by_cases w25 : t = iI 25
      · rw [w25]
        refine g_tableIn 1005 dL_law_33 (by decide) (by decide) rfl (by decide) ?_
        exact case_cursor hL h0 h5 hG hI hP hw hk hn next
      by_cases w26 : t = iI 26
      · rw [w26]
        refine g_tableIn 1058 dL_law_33 (by decide) (by decide) rfl (by decide) ?_
        exact case_where hL h0 h5 hG hI hP hw hk hn next
      by_cases w27 : t = iI 27
      · rw [w27]
        refine g_tableIn 1091 dL_law_33 (by decide) (by decide) rfl (by decide) ?_
        exact case_status hL h0 h5 hG hI hP hw hk hn next
      refine g_tableOut 1104 dL_law_33 ?_ (by decide) ?_
      · apply Classical.byContradiction
        intro hh
        have h1 : t.toInt = 0 ∨ t.toInt = 1 ∨ t.toInt = 2 ∨ t.toInt = 3 ∨ t.toInt = 4 ∨ t.toInt = 5 ∨ t.toInt = 6 ∨ t.toInt = 7 ∨ t.toInt = 8 ∨ t.toInt = 9 ∨ t.toInt = 10 ∨ t.toInt = 11 ∨ t.toInt = 12 ∨ t.toInt = 13 ∨ t.toInt = 14 ∨ t.toInt = 15 ∨ t.toInt = 16 ∨ t.toInt = 17 ∨ t.toInt = 18 ∨ t.toInt = 19 ∨ t.toInt = 20 ∨ t.toInt = 21 ∨ t.toInt = 22 ∨ t.toInt = 23 ∨ t.toInt = 24 ∨ t.toInt = 25 ∨ t.toInt = 26 ∨ t.toInt = 27 := by omega
        have h2 : t = iI t.toInt := iI_of t
        rcases h1 with h | h | h | h | h | h | h | h | h | h | h | h | h | h | h | h | h | h | h | h | h | h | h | h | h | h | h | h
        · exact w0 (by rw [h2, h])
        · exact w1 (by rw [h2, h])
        · exact w2 (by rw [h2, h])
        · exact w3 (by rw [h2, h])
        · exact w4 (by rw [h2, h])
        · exact w5 (by rw [h2, h])
        · exact w6 (by rw [h2, h])
        · exact w7 (by rw [h2, h])
        · exact w8 (by rw [h2, h])
        · exact w9 (by rw [h2, h])
        · exact w10 (by rw [h2, h])
        · exact w11 (by rw [h2, h])
        · exact w12 (by rw [h2, h])
        · exact w13 (by rw [h2, h])
        · exact w14 (by rw [h2, h])
        · exact w15 (by rw [h2, h])
        · exact w16 (by rw [h2, h])
        · exact w17 (by rw [h2, h])
        · exact w18 (by rw [h2, h])
        · exact w19 (by rw [h2, h])
        · exact w20 (by rw [h2, h])
        · exact w21 (by rw [h2, h])
        · exact w22 (by rw [h2, h])
        · exact w23 (by rw [h2, h])
        · exact w24 (by rw [h2, h])
        · exact w25 (by rw [h2, h])
        · exact w26 (by rw [h2, h])
        · exact w27 (by rw [h2, h])
      · exact g_widen (by omega) (by omega) (next D M w hG hI hP hw)
