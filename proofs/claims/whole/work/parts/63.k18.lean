/-! THE CLASS: arrays that it makes -/
theorem wk_clL : Cond.methodLink RJ7 316 ⟨"[I", "clone", "()Ljava/lang/Object;"⟩ ∈ WT := wt_of 254 (by decide +kernel) rfl
theorem wk_clS : Cond.sameMethod "[I" "java/lang/Object" "clone" "()Ljava/lang/Object;" ∈ WT := wt_of 255 (by decide +kernel) rfl
theorem wk_clN : Cond.native ⟨"java/lang/Object", "clone", "()Ljava/lang/Object;"⟩ ∈ WT := wt_of 256 (by decide +kernel) rfl
theorem wk_clI : Cond.instanceMethod ⟨"java/lang/Object", "clone", "()Ljava/lang/Object;"⟩ ∈ WT := wt_of 257 (by decide +kernel) rfl
theorem wk_clE : Cond.selects "[I" ⟨"[I", "clone", "()Ljava/lang/Object;"⟩ ⟨"java/lang/Object", "clone", "()Ljava/lang/Object;"⟩ ∈ WT := wt_of 258 (by decide +kernel) rfl
theorem wk_acL : Cond.methodLink RJ7 150 arraycopyName ∈ WT := wt_of 264 (by decide +kernel) rfl
theorem wk_acS : Cond.static arraycopyName ∈ WT := wt_of 265 (by decide +kernel) rfl
theorem wk_acN : Cond.native arraycopyName ∈ WT := wt_of 266 (by decide +kernel) rfl
theorem wk_acI : Cond.initialized "java/lang/System" ∈ WT := wt_of 52 (by decide +kernel) rfl
theorem wk_J7 : Cond.initialized RJ7 ∈ WT := wt_of 48 (by decide +kernel) rfl
section ARows
variable {Z : LZ} {J : MD} {E : State → Array Value → (Nat → Prop) → Prop} {Q : List Frame → Array Value → State → (Nat → Prop) → State → Prop} {pc : Nat} {ls st : List Value} {k n : Nat} {ws : va_W}
theorem g_clone {a N : Nat} {f : Nat → Int32} (q0 : Nat) (hJ : J.1.cls = RJ7) (d : decode J.2.1 pc = .ok (.invokevirtual 316, 3)) (he : ws[q0]? = some (a, .inl (Z.2 0, N, .inl f))) (h1 : 1 ≤ J.2.2.2.2.frames) (h2 : (st.map fun v => v.category).sum + 14 ≤ J.2.2.2.2.locals) (h3 : k + 1 ≤ J.2.2.2.2.cells) (h4 : n + N ≤ J.2.2.2.2.slots) (K : ∀ q : Nat, G Z J E Q (pc + 3) ls (.ref q :: st) (ws ++ [(q, .inl (Z.2 0, N, .inl f))]) (k + 1) (n + N)) : G Z J E Q pc ls (.ref a :: st) ws k n := by
  intro p l e s m args below meth c A H locs lsA C hE hP hD hS hL
  have hnm : s.vm.findClass "[I" = some (Z.2 0) := (C.kk.2 0 (Z.2 0, .int) rfl).2
  refine va_clone (D := Z.1) (own := J.1.cls) (ad := "[I") (ty := .int) C.ex C.by (C.ml.trans hL.size.symm) C.ow (by rw [hJ]; exact C.ts _ wk_clL) (C.ts _ wk_clS) (C.ts _ wk_clN) (C.ts _ wk_clI) (C.ts _ wk_clE) (C.en.2.1 _ (by decide +kernel)) C.kk hP hD hS C.hA q0 0 he rfl hnm (fun i v hv => ?_) h1 h2 h3 h4 d (fun q H1 hK1 hP1 hD1 hS1 => K q p l e s m args below meth c A H1 locs lsA C hE hP1 hD1 hS1 hL)
  have hv2 : (arrV (Z.2 0) N (fun j => .int (f j))).slots[i]? = some v := hv
  simp only [arrV, Array.getElem?_ofFn] at hv2
  split at hv2
  · rw [← Option.some.inj hv2]
    rfl
  · cases hv2
theorem g_castI {a N i : Nat} {f : Nat → Int32} (q0 : Nat) (d : decode J.2.1 pc = .ok (.checkcast i, 3)) (hcl : Cond.classLink J.1.cls i "[I" ∈ WT) (he : ws[q0]? = some (a, .inl (Z.2 0, N, .inl f))) (K : G Z J E Q (pc + 3) ls (.ref a :: st) ws k n) : G Z J E Q pc ls (.ref a :: st) ws k n := by
  intro p l e s m args below meth c A H locs lsA C hE hP hD hS hL
  have hnm : s.vm.findClass "[I" = some (Z.2 0) := (C.kk.2 0 (Z.2 0, .int) rfl).2
  exact va_castA (D := Z.1) C.ex C.by C.ow (C.ts _ hcl) hP q0 he hnm d (K p l e s m args below meth c A H locs lsA C hE hP hD hS hL)
theorem g_copy {a a0 n0 n1 : Nat} {f g : Nat → Int32} {sp dp m0 : Int32} {ws2 : va_W} (q0 q1 : Nat) (hJ : J.1.cls = RJ7) (d : decode J.2.1 pc = .ok (.invokestatic 150, 3)) (he0 : ws[q0]? = some (a0, .inl (Z.2 0, n0, .inl f))) (he1 : ws[q1]? = some (a, .inl (Z.2 0, n1, .inl g))) (h1 : ¬ sp < 0) (h2 : ¬ dp < 0) (h3 : ¬ m0 < 0) (h4 : sp.toNatClampNeg + m0.toNatClampNeg ≤ n0) (h5 : dp.toNatClampNeg + m0.toNatClampNeg ≤ n1) (hf : 1 ≤ J.2.2.2.2.frames) (hl : (st.map fun v => v.category).sum + (nativeFrameWords "java/lang/System" "arraycopy" 5 + 11) ≤ J.2.2.2.2.locals) (hw : ws.set q1 (a, .inl (Z.2 0, n1, .inl (va_cpy f g sp.toNatClampNeg dp.toNatClampNeg m0.toNatClampNeg))) = ws2) (K : G Z J E Q (pc + 3) ls st ws2 k n) : G Z J E Q pc ls (.int m0 :: .int dp :: .ref a :: .int sp :: .ref a0 :: st) ws k n := by
  intro p l e s m args below meth c A H locs lsA C hE hP hD hS hL
  subst hw
  exact va_copyi (D := Z.1) (own := J.1.cls) (ty := .int) C.ex C.by (C.ml.trans hL.size.symm) C.ow (by rw [hJ]; exact C.ts _ wk_acL) (C.ts _ wk_acN) (C.ts _ wk_acS) (C.ts _ wk_acI) C.kk hP hD hS q0 q1 0 0 he0 he1 rfl rfl rfl h1 h2 h3 h4 h5 (fun i _ => rfl) hf hl d (fun H1 locs1 hP1 hD1 hS1 => K p l e s m args below meth c A H1 locs1 lsA C hE hP1 hD1 hS1 hL)
theorem g_arrC {b N : Nat} {f g : Nat → Int32} {ws2 : va_W} (q0 : Nat) (he : ws[q0]? = some (b, .inl (Z.2 0, N, .inl f))) (hfg : ∀ i : Nat, i < N → f i = g i) (hw : ws.set q0 (b, .inl (Z.2 0, N, .inl g)) = ws2) (K : G Z J E Q pc ls st ws2 k n) : G Z J E Q pc ls st ws k n := by
  intro p l e s m args below meth c A H locs lsA C hE hP hD hS hL
  subst hw
  have hlt : q0 < ws.length := (List.getElem?_eq_some_iff.mp he).1
  refine K p l e s m args below meth c A H locs lsA C hE (fun j q hq => ?_) ⟨fun i j x y hx hy hxy => ?_, fun j q hq => ?_⟩ hS hL
  · by_cases ej : q0 = j
    · subst ej
      rw [List.getElem?_set_self hlt] at hq
      have e1 : (b, (.inl (Z.2 0, N, .inl g) : va_E)) = q := Option.some.inj hq
      rw [← e1]
      have hc : vp_cell (Z.2 0) (N, .inl g) = vp_cell (Z.2 0) (N, .inl f) := by
        show arrV (Z.2 0) N (fun j => .int (g j)) = arrV (Z.2 0) N (fun j => .int (f j))
        unfold arrV
        congr 1
        congr 1
        funext j
        show Value.int (g j) = Value.int (f j)
        rw [hfg j.1 j.2]
      have h0 := hP q0 _ he
      show H[b]? = some (vp_cell (Z.2 0) (N, .inl g))
      rw [hc]
      exact h0
    · rw [List.getElem?_set_ne ej] at hq
      exact hP j q hq
  · have e1 : ∀ (i : Nat) (x : Nat × va_E), (ws.set q0 (b, .inl (Z.2 0, N, .inl g)))[i]? = some x → ∃ y, ws[i]? = some y ∧ y.1 = x.1 := by
      intro i x hx
      by_cases ei : q0 = i
      · subst ei
        rw [List.getElem?_set_self hlt] at hx
        exact ⟨_, he, by rw [← Option.some.inj hx]⟩
      · rw [List.getElem?_set_ne ei] at hx
        exact ⟨x, hx, rfl⟩
    obtain ⟨x2, hx2, ex⟩ := e1 i x hx
    obtain ⟨y2, hy2, ey⟩ := e1 j y hy
    exact hD.1 i j x2 y2 hx2 hy2 (by rw [ex, ey]; exact hxy)
  · by_cases ei : q0 = j
    · subst ei
      rw [List.getElem?_set_self hlt] at hq
      rw [← Option.some.inj hq]
      show A b
      exact hD.2 q0 (b, .inl (Z.2 0, N, .inl f)) he
    · rw [List.getElem?_set_ne ei] at hq
      exact hD.2 j q hq
end ARows
theorem Z_rt (Z : LZ) : (tyZ Z)[0]? = some (Z.2 0, .int) := rfl
set_option maxHeartbeats 4000000 in
set_option maxRecDepth 100000 in
theorem k_fill (Z : LZ) (b N : Nat) (hN : N ≤ 100000) (f : Int → Int) (v : Int) : Tr Z jJ7_fill_53178 [.ref b, .int (iI v)] ([(b, .inl (Z.2 0, N, .inl (rowI (f))))]) (fun r w => r = none ∧ w = [(b, .inl (Z.2 0, N, .inl (rowI (fun x => if 0 ≤ x ∧ x < N then v else f x))))]) := by
  refine tr_of pn_J7_fill_53178 (Nat.le_of_ble_eq_true rfl) (by intro v h; simp only [List.mem_cons, List.not_mem_nil, or_false] at h; rcases h with h | h <;> rw [h] <;> rfl) ?_
  have loop : ∀ (fuel i : Nat), N - i < fuel → i ≤ N → G Z jJ7_fill_53178 E0 (QM Z jJ7_fill_53178 (fun r w => r = none ∧ w = [(b, .inl (Z.2 0, N, .inl (rowI (fun x => if 0 ≤ x ∧ x < N then v else f x))))])) 5 [.ref b, .int (iI v), .int (iI (i : Int)), .int (iI (N : Int))] [] ([(b, .inl (Z.2 0, N, .inl (rowI (fun x => if 0 ≤ x ∧ x < i then v else f x))))]) 0 0 := by
    intro fuel
    induction fuel with
    | zero => intros; exfalso; omega
    | succ fuel ih =>
      intro i hf h1
      refine g_iload_n 2 dJ7_fill_53178_5 rfl rfl ?_
      refine g_iload_n 3 dJ7_fill_53178_6 rfl rfl ?_
      refine gi_icmp_ge 20 dJ7_fill_53178_7 (by decide) ⟨by omega, by omega⟩ ⟨by omega, by omega⟩ (fun c7 => ?_) (fun c7 => ?_)
      · refine g_vret dJ7_fill_53178_20 rfl (Nat.le_of_ble_eq_true rfl) (Nat.le_of_ble_eq_true rfl) ⟨rfl, ?_⟩
        rw [show i = N by omega]
      · refine g_aload_n 0 dJ7_fill_53178_10 rfl rfl ?_
        refine g_iload_n 2 dJ7_fill_53178_11 rfl rfl ?_
        refine g_iload_n 1 dJ7_fill_53178_12 rfl rfl ?_
        refine gi_iast 0 dJ7_fill_53178_13 rfl (by omega) (by omega) (by omega) rfl ?_
        refine gi_inc dJ7_fill_53178_14 rfl (Nat.le_of_ble_eq_true rfl) rfl ?_
        dsimp only [sto]
        refine g_goto 5 dJ7_fill_53178_17 (by decide) ?_
        have e : upI (fun x => if 0 ≤ x ∧ x < (i : Int) then v else f x) i v = (fun x => if 0 ≤ x ∧ x < ((i + 1 : Nat) : Int) then v else f x) := by
          funext x
          unfold upI
          by_cases g : x = i
          · rw [if_pos g, if_pos (by omega)]
          · rw [if_neg g]
            show (if 0 ≤ x ∧ x < (i : Int) then v else f x) = _
            by_cases g2 : 0 ≤ x ∧ x < (i : Int)
            · rw [if_pos g2, if_pos (by omega)]
            · rw [if_neg g2, if_neg (by omega)]
        have g := ih (i + 1) (by omega) (by omega)
        rw [← e] at g
        exact g
  refine g_iconst (iI 0) dJ7_fill_53178_0 rfl ?_
  refine g_istore_n 2 dJ7_fill_53178_1 rfl (Nat.le_of_ble_eq_true rfl) (Nat.le_of_ble_eq_true rfl) rfl ?_
  dsimp only [sto]
  refine g_aload_n 0 dJ7_fill_53178_2 rfl rfl ?_
  refine g_alen 0 0 (iI (N : Int)) dJ7_fill_53178_3 rfl rfl (iI_nat N).symm ?_
  refine g_istore_n 3 dJ7_fill_53178_4 rfl (Nat.le_of_ble_eq_true rfl) (Nat.le_of_ble_eq_true rfl) rfl ?_
  dsimp only [sto]
  have g := loop (N + 1) 0 (by omega) (by omega)
  have e : (fun x : Int => if 0 ≤ x ∧ x < ((0 : Nat) : Int) then v else f x) = f := by
    funext x
    rw [if_neg (by omega)]
  rw [e] at g
  exact g
set_option maxHeartbeats 4000000 in
set_option maxRecDepth 100000 in
theorem k_copyOf (Z : LZ) (b m : Nat) (hm : m ≤ 3) (f : Int → Int) : Tr Z jJ7_copyOf_59c91 [.ref b, .int (iI (m : Int))] ([(b, .inl (Z.2 0, 3, .inl (rowI f)))]) (fun r w => ∃ (q : Nat) (g : Int → Int), r = some (.ref q) ∧ w = [(b, .inl (Z.2 0, 3, .inl (rowI f))), (q, .inl (Z.2 0, m, .inl (rowI g)))] ∧ ∀ i : Int, 0 ≤ i → i < m → g i = f i) := by
  refine tr_of pn_J7_copyOf_59c91 (Nat.le_of_ble_eq_true rfl) (by intro v h; simp only [List.mem_cons, List.not_mem_nil, or_false] at h; rcases h with h | h <;> rw [h] <;> rfl) ?_
  refine g_iload_n 1 dJ7_copyOf_59c91_0 rfl rfl ?_
  refine g_aload_n 0 dJ7_copyOf_59c91_1 rfl rfl ?_
  refine g_alen 0 0 (iI 3) dJ7_copyOf_59c91_2 rfl rfl rfl ?_
  refine gi_icmp_ne 14 dJ7_copyOf_59c91_3 (by decide) ⟨by omega, by omega⟩ ⟨by decide, by decide⟩ (fun c3 => ?_) (fun c3 => ?_)
  · refine g_iload_n 1 dJ7_copyOf_59c91_14 rfl rfl ?_
    refine g_newI m dJ7_copyOf_59c91_15 (by omega) (Nat.le_of_ble_eq_true rfl) (by show 0 + m ≤ 3; omega) (fun q => ?_)
    refine g_astore_n 2 dJ7_copyOf_59c91_17 rfl (Nat.le_of_ble_eq_true rfl) (Nat.le_of_ble_eq_true rfl) rfl ?_
    dsimp only [sto]
    refine g_aload_n 0 dJ7_copyOf_59c91_18 rfl rfl ?_
    refine g_iconst (iI 0) dJ7_copyOf_59c91_19 rfl ?_
    refine g_aload_n 2 dJ7_copyOf_59c91_20 rfl rfl ?_
    refine g_iconst (iI 0) dJ7_copyOf_59c91_21 rfl ?_
    refine g_aload_n 0 dJ7_copyOf_59c91_22 rfl rfl ?_
    refine g_alen 0 0 (iI 3) dJ7_copyOf_59c91_23 rfl rfl rfl ?_
    refine g_iload_n 1 dJ7_copyOf_59c91_24 rfl rfl ?_
    refine g_mmin dJ7_copyOf_59c91_25 lkmJ7_304 mst_min min_ mcd_min (Nat.le_of_ble_eq_true rfl) (Nat.le_of_ble_eq_true rfl) (Nat.le_of_ble_eq_true rfl) (by show 0 + m ≤ 3; omega) ⟨by decide, by decide⟩ ⟨by omega, by omega⟩ ?_
    rw [if_pos (by omega)]
    have hcm : (iI (m : Int)).toNatClampNeg = m := by rw [iI_clamp (by omega) (by omega)]; rfl
    have hc0 : (iI 0).toNatClampNeg = 0 := rfl
    refine g_copy 0 1 rfl dJ7_copyOf_59c91_28 rfl rfl (by decide) (by decide) (fun h => ?_) (by rw [hcm, hc0]; omega) (by rw [hcm, hc0]; omega) (Nat.le_of_ble_eq_true rfl) (Nat.le_of_ble_eq_true rfl) rfl ?_
    · have := (iI_lt (a := (m : Int)) (b := 0) ⟨by omega, by omega⟩ ⟨by decide, by decide⟩).mp h
      omega
    refine g_aload_n 2 dJ7_copyOf_59c91_31 rfl rfl ?_
    refine g_aret dJ7_copyOf_59c91_32 rfl (Or.inr ⟨_, rfl⟩) (Or.inr ⟨_, rfl⟩) (Nat.le_of_ble_eq_true rfl) (by show 0 + m ≤ 3; omega) ⟨q, fun x => if 0 ≤ x ∧ x < m then f x else 0, rfl, ?_, fun i a c => if_pos ⟨a, c⟩⟩
    have e : va_cpy (rowI f) (rowI (fun _ => 0)) (iI 0).toNatClampNeg (iI 0).toNatClampNeg (iI (m : Int)).toNatClampNeg = rowI (fun x => if 0 ≤ x ∧ x < m then f x else 0) := by
      funext i
      unfold va_cpy rowI
      rw [hcm, hc0]
      by_cases g : i < m
      · rw [if_pos (by omega)]
        show iI (f ((0 + (i - 0) : Nat) : Int)) = iI (if 0 ≤ (i : Int) ∧ (i : Int) < m then f i else 0)
        rw [if_pos (by omega), show 0 + (i - 0) = i by omega]
      · rw [if_neg (by omega)]
        show iI 0 = iI (if 0 ≤ (i : Int) ∧ (i : Int) < m then f i else 0)
        rw [if_neg (by omega)]
    show ([(b, .inl (Z.2 0, 3, .inl (rowI f))), (q, .inl (Z.2 0, m, .inl (va_cpy (rowI f) (rowI (fun _ => 0)) (iI 0).toNatClampNeg (iI 0).toNatClampNeg (iI (m : Int)).toNatClampNeg)))] : va_W) = _
    rw [e]
  · have e3 : m = 3 := by omega
    subst e3
    refine g_aload_n 0 dJ7_copyOf_59c91_6 rfl rfl ?_
    refine g_clone 0 rfl dJ7_copyOf_59c91_7 rfl (Nat.le_of_ble_eq_true rfl) (Nat.le_of_ble_eq_true rfl) (Nat.le_of_ble_eq_true rfl) (Nat.le_of_ble_eq_true rfl) (fun q => ?_)
    refine g_castI 1 dJ7_copyOf_59c91_10 clJ7_317 rfl ?_
    exact g_aret dJ7_copyOf_59c91_13 rfl (Or.inr ⟨_, rfl⟩) (Or.inr ⟨_, rfl⟩) (Nat.le_of_ble_eq_true rfl) (Nat.le_of_ble_eq_true rfl) ⟨q, f, rfl, rfl, fun _ _ _ => rfl⟩
set_option maxHeartbeats 4000000 in
set_option maxRecDepth 100000 in
theorem k_codes (Z : LZ) (c1 c2 c3 : Int) (h1 : Rg c1) (h2 : Rg c2) (h3 : Rg c3) : Tr Z jX8_codesAheadOfNone [.int (iI c1), .int (iI c2), .int (iI c3)] ([]) (fun r w => ∃ (q : Nat) (g : Int → Int), r = some (.ref q) ∧ w = [(q, .inl (Z.2 0, (cl3 c1 c2 c3).toNat, .inl (rowI g)))] ∧ ∀ i : Int, 0 ≤ i → i < cl3 c1 c2 c3 → g i = f3 c1 c2 c3 i) := by
  refine tr_of pn_X8_codesAheadOfNone (Nat.le_of_ble_eq_true rfl) (by intro v h; simp only [List.mem_cons, List.not_mem_nil, or_false] at h; rcases h with h | h | h <;> rw [h] <;> rfl) ?_
  have hcl := cl3_rg c1 c2 c3
  refine g_iconst (iI 3) dX8_codesAheadOfNone_0 rfl ?_
  refine g_newI 3 dX8_codesAheadOfNone_1 (by decide) (Nat.le_of_ble_eq_true rfl) (Nat.le_of_ble_eq_true rfl) (fun q => ?_)
  refine g_dup dX8_codesAheadOfNone_3 rfl ?_
  refine g_iconst (iI 0) dX8_codesAheadOfNone_4 rfl ?_
  refine g_iload_n 0 dX8_codesAheadOfNone_5 rfl rfl ?_
  refine gi_iast 0 dX8_codesAheadOfNone_6 rfl (by decide) (by decide) (by decide) rfl ?_
  refine g_dup dX8_codesAheadOfNone_7 rfl ?_
  refine g_iconst (iI 1) dX8_codesAheadOfNone_8 rfl ?_
  refine g_iload_n 1 dX8_codesAheadOfNone_9 rfl rfl ?_
  refine gi_iast 0 dX8_codesAheadOfNone_10 rfl (by decide) (by decide) (by decide) rfl ?_
  refine g_dup dX8_codesAheadOfNone_11 rfl ?_
  refine g_iconst (iI 2) dX8_codesAheadOfNone_12 rfl ?_
  refine g_iload_n 2 dX8_codesAheadOfNone_13 rfl rfl ?_
  refine gi_iast 0 dX8_codesAheadOfNone_14 rfl (by decide) (by decide) (by decide) rfl ?_
  refine g_astore_n 3 dX8_codesAheadOfNone_15 rfl (Nat.le_of_ble_eq_true rfl) (Nat.le_of_ble_eq_true rfl) rfl ?_
  dsimp only [sto]
  refine g_iconst (iI 0) dX8_codesAheadOfNone_16 rfl ?_
  refine g_istore dX8_codesAheadOfNone_17 (Nat.le_of_ble_eq_true rfl) (Nat.le_of_ble_eq_true rfl) rfl ?_
  dsimp only [sto]
  have hf : ∀ i : Int, 0 ≤ i → i < 3 → upI (upI (upI (fun _ => 0) 0 c1) 1 c2) 2 c3 i = f3 c1 c2 c3 i := by
    intro i a b
    have : i = 0 ∨ i = 1 ∨ i = 2 := by omega
    rcases this with rfl | rfl | rfl <;> rfl
  show G Z jX8_codesAheadOfNone E0 (QM Z jX8_codesAheadOfNone (fun r w => ∃ (q : Nat) (g : Int → Int), r = some (.ref q) ∧ w = [(q, .inl (Z.2 0, (cl3 c1 c2 c3).toNat, .inl (rowI g)))] ∧ ∀ i : Int, 0 ≤ i → i < cl3 c1 c2 c3 → g i = f3 c1 c2 c3 i)) 19 [.int (iI c1), .int (iI c2), .int (iI c3), .ref q, .int (iI 0)] [] [(q, .inl (Z.2 0, 3, .inl (rowI (upI (upI (upI (fun _ => 0) 0 c1) 1 c2) 2 c3))))] 1 3
  generalize upI (upI (upI (fun _ => 0) 0 c1) 1 c2) 2 c3 = f at hf ⊢
  have hrg : ∀ i : Int, 0 ≤ i → i < 3 → Rg (f i) := by
    intro i a b
    rw [hf i a b]
    unfold f3
    split
    · exact h1
    · split
      · exact h2
      · exact h3
  have fin : ∀ x : Int, x = cl3 c1 c2 c3 → G Z jX8_codesAheadOfNone E0 (QM Z jX8_codesAheadOfNone (fun r w => ∃ (q : Nat) (g : Int → Int), r = some (.ref q) ∧ w = [(q, .inl (Z.2 0, (cl3 c1 c2 c3).toNat, .inl (rowI g)))] ∧ ∀ i : Int, 0 ≤ i → i < cl3 c1 c2 c3 → g i = f3 c1 c2 c3 i)) 40 [.int (iI c1), .int (iI c2), .int (iI c3), .ref q, .int (iI x)] [] [(q, .inl (Z.2 0, 3, .inl (rowI f)))] 1 3 := by
    intro x hx
    subst hx
    refine g_aload_n 3 dX8_codesAheadOfNone_40 rfl rfl ?_
    refine g_iload dX8_codesAheadOfNone_41 rfl ?_
    refine g_callS (wr := []) [0] [] lkX8_253 (k_copyOf Z q (cl3 c1 c2 c3).toNat (by omega) f) dX8_codesAheadOfNone_43 (And.intro (Nat.le_of_ble_eq_true rfl) (Nat.le_of_ble_eq_true rfl)) rfl rfl rfl (fun i h => by cases h) rfl (Nat.le_of_ble_eq_true rfl) (Nat.le_of_ble_eq_true rfl) (Nat.le_of_ble_eq_true rfl) (fun r w2 h => ?_) (by rw [show (((cl3 c1 c2 c3).toNat : Nat) : Int) = cl3 c1 c2 c3 by omega]; rfl)
    obtain ⟨q2, g, rfl, rfl, hg⟩ := h
    refine g_sub (ws2 := [(q2, .inl (Z.2 0, (cl3 c1 c2 c3).toNat, .inl (rowI g)))]) [1] rfl rfl ?_
    exact g_aret dX8_codesAheadOfNone_46 rfl (Or.inr ⟨_, rfl⟩) (Or.inr ⟨_, rfl⟩) (Nat.le_of_ble_eq_true rfl) (Nat.le_of_ble_eq_true rfl) ⟨q2, g, rfl, rfl, fun i a b => by rw [hg i a (by omega), hf i a (by omega)]⟩
  refine g_iload dX8_codesAheadOfNone_19 rfl ?_
  refine g_aload_n 3 dX8_codesAheadOfNone_21 rfl rfl ?_
  refine g_alen 0 0 (iI 3) dX8_codesAheadOfNone_22 rfl rfl rfl ?_
  refine gi_icmp_ge 40 dX8_codesAheadOfNone_23 (by decide) ⟨by decide, by decide⟩ ⟨by decide, by decide⟩ (fun cc => absurd cc (by decide)) (fun _ => ?_)
  refine g_aload_n 3 dX8_codesAheadOfNone_26 rfl rfl ?_
  refine g_iload dX8_codesAheadOfNone_27 rfl ?_
  refine gi_iald 0 dX8_codesAheadOfNone_29 rfl (by decide) (by decide) (by decide) ?_
  refine g_iconst (iI (-1)) dX8_codesAheadOfNone_30 rfl ?_
  refine gi_icmp_eq 40 dX8_codesAheadOfNone_31 (by decide) (hrg _ (by decide) (by decide)) ⟨by decide, by decide⟩ (fun n0 => ?_) (fun n0 => ?_)
  · rw [hf 0 (by decide) (by decide)] at n0
    have n0' : c1 = -1 := n0
    have ec : cl3 c1 c2 c3 = 0 := by unfold cl3; rw [if_pos n0']
    exact fin _ ec.symm
  · rw [hf 0 (by decide) (by decide)] at n0
    have n0 : ¬ c1 = -1 := n0
    refine gi_inc dX8_codesAheadOfNone_34 rfl (Nat.le_of_ble_eq_true rfl) rfl ?_
    dsimp only [sto]
    refine g_goto 19 dX8_codesAheadOfNone_37 (by decide) ?_
    show G Z jX8_codesAheadOfNone E0 (QM Z jX8_codesAheadOfNone (fun r w => ∃ (q : Nat) (g : Int → Int), r = some (.ref q) ∧ w = [(q, .inl (Z.2 0, (cl3 c1 c2 c3).toNat, .inl (rowI g)))] ∧ ∀ i : Int, 0 ≤ i → i < cl3 c1 c2 c3 → g i = f3 c1 c2 c3 i)) 19 [.int (iI c1), .int (iI c2), .int (iI c3), .ref q, .int (iI 1)] [] [(q, .inl (Z.2 0, 3, .inl (rowI f)))] 1 3
    refine g_iload dX8_codesAheadOfNone_19 rfl ?_
    refine g_aload_n 3 dX8_codesAheadOfNone_21 rfl rfl ?_
    refine g_alen 0 0 (iI 3) dX8_codesAheadOfNone_22 rfl rfl rfl ?_
    refine gi_icmp_ge 40 dX8_codesAheadOfNone_23 (by decide) ⟨by decide, by decide⟩ ⟨by decide, by decide⟩ (fun cc => absurd cc (by decide)) (fun _ => ?_)
    refine g_aload_n 3 dX8_codesAheadOfNone_26 rfl rfl ?_
    refine g_iload dX8_codesAheadOfNone_27 rfl ?_
    refine gi_iald 0 dX8_codesAheadOfNone_29 rfl (by decide) (by decide) (by decide) ?_
    refine g_iconst (iI (-1)) dX8_codesAheadOfNone_30 rfl ?_
    refine gi_icmp_eq 40 dX8_codesAheadOfNone_31 (by decide) (hrg _ (by decide) (by decide)) ⟨by decide, by decide⟩ (fun n1 => ?_) (fun n1 => ?_)
    · rw [hf 1 (by decide) (by decide)] at n1
      have n1' : c2 = -1 := n1
      have ec : cl3 c1 c2 c3 = 1 := by unfold cl3; rw [if_neg n0, if_pos n1']
      exact fin _ ec.symm
    · rw [hf 1 (by decide) (by decide)] at n1
      have n1 : ¬ c2 = -1 := n1
      refine gi_inc dX8_codesAheadOfNone_34 rfl (Nat.le_of_ble_eq_true rfl) rfl ?_
      dsimp only [sto]
      refine g_goto 19 dX8_codesAheadOfNone_37 (by decide) ?_
      show G Z jX8_codesAheadOfNone E0 (QM Z jX8_codesAheadOfNone (fun r w => ∃ (q : Nat) (g : Int → Int), r = some (.ref q) ∧ w = [(q, .inl (Z.2 0, (cl3 c1 c2 c3).toNat, .inl (rowI g)))] ∧ ∀ i : Int, 0 ≤ i → i < cl3 c1 c2 c3 → g i = f3 c1 c2 c3 i)) 19 [.int (iI c1), .int (iI c2), .int (iI c3), .ref q, .int (iI 2)] [] [(q, .inl (Z.2 0, 3, .inl (rowI f)))] 1 3
      refine g_iload dX8_codesAheadOfNone_19 rfl ?_
      refine g_aload_n 3 dX8_codesAheadOfNone_21 rfl rfl ?_
      refine g_alen 0 0 (iI 3) dX8_codesAheadOfNone_22 rfl rfl rfl ?_
      refine gi_icmp_ge 40 dX8_codesAheadOfNone_23 (by decide) ⟨by decide, by decide⟩ ⟨by decide, by decide⟩ (fun cc => absurd cc (by decide)) (fun _ => ?_)
      refine g_aload_n 3 dX8_codesAheadOfNone_26 rfl rfl ?_
      refine g_iload dX8_codesAheadOfNone_27 rfl ?_
      refine gi_iald 0 dX8_codesAheadOfNone_29 rfl (by decide) (by decide) (by decide) ?_
      refine g_iconst (iI (-1)) dX8_codesAheadOfNone_30 rfl ?_
      refine gi_icmp_eq 40 dX8_codesAheadOfNone_31 (by decide) (hrg _ (by decide) (by decide)) ⟨by decide, by decide⟩ (fun n2 => ?_) (fun n2 => ?_)
      · rw [hf 2 (by decide) (by decide)] at n2
        have n2' : c3 = -1 := n2
        have ec : cl3 c1 c2 c3 = 2 := by unfold cl3; rw [if_neg n0, if_neg n1, if_pos n2']
        exact fin _ ec.symm
      · rw [hf 2 (by decide) (by decide)] at n2
        have n2 : ¬ c3 = -1 := n2
        refine gi_inc dX8_codesAheadOfNone_34 rfl (Nat.le_of_ble_eq_true rfl) rfl ?_
        dsimp only [sto]
        refine g_goto 19 dX8_codesAheadOfNone_37 (by decide) ?_
        show G Z jX8_codesAheadOfNone E0 (QM Z jX8_codesAheadOfNone (fun r w => ∃ (q : Nat) (g : Int → Int), r = some (.ref q) ∧ w = [(q, .inl (Z.2 0, (cl3 c1 c2 c3).toNat, .inl (rowI g)))] ∧ ∀ i : Int, 0 ≤ i → i < cl3 c1 c2 c3 → g i = f3 c1 c2 c3 i)) 19 [.int (iI c1), .int (iI c2), .int (iI c3), .ref q, .int (iI 3)] [] [(q, .inl (Z.2 0, 3, .inl (rowI f)))] 1 3
        refine g_iload dX8_codesAheadOfNone_19 rfl ?_
        refine g_aload_n 3 dX8_codesAheadOfNone_21 rfl rfl ?_
        refine g_alen 0 0 (iI 3) dX8_codesAheadOfNone_22 rfl rfl rfl ?_
        refine gi_icmp_ge 40 dX8_codesAheadOfNone_23 (by decide) ⟨by decide, by decide⟩ ⟨by decide, by decide⟩ (fun _ => ?_) (fun cc => absurd cc (by decide))
        have ec : cl3 c1 c2 c3 = 3 := by unfold cl3; rw [if_neg n0, if_neg n1, if_neg n2]
        exact fin _ ec.symm
def gdC (g : Int → Int) (m : Nat) : Bool := decide (0 < m) && allB (fun i => decide (0 ≤ g i ∧ g i ≤ 255)) 0 m
set_option maxHeartbeats 4000000 in
set_option maxRecDepth 100000 in
theorem k_arePut (Z : LZ) (b m : Nat) (hm : m ≤ 3) (g : Int → Int) (hg : ∀ i : Int, 0 ≤ i → i < m → Rg (g i)) : Tr Z jX8_arePutCodes [.ref b] ([(b, .inl (Z.2 0, m, .inl (rowI g)))]) (fun r w => r = some (.int (iI (bI (gdC g m)))) ∧ w = [(b, .inl (Z.2 0, m, .inl (rowI g)))]) := by
  refine tr_of pn_X8_arePutCodes (Nat.le_of_ble_eq_true rfl) (by intro v h; simp only [List.mem_cons, List.not_mem_nil, or_false] at h; rw [h]; rfl) ?_
  have loop : ∀ (fuel i : Nat), m - i < fuel → i ≤ m → allB (fun i => decide (0 ≤ g i ∧ g i ≤ 255)) 0 i = true → G Z jX8_arePutCodes E0 (QM Z jX8_arePutCodes (fun r w => r = some (.int (iI (bI (gdC g m)))) ∧ w = [(b, .inl (Z.2 0, m, .inl (rowI g)))])) 2 [.ref b, .int (iI (i : Int))] [] ([(b, .inl (Z.2 0, m, .inl (rowI g)))]) 0 0 := by
    intro fuel
    induction fuel with
    | zero => intros; exfalso; omega
    | succ fuel ih =>
      intro i hf h1 hal
      refine g_iload_n 1 dX8_arePutCodes_2 rfl rfl ?_
      refine g_aload_n 0 dX8_arePutCodes_3 rfl rfl ?_
      refine g_alen 0 0 (iI (m : Int)) dX8_arePutCodes_4 rfl rfl (iI_nat m).symm ?_
      refine gi_icmp_ge 31 dX8_arePutCodes_5 (by decide) ⟨by omega, by omega⟩ ⟨by omega, by omega⟩ (fun c5 => ?_) (fun c5 => ?_)
      · have ei : i = m := by omega
        subst ei
        refine g_aload_n 0 dX8_arePutCodes_31 rfl rfl ?_
        refine g_alen 0 0 (iI (i : Int)) dX8_arePutCodes_32 rfl rfl (iI_nat i).symm ?_
        refine gi_if_le 40 dX8_arePutCodes_33 (by decide) ⟨by omega, by omega⟩ (fun c33 => ?_) (fun c33 => ?_)
        · refine g_iconst (iI 0) dX8_arePutCodes_40 rfl ?_
          refine g_zret dX8_arePutCodes_41 rfl (narrow_bool (Or.inl rfl)) (Nat.le_of_ble_eq_true rfl) (Nat.le_of_ble_eq_true rfl) ⟨?_, rfl⟩
          unfold gdC
          rw [decide_eq_false (by omega)]
          rfl
        · refine g_iconst (iI 1) dX8_arePutCodes_36 rfl ?_
          refine g_goto 41 dX8_arePutCodes_37 (by decide) ?_
          refine g_zret dX8_arePutCodes_41 rfl (narrow_bool (Or.inr rfl)) (Nat.le_of_ble_eq_true rfl) (Nat.le_of_ble_eq_true rfl) ⟨?_, rfl⟩
          unfold gdC
          rw [decide_eq_true (by omega), hal]
          rfl
      have hr := hg i (by omega) (by omega)
      refine g_aload_n 0 dX8_arePutCodes_8 rfl rfl ?_
      refine g_iload_n 1 dX8_arePutCodes_9 rfl rfl ?_
      refine gi_iald 0 dX8_arePutCodes_10 rfl (by omega) (by omega) (by omega) ?_
      refine gi_if_lt 23 dX8_arePutCodes_11 (by decide) hr (fun c11 => ?_) (fun c11 => ?_)
      · have hf : gdC g m = false := by
          unfold gdC
          cases e : allB (fun i => decide (0 ≤ g i ∧ g i ≤ 255)) 0 m
          · simp
          · have := (allB_iff _).mp e i (by omega) (by omega)
            have := of_decide_eq_true this
            omega
        refine g_iconst (iI 0) dX8_arePutCodes_23 rfl ?_
        refine g_zret dX8_arePutCodes_24 rfl (narrow_bool (Or.inl rfl)) (Nat.le_of_ble_eq_true rfl) (Nat.le_of_ble_eq_true rfl) ⟨?_, rfl⟩
        rw [hf]
        rfl
      refine g_aload_n 0 dX8_arePutCodes_14 rfl rfl ?_
      refine g_iload_n 1 dX8_arePutCodes_15 rfl rfl ?_
      refine gi_iald 0 dX8_arePutCodes_16 rfl (by omega) (by omega) (by omega) ?_
      refine g_sipush (iI 255) dX8_arePutCodes_17 (by decide) ?_
      refine gi_icmp_le 25 dX8_arePutCodes_20 (by decide) hr ⟨by decide, by decide⟩ (fun c20 => ?_) (fun c20 => ?_)
      · refine gi_inc dX8_arePutCodes_25 rfl (Nat.le_of_ble_eq_true rfl) rfl ?_
        dsimp only [sto]
        refine g_goto 2 dX8_arePutCodes_28 (by decide) ?_
        refine ih (i + 1) (by omega) (by omega) ?_
        unfold allB
        rw [hal, Int.zero_add, decide_eq_true (by omega)]
        rfl
      · have hf : gdC g m = false := by
          unfold gdC
          cases e : allB (fun i => decide (0 ≤ g i ∧ g i ≤ 255)) 0 m
          · simp
          · have := (allB_iff _).mp e i (by omega) (by omega)
            have := of_decide_eq_true this
            omega
        refine g_iconst (iI 0) dX8_arePutCodes_23 rfl ?_
        refine g_zret dX8_arePutCodes_24 rfl (narrow_bool (Or.inl rfl)) (Nat.le_of_ble_eq_true rfl) (Nat.le_of_ble_eq_true rfl) ⟨?_, rfl⟩
        rw [hf]
        rfl
  refine g_iconst (iI 0) dX8_arePutCodes_0 rfl ?_
  refine g_istore_n 1 dX8_arePutCodes_1 rfl (Nat.le_of_ble_eq_true rfl) (Nat.le_of_ble_eq_true rfl) rfl ?_
  dsimp only [sto]
  exact loop (m + 1) 0 (by omega) (by omega) rfl
