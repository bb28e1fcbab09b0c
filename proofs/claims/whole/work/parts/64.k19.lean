/-! THE CLASS: worlds that grow, constructors of slips, namesFrom -/
def WC (Z : LZ) (ws ws2 : va_W) : Prop := ws2.length = ws.length ∧ ∀ (j : Nat) (q2 : Nat × va_E), ws2[j]? = some q2 → ∃ q, ws[j]? = some q ∧ q.1 = q2.1 ∧ ∀ H : Heap, va_at Z.1 vwCl q H → va_at Z.1 vwCl q2 H
theorem WC.refl (Z : LZ) (ws : va_W) : WC Z ws ws := ⟨rfl, fun _ q2 h => ⟨q2, h, rfl, fun _ h => h⟩⟩
theorem WC.app {Z : LZ} {a b c d : va_W} (h : WC Z a b) (g : WC Z c d) : WC Z (a ++ c) (b ++ d) := by
  refine ⟨by rw [List.length_append, List.length_append, h.1, g.1], fun j q2 hq => ?_⟩
  by_cases e : j < b.length
  · rw [List.getElem?_append_left e] at hq
    obtain ⟨q, h1, h2⟩ := h.2 j q2 hq
    exact ⟨q, by rw [List.getElem?_append_left (by rw [← h.1]; exact e)]; exact h1, h2⟩
  · rw [List.getElem?_append_right (by omega), h.1] at hq
    obtain ⟨q, h1, h2⟩ := g.2 _ q2 hq
    exact ⟨q, by rw [List.getElem?_append_right (by rw [← h.1]; omega)]; exact h1, h2⟩
theorem WC.one {Z : LZ} {b : Nat} {c d : va_E} (h : ∀ H : Heap, va_at Z.1 vwCl (b, c) H → va_at Z.1 vwCl (b, d) H) : WC Z [(b, c)] [(b, d)] := by
  refine ⟨rfl, fun j q2 hq => ?_⟩
  cases j with
  | zero =>
    have : (b, d) = q2 := Option.some.inj hq
    subst this
    exact ⟨_, rfl, rfl, h⟩
  | succ j => cases hq
theorem WC.arr {Z : LZ} {b n : Nat} {f g : Nat → Int32} (h : ∀ i : Nat, i < n → f i = g i) : WC Z [(b, .inl (Z.2 0, n, .inl f))] [(b, .inl (Z.2 0, n, .inl g))] := by
  refine WC.one (fun H hH => ?_)
  have hc : vp_cell (Z.2 0) (n, .inl g) = vp_cell (Z.2 0) (n, .inl f) := by
    show arrV (Z.2 0) n (fun j => .int (g j)) = arrV (Z.2 0) n (fun j => .int (f j))
    unfold arrV
    congr 1
    congr 1
    funext j
    show Value.int (g j) = Value.int (f j)
    rw [h j.1 j.2]
  show H[b]? = some (vp_cell (Z.2 0) (n, .inl g))
  rw [hc]
  exact hH
theorem sW_WC {Z : LZ} {D E : Mem} {p : Int} {sa sb sa2 sb2 : Nat → Nat} {N : Nat} (hx : Ext D E p) (h9 : D 9 0 = N) (hS : ∀ s : Nat, s < N → okS D s) (ha : ∀ s : Nat, s < N → sa2 s = sa s) (hb : ∀ s : Nat, s < N → sb2 s = sb s) : ∀ k : Nat, k ≤ N → WC Z (sW Z D sa sb k) (sW Z E sa2 sb2 k) := by
  intro k
  induction k with
  | zero => intro _; exact WC.refl Z []
  | succ k ih =>
    intro hk
    have e : ∀ r : Nat, (r = 0 ∨ r = 1 ∨ r = 2 ∨ r = 3 ∨ r = 6 ∨ r = 7 ∨ r = 8) → E r k = D r k := fun r hr => hx.2.1 r hr k (by omega) (by omega)
    have e0 := e 0 (by decide)
    have e1 := e 1 (by decide)
    have e2 := e 2 (by decide)
    have e3 := e 3 (by decide)
    have e6 := e 6 (by decide)
    have e7 := e 7 (by decide)
    have e8 := e 8 (by decide)
    have hp : pri E k = pri D k := by
      unfold pri
      rw [e0]
      exact latestF_congr _ (fun t a b => hx.2.1 0 (by decide) t a (by omega))
    have hc : slC E sb2 k = slC D sb k := by
      unfold slC
      rw [e0, e1, e2, e6, e7, e8, hp, hb k (by omega), hx.2.2.1 (12 * k) (by omega), hx.2.2.1 (12 * k + 1) (by omega)]
    have hd := (hS k (by omega)).d3
    have hd2 := (hS k (by omega)).2.2.1
    rw [sW_succ, sW_succ, hc, ha k (by omega), hb k (by omega), e2]
    by_cases gg : D 2 k = 0 ∨ D 2 k = 1
    · rw [if_pos gg, if_pos gg]
      refine (ih (by omega)).app (WC.app (a := [(sa k, slC D sb k)]) (b := [(sa k, slC D sb k)]) (WC.refl Z _) ?_)
      unfold slA
      rw [e3]
      refine WC.arr (fun i hi => ?_)
      unfold rowI
      rw [e2]
      by_cases g : D 2 k = 0
      · rw [if_pos g, if_pos g]
        show iI (D 5 (4 * k + i)) = iI (E 5 (4 * k + i))
        have := hd2 g
        rw [hx.2.2.2.1 _ (by omega)]
      · rw [if_neg g, if_neg g]
        show iI (D 4 (12 * k + i)) = iI (E 4 (12 * k + i))
        rw [hx.2.2.1 _ (by omega)]
    · rw [if_neg gg, if_neg gg]
      exact (ih (by omega)).app (WC.refl Z _)
theorem pre_all {α : Type} (P R : List α) : (List.range P.length).map (fun i => (P ++ R)[i]?) = P.map some := by
  rw [← range_all P]
  refine List.map_congr_left (fun i hi => ?_)
  exact List.getElem?_append_left (List.mem_range.mp hi)
theorem cW_app (Z : LZ) (a : Nat → Nat) (C : Mem) (fS fA : Nat → Option Nat) (W R : va_W) : cW Z a C fS fA (W ++ R) = cW Z a C fS fA W ++ R := rfl
theorem cW_nil (Z : LZ) (a : Nat → Nat) (C : Mem) (fS fA : Nat → Option Nat) (W : va_W) : cW Z a C fS fA W = cW Z a C fS fA [] ++ W := rfl
section GRows
variable {Z : LZ} {J : MD} {E : State → Array Value → (Nat → Prop) → Prop} {Q : List Frame → Array Value → State → (Nat → Prop) → State → Prop} {pc : Nat} {ls st : List Value} {k n : Nat} {ws : va_W}
theorem g_cong {ws2 : va_W} (h : WC Z ws ws2) (K : G Z J E Q pc ls st ws2 k n) : G Z J E Q pc ls st ws k n := by
  intro p l e s m args below meth c A H locs lsA C hE hP hD hS hL
  refine K p l e s m args below meth c A H locs lsA C hE (fun j q2 hq => ?_) ⟨fun i j x y hx hy hxy => ?_, fun j q2 hq => ?_⟩ hS hL
  · obtain ⟨q, h1, h2, h3⟩ := h.2 j q2 hq
    exact h3 H (hP j q h1)
  · obtain ⟨x2, a1, a2, a3⟩ := h.2 i x hx
    obtain ⟨y2, b1, b2, b3⟩ := h.2 j y hy
    exact hD.1 i j x2 y2 a1 b1 (by rw [a2, b2]; exact hxy)
  · obtain ⟨q, h1, h2, h3⟩ := h.2 j q2 hq
    rw [← h2]
    exact hD.2 j q h1
theorem g_dropW (P R : va_W) (K : G Z J E Q pc ls st P k n) : G Z J E Q pc ls st (P ++ R) k n := g_sub (List.range P.length) (nd_range _) (pre_all P R) K
theorem g_swap (P : va_W) (x y : Nat × va_E) (K : G Z J E Q pc ls st (P ++ [y, x]) k n) : G Z J E Q pc ls st (P ++ [x, y]) k n := by
  refine g_sub (List.range P.length ++ [P.length + 1, P.length]) (nd_of _ ?_) ?_ K
  · rw [List.nodup_append]
    refine ⟨List.nodup_range, by simp, fun a ha b hb => ?_⟩
    have := List.mem_range.mp ha
    simp only [List.mem_cons, List.not_mem_nil, or_false] at hb
    omega
  · rw [List.map_append, pre_all, List.map_append]
    congr 1
    simp
theorem g_callIF {post : Option Value → va_W → Prop} {J2 : MD} {As : List Value} {b i : Nat} (hlk : lkI J.1.cls i J2 As.length) (hT : Tr Z J2 (.ref b :: As) ws post) (d : decode J.2.1 pc = .ok (.invokespecial i, 3)) (hfit : fitR J J2) (hst : (st.map fun v => v.category).sum ≤ 8) (h1 : k + J2.2.2.2.2.cells ≤ J.2.2.2.2.cells) (h2 : n + J2.2.2.2.2.slots ≤ J.2.2.2.2.slots)
    (K : ∀ (r : Option Value) (w2 : va_W), post r w2 → G Z J E Q (pc + 3) ls (r.toList ++ st) w2 (k + J2.2.2.2.2.cells) (n + J2.2.2.2.2.slots)) {st2 : List Value} (hs : As.reverse ++ .ref b :: st = st2) : G Z J E Q pc ls st2 ws k n :=
  g_callI (wr := []) (List.range ws.length) [] hlk hT d hfit (range_all ws) rfl rfl (fun i h => by cases h) (nd_range _) hst h1 h2 K hs
theorem ckI {J2 : MD} {As : List Value} {b i : Nat} {w3 : va_W} (hlk : lkI J.1.cls i J2 As.length) (hT : Tr Z J2 (.ref b :: As) ws (fun r w => r = none ∧ w = w3)) (d : decode J.2.1 pc = .ok (.invokespecial i, 3)) (hfit : fitR J J2) (hst : (st.map fun v => v.category).sum ≤ 8) (h1 : J2.2.2.2.2.cells = 0) (h2 : J2.2.2.2.2.slots = 0) (h3 : k ≤ J.2.2.2.2.cells) (h4 : n ≤ J.2.2.2.2.slots) {st2 : List Value} (hs : As.reverse ++ .ref b :: st = st2) (K : G Z J E Q (pc + 3) ls st w3 k n) : G Z J E Q pc ls st2 ws k n := by
  refine g_callIF hlk hT d hfit hst (by omega) (by omega) (fun r w2 h => ?_) hs
  obtain ⟨rfl, rfl⟩ := h
  rw [h1, h2]
  exact K
end GRows
theorem he_last {Z : LZ} {a : Nat → Nat} {C : Mem} {fS fA : Nat → Option Nat} {W : va_W} {q : Nat} {c : va_E} : (cW Z a C fS fA (W ++ [(q, c)]))[W.length + 39]? = some (q, c) := by
  rw [cW_off, List.getElem?_append_right (Nat.le_refl _), Nat.sub_self]
  rfl
theorem set_last {Z : LZ} {a : Nat → Nat} {C : Mem} {fS fA : Nat → Option Nat} {W : va_W} {q : Nat} {c c2 : va_E} : (cW Z a C fS fA (W ++ [(q, c)])).set (W.length + 39) (q, c2) = cW Z a C fS fA (W ++ [(q, c2)]) := by
  rw [cW_nil Z a C fS fA (W ++ [(q, c)]), cW_nil Z a C fS fA (W ++ [(q, c2)])]
  rw [List.set_append_right _ _ (by show 39 ≤ _; omega)]
  congr 1
  rw [show W.length + 39 - (cW Z a C fS fA []).length = W.length from Nat.add_sub_cancel _ 39]
  rw [List.set_append_right _ _ (Nat.le_refl _), Nat.sub_self]
  rfl
set_option maxHeartbeats 4000000 in
set_option maxRecDepth 100000 in
theorem k_sinit2 (Z : LZ) (a : Nat → Nat) (C : Mem) (fS fA : Nat → Option Nat) (W : va_W) (q : Nat) (m : Int) (p : Nat) (hp : p < 6) (x0 x1 : Value) : Tr Z jX5_init [.ref q, .int (iI m), .ref (a (110 + p))] (cW Z a C fS fA (W ++ [(q, .inr (2, [.int (iI 0), .int (iI 0), .int (iI 0), .int (iI 0), x0, x1]))])) (fun r w => r = none ∧ w = (cW Z a C fS fA (W ++ [(q, .inr (2, [.int (iI m), .int (iI (p : Int)), .int (iI (C (50 + p) 0 + 1)), .int (iI (C (60 + p) 0)), x0, x1]))]))) := by
  refine tr_of pn_X5_init (Nat.le_of_ble_eq_true rfl) (by intro v h; simp only [List.mem_cons, List.not_mem_nil, or_false] at h; rcases h with h | h | h <;> rw [h] <;> rfl) ?_
  refine g_aload_n 0 dX5_init_0 rfl rfl ?_
  refine g_objInit dX5_init_1 oi_X5 (Nat.le_of_ble_eq_true rfl) (Nat.le_of_ble_eq_true rfl) ?_
  refine g_aload_n 0 dX5_init_4 rfl rfl ?_
  refine g_iload_n 1 dX5_init_5 rfl rfl ?_
  refine g_putF 2 (W.length + 39) 0 tyX2 dX5_init_6 rfl fwX2 tyX2_ok nmX2 (by decide) flX5_7 rfl rfl rfl he_last rfl rfl (by show 0 < 6; decide) set_last ?_
  refine g_aload_n 0 dX5_init_9 rfl rfl ?_
  refine g_aload_n 2 dX5_init_10 rfl rfl ?_
  refine cg_sh_pen p hp dX5_init_11 flX5_13 ?_
  refine g_putF 2 (W.length + 39) 1 tyX2 dX5_init_14 rfl fwX2 tyX2_ok nmX2 (by decide) flX5_18 rfl rfl rfl he_last rfl rfl (by show 1 < 6; decide) set_last ?_
  refine g_aload_n 0 dX5_init_17 rfl rfl ?_
  refine g_aload_n 2 dX5_init_18 rfl rfl ?_
  refine cg_sh_greatestStamp p hp dX5_init_19 flX5_19 ?_
  refine g_iconst (iI 1) dX5_init_22 rfl ?_
  refine gi_add dX5_init_23 ?_
  refine g_putF 2 (W.length + 39) 2 tyX2 dX5_init_24 rfl fwX2 tyX2_ok nmX2 (by decide) flX5_22 rfl rfl rfl he_last rfl rfl (by show 2 < 6; decide) set_last ?_
  refine g_aload_n 0 dX5_init_27 rfl rfl ?_
  refine g_aload_n 2 dX5_init_28 rfl rfl ?_
  refine cg_sh_lastMade p hp dX5_init_29 flX5_25 ?_
  refine g_putF 2 (W.length + 39) 3 tyX2 dX5_init_32 rfl fwX2 tyX2_ok nmX2 (by decide) flX5_28 rfl rfl rfl he_last rfl rfl (by show 3 < 6; decide) set_last ?_
  exact g_vret dX5_init_35 rfl (Nat.le_of_ble_eq_true rfl) (Nat.le_of_ble_eq_true rfl) ⟨rfl, rfl⟩
set_option maxHeartbeats 4000000 in
set_option maxRecDepth 100000 in
theorem k_init2 (Z : LZ) (a : Nat → Nat) (C : Mem) (fS fA : Nat → Option Nat) (W : va_W) (q : Nat) (m : Int) (p : Nat) (hp : p < 6) (y : Int) (b : Nat) : Tr Z jX2_init [.ref q, .int (iI m), .ref (a (110 + p)), .int (iI y), .ref b] (cW Z a C fS fA (W ++ [(q, .inr (2, [.int (iI 0), .int (iI 0), .int (iI 0), .int (iI 0), .int (iI 0), .null]))])) (fun r w => r = none ∧ w = (cW Z a C fS fA (W ++ [(q, .inr (2, [.int (iI m), .int (iI (p : Int)), .int (iI (C (50 + p) 0 + 1)), .int (iI (C (60 + p) 0)), .int (iI y), .ref b]))]))) := by
  refine tr_of pn_X2_init (Nat.le_of_ble_eq_true rfl) (by intro v h; simp only [List.mem_cons, List.not_mem_nil, or_false] at h; rcases h with h | h | h | h | h <;> rw [h] <;> rfl) ?_
  refine g_aload_n 0 dX2_init_0 rfl rfl ?_
  refine g_iload_n 1 dX2_init_1 rfl rfl ?_
  refine g_aload_n 2 dX2_init_2 rfl rfl ?_
  refine ckI lkX2_3 (k_sinit2 Z a C fS fA W q m p hp (.int (iI 0)) (.null)) dX2_init_3 (And.intro (Nat.le_of_ble_eq_true rfl) (Nat.le_of_ble_eq_true rfl)) (Nat.le_of_ble_eq_true rfl) rfl rfl (Nat.le_of_ble_eq_true rfl) (Nat.le_of_ble_eq_true rfl) rfl ?_
  refine g_aload_n 0 dX2_init_6 rfl rfl ?_
  refine g_iload_n 3 dX2_init_7 rfl rfl ?_
  refine g_putF 2 (W.length + 39) 4 tyX2 dX2_init_8 rfl fwX2 tyX2_ok nmX2 (by decide) flX2_9 rfl rfl rfl he_last rfl rfl (by show 4 < 6; decide) set_last ?_
  refine g_aload_n 0 dX2_init_11 rfl rfl ?_
  refine g_aload dX2_init_12 rfl ?_
  refine g_putF 2 (W.length + 39) 5 tyX2 dX2_init_14 rfl fwX2 tyX2_ok nmX2 (by decide) flX2_15 rfl rfl rfl he_last rfl rfl (by show 5 < 6; decide) set_last ?_
  exact g_vret dX2_init_17 rfl (Nat.le_of_ble_eq_true rfl) (Nat.le_of_ble_eq_true rfl) ⟨rfl, rfl⟩
set_option maxHeartbeats 4000000 in
set_option maxRecDepth 100000 in
theorem k_sinit5 (Z : LZ) (a : Nat → Nat) (C : Mem) (fS fA : Nat → Option Nat) (W : va_W) (q : Nat) (m : Int) (p : Nat) (hp : p < 6) (x0 : Value) : Tr Z jX5_init [.ref q, .int (iI m), .ref (a (110 + p))] (cW Z a C fS fA (W ++ [(q, .inr (5, [.int (iI 0), .int (iI 0), .int (iI 0), .int (iI 0), x0]))])) (fun r w => r = none ∧ w = (cW Z a C fS fA (W ++ [(q, .inr (5, [.int (iI m), .int (iI (p : Int)), .int (iI (C (50 + p) 0 + 1)), .int (iI (C (60 + p) 0)), x0]))]))) := by
  refine tr_of pn_X5_init (Nat.le_of_ble_eq_true rfl) (by intro v h; simp only [List.mem_cons, List.not_mem_nil, or_false] at h; rcases h with h | h | h <;> rw [h] <;> rfl) ?_
  refine g_aload_n 0 dX5_init_0 rfl rfl ?_
  refine g_objInit dX5_init_1 oi_X5 (Nat.le_of_ble_eq_true rfl) (Nat.le_of_ble_eq_true rfl) ?_
  refine g_aload_n 0 dX5_init_4 rfl rfl ?_
  refine g_iload_n 1 dX5_init_5 rfl rfl ?_
  refine g_putF 5 (W.length + 39) 0 tyX6 dX5_init_6 rfl fwX6 tyX6_ok nmX6 (by decide) flX5_7 rfl rfl rfl he_last rfl rfl (by show 0 < 5; decide) set_last ?_
  refine g_aload_n 0 dX5_init_9 rfl rfl ?_
  refine g_aload_n 2 dX5_init_10 rfl rfl ?_
  refine cg_sh_pen p hp dX5_init_11 flX5_13 ?_
  refine g_putF 5 (W.length + 39) 1 tyX6 dX5_init_14 rfl fwX6 tyX6_ok nmX6 (by decide) flX5_18 rfl rfl rfl he_last rfl rfl (by show 1 < 5; decide) set_last ?_
  refine g_aload_n 0 dX5_init_17 rfl rfl ?_
  refine g_aload_n 2 dX5_init_18 rfl rfl ?_
  refine cg_sh_greatestStamp p hp dX5_init_19 flX5_19 ?_
  refine g_iconst (iI 1) dX5_init_22 rfl ?_
  refine gi_add dX5_init_23 ?_
  refine g_putF 5 (W.length + 39) 2 tyX6 dX5_init_24 rfl fwX6 tyX6_ok nmX6 (by decide) flX5_22 rfl rfl rfl he_last rfl rfl (by show 2 < 5; decide) set_last ?_
  refine g_aload_n 0 dX5_init_27 rfl rfl ?_
  refine g_aload_n 2 dX5_init_28 rfl rfl ?_
  refine cg_sh_lastMade p hp dX5_init_29 flX5_25 ?_
  refine g_putF 5 (W.length + 39) 3 tyX6 dX5_init_32 rfl fwX6 tyX6_ok nmX6 (by decide) flX5_28 rfl rfl rfl he_last rfl rfl (by show 3 < 5; decide) set_last ?_
  exact g_vret dX5_init_35 rfl (Nat.le_of_ble_eq_true rfl) (Nat.le_of_ble_eq_true rfl) ⟨rfl, rfl⟩
set_option maxHeartbeats 4000000 in
set_option maxRecDepth 100000 in
theorem k_init5 (Z : LZ) (a : Nat → Nat) (C : Mem) (fS fA : Nat → Option Nat) (W : va_W) (q : Nat) (m : Int) (p : Nat) (hp : p < 6) (b : Nat) : Tr Z jX6_init [.ref q, .int (iI m), .ref (a (110 + p)), .ref b] (cW Z a C fS fA (W ++ [(q, .inr (5, [.int (iI 0), .int (iI 0), .int (iI 0), .int (iI 0), .null]))])) (fun r w => r = none ∧ w = (cW Z a C fS fA (W ++ [(q, .inr (5, [.int (iI m), .int (iI (p : Int)), .int (iI (C (50 + p) 0 + 1)), .int (iI (C (60 + p) 0)), .ref b]))]))) := by
  refine tr_of pn_X6_init (Nat.le_of_ble_eq_true rfl) (by intro v h; simp only [List.mem_cons, List.not_mem_nil, or_false] at h; rcases h with h | h | h | h <;> rw [h] <;> rfl) ?_
  refine g_aload_n 0 dX6_init_0 rfl rfl ?_
  refine g_iload_n 1 dX6_init_1 rfl rfl ?_
  refine g_aload_n 2 dX6_init_2 rfl rfl ?_
  refine ckI lkX6_3 (k_sinit5 Z a C fS fA W q m p hp (.null)) dX6_init_3 (And.intro (Nat.le_of_ble_eq_true rfl) (Nat.le_of_ble_eq_true rfl)) (Nat.le_of_ble_eq_true rfl) rfl rfl (Nat.le_of_ble_eq_true rfl) (Nat.le_of_ble_eq_true rfl) rfl ?_
  refine g_aload_n 0 dX6_init_6 rfl rfl ?_
  refine g_aload_n 3 dX6_init_7 rfl rfl ?_
  refine g_putF 5 (W.length + 39) 4 tyX6 dX6_init_8 rfl fwX6 tyX6_ok nmX6 (by decide) flX6_9 rfl rfl rfl he_last rfl rfl (by show 4 < 5; decide) set_last ?_
  exact g_vret dX6_init_11 rfl (Nat.le_of_ble_eq_true rfl) (Nat.le_of_ble_eq_true rfl) ⟨rfl, rfl⟩
set_option maxHeartbeats 4000000 in
set_option maxRecDepth 100000 in
theorem k_sinit1 (Z : LZ) (a : Nat → Nat) (C : Mem) (fS fA : Nat → Option Nat) (W : va_W) (q : Nat) (m : Int) (p : Nat) (hp : p < 6) (x0 x1 x2 x3 x4 : Value) : Tr Z jX5_init [.ref q, .int (iI m), .ref (a (110 + p))] (cW Z a C fS fA (W ++ [(q, .inr (1, [.int (iI 0), .int (iI 0), .int (iI 0), .int (iI 0), x0, x1, x2, x3, x4]))])) (fun r w => r = none ∧ w = (cW Z a C fS fA (W ++ [(q, .inr (1, [.int (iI m), .int (iI (p : Int)), .int (iI (C (50 + p) 0 + 1)), .int (iI (C (60 + p) 0)), x0, x1, x2, x3, x4]))]))) := by
  refine tr_of pn_X5_init (Nat.le_of_ble_eq_true rfl) (by intro v h; simp only [List.mem_cons, List.not_mem_nil, or_false] at h; rcases h with h | h | h <;> rw [h] <;> rfl) ?_
  refine g_aload_n 0 dX5_init_0 rfl rfl ?_
  refine g_objInit dX5_init_1 oi_X5 (Nat.le_of_ble_eq_true rfl) (Nat.le_of_ble_eq_true rfl) ?_
  refine g_aload_n 0 dX5_init_4 rfl rfl ?_
  refine g_iload_n 1 dX5_init_5 rfl rfl ?_
  refine g_putF 1 (W.length + 39) 0 tyX1 dX5_init_6 rfl fwX1 tyX1_ok nmX1 (by decide) flX5_7 rfl rfl rfl he_last rfl rfl (by show 0 < 9; decide) set_last ?_
  refine g_aload_n 0 dX5_init_9 rfl rfl ?_
  refine g_aload_n 2 dX5_init_10 rfl rfl ?_
  refine cg_sh_pen p hp dX5_init_11 flX5_13 ?_
  refine g_putF 1 (W.length + 39) 1 tyX1 dX5_init_14 rfl fwX1 tyX1_ok nmX1 (by decide) flX5_18 rfl rfl rfl he_last rfl rfl (by show 1 < 9; decide) set_last ?_
  refine g_aload_n 0 dX5_init_17 rfl rfl ?_
  refine g_aload_n 2 dX5_init_18 rfl rfl ?_
  refine cg_sh_greatestStamp p hp dX5_init_19 flX5_19 ?_
  refine g_iconst (iI 1) dX5_init_22 rfl ?_
  refine gi_add dX5_init_23 ?_
  refine g_putF 1 (W.length + 39) 2 tyX1 dX5_init_24 rfl fwX1 tyX1_ok nmX1 (by decide) flX5_22 rfl rfl rfl he_last rfl rfl (by show 2 < 9; decide) set_last ?_
  refine g_aload_n 0 dX5_init_27 rfl rfl ?_
  refine g_aload_n 2 dX5_init_28 rfl rfl ?_
  refine cg_sh_lastMade p hp dX5_init_29 flX5_25 ?_
  refine g_putF 1 (W.length + 39) 3 tyX1 dX5_init_32 rfl fwX1 tyX1_ok nmX1 (by decide) flX5_28 rfl rfl rfl he_last rfl rfl (by show 3 < 9; decide) set_last ?_
  exact g_vret dX5_init_35 rfl (Nat.le_of_ble_eq_true rfl) (Nat.le_of_ble_eq_true rfl) ⟨rfl, rfl⟩
set_option maxHeartbeats 4000000 in
set_option maxRecDepth 100000 in
theorem k_init1 (Z : LZ) (a : Nat → Nat) (C : Mem) (fS fA : Nat → Option Nat) (W : va_W) (q : Nat) (m : Int) (p : Nat) (hp : p < 6) (y0 y1 y2 y3 y4 : Int) (hy4 : y4 = 0 ∨ y4 = 1) : Tr Z jX1_init [.ref q, .int (iI m), .ref (a (110 + p)), .int (iI y0), .int (iI y1), .int (iI y2), .int (iI y3), .int (iI y4)] (cW Z a C fS fA (W ++ [(q, .inr (1, [.int (iI 0), .int (iI 0), .int (iI 0), .int (iI 0), .int (iI 0), .int (iI 0), .int (iI 0), .int (iI 0), .int (iI 0)]))])) (fun r w => r = none ∧ w = (cW Z a C fS fA (W ++ [(q, .inr (1, [.int (iI m), .int (iI (p : Int)), .int (iI (C (50 + p) 0 + 1)), .int (iI (C (60 + p) 0)), .int (iI y0), .int (iI y1), .int (iI y2), .int (iI y3), .int (iI y4)]))]))) := by
  refine tr_of pn_X1_init (Nat.le_of_ble_eq_true rfl) (by intro v h; simp only [List.mem_cons, List.not_mem_nil, or_false] at h; rcases h with h | h | h | h | h | h | h | h <;> rw [h] <;> rfl) ?_
  refine g_aload_n 0 dX1_init_0 rfl rfl ?_
  refine g_iload_n 1 dX1_init_1 rfl rfl ?_
  refine g_aload_n 2 dX1_init_2 rfl rfl ?_
  refine ckI lkX1_3 (k_sinit1 Z a C fS fA W q m p hp (.int (iI 0)) (.int (iI 0)) (.int (iI 0)) (.int (iI 0)) (.int (iI 0))) dX1_init_3 (And.intro (Nat.le_of_ble_eq_true rfl) (Nat.le_of_ble_eq_true rfl)) (Nat.le_of_ble_eq_true rfl) rfl rfl (Nat.le_of_ble_eq_true rfl) (Nat.le_of_ble_eq_true rfl) rfl ?_
  refine g_aload_n 0 dX1_init_6 rfl rfl ?_
  refine g_iload_n 3 dX1_init_7 rfl rfl ?_
  refine g_putF 1 (W.length + 39) 4 tyX1 dX1_init_8 rfl fwX1 tyX1_ok nmX1 (by decide) flX1_9 rfl rfl rfl he_last rfl rfl (by show 4 < 9; decide) set_last ?_
  refine g_aload_n 0 dX1_init_11 rfl rfl ?_
  refine g_iload dX1_init_12 rfl ?_
  refine g_putF 1 (W.length + 39) 5 tyX1 dX1_init_14 rfl fwX1 tyX1_ok nmX1 (by decide) flX1_15 rfl rfl rfl he_last rfl rfl (by show 5 < 9; decide) set_last ?_
  refine g_aload_n 0 dX1_init_17 rfl rfl ?_
  refine g_iload dX1_init_18 rfl ?_
  refine g_putF 1 (W.length + 39) 6 tyX1 dX1_init_20 rfl fwX1 tyX1_ok nmX1 (by decide) flX1_18 rfl rfl rfl he_last rfl rfl (by show 6 < 9; decide) set_last ?_
  refine g_aload_n 0 dX1_init_23 rfl rfl ?_
  refine g_iload dX1_init_24 rfl ?_
  refine g_putF 1 (W.length + 39) 7 tyX1 dX1_init_26 rfl fwX1 tyX1_ok nmX1 (by decide) flX1_21 rfl rfl rfl he_last rfl rfl (by show 7 < 9; decide) set_last ?_
  refine g_aload_n 0 dX1_init_29 rfl rfl ?_
  refine g_iload dX1_init_30 rfl ?_
  refine g_putF 1 (W.length + 39) 8 tyX1 dX1_init_32 rfl fwX1 tyX1_ok nmX1 (by decide) flX1_24 rfl rfl rfl he_last (narrow_bool hy4) (by rcases hy4 with h | h <;> rw [h] <;> rfl) (by show 8 < 9; decide) set_last ?_
  exact g_vret dX1_init_35 rfl (Nat.le_of_ble_eq_true rfl) (Nat.le_of_ble_eq_true rfl) ⟨rfl, rfl⟩
set_option maxHeartbeats 4000000 in
set_option maxRecDepth 100000 in
theorem k_sinit6 (Z : LZ) (a : Nat → Nat) (C : Mem) (fS fA : Nat → Option Nat) (W : va_W) (q : Nat) (m : Int) (p : Nat) (hp : p < 6) (x0 : Value) : Tr Z jX5_init [.ref q, .int (iI m), .ref (a (110 + p))] (cW Z a C fS fA (W ++ [(q, .inr (6, [.int (iI 0), .int (iI 0), .int (iI 0), .int (iI 0), x0]))])) (fun r w => r = none ∧ w = (cW Z a C fS fA (W ++ [(q, .inr (6, [.int (iI m), .int (iI (p : Int)), .int (iI (C (50 + p) 0 + 1)), .int (iI (C (60 + p) 0)), x0]))]))) := by
  refine tr_of pn_X5_init (Nat.le_of_ble_eq_true rfl) (by intro v h; simp only [List.mem_cons, List.not_mem_nil, or_false] at h; rcases h with h | h | h <;> rw [h] <;> rfl) ?_
  refine g_aload_n 0 dX5_init_0 rfl rfl ?_
  refine g_objInit dX5_init_1 oi_X5 (Nat.le_of_ble_eq_true rfl) (Nat.le_of_ble_eq_true rfl) ?_
  refine g_aload_n 0 dX5_init_4 rfl rfl ?_
  refine g_iload_n 1 dX5_init_5 rfl rfl ?_
  refine g_putF 6 (W.length + 39) 0 tyX7 dX5_init_6 rfl fwX7 tyX7_ok nmX7 (by decide) flX5_7 rfl rfl rfl he_last rfl rfl (by show 0 < 5; decide) set_last ?_
  refine g_aload_n 0 dX5_init_9 rfl rfl ?_
  refine g_aload_n 2 dX5_init_10 rfl rfl ?_
  refine cg_sh_pen p hp dX5_init_11 flX5_13 ?_
  refine g_putF 6 (W.length + 39) 1 tyX7 dX5_init_14 rfl fwX7 tyX7_ok nmX7 (by decide) flX5_18 rfl rfl rfl he_last rfl rfl (by show 1 < 5; decide) set_last ?_
  refine g_aload_n 0 dX5_init_17 rfl rfl ?_
  refine g_aload_n 2 dX5_init_18 rfl rfl ?_
  refine cg_sh_greatestStamp p hp dX5_init_19 flX5_19 ?_
  refine g_iconst (iI 1) dX5_init_22 rfl ?_
  refine gi_add dX5_init_23 ?_
  refine g_putF 6 (W.length + 39) 2 tyX7 dX5_init_24 rfl fwX7 tyX7_ok nmX7 (by decide) flX5_22 rfl rfl rfl he_last rfl rfl (by show 2 < 5; decide) set_last ?_
  refine g_aload_n 0 dX5_init_27 rfl rfl ?_
  refine g_aload_n 2 dX5_init_28 rfl rfl ?_
  refine cg_sh_lastMade p hp dX5_init_29 flX5_25 ?_
  refine g_putF 6 (W.length + 39) 3 tyX7 dX5_init_32 rfl fwX7 tyX7_ok nmX7 (by decide) flX5_28 rfl rfl rfl he_last rfl rfl (by show 3 < 5; decide) set_last ?_
  exact g_vret dX5_init_35 rfl (Nat.le_of_ble_eq_true rfl) (Nat.le_of_ble_eq_true rfl) ⟨rfl, rfl⟩
set_option maxHeartbeats 4000000 in
set_option maxRecDepth 100000 in
theorem k_init6 (Z : LZ) (a : Nat → Nat) (C : Mem) (fS fA : Nat → Option Nat) (W : va_W) (q : Nat) (m : Int) (p : Nat) (hp : p < 6) (y : Int) : Tr Z jX7_init [.ref q, .int (iI m), .ref (a (110 + p)), .int (iI y)] (cW Z a C fS fA (W ++ [(q, .inr (6, [.int (iI 0), .int (iI 0), .int (iI 0), .int (iI 0), .int (iI 0)]))])) (fun r w => r = none ∧ w = (cW Z a C fS fA (W ++ [(q, .inr (6, [.int (iI m), .int (iI (p : Int)), .int (iI (C (50 + p) 0 + 1)), .int (iI (C (60 + p) 0)), .int (iI y)]))]))) := by
  refine tr_of pn_X7_init (Nat.le_of_ble_eq_true rfl) (by intro v h; simp only [List.mem_cons, List.not_mem_nil, or_false] at h; rcases h with h | h | h | h <;> rw [h] <;> rfl) ?_
  refine g_aload_n 0 dX7_init_0 rfl rfl ?_
  refine g_iload_n 1 dX7_init_1 rfl rfl ?_
  refine g_aload_n 2 dX7_init_2 rfl rfl ?_
  refine ckI lkX7_3 (k_sinit6 Z a C fS fA W q m p hp (.int (iI 0))) dX7_init_3 (And.intro (Nat.le_of_ble_eq_true rfl) (Nat.le_of_ble_eq_true rfl)) (Nat.le_of_ble_eq_true rfl) rfl rfl (Nat.le_of_ble_eq_true rfl) (Nat.le_of_ble_eq_true rfl) rfl ?_
  refine g_aload_n 0 dX7_init_6 rfl rfl ?_
  refine g_iload_n 3 dX7_init_7 rfl rfl ?_
  refine g_putF 6 (W.length + 39) 4 tyX7 dX7_init_8 rfl fwX7 tyX7_ok nmX7 (by decide) flX7_9 rfl rfl rfl he_last rfl rfl (by show 4 < 5; decide) set_last ?_
  exact g_vret dX7_init_11 rfl (Nat.le_of_ble_eq_true rfl) (Nat.le_of_ble_eq_true rfl) ⟨rfl, rfl⟩
set_option maxHeartbeats 4000000 in
set_option maxRecDepth 100000 in
theorem k_nameAtW (Z : LZ) (a : Nat → Nat) (C : Mem) (fS fA : Nat → Option Nat) (W : va_W) {D : Mem} {N : Nat} (hG : Good D) {T : Int → Bool} (hC : Cl D T) (hR : Rd D T N C) (x : Int) (h0 : 0 ≤ x) (h1 : x < txtN D T) : Tr Z jX3_nameAt [.ref (a 102), .int (iI x)] (cW Z a C fS fA W) (fun r w => r = some (.int (iI (nmX D T x))) ∧ w = cW Z a C fS fA W) := by
  refine tr_of pn_X3_nameAt (Nat.le_of_ble_eq_true rfl) (by intro v h; simp only [List.mem_cons, List.not_mem_nil, or_false] at h; rcases h with h | h <;> rw [h] <;> rfl) ?_
  have hl := ordF_len hG.1 hG.2.1 hC
  have ht := txtN_rg hG.1 hG.2.1 hC
  have h78 := hR.2.2.2.2.1
  have hat := atF_in (D := D) (T := T) h0 h1
  refine g_aload_n 0 dX3_nameAt_0 rfl rfl ?_
  refine g_iload_n 1 dX3_nameAt_1 rfl rfl ?_
  refine ckE lkX3_68 (k_X3_isPlace Z a C fS fA _ x ⟨by omega, by omega⟩ (by rw [h78]; exact ⟨by omega, by omega⟩)) dX3_nameAt_2 (And.intro (Nat.le_of_ble_eq_true rfl) (Nat.le_of_ble_eq_true rfl)) (ci := 3) (q0 := 30) rfl rfl (Nat.le_of_ble_eq_true rfl) rfl rfl (Nat.le_of_ble_eq_true rfl) (Nat.le_of_ble_eq_true rfl) rfl ?_
  rw [decide_eq_true (by rw [h78]; exact ⟨h0, h1⟩)]
  refine gi_if_eq 22 dX3_nameAt_5 (by decide) ⟨by decide, by decide⟩ (fun cc => absurd cc (by decide)) (fun _ => ?_)
  refine g_aload_n 0 dX3_nameAt_8 rfl rfl ?_
  refine cg_rd_order dX3_nameAt_9 flX3_15 ?_
  refine g_aload_n 0 dX3_nameAt_12 rfl rfl ?_
  refine cg_rd_seen dX3_nameAt_13 flX3_27 ?_
  refine g_iload_n 1 dX3_nameAt_16 rfl rfl ?_
  refine ca_75 (hR.2.2.2.2.2 x h0 h1) dX3_nameAt_17 (by omega) (by omega) ?_
  refine ca_71 (hR.2.1.1.2 _ hat.1 hat.2.1) dX3_nameAt_18 (by omega) (by omega) ?_
  refine g_goto 23 dX3_nameAt_19 (by decide) ?_
  refine g_iret dX3_nameAt_23 rfl (Nat.le_of_ble_eq_true rfl) (Nat.le_of_ble_eq_true rfl) ⟨?_, rfl⟩
  rfl
set_option maxHeartbeats 4000000 in
set_option maxRecDepth 100000 in
theorem k_namesFrom (Z : LZ) (a : Nat → Nat) (C : Mem) (fS fA : Nat → Option Nat) (W : va_W) {D : Mem} {N : Nat} (hG : Good D) {T : Int → Bool} (hC : Cl D T) (hR : Rd D T N C) (x : Int) (m : Nat) (h0 : 0 ≤ x) (hm : m ≤ 12) (h1 : x + m ≤ txtN D T) : Tr Z jX3_namesFrom [.ref (a 102), .int (iI x), .int (iI (m : Int))] (cW Z a C fS fA W) (fun r w => ∃ (b : Nat) (g : Int → Int), r = some (.ref b) ∧ w = cW Z a C fS fA (W ++ [(b, .inl (Z.2 0, m, .inl (rowI g)))]) ∧ ∀ i : Int, 0 ≤ i → i < m → g i = nmX D T (x + i)) := by
  refine tr_of pn_X3_namesFrom (Nat.le_of_ble_eq_true rfl) (by intro v h; simp only [List.mem_cons, List.not_mem_nil, or_false] at h; rcases h with h | h | h <;> rw [h] <;> rfl) ?_
  have ht := txtN_rg hG.1 hG.2.1 hC
  have loop : ∀ (b : Nat) (fuel j : Nat) (g : Int → Int), m - j < fuel → j ≤ m → (∀ i : Int, 0 ≤ i → i < j → g i = nmX D T (x + i)) → G Z jX3_namesFrom E0 (QM Z jX3_namesFrom (fun r w => ∃ (b : Nat) (g : Int → Int), r = some (.ref b) ∧ w = cW Z a C fS fA (W ++ [(b, .inl (Z.2 0, m, .inl (rowI g)))]) ∧ ∀ i : Int, 0 ≤ i → i < m → g i = nmX D T (x + i))) 11 [.ref (a 102), .int (iI x), .int (iI (m : Int)), .ref b, .int (iI (j : Int))] [] (cW Z a C fS fA (W ++ [(b, .inl (Z.2 0, m, .inl (rowI g)))])) 1 m := by
    intro b fuel
    induction fuel with
    | zero => intros; exfalso; omega
    | succ fuel ih =>
      intro j g hf hj hg
      refine g_iload dX3_namesFrom_11 rfl ?_
      refine g_aload_n 3 dX3_namesFrom_13 rfl rfl ?_
      refine g_alen (W.length + 39) 0 (iI (m : Int)) dX3_namesFrom_14 he_last rfl (iI_nat m).symm ?_
      refine gi_icmp_ge 36 dX3_namesFrom_15 (by decide) ⟨by omega, by omega⟩ ⟨by omega, by omega⟩ (fun c15 => ?_) (fun c15 => ?_)
      · refine g_aload_n 3 dX3_namesFrom_36 rfl rfl ?_
        exact g_aret dX3_namesFrom_37 rfl (Or.inr ⟨_, rfl⟩) (Or.inr ⟨_, rfl⟩) (Nat.le_of_ble_eq_true rfl) (by show m ≤ 12; exact hm) ⟨b, g, rfl, rfl, fun i p q => hg i p (by omega)⟩
      · refine g_aload_n 3 dX3_namesFrom_18 rfl rfl ?_
        refine g_iload dX3_namesFrom_19 rfl ?_
        refine g_aload_n 0 dX3_namesFrom_21 rfl rfl ?_
        refine g_iload_n 1 dX3_namesFrom_22 rfl rfl ?_
        refine g_iload dX3_namesFrom_23 rfl ?_
        refine gi_add dX3_namesFrom_25 ?_
        refine ckE lkX3_72 (k_nameAtW Z a C fS fA _ hG hC hR (x + j) (by omega) (by omega)) dX3_namesFrom_26 (And.intro (Nat.le_of_ble_eq_true rfl) (Nat.le_of_ble_eq_true rfl)) (ci := 3) (q0 := 30) rfl rfl (Nat.le_of_ble_eq_true rfl) rfl rfl (Nat.le_of_ble_eq_true rfl) (by show m ≤ 12; exact hm) rfl ?_
        refine gi_iast (W.length + 39) dX3_namesFrom_29 he_last (by omega) (by omega) (by omega) set_last ?_
        refine gi_inc dX3_namesFrom_30 rfl (Nat.le_of_ble_eq_true rfl) rfl ?_
        dsimp only [sto]
        refine g_goto 11 dX3_namesFrom_33 (by decide) ?_
        refine ih (j + 1) _ (by omega) (by omega) (fun i p q => ?_)
        by_cases e : i = j
        · rw [e, upI_eq]
        · rw [upI_ne e]
          exact hg i p (by omega)
  refine g_iconst (iI 0) dX3_namesFrom_0 rfl ?_
  refine g_iload_n 2 dX3_namesFrom_1 rfl rfl ?_
  refine g_mmax dX3_namesFrom_2 lkmX3_79 mst_max min_ mcd_max (Nat.le_of_ble_eq_true rfl) (Nat.le_of_ble_eq_true rfl) (Nat.le_of_ble_eq_true rfl) (Nat.le_of_ble_eq_true rfl) ⟨by decide, by decide⟩ ⟨by omega, by omega⟩ ?_
  rw [show (if (0 : Int) < (m : Int) then (m : Int) else 0) = (m : Int) by split <;> omega]
  refine g_newI m dX3_namesFrom_5 (by omega) (Nat.le_of_ble_eq_true rfl) (by show 0 + m ≤ 12; omega) (fun b => ?_)
  refine g_astore_n 3 dX3_namesFrom_7 rfl (Nat.le_of_ble_eq_true rfl) (Nat.le_of_ble_eq_true rfl) rfl ?_
  dsimp only [sto]
  refine g_iconst (iI 0) dX3_namesFrom_8 rfl ?_
  refine g_istore dX3_namesFrom_9 (Nat.le_of_ble_eq_true rfl) (Nat.le_of_ble_eq_true rfl) rfl ?_
  dsimp only [sto]
  have g := loop b (m + 1) 0 (fun _ => 0) (by omega) (by omega) (fun i p q => by omega)
  rw [show 0 + m = m by omega]
  exact g
