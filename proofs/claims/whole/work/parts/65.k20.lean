/-! THE CLASS: the data of a new slip, the end of an act that makes one -/
def Pn (Z : LZ) (a : Nat → Nat) (E2 : Mem) (v : Int) : Option Value → va_W → Prop := fun r w => ∃ (C2 : Mem) (f1 f2 : Nat → Option Nat) (sa2 sb2 : Nat → Nat) (N2 : Nat), r = some (.int (iI v)) ∧ w = cW Z a C2 f1 f2 (sW Z E2 sa2 sb2 N2) ∧ Rel E2 C2 f1 f2 sa2 N2
def Nw (D E : Mem) (p kd : Int) : Prop := Ext D E p ∧ Good E ∧ E 1 (D 9 0) = stp D p ∧ E 2 (D 9 0) = kd ∧ E 13 0 = D 13 0
def upN (f : Nat → Nat) (N v : Nat) : Nat → Nat := fun s => if s = N then v else f s
theorem upN_at (f : Nat → Nat) (N v : Nat) : upN f N v N = v := by unfold upN; rw [if_pos rfl]
theorem upN_lt {f : Nat → Nat} {N v s : Nat} (h : s < N) : upN f N v s = f s := by unfold upN; rw [if_neg (by omega)]
theorem Rel_sa {D C : Mem} {fS fA : Nat → Option Nat} {sa sa2 : Nat → Nat} {N : Nat} (h : Rel D C fS fA sa N) (he : ∀ s : Nat, s < N → sa2 s = sa s) : Rel D C fS fA sa2 N := by
  obtain ⟨⟨h1, h2, h3, h4, ⟨L, l1, l2, l3, l4⟩, h6⟩, hX⟩ := h
  refine ⟨⟨h1, h2, h3, fun s hs => by rw [he s hs]; exact h4 s hs, ⟨L, l1, fun k s hk => ?_, l3, l4⟩, h6⟩, hX⟩
  have := l2 k s hk
  exact ⟨this.1, by rw [he s this.1]; exact this.2⟩
theorem WC_new {Z : LZ} {D E : Mem} {p : Int} {sa sb : Nat → Nat} {N q b : Nat} {obj arr : va_E} {a : Nat → Nat} {C : Mem} {fS fA : Nat → Option Nat} (hx : Ext D E p) (h9 : D 9 0 = N) (hS : ∀ s : Nat, s < N → okS D s) (hobj : slC E (upN sb N b) N = obj) (harr : WC Z [(b, arr)] [(b, slA Z E N)]) (h2 : E 2 N = 0 ∨ E 2 N = 1) : WC Z (cW Z a C fS fA (sW Z D sa sb N) ++ [(q, obj), (b, arr)]) (cW Z a C fS fA (sW Z E (upN sa N q) (upN sb N b) (N + 1))) := by
  rw [cW_nil Z a C fS fA (sW Z D sa sb N), cW_nil Z a C fS fA (sW Z E (upN sa N q) (upN sb N b) (N + 1)), List.append_assoc]
  refine (WC.refl Z _).app ?_
  rw [sW_succ, if_pos h2, upN_at, hobj]
  refine (sW_WC hx h9 hS (fun s hs => upN_lt hs) (fun s hs => upN_lt hs) N (Nat.le_refl _)).app ?_
  refine WC.app (a := [(q, obj)]) (b := [(q, obj)]) (WC.refl Z _) ?_
  rw [upN_at]
  exact harr
theorem WC_new1 {Z : LZ} {D E : Mem} {p : Int} {sa sb : Nat → Nat} {N q : Nat} {obj : va_E} {a : Nat → Nat} {C : Mem} {fS fA : Nat → Option Nat} (hx : Ext D E p) (h9 : D 9 0 = N) (hS : ∀ s : Nat, s < N → okS D s) (hobj : slC E sb N = obj) (h2 : ¬ (E 2 N = 0 ∨ E 2 N = 1)) : WC Z (cW Z a C fS fA (sW Z D sa sb N) ++ [(q, obj)]) (cW Z a C fS fA (sW Z E (upN sa N q) sb (N + 1))) := by
  rw [cW_nil Z a C fS fA (sW Z D sa sb N), cW_nil Z a C fS fA (sW Z E (upN sa N q) sb (N + 1)), List.append_assoc]
  refine (WC.refl Z _).app ?_
  rw [sW_succ, if_neg h2, upN_at, hobj]
  exact (sW_WC hx h9 hS (fun s hs => upN_lt hs) (fun s _ => rfl) N (Nat.le_refl _)).app (WC.refl Z _)
theorem pri_new {D E : Mem} {p : Int} {N : Nat} (hx : Ext D E p) (h9 : D 9 0 = N) : pri E N = latestF D p N ∧ E 0 N = p := by
  have e0 : E 0 N = p := by have := hx.2.2.2.2.2.2.1; rwa [h9] at this
  refine ⟨?_, e0⟩
  unfold pri
  rw [e0, show ((N : Int)).toNat = N by omega]
  exact latestF_congr _ (fun t a b => hx.2.1 0 (by decide) t a (by omega))
section EndA
variable {Z : LZ} {J : MD} {pc : Nat} {ls : List Value} {k n : Nat}
theorem g_end {D E C : Mem} {fS fA : Nat → Option Nat} {sa sb : Nat → Nat} {N p i : Nat} {a : Nat → Nat} {q : Nat} (hq : sa N = q) (hlk : lkV J.1.cls i jX8_enter 2) (d : decode J.2.1 pc = .ok (.invokevirtual i, 3)) (hfit : fitR J jX8_enter) (d2 : decode J.2.1 (pc + 3) = .ok (.ireturn, 1)) (hrt : J.2.2.2.1 = some .int) (h3 : k ≤ J.2.2.2.2.cells) (h4 : n ≤ J.2.2.2.2.slots) (hp : p < 6) (hG : Good D) {kd : Int} (hw : Nw D E p kd) (hR : Rel D C fS fA sa N) (hN : N < 256) : G Z J E0 (QM Z J (Pn Z a (ms E 13 0 0) N)) pc ls [.ref q, .ref (a (110 + p)), .ref (a 99)] (cW Z a C fS fA (sW Z E sa sb (N + 1))) k n := by
  subst hq
  obtain ⟨hx, hGE, hst, hkd, h13⟩ := hw
  have h9 := hR.1.d9
  have htk : tkB E p N = true := by
    have := hGE.2.2.2.1 N (by omega) (by rw [hx.1]; omega)
    rwa [(pri_new hx h9).2] at this
  have hst2 : E 1 N = mxF D (tkB D p) N + 1 := by
    rw [h9] at hst
    rw [hst]
    show mxF D (tkB D p) (D 9 0).toNat + 1 = _
    rw [show (D 9 0).toNat = N by omega]
  refine g_callVF (ci := 7) (q0 := 0) hlk (k_X8_enter Z a C fS fA sa sb N hGE hG hp hx hR hN hst2 htk h13) d hfit rfl rfl (Nat.le_of_ble_eq_true rfl) (by show k + 0 ≤ _; omega) (by show n + 0 ≤ _; omega) (fun r w2 h => ?_) rfl
  obtain ⟨C2, f1, f2, rfl, rfl, hr⟩ := h
  exact g_iret d2 hrt (by show k + 0 ≤ _; omega) (by show n + 0 ≤ _; omega) ⟨C2, f1, f2, sa, sb, N + 1, rfl, by rw [sW_fin], hr⟩
end EndA
section SRows2
variable {Z : LZ} {J : MD} {E : State → Array Value → (Nat → Prop) → Prop} {Q : List Frame → Array Value → State → (Nat → Prop) → State → Prop} {pc : Nat} {ls st : List Value} {k n : Nat} {ws : va_W}
theorem ckS0 {post : Option Value → va_W → Prop} {J2 : MD} {As : List Value} {i : Nat} (hlk : lkS J.1.cls i J2 As.length) (hT : Tr Z J2 As [] post) (d : decode J.2.1 pc = .ok (.invokestatic i, 3)) (hfit : fitR J J2) (hst : (st.map fun v => v.category).sum ≤ 8) (h1 : k + J2.2.2.2.2.cells ≤ J.2.2.2.2.cells) (h2 : n + J2.2.2.2.2.slots ≤ J.2.2.2.2.slots) {st2 : List Value} (hs : As.reverse ++ st = st2) (K : ∀ (r : Option Value) (w2 : va_W), post r w2 → G Z J E Q (pc + 3) ls (r.toList ++ st) (ws ++ w2) (k + J2.2.2.2.2.cells) (n + J2.2.2.2.2.slots)) : G Z J E Q pc ls st2 ws k n :=
  g_callS (wr := ws) [] (List.range ws.length) hlk hT d hfit rfl (range_all ws) (nd_range _) (fun i _ h => by cases h) rfl hst h1 h2 K hs
theorem ckSL {J2 : MD} {As : List Value} {i : Nat} {v : Value} {c : Nat × va_E} (hlk : lkS J.1.cls i J2 As.length) (hT : Tr Z J2 As [c] (fun r w => r = some v ∧ w = [c])) (d : decode J.2.1 pc = .ok (.invokestatic i, 3)) (hfit : fitR J J2) (hst : (st.map fun v => v.category).sum ≤ 8) (h1 : J2.2.2.2.2.cells = 0) (h2 : J2.2.2.2.2.slots = 0) (h3 : k ≤ J.2.2.2.2.cells) (h4 : n ≤ J.2.2.2.2.slots) {st2 : List Value} (hs : As.reverse ++ st = st2) (K : G Z J E Q (pc + 3) ls (v :: st) (ws ++ [c]) k n) : G Z J E Q pc ls st2 (ws ++ [c]) k n := by
  refine g_callS (wr := ws) (wc := [c]) [ws.length] (List.range ws.length) hlk hT d hfit ?_ (pre_all ws [c]) (nd_range _) (fun i hi h => ?_) (nd_of _ (by simp)) hst (by omega) (by omega) (fun r w2 h => ?_) hs
  · simp
  · have := List.mem_range.mp hi
    have := List.mem_singleton.mp h
    omega
  · obtain ⟨rfl, rfl⟩ := h
    rw [h1, h2]
    exact K
end SRows2
theorem tyL_45 {D : Mem} {s : Int} {g : Int → Int} : ∀ (k : Nat) (i : Int), 0 ≤ i → i < k → tyL D s g k 5 (4 * s + i) = g i ∧ tyL D s g k 4 (12 * s + i) = 4 * s + i := by
  intro k
  induction k with
  | zero => intro i a b; omega
  | succ k ih =>
    intro i a b
    unfold tyL
    rw [ms_row (show (5 : Nat) ≠ 4 by decide)]
    by_cases e : i = k
    · subst e
      exact ⟨ms_at, ms_at⟩
    · rw [ms_off (by omega), ms_off (by omega), ms_row (show (4 : Nat) ≠ 5 by decide)]
      exact ih i a (by omega)
def tyE (D : Mem) (p q c1 c2 c3 : Int) : Mem := tyL (ms (mkD D p 0 (cl3 c1 c2 c3) (stp D p)) 6 (D 9 0) (lftX D p q)) (D 9 0) (f3 c1 c2 c3) (cl3 c1 c2 c3).toNat
theorem ty_new {D : Mem} (hG : Good D) {p q c1 c2 c3 : Int} (hp : Rg p) (hc1 : Rg c1) (hc2 : Rg c2) (hc3 : Rg c3) (hp2 : 0 ≤ p ∧ p < 6) (hg : goodB D p q c1 c2 c3 = true) (h256 : D 9 0 < 256) : A_type D p q c1 c2 c3 = (D 9 0, ms (tyE D p q c1 c2 c3) 13 0 0) ∧ Nw D (tyE D p q c1 c2 c3) p 0 ∧ tyE D p q c1 c2 c3 3 (D 9 0) = cl3 c1 c2 c3 ∧ tyE D p q c1 c2 c3 6 (D 9 0) = lftX D p q ∧ ∀ i : Int, 0 ≤ i → i < cl3 c1 c2 c3 → tyE D p q c1 c2 c3 5 (4 * D 9 0 + i) = f3 c1 c2 c3 i ∧ tyE D p q c1 c2 c3 4 (12 * D 9 0 + i) = 4 * D 9 0 + i := by
  have hA : A_type D p q c1 c2 c3 = (D 9 0, ms (tyE D p q c1 c2 c3) 13 0 0) := by
    unfold A_type
    rw [if_pos hp2, if_pos hg, if_neg (by omega)]
    rfl
  have hGt := Good_type hG (q := q) hp hc1 hc2 hc3
  rw [hA] at hGt
  have hx0 : Ext D (ms (mkD D p 0 (cl3 c1 c2 c3) (stp D p)) 6 (D 9 0) (lftX D p q)) p := Ext_ms (Ext_mk hG.1 h256) (Or.inr (Or.inl ⟨Or.inl rfl, rfl⟩))
  have h13 : tyE D p q c1 c2 c3 13 0 = D 13 0 := by unfold tyE; rw [tyL_ne (by decide) (by decide)]; rfl
  refine ⟨hA, ⟨tyL_ext hx0 _, fin_back hGt (by rw [h13]; exact hG.1.1 13 0), ?_, ?_, h13⟩, ?_, ?_, fun i a b => ?_⟩
  · unfold tyE; rw [tyL_ne (by decide) (by decide)]; exact (show upI (D 1) (D 9 0) (stp D p) (D 9 0) = stp D p from upI_eq)
  · unfold tyE; rw [tyL_ne (by decide) (by decide)]; exact (show upI (D 2) (D 9 0) 0 (D 9 0) = 0 from upI_eq)
  · unfold tyE; rw [tyL_ne (by decide) (by decide)]; exact (show upI (D 3) (D 9 0) (cl3 c1 c2 c3) (D 9 0) = cl3 c1 c2 c3 from upI_eq)
  · unfold tyE; rw [tyL_ne (by decide) (by decide)]; exact ms_at
  · exact tyL_45 _ i a (by omega)
def stE (D : Mem) (p f n : Int) : Mem := stL (mkD D p 1 n (stp D p)) (D 9 0) (nmF D p f) n.toNat
theorem st_new {D : Mem} (hG : Good D) {p f n : Int} (hp : Rg p) (hn : Rg n) (hp2 : 0 ≤ p ∧ p < 6) (hc : (1 ≤ n ∧ n ≤ 12) ∧ (0 ≤ f ∧ 0 ≤ n ∧ n ≤ txtN D (tkB D p) ∧ f ≤ txtN D (tkB D p) - n)) (h256 : D 9 0 < 256) : A_strike D p f n = (D 9 0, ms (stE D p f n) 13 0 0) ∧ Nw D (stE D p f n) p 1 ∧ stE D p f n 3 (D 9 0) = n ∧ ∀ i : Int, 0 ≤ i → i < n → stE D p f n 4 (12 * D 9 0 + i) = nmX D (tkB D p) (f + i) := by
  have hA : A_strike D p f n = (D 9 0, ms (stE D p f n) 13 0 0) := by
    unfold A_strike
    rw [if_pos hp2, if_neg (by omega), if_pos hc, if_neg (by omega)]
    rfl
  have hGt := Good_strike hG (f := f) hp hn
  rw [hA] at hGt
  have h13 : stE D p f n 13 0 = D 13 0 := by unfold stE; rw [stL_ne (by decide)]; rfl
  refine ⟨hA, ⟨stL_ext (Ext_mk hG.1 h256) _, fin_back hGt (by rw [h13]; exact hG.1.1 13 0), ?_, ?_, h13⟩, ?_, fun i a b => ?_⟩
  · unfold stE; rw [stL_ne (by decide)]; exact (show upI (D 1) (D 9 0) (stp D p) (D 9 0) = stp D p from upI_eq)
  · unfold stE; rw [stL_ne (by decide)]; exact (show upI (D 2) (D 9 0) 1 (D 9 0) = 1 from upI_eq)
  · unfold stE; rw [stL_ne (by decide)]; exact (show upI (D 3) (D 9 0) n (D 9 0) = n from upI_eq)
  · exact stL_at _ i a (by omega)
def unE (D : Mem) (p s : Int) : Mem := ms (mkD D p 3 0 (stp D p)) 6 (D 9 0) s
theorem un_new {D : Mem} (hG : Good D) {p s : Int} (hp : Rg p) (hs : Rg s) (hp2 : 0 ≤ p ∧ p < 6) (hs2 : 0 ≤ s ∧ s < D 9 0) (h0 : D 0 s = p) (hw : wkB D (tkB D p) s = true) (h256 : D 9 0 < 256) : A_undo D p s = (D 9 0, ms (unE D p s) 13 0 0) ∧ Nw D (unE D p s) p 3 ∧ unE D p s 6 (D 9 0) = s := by
  have hA : A_undo D p s = (D 9 0, ms (unE D p s) 13 0 0) := by
    unfold A_undo
    rw [if_pos ⟨hp2, hs2⟩, if_neg (by omega), if_neg (by rw [hw]; decide), if_neg (by omega)]
    rfl
  have hGt := Good_undo hG hp hs
  rw [hA] at hGt
  have h13 : unE D p s 13 0 = D 13 0 := rfl
  exact ⟨hA, ⟨Ext_ms (Ext_mk hG.1 h256) (Or.inr (Or.inl ⟨Or.inl rfl, rfl⟩)), fin_back hGt (by rw [h13]; exact hG.1.1 13 0), (show upI (D 1) (D 9 0) (stp D p) (D 9 0) = stp D p from upI_eq), (show upI (D 2) (D 9 0) 3 (D 9 0) = 3 from upI_eq), h13⟩, ms_at⟩
def mkE (D : Mem) (p f n t h : Int) : Mem := mrkD D p (stp D p) (nmF D p f 0) (nmF D p f (n - 1)) t (bI (decide (h = 1 ∨ h = 3))) (bndX D p f n h)
theorem mk_new {D : Mem} (hG : Good D) {p f n t h : Int} (hp2 : 0 ≤ p ∧ p < 6) (hc : (1 ≤ n ∧ (0 ≤ f ∧ 0 ≤ n ∧ n ≤ txtN D (tkB D p) ∧ f ≤ txtN D (tkB D p) - n)) ∧ (0 ≤ t ∧ t ≤ 3) ∧ (0 ≤ h ∧ h ≤ 3)) (h256 : D 9 0 < 256) : A_mark D p f n t h = (D 9 0, ms (mkE D p f n t h) 13 0 0) ∧ Nw D (mkE D p f n t h) p 2 ∧ mkE D p f n t h 4 (12 * D 9 0) = nmX D (tkB D p) f ∧ mkE D p f n t h 4 (12 * D 9 0 + 1) = nmX D (tkB D p) (f + n - 1) ∧ mkE D p f n t h 6 (D 9 0) = bndX D p f n h ∧ mkE D p f n t h 7 (D 9 0) = t ∧ mkE D p f n t h 8 (D 9 0) = bI (decide (h = 1 ∨ h = 3)) := by
  have hA : A_mark D p f n t h = (D 9 0, ms (mkE D p f n t h) 13 0 0) := by
    unfold A_mark
    rw [if_pos hp2, if_neg (by omega), if_pos hc, if_neg (by omega)]
    rfl
  have hGt := Good_mark hG (p := p) (f := f) (n := n) (t := t) (h := h)
  rw [hA] at hGt
  have h13 : mkE D p f n t h 13 0 = D 13 0 := rfl
  have hx : Ext D (mkE D p f n t h) p := by
    unfold mkE mrkD
    exact Ext_ms (Ext_ms (Ext_ms (Ext_ms (Ext_ms (Ext_mk hG.1 h256) (Or.inr (Or.inr (Or.inl ⟨rfl, by omega⟩)))) (Or.inr (Or.inr (Or.inl ⟨rfl, by omega⟩)))) (Or.inr (Or.inl ⟨Or.inr (Or.inl rfl), rfl⟩))) (Or.inr (Or.inl ⟨Or.inr (Or.inr rfl), rfl⟩))) (Or.inr (Or.inl ⟨Or.inl rfl, rfl⟩))
  refine ⟨hA, ⟨hx, fin_back hGt (by rw [h13]; exact hG.1.1 13 0), (show upI (D 1) (D 9 0) (stp D p) (D 9 0) = stp D p from upI_eq), (show upI (D 2) (D 9 0) 2 (D 9 0) = 2 from upI_eq), h13⟩, ?_, ?_, by unfold mkE mrkD; exact ms_at, ?_, ?_⟩
  · unfold mkE mrkD
    rw [ms_row (by decide), ms_row (by decide), ms_row (by decide), ms_off (by omega), ms_at]
    unfold nmF nmX
    rw [Int.add_zero]
  · unfold mkE mrkD
    rw [ms_row (by decide), ms_row (by decide), ms_row (by decide), ms_at]
    unfold nmF nmX
    rw [show f + (n - 1) = f + n - 1 by omega]
  · unfold mkE mrkD
    rw [ms_row (by decide), ms_row (by decide), ms_at]
  · unfold mkE mrkD
    rw [ms_row (by decide), ms_at]
