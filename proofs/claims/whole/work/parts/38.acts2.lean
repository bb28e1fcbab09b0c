/-! THE ACTS keep what holds: strike, mark, type -/
theorem sgN_mem {D : Mem} {s t : Int} : ∀ k : Nat, t ∈ sgN D s k → ∃ i : Int, 0 ≤ i ∧ i < k ∧ t = D 4 (12 * s + i) / 4 ∧ 0 ≤ t := by
  intro k
  induction k with
  | zero => intro h; simp [sgN] at h
  | succ k ih =>
    intro h
    rcases List.mem_append.mp h with h | h
    · obtain ⟨i, a, b, c⟩ := ih h; exact ⟨i, a, by omega, c⟩
    · unfold ndx at h
      split at h
      · rw [List.mem_singleton] at h
        exact ⟨k, by omega, by omega, h, by omega⟩
      · simp at h
theorem stL_ne {D : Mem} {s : Int} {g : Int → Int} {r : Nat} (h : r ≠ 4) : ∀ k : Nat, stL D s g k r = D r := by
  intro k
  induction k with
  | zero => rfl
  | succ k ih => unfold stL; rw [ms_ne h, ih]
theorem stL_at {D : Mem} {s : Int} {g : Int → Int} : ∀ (k : Nat) (i : Int), 0 ≤ i → i < k → stL D s g k 4 (12 * s + i) = g i := by
  intro k
  induction k with
  | zero => intro i a b; omega
  | succ k ih =>
    intro i a b
    unfold stL
    by_cases e : i = k
    · subst e; rw [ms_at]
    · rw [ms_off (by omega)]; exact ih i a (by omega)
theorem stL_ext {D E : Mem} {p : Int} {g : Int → Int} (h : Ext D E p) : ∀ k : Nat, Ext D (stL E (D 9 0) g k) p := by
  intro k
  induction k with
  | zero => exact h
  | succ k ih => unfold stL; exact Ext_ms ih (Or.inr (Or.inr (Or.inl ⟨rfl, by omega⟩)))
theorem stL_RM {D : Mem} {s : Int} {g : Int → Int} (h : RM D) : ∀ k : Nat, (∀ i : Int, 0 ≤ i → i < k → Rg (g i)) → RM (stL D s g k) := by
  intro k
  induction k with
  | zero => intro _; exact h
  | succ k ih => intro hg; unfold stL; exact RM_ms (ih (fun i a b => hg i a (by omega))) (hg k (by omega) (by omega))
theorem tyL_ne {D : Mem} {s : Int} {g : Int → Int} {r : Nat} (h : r ≠ 4) (h5 : r ≠ 5) : ∀ k : Nat, tyL D s g k r = D r := by
  intro k
  induction k with
  | zero => rfl
  | succ k ih => unfold tyL; rw [ms_ne h, ms_ne h5, ih]
theorem tyL_ext {D E : Mem} {p : Int} {g : Int → Int} (h : Ext D E p) : ∀ k : Nat, Ext D (tyL E (D 9 0) g k) p := by
  intro k
  induction k with
  | zero => exact h
  | succ k ih => unfold tyL; exact Ext_ms (Ext_ms ih (Or.inr (Or.inr (Or.inr ⟨rfl, by omega⟩)))) (Or.inr (Or.inr (Or.inl ⟨rfl, by omega⟩)))
theorem tyL_RM {D : Mem} {s : Int} {g : Int → Int} (h : RM D) (hs : 0 ≤ s ∧ s ≤ 1000) : ∀ k : Nat, k ≤ 100 → (∀ i : Int, 0 ≤ i → i < k → Rg (g i)) → RM (tyL D s g k) := by
  intro k
  induction k with
  | zero => intro _ _; exact h
  | succ k ih => intro hk hg; unfold tyL; exact RM_ms (RM_ms (ih (by omega) (fun i a b => hg i a (by omega))) (hg k (by omega) (by omega))) ⟨by omega, by omega⟩
theorem nm_ok {D : Mem} (hG : Good D) {p x : Int} (h : x ∈ ordF D (tkB D p)) : Rg x ∧ nameOK D (D 9 0) x ∧ tkB D p (x / 4) = true := by
  have hn := hG.1.2.1
  obtain ⟨m0, m1, m2, m3, m4⟩ := ordF_mem hG.1 hG.2.1 h
  exact ⟨⟨by omega, by omega⟩, ⟨m0, m1, m2, m4⟩, m3⟩
theorem Good_strike {D : Mem} (hG : Good D) {p f n : Int} (hp : Rg p) (hn2 : Rg n) : Good (A_strike D p f n).2 := by
  have hn := hG.1.2.1
  unfold A_strike
  split
  · next hp2 =>
    split
    · exact Good_fin hG ⟨by decide, by decide⟩
    · split
      · next hc =>
        split
        · exact Good_fin hG ⟨by decide, by decide⟩
        · next h256 =>
          have h256 : D 9 0 < 256 := by omega
          have hg : ∀ i : Int, 0 ≤ i → i < n → nmF D p f i ∈ ordF D (tkB D p) := fun i a b => nm_in hG (by omega) (by omega)
          obtain ⟨B, hB⟩ : ∃ B, B = mkD D p 1 n (stp D p) := ⟨_, rfl⟩
          have hx0 : Ext D B p := by rw [hB]; exact Ext_mk hG.1 h256
          have hx := stL_ext (g := nmF D p f) hx0 n.toNat
          have e0 : stL B (D 9 0) (nmF D p f) n.toNat 0 (D 9 0) = p := by rw [stL_ne (by decide), hB]; exact (show upI (D 0) (D 9 0) p (D 9 0) = p from upI_eq)
          have e1 : stL B (D 9 0) (nmF D p f) n.toNat 1 (D 9 0) = stp D p := by rw [stL_ne (by decide), hB]; exact (show upI (D 1) (D 9 0) (stp D p) (D 9 0) = stp D p from upI_eq)
          have e2 : stL B (D 9 0) (nmF D p f) n.toNat 2 (D 9 0) = 1 := by rw [stL_ne (by decide), hB]; exact (show upI (D 2) (D 9 0) 1 (D 9 0) = 1 from upI_eq)
          have e3 : stL B (D 9 0) (nmF D p f) n.toNat 3 (D 9 0) = n := by rw [stL_ne (by decide), hB]; exact (show upI (D 3) (D 9 0) n (D 9 0) = n from upI_eq)
          have e6 : stL B (D 9 0) (nmF D p f) n.toNat 6 (D 9 0) = -3 := by rw [stL_ne (by decide), hB]; exact (show upI (D 6) (D 9 0) (-3) (D 9 0) = -3 from upI_eq)
          have e4 : ∀ i : Int, 0 ≤ i → i < n → stL B (D 9 0) (nmF D p f) n.toNat 4 (12 * D 9 0 + i) = nmF D p f i := fun i a b => stL_at n.toNat i a (by omega)
          have e8 : stL B (D 9 0) (nmF D p f) n.toNat 8 = D 8 := by rw [stL_ne (by decide), hB]; rfl
          have e10 : stL B (D 9 0) (nmF D p f) n.toNat 10 = gtF (D 10) (D 9 0) p 6 := by rw [stL_ne (by decide), hB]; rfl
          have hM : RM (stL B (D 9 0) (nmF D p f) n.toNat) := stL_RM (by rw [hB]; exact RM_mkD hG.1.1 hp ⟨by decide, by decide⟩ hn2 (stp_rg hG p) hn) _ (fun i a b => (nm_ok hG (hg i a (by omega))).1)
          rw [← hB]
          generalize stL B (D 9 0) (nmF D p f) n.toNat = E at *
          have hS : okS E (D 9 0) := by
            unfold okS
            rw [e0, e2, e3, e6]
            refine ⟨hp2, by omega, fun h => by omega, fun _ => ⟨by omega, by omega, rfl⟩, fun h => by omega, fun h => by omega, fun i _ a b => ?_⟩
            rw [e4 i a b]
            exact (nameOK_ext hx (by omega)).mpr (nm_ok hG (hg i a b)).2.1
          have hE := okP_ext hG.1 hx h256 hM hS (by rw [e8]; exact hG.1.2.2.2.1) (by rw [e10]; exact gt01 hG.1 p)
          refine Good_fin (Good_ext hG hx hp2.1 hp2.2 hE e1 (fun t ht => ?_)) ⟨by decide, by decide⟩
          unfold needL needA at ht
          rw [e2, e3, e6, if_pos (Or.inl rfl), if_neg (by decide), if_neg (by omega)] at ht
          rcases List.mem_append.mp ht with ht | ht
          · rcases List.mem_append.mp ht with ht | ht
            · exact need_own hG hx t ht
            · obtain ⟨i, a, b, c, d⟩ := sgN_mem _ ht
              rw [e4 i a (by omega)] at c
              rw [c]
              exact (nm_ok hG (hg i a (by omega))).2.2
          · simp at ht
      · exact Good_fin hG ⟨by decide, by decide⟩
  · exact Good_fin hG ⟨by decide, by decide⟩
theorem cl3_rg (a b c : Int) : 0 ≤ cl3 a b c ∧ cl3 a b c ≤ 3 ∧ (a ≠ -1 → 1 ≤ cl3 a b c) := by
  unfold cl3
  split
  · omega
  · split
    · omega
    · split <;> omega
theorem Good_type {D : Mem} (hG : Good D) {p q c1 c2 c3 : Int} (hp : Rg p) (hc1 : Rg c1) (hc2 : Rg c2) (hc3 : Rg c3) : Good (A_type D p q c1 c2 c3).2 := by
  have hn := hG.1.2.1
  have hcl := cl3_rg c1 c2 c3
  unfold A_type
  split
  · next hp2 =>
    split
    · next hgd =>
      have hgq : 0 ≤ q ∧ q ≤ txtN D (tkB D p) ∧ c1 ≠ -1 := by
        unfold goodB at hgd
        rw [Bool.and_eq_true, decide_eq_true_eq] at hgd
        exact hgd.1
      have hcl1 := hcl.2.2 hgq.2.2
      split
      · exact Good_fin hG ⟨by decide, by decide⟩
      · next h256 =>
        have h256 : D 9 0 < 256 := by omega
        have hl : lftX D p q = -2 ∨ lftX D p q ∈ ordF D (tkB D p) := by
          unfold lftX
          split
          · exact Or.inl rfl
          · exact Or.inr (nm_in hG (by omega) (by omega))
        have hlr : Rg (lftX D p q) := by
          rcases hl with h | h
          · rw [h]; exact ⟨by decide, by decide⟩
          · exact (nm_ok hG h).1
        have hf3 : ∀ i, Rg (f3 c1 c2 c3 i) := by
          intro i
          unfold f3
          split
          · exact hc1
          · split
            · exact hc2
            · exact hc3
        obtain ⟨B, hB⟩ : ∃ B, B = ms (mkD D p 0 (cl3 c1 c2 c3) (stp D p)) 6 (D 9 0) (lftX D p q) := ⟨_, rfl⟩
        have hx0 : Ext D B p := by rw [hB]; exact Ext_ms (Ext_mk hG.1 h256) (Or.inr (Or.inl ⟨Or.inl rfl, rfl⟩))
        have hx := tyL_ext (g := f3 c1 c2 c3) hx0 (cl3 c1 c2 c3).toNat
        have e0 : tyL B (D 9 0) (f3 c1 c2 c3) (cl3 c1 c2 c3).toNat 0 (D 9 0) = p := by rw [tyL_ne (by decide) (by decide), hB]; exact (show upI (D 0) (D 9 0) p (D 9 0) = p from upI_eq)
        have e1 : tyL B (D 9 0) (f3 c1 c2 c3) (cl3 c1 c2 c3).toNat 1 (D 9 0) = stp D p := by rw [tyL_ne (by decide) (by decide), hB]; exact (show upI (D 1) (D 9 0) (stp D p) (D 9 0) = stp D p from upI_eq)
        have e2 : tyL B (D 9 0) (f3 c1 c2 c3) (cl3 c1 c2 c3).toNat 2 (D 9 0) = 0 := by rw [tyL_ne (by decide) (by decide), hB]; exact (show upI (D 2) (D 9 0) 0 (D 9 0) = 0 from upI_eq)
        have e3 : tyL B (D 9 0) (f3 c1 c2 c3) (cl3 c1 c2 c3).toNat 3 (D 9 0) = cl3 c1 c2 c3 := by rw [tyL_ne (by decide) (by decide), hB]; exact (show upI (D 3) (D 9 0) (cl3 c1 c2 c3) (D 9 0) = cl3 c1 c2 c3 from upI_eq)
        have e6 : tyL B (D 9 0) (f3 c1 c2 c3) (cl3 c1 c2 c3).toNat 6 (D 9 0) = lftX D p q := by rw [tyL_ne (by decide) (by decide), hB]; exact ms_at
        have e8 : tyL B (D 9 0) (f3 c1 c2 c3) (cl3 c1 c2 c3).toNat 8 = D 8 := by rw [tyL_ne (by decide) (by decide), hB]; rfl
        have e10 : tyL B (D 9 0) (f3 c1 c2 c3) (cl3 c1 c2 c3).toNat 10 = gtF (D 10) (D 9 0) p 6 := by rw [tyL_ne (by decide) (by decide), hB]; rfl
        have hM : RM (tyL B (D 9 0) (f3 c1 c2 c3) (cl3 c1 c2 c3).toNat) := tyL_RM (by rw [hB]; exact RM_ms (RM_mkD hG.1.1 hp ⟨by decide, by decide⟩ ⟨by omega, by omega⟩ (stp_rg hG p) hn) hlr) (by omega) _ (by omega) (fun i a b => hf3 i)
        rw [← hB]
        generalize tyL B (D 9 0) (f3 c1 c2 c3) (cl3 c1 c2 c3).toNat = E at *
        have hS : okS E (D 9 0) := by
          unfold okS
          rw [e0, e2, e3, e6]
          refine ⟨hp2, by omega, fun _ => ⟨by omega, by omega, hl.imp id (fun h => (nameOK_ext hx (by omega)).mpr (nm_ok hG h).2.1)⟩, fun h => by omega, fun h => by omega, fun h => by omega, fun i h a b => by omega⟩
        have hE := okP_ext hG.1 hx h256 hM hS (by rw [e8]; exact hG.1.2.2.2.1) (by rw [e10]; exact gt01 hG.1 p)
        refine Good_fin (Good_ext hG hx hp2.1 hp2.2 hE e1 (fun t ht => ?_)) ⟨by decide, by decide⟩
        unfold needL needA at ht
        rw [e2, e6, if_neg (by decide), if_neg (by decide)] at ht
        rcases List.mem_append.mp ht with ht | ht
        · rcases List.mem_append.mp ht with ht | ht
          · exact need_own hG hx t ht
          · simp at ht
        · split at ht
          · next h6 =>
            unfold ndx at ht
            rw [if_pos (by omega), List.mem_singleton] at ht
            rw [ht]
            exact (nm_ok hG (hl.resolve_left (by omega))).2.2
          · simp at ht
    · exact Good_fin hG ⟨by decide, by decide⟩
  · exact Good_fin hG ⟨by decide, by decide⟩
