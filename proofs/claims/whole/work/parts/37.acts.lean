/-! THE ACTS keep what holds -/
theorem Ext_mk {D : Mem} (hD : okP D) (h256 : D 9 0 < 256) {p k z v : Int} : Ext D (mkD D p k z v) p := by
  have hn := hD.2.1
  refine ⟨(show upI (D 9) 0 (D 9 0 + 1) 0 = D 9 0 + 1 from upI_eq), fun r hr s a b => ?_, fun z _ => rfl, fun z _ => rfl, fun q s a b c d => ?_, fun q a b => ?_, (show upI (D 0) (D 9 0) p (D 9 0) = p from upI_eq), rfl, rfl⟩
  · have hne : s ≠ D 9 0 := by omega
    rcases hr with h | h | h | h | h | h | h <;> subst h
    · exact (show upI (D 0) (D 9 0) p s = D 0 s from upI_ne hne)
    · exact (show upI (D 1) (D 9 0) v s = D 1 s from upI_ne hne)
    · exact (show upI (D 2) (D 9 0) k s = D 2 s from upI_ne hne)
    · exact (show upI (D 3) (D 9 0) z s = D 3 s from upI_ne hne)
    · exact (show upI (D 6) (D 9 0) (-3) s = D 6 s from upI_ne hne)
    · rfl
    · rfl
  · show gtF (D 10) (D 9 0) p 6 (256 * q + s) = _
    unfold gtF
    rw [if_neg (by omega)]
  · show gtF (D 10) (D 9 0) p 6 (256 * q + D 9 0) = _
    unfold gtF
    rw [if_pos (by omega), show (256 * q + D 9 0) / 256 = q by omega]
theorem Ext_ms {D E : Mem} {p : Int} (h : Ext D E p) {r : Nat} {z v : Int} (hr : r = 13 ∨ ((r = 6 ∨ r = 7 ∨ r = 8) ∧ z = D 9 0) ∨ (r = 4 ∧ 12 * D 9 0 ≤ z) ∨ (r = 5 ∧ 4 * D 9 0 ≤ z)) : Ext D (ms E r z v) p := by
  obtain ⟨a1, a2, a3, a4, a5, a6, a7, a8, a9⟩ := h
  refine ⟨by rw [ms_ne (by omega)]; exact a1, fun q hq s a b => ?_, fun y hy => ?_, fun y hy => ?_, fun q s a b c d => by rw [ms_ne (by omega)]; exact a5 q s a b c d, fun q a b => by rw [ms_ne (by omega)]; exact a6 q a b, by rw [ms_ne (by omega)]; exact a7, by rw [ms_ne (by omega)]; exact a8, by rw [ms_ne (by omega)]; exact a9⟩
  · by_cases e : q = r
    · subst e
      rw [ms_off (by omega)]; exact a2 q hq s a b
    · rw [ms_ne e]; exact a2 q hq s a b
  · by_cases e : (4 : Nat) = r
    · subst e
      rw [ms_off (by omega)]; exact a3 y hy
    · rw [ms_ne e]; exact a3 y hy
  · by_cases e : (5 : Nat) = r
    · subst e
      rw [ms_off (by omega)]; exact a4 y hy
    · rw [ms_ne e]; exact a4 y hy
theorem gt01 {D : Mem} (hD : okP D) (p : Int) : ∀ z, gtF (D 10) (D 9 0) p 6 z = 0 ∨ gtF (D 10) (D 9 0) p 6 z = 1 := by
  intro z
  unfold gtF
  split
  · exact bI_01 _
  · exact hD.2.2.2.2 z
/-- the maker's own latest slip is taken -/
theorem need_own {D E : Mem} {p : Int} (hG : Good D) (hx : Ext D E p) : ∀ t ∈ ndx (latestF E (E 0 (D 9 0)) (D 9 0).toNat), tkB D p t = true := by
  have hn := hG.1.2.1
  intro t ht
  rw [hx.2.2.2.2.2.2.1, latestF_congr (D := D) _ (fun u a b => hx.2.1 0 (by decide) u a (by omega))] at ht
  have hl := latestF_rg D p (D 9 0).toNat
  unfold ndx at ht
  split at ht
  · next h0 =>
    rw [List.mem_singleton] at ht
    rw [ht]
    have := hG.2.2.2.1 (latestF D p (D 9 0).toNat) h0 (by omega)
    rwa [hl.2.2 h0] at this
  · simp at ht
theorem stp_rg {D : Mem} (hG : Good D) (p : Int) : Rg (stp D p) := by
  have h1 := mxF_rg hG.1.1 (tkB D p) (D 9 0).toNat
  have h2 := mxF_le (T := tkB D p) hG.2.2.1 (D 9 0).toNat (by have := hG.1.2.1; omega)
  have h3 := hG.1.2.1
  exact (show Rg (mxF D (tkB D p) (D 9 0).toNat + 1) from ⟨by omega, by omega⟩)
theorem wk_tk {D : Mem} (hD : okP D) {T : Int → Bool} {s : Int} (h0 : 0 ≤ s) (h1 : s < D 9 0) (h : wkB D T s = true) : T s = true := by
  rw [wkB_eq hD T h0 h1, Bool.and_eq_true] at h
  exact h.1
theorem Good_undo {D : Mem} (hG : Good D) {p s : Int} (hp : Rg p) (hs : Rg s) : Good (A_undo D p s).2 := by
  have hn := hG.1.2.1
  unfold A_undo
  split
  · next hc =>
    split
    · exact Good_fin hG ⟨by decide, by decide⟩
    · split
      · exact Good_fin hG ⟨by decide, by decide⟩
      · next hw =>
        split
        · exact Good_fin hG ⟨by decide, by decide⟩
        · next h256 =>
          have h256 : D 9 0 < 256 := by omega
          have hx : Ext D (ms (mkD D p 3 0 (stp D p)) 6 (D 9 0) s) p := Ext_ms (Ext_mk hG.1 h256) (Or.inr (Or.inl ⟨Or.inl rfl, rfl⟩))
          have hS : okS (ms (mkD D p 3 0 (stp D p)) 6 (D 9 0) s) (D 9 0) := by
            have e0 : ms (mkD D p 3 0 (stp D p)) 6 (D 9 0) s 0 (D 9 0) = p := (show upI (D 0) (D 9 0) p (D 9 0) = p from upI_eq)
            have e2 : ms (mkD D p 3 0 (stp D p)) 6 (D 9 0) s 2 (D 9 0) = 3 := (show upI (D 2) (D 9 0) 3 (D 9 0) = 3 from upI_eq)
            have e3 : ms (mkD D p 3 0 (stp D p)) 6 (D 9 0) s 3 (D 9 0) = 0 := (show upI (D 3) (D 9 0) 0 (D 9 0) = 0 from upI_eq)
            have e6 : ms (mkD D p 3 0 (stp D p)) 6 (D 9 0) s 6 (D 9 0) = s := ms_at
            unfold okS
            rw [e0, e2, e3, e6]
            exact ⟨hc.1, by omega, fun h => by omega, fun h => by omega, fun h => by omega, fun _ => ⟨rfl, hc.2.1, hc.2.2⟩, fun i h a b => by omega⟩
          have hE := okP_ext hG.1 hx h256 (RM_ms (RM_mkD hG.1.1 hp ⟨by decide, by decide⟩ ⟨by decide, by decide⟩ (stp_rg hG p) hn) hs) hS hG.1.2.2.2.1 (gt01 hG.1 p)
          refine Good_fin (Good_ext hG hx hc.1.1 hc.1.2 hE (show upI (D 1) (D 9 0) (stp D p) (D 9 0) = stp D p from upI_eq) (fun t ht => ?_)) ⟨by decide, by decide⟩
          have e2 : ms (mkD D p 3 0 (stp D p)) 6 (D 9 0) s 2 (D 9 0) = 3 := (show upI (D 2) (D 9 0) 3 (D 9 0) = 3 from upI_eq)
          have e6 : ms (mkD D p 3 0 (stp D p)) 6 (D 9 0) s 6 (D 9 0) = s := ms_at
          unfold needL needA at ht
          rw [e2, e6, if_neg (by omega), if_pos rfl] at ht
          rcases List.mem_append.mp ht with ht | ht
          · rcases List.mem_append.mp ht with ht | ht
            · exact need_own hG hx t ht
            · simp at ht
          · unfold ndx at ht
            rw [if_pos hc.2.1, List.mem_singleton] at ht
            rw [ht]
            exact wk_tk hG.1 hc.2.1 hc.2.2 (by cases hb : wkB D (tkB D p) s <;> simp_all)
  · exact Good_fin hG ⟨by decide, by decide⟩
theorem nm_in {D : Mem} (hG : Good D) {p i : Int} (h0 : 0 ≤ i) (h1 : i < txtN D (tkB D p)) : fF (ordF D (tkB D p)) (atF D (tkB D p) i) ∈ ordF D (tkB D p) := by
  have hat := atF_in (D := D) (T := tkB D p) h0 h1
  exact fF_mem hat.1 hat.2.1
theorem curX_in {D : Mem} (hG : Good D) (p q : Int) : curX D p q = -2 ∨ curX D p q ∈ ordF D (tkB D p) := by
  unfold curX
  split
  · next h => exact Or.inr (nm_in hG h.1 h.2)
  · exact Or.inl rfl
theorem Good_cursor {D : Mem} (hG : Good D) (p c q l : Int) : Good (A_cursor D p c q l).2 := by
  have hn := hG.1.2.1
  unfold A_cursor
  split
  · next hc =>
    have hxx := curX_in hG p (if l = 0 then q - 1 else q)
    generalize curX D p (if l = 0 then q - 1 else q) = x at hxx ⊢
    have hxr : Rg x := by
      rcases hxx with h | h
      · subst h; exact ⟨by decide, by decide⟩
      · have := ordF_mem hG.1 hG.2.1 h; exact ⟨by omega, by omega⟩
    have hr : ∀ r : Nat, r ≠ 10 → r ≠ 11 → r ≠ 12 → r ≠ 13 → ms (ms D 11 (3 * p + c) x) 12 (3 * p + c) l r = D r := fun r _ a b _ => by rw [ms_ne b, ms_ne a]
    have hE : okP (ms (ms D 11 (3 * p + c) x) 12 (3 * p + c) l) := ⟨RM_ms (RM_ms hG.1.1 hxr) ⟨by omega, by omega⟩, hG.1.2.1, hG.1.2.2.1, hG.1.2.2.2.1, hG.1.2.2.2.2⟩
    have hmem : ∀ (q y : Int), y ∈ ordF D (tkB D q) → y ∈ ordF (ms (ms D 11 (3 * p + c) x) 12 (3 * p + c) l) (tkB (ms (ms D 11 (3 * p + c) x) 12 (3 * p + c) l) q) := by
      intro q y h
      obtain ⟨m0, m1, m2, m3, m4⟩ := ordF_mem hG.1 hG.2.1 h
      exact (mem_ordF hE (kp_okO hr hG.2.1) (tkB_Cl hE q)).mpr ⟨m0, m1, m2, kp_mono hG.1 hE hr (fun _ _ _ z => z) (y / 4).toNat _ (by omega) (by omega) m1 m3, m4⟩
    refine Good_fin (Good_row hG hr hE (fun _ _ _ _ _ _ h => h) ?_) ⟨by decide, by decide⟩
    intro q2 c2 a1 a2 a3 a4 hl
    by_cases e : 3 * q2 + c2 = 3 * p + c
    · have eq : q2 = p := by omega
      rw [e, ms_at] at hl ⊢
      rw [ms_row (by decide), ms_at, eq]
      exact ⟨hc.2.2.2, hxx.imp id (hmem p x)⟩
    · rw [ms_off e, ms_row (by decide)] at hl ⊢
      rw [ms_row (by decide), ms_off e]
      have := hG.2.2.2.2 q2 c2 a1 a2 a3 a4 hl
      exact ⟨this.1, this.2.imp id (hmem q2 _)⟩
  · exact Good_fin hG ⟨by decide, by decide⟩
