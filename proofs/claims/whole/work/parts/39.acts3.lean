/-! THE ACTS keep what holds: mark -/
def bndX (D : Mem) (p f n h : Int) : Int := if h < 2 then -3 else if atF D (tkB D p) (f + n - 1) + 1 < (ordF D (tkB D p)).length then fF (ordF D (tkB D p)) (atF D (tkB D p) (f + n - 1) + 1) else -2
def mrkD (D : Mem) (p v x1 x2 t w lk : Int) : Mem := ms (ms (ms (ms (ms (mkD D p 2 2 v) 4 (12 * D 9 0) x1) 4 (12 * D 9 0 + 1) x2) 7 (D 9 0) t) 8 (D 9 0) w) 6 (D 9 0) lk
theorem Good_mrk {D : Mem} (hG : Good D) {p x1 x2 t w lk : Int} (hp2 : 0 ≤ p ∧ p < 6) (h256 : D 9 0 < 256) (h1 : x1 ∈ ordF D (tkB D p)) (h2 : x2 ∈ ordF D (tkB D p)) (ht : 0 ≤ t ∧ t ≤ 3) (hw : w = 0 ∨ w = 1) (hl : lk = -3 ∨ lk = -2 ∨ lk ∈ ordF D (tkB D p)) : Good (mrkD D p (stp D p) x1 x2 t w lk) := by
  have hn := hG.1.2.1
  have hlr : Rg lk := by
    rcases hl with h | h | h
    · rw [h]; exact ⟨by decide, by decide⟩
    · rw [h]; exact ⟨by decide, by decide⟩
    · exact (nm_ok hG h).1
  have hwr : Rg w := by rcases hw with h | h <;> rw [h] <;> exact ⟨by decide, by decide⟩
  have hx : Ext D (mrkD D p (stp D p) x1 x2 t w lk) p := by
    unfold mrkD
    exact Ext_ms (Ext_ms (Ext_ms (Ext_ms (Ext_ms (Ext_mk hG.1 h256) (Or.inr (Or.inr (Or.inl ⟨rfl, by omega⟩)))) (Or.inr (Or.inr (Or.inl ⟨rfl, by omega⟩)))) (Or.inr (Or.inl ⟨Or.inr (Or.inl rfl), rfl⟩))) (Or.inr (Or.inl ⟨Or.inr (Or.inr rfl), rfl⟩))) (Or.inr (Or.inl ⟨Or.inl rfl, rfl⟩))
  have hM : RM (mrkD D p (stp D p) x1 x2 t w lk) := by
    unfold mrkD
    exact RM_ms (RM_ms (RM_ms (RM_ms (RM_ms (RM_mkD hG.1.1 ⟨by omega, by omega⟩ ⟨by decide, by decide⟩ ⟨by decide, by decide⟩ (stp_rg hG p) hn) (nm_ok hG h1).1) (nm_ok hG h2).1) ⟨by omega, by omega⟩) hwr) hlr
  have e0 : mrkD D p (stp D p) x1 x2 t w lk 0 (D 9 0) = p := (show upI (D 0) (D 9 0) p (D 9 0) = p from upI_eq)
  have e1 : mrkD D p (stp D p) x1 x2 t w lk 1 (D 9 0) = stp D p := (show upI (D 1) (D 9 0) (stp D p) (D 9 0) = stp D p from upI_eq)
  have e2 : mrkD D p (stp D p) x1 x2 t w lk 2 (D 9 0) = 2 := (show upI (D 2) (D 9 0) 2 (D 9 0) = 2 from upI_eq)
  have e3 : mrkD D p (stp D p) x1 x2 t w lk 3 (D 9 0) = 2 := (show upI (D 3) (D 9 0) 2 (D 9 0) = 2 from upI_eq)
  have e6 : mrkD D p (stp D p) x1 x2 t w lk 6 (D 9 0) = lk := by unfold mrkD; exact ms_at
  have e7 : mrkD D p (stp D p) x1 x2 t w lk 7 (D 9 0) = t := by unfold mrkD; rw [ms_row (by decide), ms_row (by decide), ms_at]
  have e40 : mrkD D p (stp D p) x1 x2 t w lk 4 (12 * D 9 0 + 0) = x1 := by unfold mrkD; rw [ms_row (by decide), ms_row (by decide), ms_row (by decide), ms_off (by omega), show 12 * D 9 0 + 0 = 12 * D 9 0 by omega, ms_at]
  have e41 : mrkD D p (stp D p) x1 x2 t w lk 4 (12 * D 9 0 + 1) = x2 := by unfold mrkD; rw [ms_row (by decide), ms_row (by decide), ms_row (by decide), ms_at]
  have e8 : ∀ z, mrkD D p (stp D p) x1 x2 t w lk 8 z = 0 ∨ mrkD D p (stp D p) x1 x2 t w lk 8 z = 1 := by
    intro z
    unfold mrkD
    rw [ms_row (by decide)]
    by_cases e : z = D 9 0
    · rw [e, ms_at]; exact hw
    · rw [ms_off e]; exact hG.1.2.2.2.1 z
  have e10 : mrkD D p (stp D p) x1 x2 t w lk 10 = gtF (D 10) (D 9 0) p 6 := rfl
  generalize mrkD D p (stp D p) x1 x2 t w lk = E at *
  have hsg : ∀ i : Int, 0 ≤ i → i < 2 → E 4 (12 * D 9 0 + i) ∈ ordF D (tkB D p) := by
    intro i a b
    have hi : i = 0 ∨ i = 1 := by omega
    rcases hi with h | h <;> subst h
    · rw [e40]; exact h1
    · rw [e41]; exact h2
  have hS : okS E (D 9 0) := by
    unfold okS
    rw [e0, e2, e3, e6, e7]
    refine ⟨hp2, by omega, fun h => by omega, fun h => by omega, fun _ => ⟨rfl, hl.imp id (Or.imp id (fun h => (nameOK_ext hx (by omega)).mpr (nm_ok hG h).2.1)), ht⟩, fun h => by omega, fun i _ a b => ?_⟩
    exact (nameOK_ext hx (by omega)).mpr (nm_ok hG (hsg i a b)).2.1
  have hE := okP_ext hG.1 hx h256 hM hS e8 (by rw [e10]; exact gt01 hG.1 p)
  refine Good_ext hG hx hp2.1 hp2.2 hE e1 (fun u hu => ?_)
  unfold needL needA at hu
  rw [e2, e3, e6, if_pos (Or.inr rfl), if_neg (by decide)] at hu
  rcases List.mem_append.mp hu with hu | hu
  · rcases List.mem_append.mp hu with hu | hu
    · exact need_own hG hx u hu
    · obtain ⟨i, a, b, c, d⟩ := sgN_mem _ hu
      rw [c]
      exact (nm_ok hG (hsg i a (by omega))).2.2
  · split at hu
    · next h6 =>
      unfold ndx at hu
      rw [if_pos (by omega), List.mem_singleton] at hu
      rw [hu]
      rcases hl with h | h | h
      · omega
      · omega
      · exact (nm_ok hG h).2.2
    · simp at hu
theorem bndX_in {D : Mem} (hG : Good D) {p f n h : Int} (h0 : 0 ≤ f) (h1 : 1 ≤ n) (h2 : f + n - 1 < txtN D (tkB D p)) : bndX D p f n h = -3 ∨ bndX D p f n h = -2 ∨ bndX D p f n h ∈ ordF D (tkB D p) := by
  unfold bndX
  split
  · exact Or.inl rfl
  · split
    · next hc =>
      have hat := atF_in (D := D) (T := tkB D p) (x := f + n - 1) (by omega) h2
      exact Or.inr (Or.inr (fF_mem (by omega) hc))
    · exact Or.inr (Or.inl rfl)
theorem Good_mark {D : Mem} (hG : Good D) {p f n t h : Int} : Good (A_mark D p f n t h).2 := by
  have hn := hG.1.2.1
  unfold A_mark
  split
  · next hp2 =>
    split
    · exact Good_fin hG ⟨by decide, by decide⟩
    · split
      · next hc =>
        split
        · exact Good_fin hG ⟨by decide, by decide⟩
        · next h256 =>
          refine Good_fin ?_ ⟨by decide, by decide⟩
          exact Good_mrk hG (p := p) (x1 := nmF D p f 0) (x2 := nmF D p f (n - 1)) (t := t) (w := bI (decide (h = 1 ∨ h = 3))) (lk := bndX D p f n h) hp2 (by omega) (nm_in hG (by omega) (by omega)) (nm_in hG (by omega) (by omega)) hc.2.1 (bI_01 _) (bndX_in hG (by omega) (by omega) (by omega))
      · exact Good_fin hG ⟨by decide, by decide⟩
  · exact Good_fin hG ⟨by decide, by decide⟩
