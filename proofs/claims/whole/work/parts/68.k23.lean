/-! what the class needs beyond Good is kept by every act -/
theorem Inv_row {D E : Mem} (h : Inv D) (hr : ∀ r : Nat, r ≠ 10 → r ≠ 11 → r ≠ 12 → r ≠ 13 → E r = D r) (hc : iCu E) : Inv E := by
  obtain ⟨h1, h2, h3, h4, h5⟩ := h
  have e1 := hr 1 (by decide) (by decide) (by decide) (by decide)
  have e2 := hr 2 (by decide) (by decide) (by decide) (by decide)
  have e3 := hr 3 (by decide) (by decide) (by decide) (by decide)
  have e4 := hr 4 (by decide) (by decide) (by decide) (by decide)
  have e6 := hr 6 (by decide) (by decide) (by decide) (by decide)
  have e9 := hr 9 (by decide) (by decide) (by decide) (by decide)
  refine ⟨?_, ?_, ?_, ?_, hc⟩
  · unfold iSt; rw [e2, e3, e4, e9]; exact h1
  · unfold iUn; rw [e1, e2, e6, e9]; exact h2
  · unfold iMk; rw [e2, e4, e6, e9, kp_ordF hr]; exact h3
  · unfold iPt; rw [e2, e3, e4, e9]; exact h4
theorem Inv_fin {D : Mem} (h : Inv D) (v : Int) : Inv (ms D 13 0 v) := Inv_row h (fun r _ _ _ h4 => ms_ne h4) (fun p c a b d e => by rw [ms_row (by decide)]; exact h.2.2.2.2 p c a b d e)
theorem Inv_0 : Inv D0 := by
  refine ⟨fun s a b => ?_, fun s a b => ?_, fun s a b => ?_, fun s a b => ?_, fun p c _ _ _ _ => ?_⟩
  · exact absurd b (by show ¬ s < 0; omega)
  · exact absurd b (by show ¬ s < 0; omega)
  · exact absurd b (by show ¬ s < 0; omega)
  · exact absurd b (by show ¬ s < 0; omega)
  · unfold D0
    split <;> omega
theorem Inv_carry {D : Mem} (h : Inv D) (s p : Int) : Inv (A_carry D s p).2 := by
  unfold A_carry
  split
  · exact Inv_fin (Inv_row h (fun r h1 _ _ _ => ms_ne h1) (fun p c a b d e => by rw [ms_row (by decide)]; exact h.2.2.2.2 p c a b d e)) 0
  · exact Inv_fin h 1
theorem Inv_all {D : Mem} (h : Inv D) (f t : Int) : Inv (A_all D f t).2 := by
  unfold A_all
  split
  · exact Inv_fin (Inv_row h (fun r h1 _ _ _ => alD_ne h1) (fun p c a b d e => by rw [alD_ne (by decide)]; exact h.2.2.2.2 p c a b d e)) 0
  · exact Inv_fin h 1
theorem Inv_cursor {D : Mem} (h : Inv D) (p c q l : Int) : Inv (A_cursor D p c q l).2 := by
  unfold A_cursor
  split
  · rename_i g
    refine Inv_fin (Inv_row h (fun r _ h2 h3 _ => by rw [ms_ne h3, ms_ne h2]) (fun p2 c2 a b d e => ?_)) 0
    by_cases e1 : 3 * p2 + c2 = 3 * p + c
    · rw [e1, ms_at]; omega
    · rw [ms_off e1, ms_row (by decide)]
      exact h.2.2.2.2 p2 c2 a b d e
  · exact Inv_fin h 1
theorem sub_newl {E : Mem} {N : Nat} (F : List Int) : List.Sublist F (newl E N F) := by
  have hsk : ∀ l : List Int, List.Sublist l (sk E N l) := by
    intro l
    unfold sk
    have e : l.takeWhile (fun y => laterB E (y / 4) N) ++ l.dropWhile (fun y => laterB E (y / 4) N) = l := List.takeWhile_append_dropWhile
    conv => lhs; rw [← e]
    exact List.Sublist.append (List.Sublist.refl _) (List.sublist_append_right _ _)
  unfold newl
  split
  · exact hsk F
  · have : ∀ l : List Int, List.Sublist l (insA E N (E 6 N) l) := by
      intro l
      induction l with
      | nil => exact List.Sublist.refl _
      | cons y t ih =>
        unfold insA
        split
        · exact List.Sublist.cons_cons _ (hsk t)
        · exact List.Sublist.cons_cons _ ih
    exact this F
theorem sub_ord {D E : Mem} {p : Int} (hx : Ext D E p) (hG : Good D) (hGE : Good E) (h256 : D 9 0 < 256) : List.Sublist (ordF D tT) (ordF E tT) := by
  have hn := hG.1.2.1
  have h9 : D 9 0 = ((D 9 0).toNat : Nat) := by omega
  have hO : okO E ((D 9 0).toNat + 1) := by
    have := hGE.2.1
    rw [hx.1, show (D 9 0 + 1).toNat = (D 9 0).toNat + 1 by omega] at this
    exact this
  rw [ord_new hx h9 (by omega) hO]
  split
  · exact sub_newl _
  · exact List.Sublist.refl _
theorem Inv_ext {D E : Mem} {p : Int} (h : Inv D) (hx : Ext D E p) (hG : Good D) (hGE : Good E) (h256 : D 9 0 < 256) (h1 : E 2 (D 9 0) = 1 → ∀ i j : Int, 0 ≤ i → i < j → j < E 3 (D 9 0) → E 4 (12 * D 9 0 + i) ≠ E 4 (12 * D 9 0 + j)) (h2 : E 2 (D 9 0) = 3 → E 1 (E 6 (D 9 0)) < E 1 (D 9 0)) (h3 : E 2 (D 9 0) = 2 → 0 ≤ E 6 (D 9 0) → List.Sublist [E 4 (12 * D 9 0 + 1), E 6 (D 9 0)] (ordF D tT)) (h4 : E 2 (D 9 0) = 0 → ∀ i : Int, 0 ≤ i → i < E 3 (D 9 0) → E 4 (12 * D 9 0 + i) = 4 * D 9 0 + i) : Inv E := by
  obtain ⟨g1, g2, g3, g4, g5⟩ := h
  have hs := sub_ord hx hG hGE h256
  have e : ∀ r : Nat, (r = 0 ∨ r = 1 ∨ r = 2 ∨ r = 3 ∨ r = 6 ∨ r = 7 ∨ r = 8) → ∀ s : Int, 0 ≤ s → s < D 9 0 → E r s = D r s := hx.2.1
  have h9 := hx.1
  refine ⟨fun s a b c i j d f g => ?_, fun u a b c => ?_, fun m a b c d => ?_, fun s a b c i d f => ?_, fun q c a b d f => ?_⟩
  · by_cases es : s = D 9 0
    · subst es; exact h1 c i j d f g
    · have hd := (hG.1.2.2.1 s a (by omega)).d3
      rw [e 2 (by decide) s a (by omega)] at c
      rw [e 3 (by decide) s a (by omega)] at g
      rw [hx.2.2.1 _ (by omega), hx.2.2.1 _ (by omega)]
      exact g1 s a (by omega) c i j d f g
  · by_cases es : u = D 9 0
    · subst es; exact h2 c
    · rw [e 2 (by decide) u a (by omega)] at c
      have hu := (hG.1.2.2.1 u a (by omega)).2.2.2.2.2.1 c
      rw [e 6 (by decide) u a (by omega), e 1 (by decide) u a (by omega), e 1 (by decide) _ hu.2.1 (by omega)]
      exact g2 u a (by omega) c
  · by_cases es : m = D 9 0
    · subst es; exact (h3 c d).trans hs
    · rw [e 2 (by decide) m a (by omega)] at c
      rw [e 6 (by decide) m a (by omega)] at d ⊢
      rw [hx.2.2.1 _ (by omega)]
      exact (g3 m a (by omega) c d).trans hs
  · by_cases es : s = D 9 0
    · subst es; exact h4 c i d f
    · have hd := (hG.1.2.2.1 s a (by omega)).d3
      rw [e 2 (by decide) s a (by omega)] at c
      rw [e 3 (by decide) s a (by omega)] at f
      rw [hx.2.2.1 _ (by omega)]
      exact g4 s a (by omega) c i d f
  · rw [hx.2.2.2.2.2.2.2.2]
    exact g5 q c a b d f
theorem Inv_type {D : Mem} (hG : Good D) (h : Inv D) {p q c1 c2 c3 : Int} (hp : Rg p) (hc1 : Rg c1) (hc2 : Rg c2) (hc3 : Rg c3) : Inv (A_type D p q c1 c2 c3).2 := by
  have hn := hG.1.2.1
  by_cases hp2 : 0 ≤ p ∧ p < 6
  · by_cases hg : goodB D p q c1 c2 c3 = true
    · by_cases h256 : D 9 0 = 256
      · unfold A_type; rw [if_pos hp2, if_pos hg, if_pos h256]; exact Inv_fin h 2
      · obtain ⟨hA, hw, h3, h6, h45⟩ := ty_new hG hp hc1 hc2 hc3 hp2 hg (by omega)
        rw [hA]
        refine Inv_fin (Inv_ext h hw.1 hG hw.2.1 (by omega) (fun e => ?_) (fun e => ?_) (fun e => ?_) (fun _ i a b => ?_)) 0
        · rw [hw.2.2.2.1] at e; cases e
        · rw [hw.2.2.2.1] at e; cases e
        · rw [hw.2.2.2.1] at e; cases e
        · rw [h3] at b
          exact (h45 i a b).2
    · unfold A_type; rw [if_pos hp2, if_neg hg]; exact Inv_fin h 1
  · unfold A_type; rw [if_neg hp2]; exact Inv_fin h 1
theorem nmX_inj {D : Mem} (hG : Good D) {T : Int → Bool} (hC : Cl D T) {i j : Int} (hi0 : 0 ≤ i) (hi1 : i < txtN D T) (hj0 : 0 ≤ j) (hj1 : j < txtN D T) (e : nmX D T i = nmX D T j) : i = j := by
  have a1 := atF_in (D := D) (T := T) hi0 hi1
  have a2 := atF_in (D := D) (T := T) hj0 hj1
  have g1 := inIx_at (ordF_nd hG hC) a1.1 a1.2.1
  have g2 := inIx_at (ordF_nd hG hC) a2.1 a2.2.1
  unfold nmX at e
  rw [e, g2] at g1
  have h1 := a1.2.2.2
  have h2 := a2.2.2.2
  rw [← g1, h2] at h1
  exact h1.symm
theorem Inv_strike {D : Mem} (hG : Good D) (h : Inv D) {p f n : Int} (hp : Rg p) (hn2 : Rg n) : Inv (A_strike D p f n).2 := by
  have hn := hG.1.2.1
  by_cases hp2 : 0 ≤ p ∧ p < 6
  · by_cases hneg : n < 0
    · unfold A_strike; rw [if_pos hp2, if_pos hneg]; exact Inv_fin h 5
    · by_cases hc : (1 ≤ n ∧ n ≤ 12) ∧ (0 ≤ f ∧ 0 ≤ n ∧ n ≤ txtN D (tkB D p) ∧ f ≤ txtN D (tkB D p) - n)
      · by_cases h256 : D 9 0 = 256
        · unfold A_strike; rw [if_pos hp2, if_neg hneg, if_pos hc, if_pos h256]; exact Inv_fin h 2
        · obtain ⟨hA, hw, h3, h4⟩ := st_new hG hp hn2 hp2 hc (by omega)
          rw [hA]
          refine Inv_fin (Inv_ext h hw.1 hG hw.2.1 (by omega) (fun _ i j a b c e => ?_) (fun e => ?_) (fun e => ?_) (fun e => ?_)) 0
          · rw [h3] at c
            rw [h4 i a (by omega), h4 j (by omega) c] at e
            have := nmX_inj hG (tkB_Cl hG.1 p) (by omega) (by omega) (by omega) (by omega) e
            omega
          · rw [hw.2.2.2.1] at e; cases e
          · rw [hw.2.2.2.1] at e; cases e
          · rw [hw.2.2.2.1] at e; cases e
      · unfold A_strike; rw [if_pos hp2, if_neg hneg, if_neg hc]; exact Inv_fin h 1
  · unfold A_strike; rw [if_neg hp2]; exact Inv_fin h 1
theorem Inv_undo {D : Mem} (hG : Good D) (h : Inv D) {p s : Int} (hp : Rg p) (hs : Rg s) : Inv (A_undo D p s).2 := by
  have hn := hG.1.2.1
  by_cases hc : (0 ≤ p ∧ p < 6) ∧ (0 ≤ s ∧ s < D 9 0)
  · by_cases h0 : D 0 s ≠ p
    · unfold A_undo; rw [if_pos hc, if_pos h0]; exact Inv_fin h 3
    · by_cases hw : wkB D (tkB D p) s = false
      · unfold A_undo; rw [if_pos hc, if_neg h0, if_pos hw]; exact Inv_fin h 4
      · by_cases h256 : D 9 0 = 256
        · unfold A_undo; rw [if_pos hc, if_neg h0, if_neg hw, if_pos h256]; exact Inv_fin h 2
        · have hw2 : wkB D (tkB D p) s = true := by
            cases e : wkB D (tkB D p) s
            · exact absurd e hw
            · rfl
          obtain ⟨hA, hN, h6⟩ := un_new hG hp hs hc.1 hc.2 (Classical.not_not.mp h0) hw2 (by omega)
          rw [hA]
          refine Inv_fin (Inv_ext h hN.1 hG hN.2.1 (by omega) (fun e => ?_) (fun _ => ?_) (fun e => ?_) (fun e => ?_)) 0
          · rw [hN.2.2.2.1] at e; cases e
          · rw [h6, hN.2.2.1, hN.1.2.1 1 (by decide) s hc.2.1 hc.2.2]
            have := mxF_ge (D := D) (T := tkB D p) hc.2.1 (wk_tk hG.1 hc.2.1 hc.2.2 hw2) (D 9 0).toNat (by omega)
            show D 1 s < mxF D (tkB D p) (D 9 0).toNat + 1
            omega
          · rw [hN.2.2.2.1] at e; cases e
          · rw [hN.2.2.2.1] at e; cases e
  · unfold A_undo; rw [if_neg hc]; exact Inv_fin h 1
theorem Inv_mark {D : Mem} (hG : Good D) (h : Inv D) {p f n t w : Int} : Inv (A_mark D p f n t w).2 := by
  have hn := hG.1.2.1
  by_cases hp2 : 0 ≤ p ∧ p < 6
  · by_cases hneg : n < 0
    · unfold A_mark; rw [if_pos hp2, if_pos hneg]; exact Inv_fin h 5
    · by_cases hc : (1 ≤ n ∧ (0 ≤ f ∧ 0 ≤ n ∧ n ≤ txtN D (tkB D p) ∧ f ≤ txtN D (tkB D p) - n)) ∧ (0 ≤ t ∧ t ≤ 3) ∧ (0 ≤ w ∧ w ≤ 3)
      · by_cases h256 : D 9 0 = 256
        · unfold A_mark; rw [if_pos hp2, if_neg hneg, if_pos hc, if_pos h256]; exact Inv_fin h 2
        · obtain ⟨hA, hw, h41, h42, h6, h7, h8⟩ := mk_new hG (p := p) (f := f) (n := n) (t := t) (h := w) hp2 hc (by omega)
          rw [hA]
          refine Inv_fin (Inv_ext h hw.1 hG hw.2.1 (by omega) (fun e => ?_) (fun e => ?_) (fun _ e6 => ?_) (fun e => ?_)) 0
          · rw [hw.2.2.2.1] at e; cases e
          · rw [hw.2.2.2.1] at e; cases e
          · rw [h6] at e6 ⊢
            rw [h42]
            have hat := atF_in (D := D) (T := tkB D p) (x := f + n - 1) (by omega) (by omega)
            have hb : bndX D p f n w = fF (ordF D (tkB D p)) (atF D (tkB D p) (f + n - 1) + 1) ∧ atF D (tkB D p) (f + n - 1) + 1 < (ordF D (tkB D p)).length := by
              unfold bndX at e6 ⊢
              by_cases g : w < 2
              · rw [if_pos g] at e6; omega
              · rw [if_neg g] at e6 ⊢
                by_cases g2 : atF D (tkB D p) (f + n - 1) + 1 < (ordF D (tkB D p)).length
                · rw [if_pos g2]; exact ⟨rfl, g2⟩
                · rw [if_neg g2] at e6; omega
            rw [hb.1]
            have hsub : List.Sublist (ordF D (tkB D p)) (ordF D tT) := by
              rw [ordF_eq hG.1 hG.2.1 (tkB_Cl hG.1 p)]
              exact List.filter_sublist
            refine List.Sublist.trans ?_ hsub
            have hi : (atF D (tkB D p) (f + n - 1)).toNat < (ordF D (tkB D p)).length := by omega
            have hi2 : (atF D (tkB D p) (f + n - 1)).toNat + 1 < (ordF D (tkB D p)).length := by omega
            have e1 : nmX D (tkB D p) (f + n - 1) = (ordF D (tkB D p))[(atF D (tkB D p) (f + n - 1)).toNat] := by
              rw [fF_get hi, show (((atF D (tkB D p) (f + n - 1)).toNat : Nat) : Int) = atF D (tkB D p) (f + n - 1) by omega]
              rfl
            have e2 : fF (ordF D (tkB D p)) (atF D (tkB D p) (f + n - 1) + 1) = (ordF D (tkB D p))[(atF D (tkB D p) (f + n - 1)).toNat + 1] := by
              rw [fF_get hi2, show (((atF D (tkB D p) (f + n - 1)).toNat + 1 : Nat) : Int) = atF D (tkB D p) (f + n - 1) + 1 by omega]
            rw [e1, e2]
            have e3 : (ordF D (tkB D p)).drop (atF D (tkB D p) (f + n - 1)).toNat = (ordF D (tkB D p))[(atF D (tkB D p) (f + n - 1)).toNat] :: (ordF D (tkB D p))[(atF D (tkB D p) (f + n - 1)).toNat + 1] :: (ordF D (tkB D p)).drop ((atF D (tkB D p) (f + n - 1)).toNat + 1 + 1) := by
              rw [List.drop_eq_getElem_cons hi, List.drop_eq_getElem_cons hi2]
            refine List.Sublist.trans ?_ (List.drop_sublist (atF D (tkB D p) (f + n - 1)).toNat (ordF D (tkB D p)))
            rw [e3]
            exact List.Sublist.cons_cons _ (List.Sublist.cons_cons _ (List.nil_sublist _))
          · rw [hw.2.2.2.1] at e; cases e
      · unfold A_mark; rw [if_pos hp2, if_neg hneg, if_neg hc]; exact Inv_fin h 1
  · unfold A_mark; rw [if_neg hp2]; exact Inv_fin h 1
