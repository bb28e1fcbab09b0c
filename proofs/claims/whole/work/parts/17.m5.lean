/-! THE REFERENCE: the pile and the order -/
def PL (M : Mem) (B : List (Int × Int)) : Prop := M 23 0 = B.length ∧ ∀ (j : Nat) (q : Int × Int), B[j]? = some q → M 21 j = q.1 ∧ M 22 j = q.2
def OL (M : Mem) (F : List Int) : Prop := M 17 0 = F.length ∧ ∀ (j : Nat) (x : Int), F[j]? = some x → M 16 j = x
def z0 (s : Int) : Int × Int := (s, 0)
theorem insR_rev {D : Mem} {s : Int} (C : List Int) (i : Nat) (hi : i ≤ C.length) (h1 : ∀ (j : Nat) (x : Int), i ≤ j → C[j]? = some x → laterB D x s = true) (h2 : i = 0 ∨ ∃ x, C[i - 1]? = some x ∧ laterB D x s = false) : (insR D s C.reverse).reverse = C.take i ++ s :: C.drop i := by
  have e : C.reverse = (C.drop i).reverse ++ (C.take i).reverse := by rw [← List.reverse_append, List.take_append_drop]
  have ha : ∀ y ∈ (C.drop i).reverse, laterB D y s = true := by
    intro y hy
    obtain ⟨j, hj⟩ := List.getElem?_of_mem (List.mem_reverse.mp hy)
    rw [List.getElem?_drop] at hj
    exact h1 (i + j) y (by omega) hj
  have hb : ∀ y, (C.take i).reverse.head? = some y → laterB D y s = false := by
    intro y hy
    rcases h2 with h | ⟨x, hx, hl⟩
    · subst h; simp at hy
    · rw [List.head?_reverse, List.getLast?_eq_getElem?, List.length_take, Nat.min_eq_left hi] at hy
      have hlt : i - 1 < C.length := (List.getElem?_eq_some_iff.mp hx).1
      have h0 : i ≠ 0 := by
        intro h0; subst h0; simp at hy
      rw [List.getElem?_take_of_lt (by omega), hx] at hy
      cases hy; exact hl
  rw [insR_split, e, (tw_split _ _ ha hb).1, (tw_split _ _ ha hb).2]
  simp
theorem PL_ins {M1 M3 : Mem} {E : List (Int × Int)} (k : Nat) (s : Int) (hk : k ≤ E.length) (h1 : PL M1 E) (h23 : M3 23 0 = E.length + 1) (hlo : ∀ j : Nat, j < k → M3 21 j = M1 21 j ∧ M3 22 j = M1 22 j) (hk1 : M3 21 k = s ∧ M3 22 k = 0) (hhi : ∀ j : Nat, k < j → j ≤ E.length → M3 21 j = M1 21 ((j : Int) - 1) ∧ M3 22 j = M1 22 ((j : Int) - 1)) : PL M3 (E.take k ++ (s, 0) :: E.drop k) := by
  refine ⟨?_, fun j q hq => ?_⟩
  · rw [h23]; simp; omega
  · rcases Nat.lt_trichotomy j k with hj | hj | hj
    · rw [List.getElem?_append_left (by simp; omega), List.getElem?_take_of_lt hj] at hq
      rw [(hlo j hj).1, (hlo j hj).2]
      exact h1.2 j q hq
    · subst hj
      rw [List.getElem?_append_right (by simp; omega)] at hq
      have e : j - (List.take j E).length = 0 := by simp; omega
      rw [e] at hq
      cases hq
      exact hk1
    · rw [List.getElem?_append_right (by simp; omega)] at hq
      have e : j - (List.take k E).length = (j - k - 1) + 1 := by simp; omega
      rw [e, List.getElem?_cons_succ, List.getElem?_drop] at hq
      have hlt := (List.getElem?_eq_some_iff.mp hq).1
      have h2 := hhi j hj (by omega)
      have h3 := h1.2 (k + (j - k - 1)) q hq
      rw [h2.1, h2.2, show ((j : Int) - 1) = ((k + (j - k - 1) : Nat) : Int) by omega]
      exact h3
theorem pls_len {D : Mem} {T : Int → Bool} {L : Int} : ∀ (k m : Nat), k ≤ m → (pls D T L k).length ≤ (pls D T L m).length := by
  have one : ∀ (s : Int) (l : List Int), (insR D s l).length = l.length + 1 := by
    intro s l
    rw [insR_split]
    have := congrArg List.length (List.takeWhile_append_dropWhile (p := fun t => laterB D t s) (l := l))
    simp only [List.length_append, List.length_cons] at this ⊢
    omega
  intro k m hkm
  induction m with
  | zero => rw [show k = 0 by omega]; exact Nat.le_refl _
  | succ m ih =>
    by_cases e : k = m + 1
    · rw [e]; exact Nat.le_refl _
    · have := ih (by omega)
      have h2 : (pls D T L (m + 1)).length = (if cand D T L m = true then insR D m (pls D T L m) else pls D T L m).length := rfl
      rw [h2]
      split
      · rw [one]; omega
      · exact this
theorem pls_step {D : Mem} {T : Int → Bool} {L : Int} {s : Int} (h0 : 0 ≤ s) : pls D T L (s + 1).toNat = if cand D T L s = true then insR D s (pls D T L s.toNat) else pls D T L s.toNat := by
  rw [show (s + 1).toNat = s.toNat + 1 by omega, show pls D T L (s.toNat + 1) = if cand D T L ((s.toNat : Nat) : Int) = true then insR D ((s.toNat : Nat) : Int) (pls D T L s.toNat) else pls D T L s.toNat from rfl, show ((s.toNat : Nat) : Int) = s by omega]
theorem insR_len (D : Mem) (s : Int) (l : List Int) : (insR D s l).length = l.length + 1 := by
  rw [insR_split]
  have := congrArg List.length (List.takeWhile_append_dropWhile (p := fun t => laterB D t s) (l := l))
  simp only [List.length_append, List.length_cons] at this ⊢
  omega
set_option maxHeartbeats 4000000 in
set_option maxRecDepth 100000 in
/-- pilePuts -/
theorem c_pilePuts (Z : LZ) (o : Nat) (a : Nat → Nat) {D M : Mem} (hP : Pers D M) (hM : RM D) (hD : okP D) (x : Int) (hx : Rg x) (T : Int → Bool) (hT : ∀ t, 0 ≤ t → t < D 9 0 → M 14 t = bI (T t)) (B : List (Int × Int)) (hB : PL M B) (hlen : B.length + (pls D T x (D 9 0).toNat).length ≤ 800)  : Tn Z o a jX9_pilePuts [x] M (fun M2 => Fx [21, 22, 23] M M2 ∧ PL M2 (B ++ (pls D T x (D 9 0).toNat).reverse.map z0)) := by
  refine tr_of pn_X9_pilePuts (Nat.le_of_ble_eq_true rfl) (vI_catO o _) ?_
  show G Z jX9_pilePuts E0 (QM Z jX9_pilePuts (pV Z o a (fun M2 => Fx [21, 22, 23] M M2 ∧ PL M2 (B ++ (pls D T x (D 9 0).toNat).reverse.map z0)))) 0 [.ref o, .int (iI x)] [] (mW Z o a M) 0 0
  have hn := hD.2.1
  obtain ⟨f, hf⟩ : ∃ f : Int, f = B.length := ⟨_, rfl⟩
  have loop : ∀ (fuel : Nat) (s : Int) (M1 : Mem), D 9 0 - s < fuel → 0 ≤ s → s ≤ D 9 0 → Fx [21, 22, 23] M M1 → PL M1 (B ++ (pls D T x s.toNat).reverse.map z0) → G Z jX9_pilePuts E0 (QM Z jX9_pilePuts (pV Z o a (fun M2 => Fx [21, 22, 23] M M2 ∧ PL M2 (B ++ (pls D T x (D 9 0).toNat).reverse.map z0)))) 7 [.ref o, .int (iI x), .int (iI f), .int (iI s)] [] (mW Z o a M1) 0 0 := by
    intro fuel
    induction fuel with
    | zero => intros; exfalso; omega
    | succ fuel ih0 =>
      intro s M1 hfu hs0 hs1 hF hE1
      by_cases hlt : s < D 9 0
      · have nxt : ∀ (M2 : Mem) (xs : List Value), Fx [21, 22, 23] M M2 → PL M2 (B ++ (pls D T x (s + 1).toNat).reverse.map z0) → G Z jX9_pilePuts E0 (QM Z jX9_pilePuts (pV Z o a (fun M2 => Fx [21, 22, 23] M M2 ∧ PL M2 (B ++ (pls D T x (D 9 0).toNat).reverse.map z0)))) 136 (.ref o :: .int (iI x) :: .int (iI f) :: .int (iI s) :: xs) [] (mW Z o a M2) 0 0 := by
          intro M2 xs hF hE
          refine gi_inc dX9_pilePuts_136 rfl (Nat.le_of_ble_eq_true rfl) rfl ?_
          dsimp only [sto]
          refine g_goto 7 dX9_pilePuts_139 (by decide) ?_
          refine g_drop (ls1 := [_, _, _, _]) (xs := xs) rfl ?_
          exact ih0 _ _ (by omega) (by omega) (by omega) hF hE
        have hpl := pls_len (D := D) (T := T) (L := x) (s + 1).toNat (D 9 0).toNat (by omega)
        obtain ⟨E0l, hE0⟩ : ∃ q : Nat, q = (B ++ (pls D T x s.toNat).reverse.map z0).length := ⟨_, rfl⟩
        have hE0' : (E0l : Int) = f + (pls D T x s.toNat).length := by rw [hE0, hf]; simp
        have hEC : ∀ (j : Nat) (y : Int), (pls D T x s.toNat).reverse[j]? = some y → M1 21 (f + j) = y := by
          intro j y hj
          have := hE1.2 (B.length + j) (z0 y) (by rw [List.getElem?_append_right (by omega), show B.length + j - B.length = j by omega, List.getElem?_map, hj]; rfl)
          rw [hf, show ((B.length : Int) + (j : Int)) = ((B.length + j : Nat) : Int) by omega]
          exact this.1
        have hE2 : ∀ j : Int, f ≤ j → j < E0l → 0 ≤ M1 21 j ∧ M1 21 j < D 9 0 := by
          intro j a1 a2
          have hj : (j - f).toNat < (pls D T x s.toNat).reverse.length := by simp; omega
          have := hEC _ _ (List.getElem?_eq_getElem hj)
          rw [show f + (((j - f).toNat : Nat) : Int) = j by omega] at this
          rw [this]
          have hm := mem_pls.mp (List.mem_reverse.mp (List.getElem_mem hj))
          exact ⟨hm.1, by omega⟩
        have hcase : cand D T x s = true → G Z jX9_pilePuts E0 (QM Z jX9_pilePuts (pV Z o a (fun M2 => Fx [21, 22, 23] M M2 ∧ PL M2 (B ++ (pls D T x (D 9 0).toNat).reverse.map z0)))) 43 [.ref o, .int (iI x), .int (iI f), .int (iI s)] [] (mW Z o a M1) 0 0 := by
          intro hcd
          have hl1 : (pls D T x (s + 1).toNat).length = (pls D T x s.toNat).length + 1 := by rw [pls_step hs0, if_pos hcd, insR_len]
          have fin : ∀ (k : Int) (M2 : Mem), f ≤ k → k ≤ E0l → Fx [21, 22, 23] M M2 → M2 23 0 = E0l → (∀ j, 0 ≤ j → j < k → M2 21 j = M1 21 j ∧ M2 22 j = M1 22 j) → (∀ j, k < j → j ≤ E0l → M2 21 j = M1 21 (j - 1) ∧ M2 22 j = M1 22 (j - 1)) → (∀ j, k ≤ j → j < E0l → laterB D (M1 21 j) s = true) → (k = f ∨ (f < k ∧ laterB D (M1 21 (k - 1)) s = false)) → G Z jX9_pilePuts E0 (QM Z jX9_pilePuts (pV Z o a (fun M2 => Fx [21, 22, 23] M M2 ∧ PL M2 (B ++ (pls D T x (D 9 0).toNat).reverse.map z0)))) 110 [.ref o, .int (iI x), .int (iI f), .int (iI s), .int (iI k)] [] (mW Z o a M2) 0 0 := by
            intro k M2 hk0 hk1 hF h23 hlo hhi hla hst
            refine g_aload_n 0 dX9_pilePuts_110 rfl rfl ?_
            refine mg_21 dX9_pilePuts_111 rfl ?_
            refine g_iload dX9_pilePuts_114 rfl ?_
            refine g_iload_n 3 dX9_pilePuts_116 rfl rfl ?_
            refine mt_21 dX9_pilePuts_117 (by omega) (by omega) ?_
            refine g_aload_n 0 dX9_pilePuts_118 rfl rfl ?_
            refine mg_22 dX9_pilePuts_119 rfl ?_
            refine g_iload dX9_pilePuts_122 rfl ?_
            refine g_iconst (iI 0) dX9_pilePuts_124 rfl ?_
            refine mt_22 dX9_pilePuts_125 (by omega) (by omega) ?_
            refine g_aload_n 0 dX9_pilePuts_126 rfl rfl ?_
            refine g_dup dX9_pilePuts_127 rfl ?_
            refine mg_23 ((ms_row (by decide)).trans ((ms_row (by decide)).trans h23)) dX9_pilePuts_128 rfl ?_
            refine g_iconst (iI 1) dX9_pilePuts_131 rfl ?_
            refine gi_add dX9_pilePuts_132 ?_
            refine mp_23 dX9_pilePuts_133 rfl ?_
            exact nxt _ [_] (((hF.ms (by decide)).ms (by decide)).ms (by decide)) (by
              rw [pls_step hs0, if_pos hcd]
              have hi : (k - f).toNat ≤ (pls D T x s.toNat).reverse.length := by simp; omega
              have hrev := insR_rev (D := D) (s := s) (pls D T x s.toNat).reverse (k - f).toNat hi (fun j y a1 a2 => by
                have hlt := (List.getElem?_eq_some_iff.mp a2).1
                rw [List.length_reverse] at hlt
                rw [← hEC j y a2]
                exact hla _ (by omega) (by omega)) (by
                rcases hst with h | ⟨h1, h2⟩
                · left; omega
                · right
                  have hlt : (k - f).toNat - 1 < (pls D T x s.toNat).reverse.length := by omega
                  refine ⟨_, List.getElem?_eq_getElem hlt, ?_⟩
                  rw [← hEC _ _ (List.getElem?_eq_getElem hlt), show f + (((k - f).toNat - 1 : Nat) : Int) = k - 1 by omega]
                  exact h2)
              rw [List.reverse_reverse] at hrev
              rw [hrev]
              have e21 : ∀ j, ms (ms (ms M2 21 k s) 22 k 0) 23 0 ((E0l : Int) + 1) 21 j = upI (M2 21) k s j := fun j => rfl
              have e22 : ∀ j, ms (ms (ms M2 21 k s) 22 k 0) 23 0 ((E0l : Int) + 1) 22 j = upI (M2 22) k 0 j := fun j => rfl
              have hp := PL_ins (M3 := ms (ms (ms M2 21 k s) 22 k 0) 23 0 ((E0l : Int) + 1)) k.toNat s (by omega) hE1 (by rw [ms_at, hE0]) (fun j a1 => by
                rw [e21, e22, upI_ne (by omega), upI_ne (by omega)]
                exact hlo j (by omega) (by omega)) (by
                rw [show ((k.toNat : Nat) : Int) = k by omega, e21, e22, upI_eq, upI_eq]
                exact ⟨rfl, rfl⟩) (fun j a1 a2 => by
                rw [e21, e22, upI_ne (by omega), upI_ne (by omega)]
                exact hhi j (by omega) (by omega))
              have e1 : (B ++ (pls D T x s.toNat).reverse.map z0).take k.toNat = B ++ ((pls D T x s.toNat).reverse.take (k - f).toNat).map z0 := by
                rw [List.take_append, List.take_of_length_le (by omega), ← List.map_take, show k.toNat - B.length = (k - f).toNat by omega]
              have e2 : (B ++ (pls D T x s.toNat).reverse.map z0).drop k.toNat = ((pls D T x s.toNat).reverse.drop (k - f).toNat).map z0 := by
                rw [List.drop_append, List.drop_of_length_le (by omega), ← List.map_drop, show k.toNat - B.length = (k - f).toNat by omega]; rfl
              rw [e1, e2] at hp
              simpa [z0] using hp)
          have inn : ∀ (fuel : Nat) (k : Int) (M2 : Mem), k - f < fuel → f ≤ k → k ≤ E0l → Fx [21, 22, 23] M M2 → M2 23 0 = E0l → (∀ j, 0 ≤ j → j < k → M2 21 j = M1 21 j ∧ M2 22 j = M1 22 j) → (∀ j, k < j → j ≤ E0l → M2 21 j = M1 21 (j - 1) ∧ M2 22 j = M1 22 (j - 1)) → (∀ j, k ≤ j → j < E0l → laterB D (M1 21 j) s = true) → G Z jX9_pilePuts E0 (QM Z jX9_pilePuts (pV Z o a (fun M2 => Fx [21, 22, 23] M M2 ∧ PL M2 (B ++ (pls D T x (D 9 0).toNat).reverse.map z0)))) 49 [.ref o, .int (iI x), .int (iI f), .int (iI s), .int (iI k)] [] (mW Z o a M2) 0 0 := by
            intro fuel
            induction fuel with
            | zero => intros; exfalso; omega
            | succ fuel ih =>
              intro k M2 hfu hk0 hk1 hF h23 hlo hhi hla
              refine g_iload dX9_pilePuts_49 rfl ?_
              refine g_iload_n 2 dX9_pilePuts_51 rfl rfl ?_
              refine gi_icmp_le 110 dX9_pilePuts_52 (by decide) (by first | exact hM _ _ | exact bI_Rg _ | exact ⟨by omega, by omega⟩) (by first | exact hM _ _ | exact bI_Rg _ | exact ⟨by omega, by omega⟩) (fun c52 => ?_) (fun c52 => ?_)
              · exact fin k M2 hk0 hk1 hF h23 hlo hhi hla (by first | exact Or.inl (by omega) | (right; exact ⟨by omega, bI_eq0.mp c69⟩))
              · obtain ⟨hx1, hx2⟩ := hE2 (k - 1) (by omega) (by omega)
                refine g_aload_n 0 dX9_pilePuts_55 rfl rfl ?_
                refine g_aload_n 0 dX9_pilePuts_56 rfl rfl ?_
                refine mg_21 dX9_pilePuts_57 rfl ?_
                refine g_iload dX9_pilePuts_60 rfl ?_
                refine g_iconst (iI 1) dX9_pilePuts_62 rfl ?_
                refine gi_sub dX9_pilePuts_63 ?_
                refine ml_21 (hlo _ (by omega) (by omega)).1 dX9_pilePuts_64 (by omega) (by omega) ?_
                refine g_iload_n 3 dX9_pilePuts_65 rfl rfl ?_
                refine mcI lkX9_108 (c_isLater Z o a (hP.fx hF (by decide)) hM _ s (by omega) (by omega) (by omega) (by omega)) dX9_pilePuts_66 rfl (And.intro (Nat.le_of_ble_eq_true rfl) (Nat.le_of_ble_eq_true rfl)) rfl (Nat.le_of_ble_eq_true rfl) rfl rfl (Nat.le_of_ble_eq_true rfl) (Nat.le_of_ble_eq_true rfl) (fun z66 M66 h66 => ?_)
                obtain ⟨q1, q2⟩ := h66
                rw [q1, q2]
                refine gi_if_eq 110 dX9_pilePuts_69 (by decide) (by first | exact hM _ _ | exact bI_Rg _ | exact ⟨by omega, by omega⟩) (fun c69 => ?_) (fun c69 => ?_)
                · exact fin k M2 hk0 hk1 hF h23 hlo hhi hla (by first | exact Or.inl (by omega) | (right; exact ⟨by omega, bI_eq0.mp c69⟩))
                · refine g_aload_n 0 dX9_pilePuts_72 rfl rfl ?_
                  refine mg_21 dX9_pilePuts_73 rfl ?_
                  refine g_iload dX9_pilePuts_76 rfl ?_
                  refine g_aload_n 0 dX9_pilePuts_78 rfl rfl ?_
                  refine mg_21 dX9_pilePuts_79 rfl ?_
                  refine g_iload dX9_pilePuts_82 rfl ?_
                  refine g_iconst (iI 1) dX9_pilePuts_84 rfl ?_
                  refine gi_sub dX9_pilePuts_85 ?_
                  refine ml_21 (hlo _ (by omega) (by omega)).1 dX9_pilePuts_86 (by omega) (by omega) ?_
                  refine mt_21 dX9_pilePuts_87 (by omega) (by omega) ?_
                  refine g_aload_n 0 dX9_pilePuts_88 rfl rfl ?_
                  refine mg_22 dX9_pilePuts_89 rfl ?_
                  refine g_iload dX9_pilePuts_92 rfl ?_
                  refine g_aload_n 0 dX9_pilePuts_94 rfl rfl ?_
                  refine mg_22 dX9_pilePuts_95 rfl ?_
                  refine g_iload dX9_pilePuts_98 rfl ?_
                  refine g_iconst (iI 1) dX9_pilePuts_100 rfl ?_
                  refine gi_sub dX9_pilePuts_101 ?_
                  refine ml_22 ((ms_row (by decide)).trans (hlo _ (by omega) (by omega)).2) dX9_pilePuts_102 (by omega) (by omega) ?_
                  refine mt_22 dX9_pilePuts_103 (by omega) (by omega) ?_
                  refine gi_inc dX9_pilePuts_104 rfl (Nat.le_of_ble_eq_true rfl) rfl ?_
                  dsimp only [sto]
                  refine g_goto 49 dX9_pilePuts_107 (by decide) ?_
                  exact ih _ _ (by omega) (by omega) (by omega) ((hF.ms (by decide)).ms (by decide)) (by rw [ms_row (by decide), ms_row (by decide)]; exact h23) (fun j a1 a2 => by
                    show upI (M2 21) k (M1 21 (k - 1)) j = _ ∧ upI (M2 22) k (M1 22 (k - 1)) j = _
                    rw [upI_ne (by omega), upI_ne (by omega)]
                    exact hlo j a1 (by omega)) (fun j a1 a2 => by
                    show upI (M2 21) k (M1 21 (k - 1)) j = _ ∧ upI (M2 22) k (M1 22 (k - 1)) j = _
                    by_cases e : j = k
                    · subst e
                      rw [upI_eq, upI_eq]
                      exact ⟨rfl, rfl⟩
                    · rw [upI_ne e, upI_ne e]
                      exact hhi j (by omega) a2) (fun j a1 a2 => by
                    by_cases e : j = k - 1
                    · subst e
                      cases hl : laterB D (M1 21 (k - 1)) s
                      · rw [hl] at c69; exact absurd rfl c69
                      · rfl
                    · exact hla j (by omega) a2)
          refine g_aload_n 0 dX9_pilePuts_43 rfl rfl ?_
          refine mg_23 (hE1.1.trans (by rw [← hE0])) dX9_pilePuts_44 rfl ?_
          refine g_istore dX9_pilePuts_47 (Nat.le_of_ble_eq_true rfl) (Nat.le_of_ble_eq_true rfl) rfl ?_
          dsimp only [sto]
          exact inn (E0l + 1) _ M1 (by omega) (by omega) (by omega) hF (by rw [hE1.1, ← hE0]) (fun j _ _ => ⟨rfl, rfl⟩) (fun j a1 a2 => by omega) (fun j a1 a2 => by omega)
        refine g_iload_n 3 dX9_pilePuts_7 rfl rfl ?_
        refine g_aload_n 0 dX9_pilePuts_8 rfl rfl ?_
        refine mg_9 ((hP.fx hF (by decide)).at 9 (by decide) _) dX9_pilePuts_9 rfl ?_
        refine gi_icmp_ge 142 dX9_pilePuts_12 (by decide) (by first | exact hM _ _ | exact bI_Rg _ | exact ⟨by omega, by omega⟩) (by first | exact hM _ _ | exact bI_Rg _ | exact ⟨by omega, by omega⟩) (fun c12 => ?_) (fun c12 => ?_)
        · exfalso; omega
        · refine g_aload_n 0 dX9_pilePuts_15 rfl rfl ?_
          refine mg_14 dX9_pilePuts_16 rfl ?_
          refine g_iload_n 3 dX9_pilePuts_19 rfl rfl ?_
          refine ml_14 ((hF.at 14 (by decide) s).trans (hT s (by omega) (by omega))) dX9_pilePuts_20 (by omega) (by omega) ?_
          refine gi_if_eq 136 dX9_pilePuts_21 (by decide) (by first | exact hM _ _ | exact bI_Rg _ | exact ⟨by omega, by omega⟩) (fun c21 => ?_) (fun c21 => ?_)
          · exact nxt M1 [] hF (by
              rw [pls_step hs0, if_neg (fun hc => by
                have := cand_iff.mp hc
                first
                  | exact c40 this.2.2
                  | exact c30 this.2.1
                  | (rw [this.1] at c21; exact absurd c21 (by decide)))]
              exact hE1)
          · refine g_aload_n 0 dX9_pilePuts_24 rfl rfl ?_
            refine mg_2 dX9_pilePuts_25 rfl ?_
            refine g_iload_n 3 dX9_pilePuts_28 rfl rfl ?_
            refine ml_2 ((hP.fx hF (by decide)).at 2 (by decide) _) dX9_pilePuts_29 (by omega) (by omega) ?_
            refine gi_if_ne 136 dX9_pilePuts_30 (by decide) (by first | exact hM _ _ | exact bI_Rg _ | exact ⟨by omega, by omega⟩) (fun c30 => ?_) (fun c30 => ?_)
            · exact nxt M1 [] hF (by
                rw [pls_step hs0, if_neg (fun hc => by
                  have := cand_iff.mp hc
                  first
                    | exact c40 this.2.2
                    | exact c30 this.2.1
                    | (rw [this.1] at c21; exact absurd c21 (by decide)))]
                exact hE1)
            · refine g_aload_n 0 dX9_pilePuts_33 rfl rfl ?_
              refine mg_6 dX9_pilePuts_34 rfl ?_
              refine g_iload_n 3 dX9_pilePuts_37 rfl rfl ?_
              refine ml_6 ((hP.fx hF (by decide)).at 6 (by decide) _) dX9_pilePuts_38 (by omega) (by omega) ?_
              refine g_iload_n 1 dX9_pilePuts_39 rfl rfl ?_
              refine gi_icmp_ne 136 dX9_pilePuts_40 (by decide) (by first | exact hM _ _ | exact bI_Rg _ | exact ⟨by omega, by omega⟩) (by first | exact hM _ _ | exact bI_Rg _ | exact ⟨by omega, by omega⟩) (fun c40 => ?_) (fun c40 => ?_)
              · exact nxt M1 [] hF (by
                  rw [pls_step hs0, if_neg (fun hc => by
                    have := cand_iff.mp hc
                    first
                      | exact c40 this.2.2
                      | exact c30 this.2.1
                      | (rw [this.1] at c21; exact absurd c21 (by decide)))]
                  exact hE1)
              · exact hcase (cand_iff.mpr ⟨by cases h : T s <;> simp_all [bI], c30, c40⟩)
      · refine g_iload_n 3 dX9_pilePuts_7 rfl rfl ?_
        refine g_aload_n 0 dX9_pilePuts_8 rfl rfl ?_
        refine mg_9 ((hP.fx hF (by decide)).at 9 (by decide) _) dX9_pilePuts_9 rfl ?_
        refine gi_icmp_ge 142 dX9_pilePuts_12 (by decide) (by first | exact hM _ _ | exact bI_Rg _ | exact ⟨by omega, by omega⟩) (by first | exact hM _ _ | exact bI_Rg _ | exact ⟨by omega, by omega⟩) (fun c12 => ?_) (fun c12 => ?_)
        · refine g_vret dX9_pilePuts_142 rfl (Nat.le_of_ble_eq_true rfl) (Nat.le_of_ble_eq_true rfl) ⟨_, rfl, rfl, ?_⟩
          refine ⟨hF, ?_⟩
          rw [show D 9 0 = s by omega]
          exact hE1
        · exfalso; omega
  refine g_aload_n 0 dX9_pilePuts_0 rfl rfl ?_
  refine mg_23 (hB.1.trans hf.symm) dX9_pilePuts_1 rfl ?_
  refine g_istore_n 2 dX9_pilePuts_4 rfl (Nat.le_of_ble_eq_true rfl) (Nat.le_of_ble_eq_true rfl) rfl ?_
  dsimp only [sto]
  refine g_iconst (iI 0) dX9_pilePuts_5 rfl ?_
  refine g_istore_n 3 dX9_pilePuts_6 rfl (Nat.le_of_ble_eq_true rfl) (Nat.le_of_ble_eq_true rfl) rfl ?_
  dsimp only [sto]
  exact loop ((D 9 0).toNat + 1) 0 M (by omega) (by omega) (by omega) (Fx.rf _ _) (by simpa [pls] using hB)
