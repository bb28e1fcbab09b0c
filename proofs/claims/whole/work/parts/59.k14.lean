/-! THE CLASS: what is taken: settle, carry, all -/
theorem ndx_nn {x : Int} (h : x < 0) : ndx x = [] := by unfold ndx; rw [if_neg (by omega)]
theorem ndx_p {x : Int} (h : 0 ≤ x) : ndx x = [x] := by unfold ndx; rw [if_pos h]
theorem lm_fold {T : Int → Bool} {h : Int → Int} {l t : Int} (hl : -1 ≤ l) (ht : -1 ≤ t) (hh : 0 ≤ t → (h t = 2 ↔ T t = true)) : lmF h l t = (ndx t).foldl (lsS T) l := by
  unfold lmF
  by_cases e : t = -1
  · rw [if_pos (Or.inl e), ndx_nn (by omega)]
    rfl
  · rw [ndx_p (by omega)]
    show _ = lsS T l t
    unfold lsS
    have hq := hh (by omega)
    cases g : T t
    · have : ¬ h t = 2 := fun q => by rw [hq.mp q] at g; cases g
      rw [if_neg (by omega)]
      by_cases e2 : l = -1
      · rw [if_pos e2, if_pos ⟨rfl, by omega⟩]
      · rw [if_neg e2]
        by_cases e3 : t < l
        · rw [if_pos e3, if_pos ⟨rfl, Or.inr e3⟩]
        · rw [if_neg e3, if_neg (by rintro ⟨_, q⟩; omega)]
    · rw [if_pos (Or.inr (hq.mpr g)), if_neg (by rintro ⟨q, _⟩; cases q)]
theorem lsF_ge {T : Int → Bool} {b : Int} : ∀ (l : List Int), (∀ t ∈ l, 0 ≤ t) → -1 ≤ b → -1 ≤ l.foldl (lsS T) b := by
  intro l
  induction l generalizing b with
  | nil => intro _ h; exact h
  | cons x r ih =>
    intro h hb
    refine ih (fun t ht => h t (List.mem_cons_of_mem _ ht)) ?_
    have := h x List.mem_cons_self
    unfold lsS
    split <;> omega
def ndL (D : Mem) (s : Int) : Nat → List Int
  | 0 => ndx (pri D s)
  | k + 1 => ndL D s k ++ ndx (ndK D s k)
theorem ndL_nn (D : Mem) (s : Int) : ∀ (k : Nat), ∀ t ∈ ndL D s k, 0 ≤ t := by
  intro k
  have hx : ∀ x : Int, ∀ t ∈ ndx x, 0 ≤ t := by
    intro x t ht
    by_cases e : 0 ≤ x
    · rw [ndx_p e] at ht
      rw [List.mem_singleton.mp ht]
      exact e
    · rw [ndx_nn (by omega)] at ht
      cases ht
  induction k with
  | zero => exact hx _
  | succ k ih =>
    intro t ht
    unfold ndL at ht
    rcases List.mem_append.mp ht with q | q
    · exact ih t q
    · exact hx _ t q
theorem lmN_fold {D : Mem} {T : Int → Bool} {h : Int → Int} {s : Int} (hS : okS D s) (hs : 0 ≤ s) (hh : ∀ t : Int, 0 ≤ t → t < s → (h t = 2 ↔ T t = true)) : ∀ k : Nat, (k : Int) ≤ hmN D s → lmN D h s k = lsF T (ndL D s k) := by
  intro k
  induction k with
  | zero =>
    intro _
    have := pri_rg D hs
    exact lm_fold (by omega) (by omega) (fun q => hh _ q (by omega))
  | succ k ih =>
    intro hk
    have hr := ndK_rg hS hs (k := k) (by omega) (by omega)
    unfold lmN ndL lsF
    rw [List.foldl_append, ih (by omega)]
    exact lm_fold (lsF_ge _ (ndL_nn D s k) (by omega)) (by omega) (fun q => hh _ q (by omega))
theorem ptF_nn {x : Int} (h : 0 ≤ x) : ptF x = x / 4 := by unfold ptF; rw [if_neg (by omega)]
theorem ptF_neg {x : Int} (h : x < 0) : ptF x = -1 := by unfold ptF; rw [if_pos h]
theorem ndL_sg {D : Mem} {s : Int} (hS : okS D s) (h2 : D 2 s = 1 ∨ D 2 s = 2) : ∀ k : Nat, (k : Int) ≤ D 3 s → ndL D s k = ndx (latestF D (D 0 s) s.toNat) ++ sgN D s k := by
  intro k
  induction k with
  | zero => intro _; unfold ndL sgN pri; rw [List.append_nil]
  | succ k ih =>
    intro hk
    have hn := hS.2.2.2.2.2.2 k h2 (by omega) (by omega)
    unfold ndL sgN
    rw [ih (by omega), List.append_assoc]
    congr 2
    have : ndK D s k = D 4 (12 * s + k) / 4 := by
      unfold ndK
      rcases h2 with e | e
      · rw [if_neg (by omega), if_pos e, ptF_nn hn.1]
      · have := (hS.2.2.2.2.1 e).1
        rw [if_neg (by omega), if_neg (by omega), if_pos e, if_pos (by omega), ptF_nn hn.1]
    rw [this]
theorem ndL_need {D : Mem} {s : Int} (hS : okS D s) : ndL D s (hmN D s).toNat = needL D s := by
  have hh : D 2 s = 0 ∨ D 2 s = 1 ∨ D 2 s = 2 ∨ D 2 s = 3 := by have := hS.2.1; omega
  unfold needL needA hmN
  rcases hh with e | e | e | e
  · rw [if_neg (by omega), if_neg (by omega), if_neg (by omega), if_neg (by omega), List.append_nil]
    show ndx (pri D s) ++ ndx (ndK D s ((0 : Nat) : Int)) = _
    have e2 : ndK D s ((0 : Nat) : Int) = ptF (D 6 s) := by unfold ndK; rw [if_pos e]
    rw [e2]
    rcases (hS.2.2.1 e).2.2 with q | q
    · rw [q, if_neg (by omega), ptF_neg (by omega), ndx_nn (show (-1 : Int) < 0 by decide)]
      rfl
    · rw [if_pos ⟨q.1, by omega⟩, ptF_nn q.1]
      rfl
  · have h6 := (hS.2.2.2.1 e).2.2
    rw [if_pos e, if_pos (Or.inl e), if_neg (by omega), if_neg (by omega), List.append_nil, ndL_sg hS (Or.inl e) _ (by have := hS.2.2.2.1 e; omega)]
  · have hm := hS.2.2.2.2.1 e
    rw [if_neg (by omega), if_pos e, if_pos (Or.inr e), if_neg (by omega)]
    show ndL D s 2 ++ ndx (ndK D s ((2 : Nat) : Int)) = _
    rw [ndL_sg hS (Or.inr e) 2 (by omega), hm.1]
    have e2 : ndK D s ((2 : Nat) : Int) = ptF (D 6 s) := by unfold ndK; rw [if_neg (by omega), if_neg (by omega), if_pos e, if_neg (by decide)]
    rw [e2]
    congr 1
    rcases hm.2.1 with q | q | q
    · rw [q, if_neg (by omega), ptF_neg (by omega), ndx_nn (by omega)]
    · rw [q, if_neg (by omega), ptF_neg (by omega), ndx_nn (by omega)]
    · rw [if_pos ⟨q.1, by omega⟩, ptF_nn q.1]
  · rw [if_neg (by omega), if_neg (by omega), if_neg (by omega), if_pos e, List.append_nil]
    show ndx (pri D s) ++ ndx (ndK D s ((0 : Nat) : Int)) = _
    have e2 : ndK D s ((0 : Nat) : Int) = D 6 s := by unfold ndK; rw [if_neg (by omega), if_neg (by omega), if_neg (by omega)]
    rw [e2]
    rfl
theorem lm_ls {D : Mem} {T : Int → Bool} {h : Int → Int} {s : Int} (hS : okS D s) (hs : 0 ≤ s) (hh : ∀ t : Int, 0 ≤ t → t < s → (h t = 2 ↔ T t = true)) : lmN D h s (hmN D s).toNat = lsF T (needL D s) := by
  have := hmN_rg hS
  rw [lmN_fold hS hs hh _ (by omega), ndL_need hS]
theorem lsF_none {T : Int → Bool} : ∀ (l : List Int) (b : Int), (∀ t ∈ l, 0 ≤ t) → -1 ≤ b → (l.foldl (lsS T) b = -1 ↔ b = -1 ∧ l.all T = true) := by
  intro l
  induction l with
  | nil => intro b _ _; simp
  | cons x r ih =>
    intro b h hb
    have hx := h x List.mem_cons_self
    rw [List.foldl_cons, ih _ (fun t ht => h t (List.mem_cons_of_mem _ ht)) (by unfold lsS; split <;> omega), List.all_cons, Bool.and_eq_true]
    unfold lsS
    cases e : T x
    · constructor
      · rintro ⟨q, _⟩
        split at q
        · omega
        · rename_i g
          exfalso
          exact g ⟨rfl, by omega⟩
      · rintro ⟨_, q, _⟩
        cases q
    · rw [if_neg (by rintro ⟨q, _⟩; cases q)]
      exact ⟨fun q => ⟨q.1, rfl, q.2⟩, fun q => ⟨q.1, q.2.2⟩⟩
theorem need_nn {D : Mem} {s : Int} (hS : okS D s) : ∀ t ∈ needL D s, 0 ≤ t := by
  rw [← ndL_need hS]
  exact ndL_nn D s _
theorem mxF_spec {D : Mem} {T : Int → Bool} : ∀ k : Nat, (∀ s : Int, 0 ≤ s → s < k → T s = true → D 1 s ≤ mxF D T k) ∧ (mxF D T k = 0 ∨ ∃ s : Int, 0 ≤ s ∧ s < k ∧ T s = true ∧ D 1 s = mxF D T k) ∧ 0 ≤ mxF D T k := by
  intro k
  induction k with
  | zero => exact ⟨fun s a b => by omega, Or.inl rfl, by unfold mxF; omega⟩
  | succ k ih =>
    obtain ⟨h1, h2, h3⟩ := ih
    unfold mxF
    split
    · rename_i g
      refine ⟨fun s a b c => ?_, Or.inr ⟨k, by omega, by omega, g.1, rfl⟩, by omega⟩
      by_cases e : s = k
      · rw [e]; exact Int.le_refl _
      · have := h1 s a (by omega) c
        omega
    · rename_i g
      refine ⟨fun s a b c => ?_, ?_, h3⟩
      · by_cases e : s = k
        · rw [e] at c ⊢
          apply Classical.byContradiction
          intro q
          exact g ⟨c, by omega⟩
        · exact h1 s a (by omega) c
      · rcases h2 with q | ⟨s, a, b, c, d⟩
        · exact Or.inl q
        · exact Or.inr ⟨s, a, by omega, c, d⟩
theorem mxF_add {D : Mem} {S T : Int → Bool} {N : Nat} {i : Int} (h0 : 0 ≤ i) (h1 : i < N) (hi : T i = true) (hS : ∀ s : Int, 0 ≤ s → s < N → s ≠ i → T s = S s) (hSi : S i = true → False) (hp : 0 < D 1 i) : mxF D T N = if mxF D S N < D 1 i then D 1 i else mxF D S N := by
  obtain ⟨a1, a2, a3⟩ := mxF_spec (D := D) (T := T) N
  obtain ⟨b1, b2, b3⟩ := mxF_spec (D := D) (T := S) N
  have c1 := a1 i h0 h1 hi
  have c2 : mxF D S N ≤ mxF D T N := by
    rcases b2 with q | ⟨s, x, y, z, u⟩
    · omega
    · rw [← u]
      have : s ≠ i := fun e => hSi (by rw [← e]; exact z)
      exact a1 s x y (by rw [hS s x y this]; exact z)
  have c3 : mxF D T N = D 1 i ∨ mxF D T N ≤ mxF D S N := by
    rcases a2 with q | ⟨s, x, y, z, u⟩
    · omega
    · by_cases e : s = i
      · rw [e] at u; exact Or.inl u.symm
      · right
        rw [← u]
        exact b1 s x y (by rw [← hS s x y e]; exact z)
  split <;> omega
def mxT (S T : Int → Bool) (i : Nat) (s : Int) : Bool := if s < i then T s else S s
theorem cnt_congr {S T : Int → Bool} : ∀ k : Nat, (∀ s : Int, 0 ≤ s → s < k → S s = T s) → cntB S k = cntB T k := by
  intro k
  induction k with
  | zero => intro _; rfl
  | succ k ih => intro h; unfold cntB; rw [ih (fun s a b => h s a (by omega)), h k (by omega) (by omega)]
set_option maxHeartbeats 4000000 in
set_option maxRecDepth 100000 in
theorem k_X4_settle (Z : LZ) (a : Nat → Nat) (C : Mem) (fS fA : Nat → Option Nat) {D : Mem} (sa sb : Nat → Nat) (N : Nat) (hG : Good D) (h9 : D 9 0 = N) (hn : N ≤ 256) (h1c : C 1 0 = N) (hsl : ∀ s : Nat, s < N → fS s = some (sa s)) (T0 : Int → Bool) (p : Nat) (hp : p < 6) (hT0 : ∀ s : Nat, s < N → T0 s = true → tkB D p s = true) (hh : ∀ s : Nat, s < N → C (20 + p) s = if D 10 (256 * p + s) = 0 then 0 else if T0 s = true then 2 else 1) (hhz : ∀ s : Nat, N ≤ s → s < 256 → C (20 + p) s = 0) (hmx : C (50 + p) 0 = mxF D T0 N) : Tr Z jX4_settle [.ref (a (110 + p)), .ref (a 100)] (cW Z a C fS fA (sW Z D sa sb N)) (fun r w => ∃ C3 : Mem, r = some (.int (iI (cntB (tkB D p) N - cntB T0 N))) ∧ w = cW Z a C3 fS fA (sW Z D sa sb N) ∧ ((∀ q : Nat, q ≠ 20 + p → q ≠ 50 + p → C3 q = C q) ∧ (∀ s : Nat, s < N → C3 (20 + p) s = hdF D p s) ∧ (∀ s : Nat, N ≤ s → C3 (20 + p) s = C (20 + p) s) ∧ C3 (50 + p) 0 = mxF D (tkB D p) N)) := by
  refine tr_of pn_X4_settle (Nat.le_of_ble_eq_true rfl) (by intro v h; simp only [List.mem_cons, List.not_mem_nil, or_false] at h; rcases h with h | h <;> rw [h] <;> rfl) ?_
  have hM := hG.1.1
  have hst := hG.hst
  have hT := hG.2.2.1
  have loop : ∀ (fuel : Nat) (C2 : Mem) (i : Nat), N - i < fuel → i ≤ N → (∀ q : Nat, q ≠ 20 + p → q ≠ 50 + p → C2 q = C q) → (∀ s : Nat, s < i → C2 (20 + p) s = hdF D p s) → (∀ s : Nat, i ≤ s → C2 (20 + p) s = C (20 + p) s) → C2 (50 + p) 0 = mxF D (mxT T0 (tkB D p) i) N → G Z jX4_settle E0 (QM Z jX4_settle (fun r w => ∃ C3 : Mem, r = some (.int (iI (cntB (tkB D p) N - cntB T0 N))) ∧ w = cW Z a C3 fS fA (sW Z D sa sb N) ∧ ((∀ q : Nat, q ≠ 20 + p → q ≠ 50 + p → C3 q = C q) ∧ (∀ s : Nat, s < N → C3 (20 + p) s = hdF D p s) ∧ (∀ s : Nat, N ≤ s → C3 (20 + p) s = C (20 + p) s) ∧ C3 (50 + p) 0 = mxF D (tkB D p) N))) 4 [.ref (a (110 + p)), .ref (a 100), .int (iI (cntB (tkB D p) i - cntB T0 i)), .int (iI (i : Int))] [] (cW Z a C2 fS fA (sW Z D sa sb N)) 0 0 := by
    intro fuel
    induction fuel with
    | zero => intros; exfalso; omega
    | succ fuel ih =>
      intro C2 i hf h1 hq hv1 hv2 hm
      refine g_iload_n 3 dX4_settle_4 rfl rfl ?_
      refine g_aload_n 1 dX4_settle_5 rfl rfl ?_
      refine cg_bk_count ((congrFun (hq 1 (by omega) (by omega)) _).trans (h1c)) dX4_settle_6 flX4_43 ?_
      refine gi_icmp_ge 55 dX4_settle_9 (by decide) (by first | exact bI_Rg _ | assumption | exact ⟨by omega, by omega⟩) (by first | exact bI_Rg _ | assumption | exact ⟨by omega, by omega⟩) (fun c9 => ?_) (fun c9 => ?_)
      · refine g_iload_n 2 dX4_settle_55 rfl rfl ?_
        refine g_iret dX4_settle_56 rfl (Nat.le_of_ble_eq_true rfl) (Nat.le_of_ble_eq_true rfl) ⟨C2, ?_, rfl, hq, fun s hs => hv1 s (by omega), fun s hs => ?_, ?_⟩
        · rw [show i = N by omega]
        · exact hv2 s (by omega)
        · rw [hm]
          refine mxF_congr N (fun s a b => ?_) (fun _ _ _ => rfl)
          unfold mxT
          rw [if_pos (by omega)]
      · have hi : i < N := by omega
        have hSi : okS D i := hG.1.2.2.1 i (by omega) (by omega)
        have hti := hT i (by omega) (by omega)
        have hci := hv2 i (Nat.le_refl _)
        rw [hh i hi] at hci
        have htk := tkB_eq hG.1 p (x := i) (by omega) (by omega)
        have h10 := hG.1.2.2.2.2 (256 * p + i)
        have hcr : 0 ≤ C2 (20 + p) i ∧ C2 (20 + p) i ≤ 2 := by
          rw [hci]
          split
          · omega
          · split <;> omega
        have hca := cntB_rg (tkB D p) i
        have hcb := cntB_rg T0 i
        have hrng : ∀ t : Int, 0 ≤ t → t < 256 → Rg (C2 (20 + p) t) := by
          intro t a b
          rcases Int.lt_or_le t i with q | q
          · have := hv1 t.toNat (by omega)
            rw [show ((t.toNat : Nat) : Int) = t by omega] at this
            rw [this]
            have := hdF_rg D p t
            exact ⟨by omega, by omega⟩
          · have e := hv2 t.toNat (by omega)
            rw [show ((t.toNat : Nat) : Int) = t by omega] at e
            rw [e]
            by_cases g : t.toNat < N
            · have e2 := hh t.toNat g
              rw [show ((t.toNat : Nat) : Int) = t by omega] at e2
              rw [e2]
              split
              · exact ⟨by decide, by decide⟩
              · split <;> exact ⟨by decide, by decide⟩
            · have e2 := hhz t.toNat (by omega) (by omega)
              rw [show ((t.toNat : Nat) : Int) = t by omega] at e2
              rw [e2]
              exact ⟨by decide, by decide⟩
        have hlm : lmN D (C2 (20 + p)) i (hmN D i).toNat = lsF (tkB D p) (needL D i) := by
          refine lm_ls hSi (by omega) (fun t a b => ?_)
          have := hv1 t.toNat (by omega)
          rw [show ((t.toNat : Nat) : Int) = t by omega] at this
          rw [this]
          exact hd_tk hG.1 a (by omega)
        have hln := lsF_none (T := tkB D p) (needL D i) (-1) (need_nn hSi) (by omega)
        have hlr := lmN_rg (h := C2 (20 + p)) hSi (by omega) (by omega) (hmN D i).toNat (by have := hmN_rg hSi; omega)
        have hcs1 : cntB (tkB D p) (i + 1) = cntB (tkB D p) i + bI (tkB D p i) := rfl
        have hcs2 : cntB T0 (i + 1) = cntB T0 i + bI (T0 i) := rfl
        refine g_aload_n 0 dX4_settle_12 rfl rfl ?_
        refine cg_sh_held p hp dX4_settle_13 flX4_9 ?_
        refine g_iload_n 3 dX4_settle_16 rfl rfl ?_
        refine ca_held p hp rfl dX4_settle_17 (by omega) (by omega) ?_
        refine g_iconst (iI 1) dX4_settle_18 rfl ?_
        refine gi_icmp_ne 49 dX4_settle_19 (by decide) ⟨by omega, by omega⟩ ⟨by omega, by omega⟩ (fun c19 => ?_) (fun c19 => ?_)
        · refine gi_inc dX4_settle_49 rfl (Nat.le_of_ble_eq_true rfl) rfl ?_
          dsimp only [sto]
          refine g_goto 4 dX4_settle_52 (by decide) ?_
          have hz : tkB D p i = T0 i ∧ C2 (20 + p) i = hdF D p i := by
            unfold hdF
            rw [hci]
            by_cases e : D 10 (256 * p + i) = 0
            · rw [if_pos e, if_pos e]
              have : tkB D p i = false := by rw [htk, decide_eq_false (by omega)]; rfl
              refine ⟨?_, rfl⟩
              rw [this]
              cases q : T0 i
              · rfl
              · have := hT0 i hi q
                simp_all
            · rw [if_neg e] at hci ⊢
              rw [if_neg e]
              cases q : T0 i
              · exfalso
                rw [q, if_neg (by decide)] at hci
                exact c19 hci
              · have := hT0 i hi q
                rw [this]
                exact ⟨rfl, rfl⟩
          have heq : T0 i = tkB D p i := hz.1.symm
          have hfin := hz.2
          have g := ih C2 (i + 1) (by omega) (by omega) hq (fun s hs => ?_) (fun s a => hv2 s (by omega)) ?_
          · rw [hcs1, hcs2, heq] at g
            rw [show cntB (tkB D p) i + bI (tkB D p i) - (cntB T0 i + bI (tkB D p i)) = cntB (tkB D p) i - cntB T0 i by omega] at g
            exact g
          · by_cases e : s = i
            · subst e
              exact hfin
            · exact hv1 s (by omega)
          · rw [hm]
            refine mxF_congr N (fun s a b => ?_) (fun _ _ _ => rfl)
            unfold mxT
            by_cases e : s = i
            · rw [e, if_neg (by omega), if_pos (by omega), heq]
            · by_cases e2 : s < i
              · rw [if_pos e2, if_pos (by omega)]
              · rw [if_neg e2, if_neg (by omega)]
        · refine g_aload_n 0 dX4_settle_22 rfl rfl ?_
          refine g_aload_n 1 dX4_settle_23 rfl rfl ?_
          refine cg_bk_slips dX4_settle_24 flX4_48 ?_
          refine g_iload_n 3 dX4_settle_27 rfl rfl ?_
          refine ca_slips (s := i) (hsl i hi) dX4_settle_28 (by omega) (by omega) ?_
          refine ckE lkX4_52 (k_X4_leastMissing Z a C2 fS fA sa sb N hM p i hp hi hn hSi hrng) dX4_settle_29 (And.intro (Nat.le_of_ble_eq_true rfl) (Nat.le_of_ble_eq_true rfl)) (ci := 4) rfl (he_sh p hp) (Nat.le_of_ble_eq_true rfl) rfl rfl (Nat.le_of_ble_eq_true rfl) (Nat.le_of_ble_eq_true rfl) rfl ?_
          refine g_iconst (iI (-1)) dX4_settle_32 rfl ?_
          refine gi_icmp_ne 49 dX4_settle_33 (by decide) ⟨by omega, by omega⟩ ⟨by omega, by omega⟩ (fun c33 => ?_) (fun c33 => ?_)
          · refine gi_inc dX4_settle_49 rfl (Nat.le_of_ble_eq_true rfl) rfl ?_
            dsimp only [sto]
            refine g_goto 4 dX4_settle_52 (by decide) ?_
            have hz : tkB D p i = T0 i ∧ C2 (20 + p) i = hdF D p i := by
              have e10 : ¬ D 10 (256 * p + i) = 0 := fun e => by rw [if_pos e] at hci; omega
              have eT : T0 i = false := by
                cases q : T0 i
                · rfl
                · rw [if_neg e10, q, if_pos rfl] at hci; omega
              have : tkB D p i = false := by
                cases q : tkB D p i
                · rfl
                · exfalso
                  rw [q] at htk
                  have g := (Bool.and_eq_true _ _).mp htk.symm
                  exact c33 (by rw [hlm]; exact hln.mpr ⟨rfl, g.2⟩)
              rw [this, eT]
              refine ⟨rfl, ?_⟩
              unfold hdF
              rw [if_neg e10, this, if_neg (by decide)]
              exact c19
            have heq : T0 i = tkB D p i := hz.1.symm
            have hfin := hz.2
            have g := ih C2 (i + 1) (by omega) (by omega) hq (fun s hs => ?_) (fun s a => hv2 s (by omega)) ?_
            · rw [hcs1, hcs2, heq] at g
              rw [show cntB (tkB D p) i + bI (tkB D p i) - (cntB T0 i + bI (tkB D p i)) = cntB (tkB D p) i - cntB T0 i by omega] at g
              exact g
            · by_cases e : s = i
              · subst e
                exact hfin
              · exact hv1 s (by omega)
            · rw [hm]
              refine mxF_congr N (fun s a b => ?_) (fun _ _ _ => rfl)
              unfold mxT
              by_cases e : s = i
              · rw [e, if_neg (by omega), if_pos (by omega), heq]
              · by_cases e2 : s < i
                · rw [if_pos e2, if_pos (by omega)]
                · rw [if_neg e2, if_neg (by omega)]
          · refine g_aload_n 0 dX4_settle_36 rfl rfl ?_
            refine g_aload_n 1 dX4_settle_37 rfl rfl ?_
            refine cg_bk_slips dX4_settle_38 flX4_48 ?_
            refine g_iload_n 3 dX4_settle_41 rfl rfl ?_
            refine ca_slips (s := i) (hsl i hi) dX4_settle_42 (by omega) (by omega) ?_
            refine ckV lkX4_39 (k_X4_take Z a C2 fS fA hM sa sb N hn p i hp hi (by rw [hm]; have := mxF_rg hM (mxT T0 (tkB D p) i) N; exact ⟨by omega, by omega⟩)) dX4_settle_43 (And.intro (Nat.le_of_ble_eq_true rfl) (Nat.le_of_ble_eq_true rfl)) (ci := 4) rfl (he_sh p hp) (Nat.le_of_ble_eq_true rfl) rfl rfl (Nat.le_of_ble_eq_true rfl) (Nat.le_of_ble_eq_true rfl) rfl ?_
            refine gi_inc dX4_settle_46 rfl (Nat.le_of_ble_eq_true rfl) rfl ?_
            dsimp only [sto]
            refine gi_inc dX4_settle_49 rfl (Nat.le_of_ble_eq_true rfl) rfl ?_
            dsimp only [sto]
            refine g_goto 4 dX4_settle_52 (by decide) ?_
            have e10 : ¬ D 10 (256 * p + i) = 0 := fun e => by rw [if_pos e] at hci; omega
            have eT : T0 i = false := by
              cases q : T0 i
              · rfl
              · rw [if_neg e10, q, if_pos rfl] at hci; omega
            have eK : tkB D p i = true := by
              rw [htk, decide_eq_true (by omega), (hln.mp (by rw [hlm] at c33; exact c33)).2]
              rfl
            have g := ih (ms (ms C2 (20 + p) i 2) (50 + p) 0 (if C2 (50 + p) 0 < D 1 i then D 1 i else C2 (50 + p) 0)) (i + 1) (by omega) (by omega) (fun q h1 h2 => by rw [ms_ne h2, ms_ne h1]; exact hq q h1 h2) (fun s hs => ?_) (fun s a => ?_) ?_
            · rw [hcs1, hcs2, eT, eK] at g
              rw [show cntB (tkB D p) i + bI true - (cntB T0 i + bI false) = cntB (tkB D p) i - cntB T0 i + 1 by simp [bI]; omega] at g
              exact g
            · rw [ms_row (by omega)]
              by_cases e : s = i
              · subst e
                rw [ms_at]
                unfold hdF
                rw [if_neg e10, eK, if_pos rfl]
              · rw [ms_off (by omega)]
                exact hv1 s (by omega)
            · rw [ms_row (by omega), ms_off (by omega)]
              exact hv2 s (by omega)
            · rw [ms_at, hm]
              refine (mxF_add (i := i) (by omega) (by omega) ?_ (fun s a b c => ?_) (fun q => ?_) (by omega)).symm
              · unfold mxT; rw [if_pos (by omega)]; exact eK
              · unfold mxT
                by_cases e2 : s < i
                · rw [if_pos e2, if_pos (by omega)]
                · rw [if_neg e2, if_neg (by omega)]
              · unfold mxT at q; rw [if_neg (by omega), eT] at q; cases q
  refine g_iconst (iI 0) dX4_settle_0 rfl ?_
  refine g_istore_n 2 dX4_settle_1 rfl (Nat.le_of_ble_eq_true rfl) (Nat.le_of_ble_eq_true rfl) rfl ?_
  dsimp only [sto]
  refine g_iconst (iI 0) dX4_settle_2 rfl ?_
  refine g_istore_n 3 dX4_settle_3 rfl (Nat.le_of_ble_eq_true rfl) (Nat.le_of_ble_eq_true rfl) rfl ?_
  dsimp only [sto]
  exact loop (N + 1) C 0 (by omega) (by omega) (fun _ _ _ => rfl) (fun s h => by omega) (fun _ _ => rfl) (by rw [hmx]; refine mxF_congr N (fun s a b => ?_) (fun _ _ _ => rfl); unfold mxT; rw [if_neg (by omega)])
theorem Rel_got {D E C C2 : Mem} {fS fA : Nat → Option Nat} {sa : Nat → Nat} {N : Nat} {p : Nat} (hp : p < 6) (h : Rel D C fS fA sa N) (hr : ∀ r : Nat, r ≠ 10 → r ≠ 13 → E r = D r) (hoth : ∀ q : Nat, q < 6 → q ≠ p → ∀ s : Nat, s < N → hdF E q s = hdF D q s ∧ tkB E q s = tkB D q s) (hc : ∀ q : Nat, q ≠ 0 → q ≠ 20 + p → q ≠ 50 + p → C2 q = C q) (h0 : C2 0 0 = E 13 0) (hh : ∀ s : Nat, s < N → C2 (20 + p) s = hdF E p s) (hz : ∀ s : Nat, N ≤ s → s < 256 → C2 (20 + p) s = 0) (hm : C2 (50 + p) 0 = mxF E (tkB E p) N) : Rel E C2 fS fA sa N := by
  obtain ⟨hB, hX⟩ := h
  have hr4 : ∀ r : Nat, r ≠ 10 → r ≠ 11 → r ≠ 12 → r ≠ 13 → E r = D r := fun r h1 h2 h3 h4 => hr r h1 h4
  have e0 := hr 0 (by decide) (by decide)
  have e1 := hr 1 (by decide) (by decide)
  have e9 := hr 9 (by decide) (by decide)
  refine ⟨⟨⟨by rw [e9]; exact hB.d9, hB.n⟩, by rw [hc 1 (by decide) (by omega) (by omega)]; exact hB.c1, h0, hB.sl, kp_Age hr4 hB.age, ?_, fun q s a b => ?_, fun q c a b => ?_, fun q a => ?_, fun q a => ?_⟩, ?_⟩
  · rw [kp_ordF hr4, hc 2 (by decide) (by omega) (by omega), hc 3 (by decide) (by omega) (by omega)]
    exact hB.ord
  · by_cases e : q = p
    · subst e
      split
      · rename_i g; exact hh s g
      · rename_i g; exact hz s (by omega) b
    · rw [hc (20 + q) (by omega) (by omega) (by omega), hB.held q s a b]
      split
      · rename_i g; exact (hoth q a e s g).1.symm
      · rfl
  · rw [hc (40 + q) (by omega) (by omega) (by omega), hc (30 + q) (by omega) (by omega) (by omega), hr 12 (by decide) (by decide), hr 11 (by decide) (by decide)]
    exact hB.cur q c a b
  · by_cases e : q = p
    · subst e; exact hm
    · rw [hc (50 + q) (by omega) (by omega) (by omega), hB.mx q a]
      refine (mxF_congr N (fun s x y => ?_) (fun s _ _ => by rw [e1])).symm
      have := (hoth q a e s.toNat (by omega)).2
      rwa [show ((s.toNat : Nat) : Int) = s by omega] at this
  · rw [hc (60 + q) (by omega) (by omega) (by omega), hB.lt q a]
    exact (latestF_congr N (fun t _ _ => by rw [e0])).symm
  · unfold SpI
    rw [kp_ordF hr4, hc 72 (by decide) (by omega) (by omega)]
    exact hX
theorem tkU_oth {D E : Mem} {p : Int} (hn : ∀ s, needL E s = needL D s) (h10 : ∀ s : Int, 0 ≤ s → s < 256 → E 10 (256 * p + s) = D 10 (256 * p + s)) (hD : okP D) : ∀ (k : Nat) (s : Int), 0 ≤ s → s < D 9 0 → tkU E p k s = tkU D p k s := by
  intro k
  induction k with
  | zero => intro s _ _; rfl
  | succ k ih =>
    intro s h0 h1
    have := hD.2.1
    unfold tkU
    rw [h10 s h0 (by omega), hn, all_congr (fun t ht => ih t (need_lt hD h0 h1 t ht).1 (by have := need_lt hD h0 h1 t ht; omega))]
theorem oth_same {D E : Mem} {N : Nat} (hD : okP D) (h9 : D 9 0 = N) (hr : ∀ r : Nat, r ≠ 10 → r ≠ 13 → E r = D r) {p : Nat} (h10 : ∀ q : Nat, q < 6 → q ≠ p → ∀ s : Int, 0 ≤ s → s < 256 → E 10 (256 * q + s) = D 10 (256 * q + s)) : ∀ q : Nat, q < 6 → q ≠ p → ∀ s : Nat, s < N → hdF E q s = hdF D q s ∧ tkB E q s = tkB D q s := by
  intro q hq hne s hs
  have hN := hD.2.1
  have hn := kp_needL (fun r h1 _ _ h4 => hr r h1 h4)
  have e : tkB E q s = tkB D q s := tkU_oth hn (h10 q hq hne) hD 300 s (by omega) (by omega)
  refine ⟨?_, e⟩
  unfold hdF
  rw [h10 q hq hne s (by omega) (by omega), e]
theorem Good_c10 {D : Mem} (hG : Good D) {p s : Int} (hp : 0 ≤ p ∧ p < 6) (hs : 0 ≤ s ∧ s < D 9 0) : Good (ms D 10 (256 * p + s) 1) := by
  have h := Good_carry hG s p
  unfold A_carry at h
  rw [if_pos ⟨hp, hs⟩] at h
  have e : ms (ms (ms D 10 (256 * p + s) 1) 13 0 0) 13 0 (D 13 0) = ms D 10 (256 * p + s) 1 := by
    funext r z
    by_cases e1 : r = 13
    · subst e1
      by_cases e2 : z = 0
      · rw [e2, ms_at, ms_row (by decide)]
      · rw [ms_off e2, ms_off e2]
    · rw [ms_row e1, ms_row e1]
  have h2 := Good_fin h (v := D 13 0) (hG.1.1 13 0)
  rw [e] at h2
  exact h2
set_option maxHeartbeats 4000000 in
set_option maxRecDepth 100000 in
theorem k_X8_carry (Z : LZ) (a : Nat → Nat) (C : Mem) (fS fA : Nat → Option Nat) {D : Mem} (sa sb : Nat → Nat) (N : Nat) (hG : Good D) (hI : Inv D) (hR : Rel D C fS fA sa N) (s p : Int) (hs : Rg s) (hp : Rg p) : Tr Z jX8_carry [.ref (a 99), .int (iI s), .int (iI p)] (cW Z a C fS fA (sW Z D sa sb N)) (fun r w => ∃ C2 : Mem, r = some (.int (iI ((A_carry D s p).1))) ∧ w = cW Z a C2 fS fA (sW Z ((A_carry D s p).2) sa sb N) ∧ Rel ((A_carry D s p).2) C2 fS fA sa N) := by
  refine tr_of pn_X8_carry (Nat.le_of_ble_eq_true rfl) (by intro v h; simp only [List.mem_cons, List.not_mem_nil, or_false] at h; rcases h with h | h | h <;> rw [h] <;> rfl) ?_
  have hB := hR.1
  have hn := hB.n
  have h9 := hB.d9
  have hM := hG.1.1
  refine g_aload_n 0 dX8_carry_0 rfl rfl ?_
  refine g_iload_n 2 dX8_carry_1 rfl rfl ?_
  refine ckE lkX8_42 (k_X8_sheetOf Z a C fS fA _ p hp) dX8_carry_2 (And.intro (Nat.le_of_ble_eq_true rfl) (Nat.le_of_ble_eq_true rfl)) (ci := 7) (q0 := 0) rfl rfl (Nat.le_of_ble_eq_true rfl) rfl rfl (Nat.le_of_ble_eq_true rfl) (Nat.le_of_ble_eq_true rfl) rfl ?_
  by_cases hPp : 0 ≤ p ∧ p < 6
  · rw [if_pos hPp]
    have hnp : p.toNat < 6 := by omega
    have hep : ((p.toNat : Nat) : Int) = p := by omega
    refine g_astore_n 3 dX8_carry_5 rfl (Nat.le_of_ble_eq_true rfl) (Nat.le_of_ble_eq_true rfl) rfl ?_
    dsimp only [sto]
    refine g_aload_n 0 dX8_carry_6 rfl rfl ?_
    refine cg_mp_book dX8_carry_7 flX8_12 ?_
    refine g_iload_n 1 dX8_carry_10 rfl rfl ?_
    refine ckE lkX8_109 (k_X0_find Z a C fS fA sa sb N hn hB.c1 hB.sl s hs) dX8_carry_11 (And.intro (Nat.le_of_ble_eq_true rfl) (Nat.le_of_ble_eq_true rfl)) (ci := 0) (q0 := 1) rfl rfl (Nat.le_of_ble_eq_true rfl) rfl rfl (Nat.le_of_ble_eq_true rfl) (Nat.le_of_ble_eq_true rfl) rfl ?_
    by_cases hFs : 0 ≤ s ∧ s < N
    · rw [if_pos hFs]
      have hss : s.toNat < N := by omega
      have hfs : ((s.toNat : Nat) : Int) = s := by omega
      have hSs := hG.s hB hss
      refine g_astore dX8_carry_14 (Nat.le_of_ble_eq_true rfl) (Nat.le_of_ble_eq_true rfl) rfl ?_
      dsimp only [sto]
      refine g_aload_n 3 dX8_carry_16 rfl rfl ?_
      refine g_ifnull dX8_carry_17 ?_
      refine g_aload dX8_carry_20 rfl ?_
      refine g_ifnonnull 31 dX8_carry_22 (by decide) ?_
      refine g_aload_n 3 dX8_carry_31 rfl rfl ?_
      refine g_aload dX8_carry_32 rfl ?_
      refine ckV lkX8_130 (k_X4_get Z a C fS fA sa sb N hn p.toNat s.toNat hnp hss (by have := hB.hrg hnp s.toNat (by omega) (by omega); exact ⟨by omega, by omega⟩)) dX8_carry_34 (And.intro (Nat.le_of_ble_eq_true rfl) (Nat.le_of_ble_eq_true rfl)) (ci := 4) rfl (he_sh p.toNat hnp) (Nat.le_of_ble_eq_true rfl) rfl rfl (Nat.le_of_ble_eq_true rfl) (Nat.le_of_ble_eq_true rfl) rfl ?_
      have hD10 := hG.1.2.2.2.2 (256 * p + s)
      have hGE := Good_c10 hG hPp (p := p) (s := s) (by omega)
      have hrE : ∀ r : Nat, r ≠ 10 → r ≠ 13 → ms D 10 (256 * p + s) 1 r = D r := fun r h _ => ms_ne h
      have hgE : ∀ x : Int, 0 ≤ x → x < D 9 0 → D 10 (256 * p + x) = 1 → ms D 10 (256 * p + s) 1 10 (256 * p + x) = 1 := by
        intro x a b c
        by_cases e : x = s
        · rw [e, ms_at]
        · rw [ms_off (by omega)]; exact c
      have hmono : ∀ x : Nat, x < N → tkB D p x = true → tkB (ms D 10 (256 * p + s) 1) p x = true := fun x hx hq => kp_mono hG.1 hGE.1 (fun r h _ _ _ => ms_ne h) hgE x x (by omega) (by omega) (by omega) hq
      have hWE : sW Z (ms D 10 (256 * p + s) 1) sa sb N = sW Z D sa sb N := sW_congr N (fun r h => ms_ne (by omega))
      rw [hfs, ← hWE]
      have hb := hB.held p.toNat s.toNat hnp (by omega)
      rw [if_pos hss, hfs, hep] at hb
      have hhE : ∀ x : Nat, x < N → (if C (20 + p.toNat) s = 0 then ms C (20 + p.toNat) s 1 else C) (20 + p.toNat) x = if ms D 10 (256 * p + s) 1 10 (256 * ((p.toNat : Nat) : Int) + x) = 0 then 0 else if tkB D p x = true then 2 else 1 := by
        intro x hx
        rw [hep]
        have hbx := hB.held p.toNat x hnp (by omega)
        rw [if_pos hx, hep] at hbx
        by_cases e : (x : Int) = s
        · rw [e, ms_at, if_neg (show ¬ (1 : Int) = 0 by decide)]
          unfold hdF at hb
          by_cases q : C (20 + p.toNat) s = 0
          · rw [if_pos q, ms_at]
            rw [hb] at q
            cases g : tkB D p s
            · rfl
            · exfalso
              have g2 := tkB_eq hG.1 p (x := s) (by omega) (by omega)
              rw [g] at g2
              have g3 := of_decide_eq_true ((Bool.and_eq_true _ _).mp g2.symm).1
              rw [if_neg (by omega), g, if_pos rfl] at q
              omega
          · rw [if_neg q, hb]
            rw [hb] at q
            by_cases g : D 10 (256 * p + s) = 0
            · rw [if_pos g] at q; exact absurd rfl q
            · rw [if_neg g]
        · rw [ms_off (by omega)]
          have : (if C (20 + p.toNat) s = 0 then ms C (20 + p.toNat) s 1 else C) (20 + p.toNat) x = C (20 + p.toNat) x := by
            split
            · rw [ms_off e]
            · rfl
          rw [this, hbx]
          rfl
      have hhz : ∀ x : Nat, N ≤ x → x < 256 → (if C (20 + p.toNat) s = 0 then ms C (20 + p.toNat) s 1 else C) (20 + p.toNat) x = 0 := by
        intro x hx hx2
        have hbx := hB.held p.toNat x hnp hx2
        rw [if_neg (by omega)] at hbx
        split
        · rw [ms_off (by omega)]; exact hbx
        · exact hbx
      have hqr : ∀ q : Nat, q ≠ 20 + p.toNat → (if C (20 + p.toNat) s = 0 then ms C (20 + p.toNat) s 1 else C) q = C q := by
        intro q h
        split
        · exact ms_ne h
        · rfl
      refine g_aload_n 0 dX8_carry_37 rfl rfl ?_
      refine g_aload_n 3 dX8_carry_38 rfl rfl ?_
      refine g_aload_n 0 dX8_carry_39 rfl rfl ?_
      refine cg_mp_book dX8_carry_40 flX8_12 ?_
      refine ckY lkX8_134 (k_X4_settle Z a _ fS fA sa sb N hGE (by rw [ms_row (by decide)]; exact h9) hn (by rw [hqr 1 (by omega)]; exact hB.c1) hB.sl (tkB D p) p.toNat hnp (fun x hx hq => by rw [hep]; exact hmono x hx hq) hhE hhz (by rw [hqr _ (by omega), hB.mx p.toNat hnp, hep]; exact (mxF_congr N (fun _ _ _ => rfl) (fun x _ _ => by rw [ms_row (by decide)])).symm)) dX8_carry_43 (And.intro (Nat.le_of_ble_eq_true rfl) (Nat.le_of_ble_eq_true rfl)) (ci := 4) rfl (he_sh p.toNat hnp) (Nat.le_of_ble_eq_true rfl) rfl rfl (Nat.le_of_ble_eq_true rfl) (Nat.le_of_ble_eq_true rfl) rfl (fun C43 h43 => ?_)
      refine ckE lkX8_138 (k_X8_done Z a C43 fS fA _ _) dX8_carry_46 (And.intro (Nat.le_of_ble_eq_true rfl) (Nat.le_of_ble_eq_true rfl)) (ci := 7) (q0 := 0) rfl rfl (Nat.le_of_ble_eq_true rfl) rfl rfl (Nat.le_of_ble_eq_true rfl) (Nat.le_of_ble_eq_true rfl) rfl ?_
      refine g_iret dX8_carry_49 rfl (Nat.le_of_ble_eq_true rfl) (Nat.le_of_ble_eq_true rfl) ?_
      have hA : A_carry D s p = (cntB (tkB (ms D 10 (256 * p + s) 1) p) (D 9 0).toNat - cntB (tkB D p) (D 9 0).toNat, ms (ms D 10 (256 * p + s) 1) 13 0 0) := by
        unfold A_carry
        rw [if_pos ⟨hPp, by omega⟩]
      rw [hA, show (D 9 0).toNat = N by omega, hep, sW_fin]
      refine ⟨_, rfl, rfl, Rel_fin (?_ : Rel (ms D 10 (256 * p + s) 1) C43 fS fA sa N) 0⟩
      obtain ⟨q1, q2, q3, q4⟩ := h43
      refine Rel_got hnp hR hrE (oth_same hG.1 h9 hrE (fun q hq hne x hx0 hx1 => ?_)) (fun q g1 g2 g3 => (q1 q g2 g3).trans (hqr q g2)) (by rw [q1 0 (by omega) (by omega), hqr 0 (by omega), ms_row (by decide)]; exact hB.fi) q2 (fun x hx hx2 => by rw [q3 x hx]; exact hhz x hx hx2) q4
      exact ms_off (by omega)
    · rw [if_neg hFs]
      refine g_astoreN dX8_carry_14 (Nat.le_of_ble_eq_true rfl) (Nat.le_of_ble_eq_true rfl) rfl ?_
      dsimp only [sto]
      refine g_aload_n 3 dX8_carry_16 rfl rfl ?_
      refine g_ifnull dX8_carry_17 ?_
      refine g_aloadN dX8_carry_20 rfl ?_
      refine g_ifnonnullN dX8_carry_22 ?_
      refine g_aload_n 0 dX8_carry_25 rfl rfl ?_
      refine g_iconst (iI 1) dX8_carry_26 rfl ?_
      refine ckE lkX8_46 (k_X8_refuse Z a C fS fA _ 1) dX8_carry_27 (And.intro (Nat.le_of_ble_eq_true rfl) (Nat.le_of_ble_eq_true rfl)) (ci := 7) (q0 := 0) rfl rfl (Nat.le_of_ble_eq_true rfl) rfl rfl (Nat.le_of_ble_eq_true rfl) (Nat.le_of_ble_eq_true rfl) rfl ?_
      refine g_iret dX8_carry_30 rfl (Nat.le_of_ble_eq_true rfl) (Nat.le_of_ble_eq_true rfl) ?_
      have hA : A_carry D s p = (-1, ms D 13 0 1) := by
        unfold A_carry
        rw [if_neg (by omega)]
      rw [hA, sW_fin]
      exact ⟨_, rfl, rfl, Rel_fin hR _⟩
  · rw [if_neg hPp]
    refine g_astore_nN 3 dX8_carry_5 rfl (Nat.le_of_ble_eq_true rfl) (Nat.le_of_ble_eq_true rfl) rfl ?_
    dsimp only [sto]
    refine g_aload_n 0 dX8_carry_6 rfl rfl ?_
    refine cg_mp_book dX8_carry_7 flX8_12 ?_
    refine g_iload_n 1 dX8_carry_10 rfl rfl ?_
    refine ckE lkX8_109 (k_X0_find Z a C fS fA sa sb N hn hB.c1 hB.sl s hs) dX8_carry_11 (And.intro (Nat.le_of_ble_eq_true rfl) (Nat.le_of_ble_eq_true rfl)) (ci := 0) (q0 := 1) rfl rfl (Nat.le_of_ble_eq_true rfl) rfl rfl (Nat.le_of_ble_eq_true rfl) (Nat.le_of_ble_eq_true rfl) rfl ?_
    by_cases hFs : 0 ≤ s ∧ s < N
    · rw [if_pos hFs]
      have hss : s.toNat < N := by omega
      have hfs : ((s.toNat : Nat) : Int) = s := by omega
      have hSs := hG.s hB hss
      refine g_astore dX8_carry_14 (Nat.le_of_ble_eq_true rfl) (Nat.le_of_ble_eq_true rfl) rfl ?_
      dsimp only [sto]
      refine g_aload_nN 3 dX8_carry_16 rfl rfl ?_
      refine g_ifnullN 25 dX8_carry_17 (by decide) ?_
      refine g_aload_n 0 dX8_carry_25 rfl rfl ?_
      refine g_iconst (iI 1) dX8_carry_26 rfl ?_
      refine ckE lkX8_46 (k_X8_refuse Z a C fS fA _ 1) dX8_carry_27 (And.intro (Nat.le_of_ble_eq_true rfl) (Nat.le_of_ble_eq_true rfl)) (ci := 7) (q0 := 0) rfl rfl (Nat.le_of_ble_eq_true rfl) rfl rfl (Nat.le_of_ble_eq_true rfl) (Nat.le_of_ble_eq_true rfl) rfl ?_
      refine g_iret dX8_carry_30 rfl (Nat.le_of_ble_eq_true rfl) (Nat.le_of_ble_eq_true rfl) ?_
      have hA : A_carry D s p = (-1, ms D 13 0 1) := by
        unfold A_carry
        rw [if_neg (by omega)]
      rw [hA, sW_fin]
      exact ⟨_, rfl, rfl, Rel_fin hR _⟩
    · rw [if_neg hFs]
      refine g_astoreN dX8_carry_14 (Nat.le_of_ble_eq_true rfl) (Nat.le_of_ble_eq_true rfl) rfl ?_
      dsimp only [sto]
      refine g_aload_nN 3 dX8_carry_16 rfl rfl ?_
      refine g_ifnullN 25 dX8_carry_17 (by decide) ?_
      refine g_aload_n 0 dX8_carry_25 rfl rfl ?_
      refine g_iconst (iI 1) dX8_carry_26 rfl ?_
      refine ckE lkX8_46 (k_X8_refuse Z a C fS fA _ 1) dX8_carry_27 (And.intro (Nat.le_of_ble_eq_true rfl) (Nat.le_of_ble_eq_true rfl)) (ci := 7) (q0 := 0) rfl rfl (Nat.le_of_ble_eq_true rfl) rfl rfl (Nat.le_of_ble_eq_true rfl) (Nat.le_of_ble_eq_true rfl) rfl ?_
      refine g_iret dX8_carry_30 rfl (Nat.le_of_ble_eq_true rfl) (Nat.le_of_ble_eq_true rfl) ?_
      have hA : A_carry D s p = (-1, ms D 13 0 1) := by
        unfold A_carry
        rw [if_neg (by omega)]
      rw [hA, sW_fin]
      exact ⟨_, rfl, rfl, Rel_fin hR _⟩
