/-! THE CLASS: findStruck, findSeen, read -/
def iSt (D : Mem) : Prop := ∀ s : Int, 0 ≤ s → s < D 9 0 → D 2 s = 1 → ∀ i j : Int, 0 ≤ i → i < j → j < D 3 s → D 4 (12 * s + i) ≠ D 4 (12 * s + j)
def iUn (D : Mem) : Prop := ∀ u : Int, 0 ≤ u → u < D 9 0 → D 2 u = 3 → D 1 (D 6 u) < D 1 u
def iMk (D : Mem) : Prop := ∀ m : Int, 0 ≤ m → m < D 9 0 → D 2 m = 2 → 0 ≤ D 6 m → List.Sublist [D 4 (12 * m + 1), D 6 m] (ordF D tT)
def iPt (D : Mem) : Prop := ∀ s : Int, 0 ≤ s → s < D 9 0 → D 2 s = 0 → ∀ i : Int, 0 ≤ i → i < D 3 s → D 4 (12 * s + i) = 4 * s + i
def iCu (D : Mem) : Prop := ∀ p c : Int, 0 ≤ p → p < 6 → 0 ≤ c → c < 3 → -1 ≤ D 12 (3 * p + c)
def Inv (D : Mem) : Prop := iSt D ∧ iUn D ∧ iMk D ∧ iPt D ∧ iCu D
theorem anyB_iff {P : Int → Bool} : ∀ k : Nat, anyB P k = true ↔ ∃ i : Nat, i < k ∧ P i = true := by
  intro k
  induction k with
  | zero => simp [anyB]
  | succ k ih =>
    unfold anyB
    rw [Bool.or_eq_true, ih]
    constructor
    · rintro (⟨i, a, b⟩ | h)
      · exact ⟨i, by omega, b⟩
      · exact ⟨k, by omega, h⟩
    · rintro ⟨i, a, b⟩
      by_cases e : i = k
      · subst e; exact Or.inr b
      · exact Or.inl ⟨i, by omega, b⟩
theorem sgB_iff {D : Mem} {s x i : Int} : sgB D s x i = true ↔ D 4 (12 * s + i) = x := by unfold sgB; simp
theorem stB_w {D : Mem} {W : Int → Bool} {x s : Int} (h : ¬ W s = true) : stB D W x s = false := by
  unfold stB
  cases e : W s
  · rfl
  · exact absurd e h
theorem stB_k {D : Mem} {W : Int → Bool} {x s : Int} (h : ¬ D 2 s = 1) : stB D W x s = false := by
  unfold stB
  rw [decide_eq_false h]
  simp
theorem stB_y {D : Mem} {W : Int → Bool} {x s : Int} (h : D 2 s = 1) (hw : W s = true) : stB D W x s = anyB (sgB D s x) (D 3 s).toNat := by
  unfold stB
  rw [decide_eq_true h, hw]
  simp
theorem any_out {D : Mem} {s x : Int} {j : Nat} (h : ¬ D 4 (12 * s + j) = x) : anyB (sgB D s x) (j + 1) = anyB (sgB D s x) j := by
  conv => lhs; unfold anyB
  cases e : sgB D s x j
  · simp
  · exact absurd (sgB_iff.mp e) h
theorem any_in {D : Mem} {s x : Int} {j : Nat} (h : D 4 (12 * s + j) = x) (hd : ∀ i : Nat, i < j → D 4 (12 * s + i) ≠ x) : bI (anyB (sgB D s x) (j + 1)) = bI (anyB (sgB D s x) j) + 1 := by
  have e1 : anyB (sgB D s x) (j + 1) = true := (anyB_iff _).mpr ⟨j, by omega, sgB_iff.mpr h⟩
  have e2 : anyB (sgB D s x) j = false := by
    cases e : anyB (sgB D s x) j
    · rfl
    · obtain ⟨i, a, b⟩ := (anyB_iff _).mp e
      exact absurd (sgB_iff.mp b) (hd i a)
  rw [e1, e2]
  rfl
set_option maxHeartbeats 4000000 in
set_option maxRecDepth 100000 in
theorem k_X3_countStruck (Z : LZ) (a : Nat → Nat) (C : Mem) (fS fA : Nat → Option Nat) {D : Mem} (sa sb : Nat → Nat) (N : Nat) (hG : Good D) (h9 : D 9 0 = N) (hI : iSt D) {T : Int → Bool} (hC : Cl D T) (hO : Od D T C) (s : Nat) (hs : s < N) (hk : D 2 s = 1) : Tr Z jX3_countStruck [.ref (a 102), .ref (sa s)] (cW Z a C fS fA (sW Z D sa sb N)) (fun r w => ∃ C3 : Mem, r = none ∧ w = cW Z a C3 fS fA (sW Z D sa sb N) ∧ ((∀ q : Nat, q ≠ 73 → C3 q = C q) ∧ ∀ k : Int, 0 ≤ k → k < (ordF D T).length → C3 73 k = C 73 k + bI (anyB (sgB D s (fF (ordF D T) k)) (D 3 s).toNat))) := by
  refine tr_of pn_X3_countStruck (Nat.le_of_ble_eq_true rfl) (by intro v h; simp only [List.mem_cons, List.not_mem_nil, or_false] at h; rcases h with h | h <;> rw [h] <;> rfl) ?_
  have hS : okS D s := hG.1.2.2.1 s (by omega) (by omega)
  have hd3 := hS.d3
  have hl := ordF_len hG.1 hG.2.1 hC
  have hnd := ordF_nd hG hC
  have hM := hG.1.1
  have loop : ∀ (fuel : Nat) (C2 : Mem) (j : Nat), D 3 s - j < fuel → (j : Int) ≤ D 3 s → (∀ q : Nat, q ≠ 73 → C2 q = C q) → (∀ k : Int, 0 ≤ k → k < (ordF D T).length → C2 73 k = C 73 k + bI (anyB (sgB D s (fF (ordF D T) k)) j)) → G Z jX3_countStruck E0 (QM Z jX3_countStruck (fun r w => ∃ C3 : Mem, r = none ∧ w = cW Z a C3 fS fA (sW Z D sa sb N) ∧ ((∀ q : Nat, q ≠ 73 → C3 q = C q) ∧ ∀ k : Int, 0 ≤ k → k < (ordF D T).length → C3 73 k = C 73 k + bI (anyB (sgB D s (fF (ordF D T) k)) (D 3 s).toNat)))) 2 [.ref (a 102), .ref (sa s), .int (iI (j : Int))] [] (cW Z a C2 fS fA (sW Z D sa sb N)) 0 0 := by
    intro fuel
    induction fuel with
    | zero => intros; exfalso; omega
    | succ fuel ih =>
      intro C2 j hf h1 hq hv
      refine g_iload_n 2 dX3_countStruck_2 rfl rfl ?_
      refine g_aload_n 1 dX3_countStruck_3 rfl rfl ?_
      refine cg_stk_names hs hk dX3_countStruck_4 flX3_157 ?_
      refine cl_names hs hk (by omega) dX3_countStruck_7 ?_
      refine gi_icmp_ge 43 dX3_countStruck_8 (by decide) (by first | exact bI_Rg _ | assumption | exact ⟨by omega, by omega⟩) (by first | exact bI_Rg _ | assumption | exact ⟨by omega, by omega⟩) (fun c8 => ?_) (fun c8 => ?_)
      · refine g_vret dX3_countStruck_43 rfl (Nat.le_of_ble_eq_true rfl) (Nat.le_of_ble_eq_true rfl) ⟨C2, rfl, rfl, hq, fun k a b => ?_⟩
        rw [hv k a b, show (D 3 s).toNat = j by omega]
      · have hnm := hS.2.2.2.2.2.2 j (Or.inl hk) (by omega) (by omega)
        have hix := inIx_rg (ordF D T) (D 4 (12 * s + j))
        have hO2 : Od D T C2 := by
          unfold Od at hO ⊢
          rw [hq 77 (by decide), hq 71 (by decide), hq 72 (by decide)]
          exact hO
        refine g_aload_n 0 dX3_countStruck_11 rfl rfl ?_
        refine g_aload_n 1 dX3_countStruck_12 rfl rfl ?_
        refine cg_stk_names hs hk dX3_countStruck_13 flX3_157 ?_
        refine g_iload_n 2 dX3_countStruck_16 rfl rfl ?_
        refine ca_names hs hk (by omega) dX3_countStruck_17 (by omega) (by omega) ?_
        refine ckE lkX3_85 (k_X3_spotOf Z a C2 fS fA sa sb N hG hO2 (D 4 (12 * s + j)) (hM _ _)) dX3_countStruck_18 (And.intro (Nat.le_of_ble_eq_true rfl) (Nat.le_of_ble_eq_true rfl)) (ci := 3) (q0 := 30) rfl rfl (Nat.le_of_ble_eq_true rfl) rfl rfl (Nat.le_of_ble_eq_true rfl) (Nat.le_of_ble_eq_true rfl) rfl ?_
        refine g_istore_n 3 dX3_countStruck_21 rfl (Nat.le_of_ble_eq_true rfl) (Nat.le_of_ble_eq_true rfl) rfl ?_
        dsimp only [sto]
        refine g_iload_n 3 dX3_countStruck_22 rfl rfl ?_
        refine g_iconst (iI (-1)) dX3_countStruck_23 rfl ?_
        refine gi_icmp_eq 37 dX3_countStruck_24 (by decide) (by first | exact bI_Rg _ | assumption | exact ⟨by omega, by omega⟩) (by first | exact bI_Rg _ | assumption | exact ⟨by omega, by omega⟩) (fun c24 => ?_) (fun c24 => ?_)
        · refine gi_inc dX3_countStruck_37 rfl (Nat.le_of_ble_eq_true rfl) rfl ?_
          dsimp only [sto]
          refine g_goto 2 dX3_countStruck_40 (by decide) ?_
          refine g_cut 3 ?_
          refine ih C2 (j + 1) (by omega) (by omega) hq (fun k a b => ?_)
          rw [hv k a b, any_out]
          intro g
          have := inIx_mem (F := ordF D T) (x := D 4 (12 * s + j)) (by rw [g]; exact fF_mem a b)
          omega
        · refine g_aload_n 0 dX3_countStruck_27 rfl rfl ?_
          refine cg_rd_struck dX3_countStruck_28 flX3_21 ?_
          refine g_iload_n 3 dX3_countStruck_31 rfl rfl ?_
          refine g_dup2 dX3_countStruck_32 rfl rfl ?_
          refine ca_73 rfl dX3_countStruck_33 (by omega) (by omega) ?_
          refine g_iconst (iI 1) dX3_countStruck_34 rfl ?_
          refine gi_add dX3_countStruck_35 ?_
          refine ct_73 dX3_countStruck_36 (by omega) (by omega) ?_
          refine gi_inc dX3_countStruck_37 rfl (Nat.le_of_ble_eq_true rfl) rfl ?_
          dsimp only [sto]
          refine g_goto 2 dX3_countStruck_40 (by decide) ?_
          refine g_cut 3 ?_
          refine ih (ms C2 73 (inIx (ordF D T) (D 4 (12 * s + j))) _) (j + 1) (by omega) (by omega) (fun q h => (ms_ne h).trans (hq q h)) (fun k a b => ?_)
          by_cases e : k = inIx (ordF D T) (D 4 (12 * s + j))
          · have ex : fF (ordF D T) k = D 4 (12 * s + j) := by rw [e]; exact inIx_fF (by omega)
            rw [ex, e, ms_at]
            have h3 := hv k a b
            rw [ex, e] at h3
            rw [h3, any_in rfl (fun i hi => hI s (by omega) (by omega) hk i j (by omega) (by omega) (by omega)), Int.add_assoc]
          · rw [ms_off e, hv k a b, any_out]
            intro g
            rw [g, inIx_at hnd a b] at e
            exact e rfl
  refine g_iconst (iI 0) dX3_countStruck_0 rfl ?_
  refine g_istore_n 2 dX3_countStruck_1 rfl (Nat.le_of_ble_eq_true rfl) (Nat.le_of_ble_eq_true rfl) rfl ?_
  dsimp only [sto]
  exact loop ((D 3 s).toNat + 1) C 0 (by omega) (by omega) (fun _ _ => rfl) (fun k a b => by simp [anyB, bI])
set_option maxHeartbeats 4000000 in
set_option maxRecDepth 100000 in
theorem k_X3_findStruck (Z : LZ) (a : Nat → Nat) (C : Mem) (fS fA : Nat → Option Nat) {D : Mem} (sa sb : Nat → Nat) (N : Nat) (hG : Good D) (hI : iSt D) (hB : Bk D C fS fA sa N) {T : Int → Bool} (hC : Cl D T) (hS : Sd D T N C) (hO : Od D T C) : Tr Z jX3_findStruck [.ref (a 102)] (cW Z a C fS fA (sW Z D sa sb N)) (fun r w => ∃ C3 : Mem, r = none ∧ w = cW Z a C3 fS fA (sW Z D sa sb N) ∧ ((∀ q : Nat, q ≠ 73 → C3 q = C q) ∧ Kd D T C3)) := by
  refine tr_of pn_X3_findStruck (Nat.le_of_ble_eq_true rfl) (by intro v h; simp only [List.mem_cons, List.not_mem_nil, or_false] at h; rw [h]; rfl) ?_
  have hn := hB.n
  have h9 := hB.d9
  have hl := ordF_len hG.1 hG.2.1 hC
  have loop2 : ∀ (fuel : Nat) (C2 : Mem) (i : Nat), N - i < fuel → i ≤ N → (∀ q : Nat, q ≠ 73 → C2 q = C q) → (∀ k : Int, 0 ≤ k → k < (ordF D T).length → C2 73 k = cntB (stB D (wkB D T) (fF (ordF D T) k)) i) → G Z jX3_findStruck E0 (QM Z jX3_findStruck (fun r w => ∃ C3 : Mem, r = none ∧ w = cW Z a C3 fS fA (sW Z D sa sb N) ∧ ((∀ q : Nat, q ≠ 73 → C3 q = C q) ∧ Kd D T C3))) 25 [.ref (a 102), .int (iI (i : Int))] [] (cW Z a C2 fS fA (sW Z D sa sb N)) 0 0 := by
    intro fuel
    induction fuel with
    | zero => intros; exfalso; omega
    | succ fuel ih =>
      intro C2 i hf h1 hq hv
      refine g_iload_n 1 dX3_findStruck_25 rfl rfl ?_
      refine g_aload_n 0 dX3_findStruck_26 rfl rfl ?_
      refine cg_rd_book dX3_findStruck_27 flX3_33 ?_
      refine cg_bk_count ((congrFun (hq 1 (by decide)) _).trans (hB.c1)) dX3_findStruck_30 flX3_91 ?_
      refine gi_icmp_ge 79 dX3_findStruck_33 (by decide) (by first | exact bI_Rg _ | assumption | exact ⟨by omega, by omega⟩) (by first | exact bI_Rg _ | assumption | exact ⟨by omega, by omega⟩) (fun c33 => ?_) (fun c33 => ?_)
      · refine g_vret dX3_findStruck_79 rfl (Nat.le_of_ble_eq_true rfl) (Nat.le_of_ble_eq_true rfl) ⟨C2, rfl, rfl, hq, fun k a b => ?_⟩
        unfold strikesF
        rw [hv k a b, show (D 9 0).toNat = i by omega]
      · have hi : i < N := by omega
        have hst := hS i hi
        have hSi := hG.s hB hi
        have hst2 : (C 70 i = 3 ↔ wkB D T i = true) ∧ 0 ≤ C 70 i ∧ C 70 i ≤ 3 := by
          rw [hst]
          cases e : T i
          · cases e2 : wkB D T i
            · simp
            · have := wk_tk hG.1 (by omega) (by omega) e2
              rw [e] at this
              cases this
          · cases e2 : wkB D T i <;> simp
        have hO2 : Od D T C2 := by
          unfold Od at hO ⊢
          rw [hq 77 (by decide), hq 71 (by decide), hq 72 (by decide)]
          exact hO
        have hcs : ∀ x, cntB (stB D (wkB D T) x) (i + 1) = cntB (stB D (wkB D T) x) i + bI (stB D (wkB D T) x i) := fun x => rfl
        refine g_aload_n 0 dX3_findStruck_36 rfl rfl ?_
        refine cg_rd_standing dX3_findStruck_37 flX3_9 ?_
        refine g_iload_n 1 dX3_findStruck_40 rfl rfl ?_
        refine ca_70 (congrFun (hq 70 (by decide)) _) dX3_findStruck_41 (by omega) (by omega) ?_
        refine g_iconst (iI 3) dX3_findStruck_42 rfl ?_
        refine gi_icmp_ne 73 dX3_findStruck_43 (by decide) ⟨by omega, by omega⟩ ⟨by omega, by omega⟩ (fun c43 => ?_) (fun c43 => ?_)
        · refine gi_inc dX3_findStruck_73 rfl (Nat.le_of_ble_eq_true rfl) rfl ?_
          dsimp only [sto]
          refine g_goto 25 dX3_findStruck_76 (by decide) ?_
          refine g_cut 2 ?_
          refine ih C2 (i + 1) (by omega) (by omega) hq (fun k a b => ?_)
          rw [hv k a b, hcs, stB_w (fun e => c43 (hst2.1.mpr e))]
          simp [bI]
        · refine g_aload_n 0 dX3_findStruck_46 rfl rfl ?_
          refine cg_rd_book dX3_findStruck_47 flX3_33 ?_
          refine cg_bk_slips dX3_findStruck_50 flX3_130 ?_
          refine g_iload_n 1 dX3_findStruck_53 rfl rfl ?_
          refine ca_slips (s := i) (hB.sl i hi) dX3_findStruck_54 (by omega) (by omega) ?_
          by_cases hk57 : D 2 i = 1
          · refine py_stk hi hk57 dX3_findStruck_55 dX3_findStruck_56 dX3_findStruck_57 clX3_151 73 dX3_findStruck_60 (by decide) dX3_findStruck_63 dX3_findStruck_64 clX3_151 dX3_findStruck_67 (Nat.le_of_ble_eq_true rfl) rfl ?_
            dsimp only [List.cons_append, List.nil_append]
            refine g_aload_n 0 dX3_findStruck_68 rfl rfl ?_
            refine g_aload_n 2 dX3_findStruck_69 rfl rfl ?_
            refine ckX lkX3_153 (k_X3_countStruck Z a C2 fS fA sa sb N hG h9 hI hC hO2 i hi hk57) dX3_findStruck_70 (And.intro (Nat.le_of_ble_eq_true rfl) (Nat.le_of_ble_eq_true rfl)) (ci := 3) (q0 := 30) rfl rfl (Nat.le_of_ble_eq_true rfl) rfl rfl (Nat.le_of_ble_eq_true rfl) (Nat.le_of_ble_eq_true rfl) rfl (fun C70 h70 => ?_)
            refine gi_inc dX3_findStruck_73 rfl (Nat.le_of_ble_eq_true rfl) rfl ?_
            dsimp only [sto]
            refine g_goto 25 dX3_findStruck_76 (by decide) ?_
            refine g_cut 2 ?_
            refine ih C70 (i + 1) (by omega) (by omega) (fun q h => (h70.1 q h).trans (hq q h)) (fun k a b => ?_)
            rw [h70.2 k a b, hv k a b, hcs, stB_y hk57 (hst2.1.mp c43)]
          · refine pn_stk hi hk57 hSi.2.1 dX3_findStruck_55 dX3_findStruck_56 dX3_findStruck_57 clX3_151 73 dX3_findStruck_60 (by decide) (Nat.le_of_ble_eq_true rfl) rfl ?_
            refine gi_inc dX3_findStruck_73 rfl (Nat.le_of_ble_eq_true rfl) rfl ?_
            dsimp only [sto]
            refine g_goto 25 dX3_findStruck_76 (by decide) ?_
            refine g_cut 2 ?_
            refine ih C2 (i + 1) (by omega) (by omega) hq (fun k a b => ?_)
            rw [hv k a b, hcs, stB_k hk57]
            simp [bI]
  have loop : ∀ (fuel : Nat) (C2 : Mem) (i : Nat), (ordF D T).length - i < fuel → i ≤ (ordF D T).length → (∀ q : Nat, q ≠ 73 → C2 q = C q) → (∀ k : Int, 0 ≤ k → k < i → C2 73 k = 0) → G Z jX3_findStruck E0 (QM Z jX3_findStruck (fun r w => ∃ C3 : Mem, r = none ∧ w = cW Z a C3 fS fA (sW Z D sa sb N) ∧ ((∀ q : Nat, q ≠ 73 → C3 q = C q) ∧ Kd D T C3))) 2 [.ref (a 102), .int (iI (i : Int))] [] (cW Z a C2 fS fA (sW Z D sa sb N)) 0 0 := by
    intro fuel
    induction fuel with
    | zero => intros; exfalso; omega
    | succ fuel ih =>
      intro C2 i hf h1 hq hv
      refine g_iload_n 1 dX3_findStruck_2 rfl rfl ?_
      refine g_aload_n 0 dX3_findStruck_3 rfl rfl ?_
      refine cg_rd_orderSize ((congrFun (hq 77 (by decide)) _).trans (hO.1.1)) dX3_findStruck_4 flX3_88 ?_
      refine gi_icmp_ge 23 dX3_findStruck_7 (by decide) (by first | exact bI_Rg _ | assumption | exact ⟨by omega, by omega⟩) (by first | exact bI_Rg _ | assumption | exact ⟨by omega, by omega⟩) (fun c7 => ?_) (fun c7 => ?_)
      · refine g_iconst (iI 0) dX3_findStruck_23 rfl ?_
        refine g_istore_n 1 dX3_findStruck_24 rfl (Nat.le_of_ble_eq_true rfl) (Nat.le_of_ble_eq_true rfl) rfl ?_
        dsimp only [sto]
        exact loop2 (N + 1) C2 0 (by omega) (by omega) hq (fun k a b => hv k a (by omega))
      · refine g_aload_n 0 dX3_findStruck_10 rfl rfl ?_
        refine cg_rd_struck dX3_findStruck_11 flX3_21 ?_
        refine g_iload_n 1 dX3_findStruck_14 rfl rfl ?_
        refine g_iconst (iI 0) dX3_findStruck_15 rfl ?_
        refine ct_73 dX3_findStruck_16 (by omega) (by omega) ?_
        refine gi_inc dX3_findStruck_17 rfl (Nat.le_of_ble_eq_true rfl) rfl ?_
        dsimp only [sto]
        refine g_goto 2 dX3_findStruck_20 (by decide) ?_
        refine ih (ms C2 73 i 0) (i + 1) (by omega) (by omega) (fun q h => (ms_ne h).trans (hq q h)) (fun k a b => ?_)
        by_cases e : k = i
        · rw [e, ms_at]
        · rw [ms_off e]; exact hv k a (by omega)
  refine g_iconst (iI 0) dX3_findStruck_0 rfl ?_
  refine g_istore_n 1 dX3_findStruck_1 rfl (Nat.le_of_ble_eq_true rfl) (Nat.le_of_ble_eq_true rfl) rfl ?_
  dsimp only [sto]
  exact loop ((ordF D T).length + 1) C 0 (by omega) (by omega) (fun _ _ => rfl) (fun k a b => by omega)
set_option maxHeartbeats 4000000 in
set_option maxRecDepth 100000 in
theorem k_X3_findSeen (Z : LZ) (a : Nat → Nat) (C : Mem) (fS fA : Nat → Option Nat) {D : Mem} (sa sb : Nat → Nat) (N : Nat) (hG : Good D) (h9 : D 9 0 = N) {T : Int → Bool} (hC : Cl D T) (hS : Sd D T N C) (hO : Od D T C) (hK : Kd D T C) : Tr Z jX3_findSeen [.ref (a 102)] (cW Z a C fS fA (sW Z D sa sb N)) (fun r w => ∃ C3 : Mem, r = none ∧ w = cW Z a C3 fS fA (sW Z D sa sb N) ∧ ((∀ q : Nat, q ≠ 74 → q ≠ 75 → q ≠ 78 → C3 q = C q) ∧ Vd D T C3)) := by
  refine tr_of pn_X3_findSeen (Nat.le_of_ble_eq_true rfl) (by intro v h; simp only [List.mem_cons, List.not_mem_nil, or_false] at h; rw [h]; rfl) ?_
  have hn := hG.1.2.1
  have hl := ordF_len hG.1 hG.2.1 hC
  have loop : ∀ (fuel : Nat) (C2 : Mem) (i : Nat), (ordF D T).length - i < fuel → i ≤ (ordF D T).length → (∀ q : Nat, q ≠ 74 → q ≠ 75 → q ≠ 78 → C2 q = C q) → C2 78 0 = cntB (Vi D T) i → (∀ k : Nat, k < i → C2 74 k = cntB (Vi D T) k) → (∀ x : Int, 0 ≤ x → x < cntB (Vi D T) i → C2 75 x = atF D T x) → G Z jX3_findSeen E0 (QM Z jX3_findSeen (fun r w => ∃ C3 : Mem, r = none ∧ w = cW Z a C3 fS fA (sW Z D sa sb N) ∧ ((∀ q : Nat, q ≠ 74 → q ≠ 75 → q ≠ 78 → C3 q = C q) ∧ Vd D T C3))) 7 [.ref (a 102), .int (iI (i : Int))] [] (cW Z a C2 fS fA (sW Z D sa sb N)) 0 0 := by
    intro fuel
    induction fuel with
    | zero => intros; exfalso; omega
    | succ fuel ih =>
      intro C2 i hf h1 hq ht ha hs2
      have hcr := cntB_rg (Vi D T) i
      have hrg : 0 ≤ C2 78 0 ∧ C2 78 0 ≤ 768 := by omega
      refine g_iload_n 1 dX3_findSeen_7 rfl rfl ?_
      refine g_aload_n 0 dX3_findSeen_8 rfl rfl ?_
      refine cg_rd_orderSize ((congrFun (hq 77 (by decide) (by decide) (by decide)) _).trans (hO.1.1)) dX3_findSeen_9 flX3_88 ?_
      refine gi_icmp_ge 78 dX3_findSeen_12 (by decide) (by first | exact bI_Rg _ | assumption | exact ⟨by omega, by omega⟩) (by first | exact bI_Rg _ | assumption | exact ⟨by omega, by omega⟩) (fun c12 => ?_) (fun c12 => ?_)
      · refine g_aload_n 0 dX3_findSeen_78 rfl rfl ?_
        refine cg_rd_ahead dX3_findSeen_79 flX3_24 ?_
        refine g_aload_n 0 dX3_findSeen_82 rfl rfl ?_
        refine cg_rd_orderSize ((congrFun (hq 77 (by decide) (by decide) (by decide)) _).trans (hO.1.1)) dX3_findSeen_83 flX3_88 ?_
        refine g_aload_n 0 dX3_findSeen_86 rfl rfl ?_
        refine cg_rd_textSize ht dX3_findSeen_87 flX3_65 ?_
        refine ct_74 dX3_findSeen_90 (by omega) (by omega) ?_
        refine g_vret dX3_findSeen_91 rfl (Nat.le_of_ble_eq_true rfl) (Nat.le_of_ble_eq_true rfl) ⟨_, rfl, rfl, fun q q1 q2 q3 => (ms_ne q1).trans (hq q q1 q2 q3), fun k hk2 => ?_, ?_, fun x a b => ?_⟩
        · by_cases e : k = (ordF D T).length
          · rw [e, ms_at, show (ordF D T).length = i by omega]
          · rw [ms_off (by omega)]
            exact ha k (by omega)
        · rw [ms_row (by decide), ht]
          unfold txtN
          rw [show (ordF D T).length = i by omega]
        · rw [ms_row (by decide)]
          exact hs2 x a (by unfold txtN at b; rw [show (ordF D T).length = i by omega] at b; exact b)
      · have hi : i < (ordF D T).length := by omega
        have hm := fF_ord hG.1 hG.2.1 (T := T) (i := i) (by omega) (by omega)
        have hpt : ptF (fF (ordF D T) i) = fF (ordF D T) i / 4 := by unfold ptF; rw [if_neg (by omega)]
        have hs : (fF (ordF D T) i / 4).toNat < N := by omega
        have hst := hS _ hs
        rw [show (((fF (ordF D T) i / 4).toNat : Nat) : Int) = fF (ordF D T) i / 4 by omega, hm.2.2.2.1, if_pos rfl] at hst
        have hkd := hK i (by omega) (by omega)
        have hsr := cntB_rg (stB D (wkB D T) (fF (ordF D T) i)) (D 9 0).toNat
        rw [show cntB (stB D (wkB D T) (fF (ordF D T) i)) (D 9 0).toNat = strikesF D (wkB D T) (fF (ordF D T) i) from rfl] at hsr
        have hcv : cntB (Vi D T) (i + 1) = cntB (Vi D T) i + bI (Vi D T i) := rfl
        refine g_aload_n 0 dX3_findSeen_15 rfl rfl ?_
        refine cg_rd_ahead dX3_findSeen_16 flX3_24 ?_
        refine g_iload_n 1 dX3_findSeen_19 rfl rfl ?_
        refine g_aload_n 0 dX3_findSeen_20 rfl rfl ?_
        refine cg_rd_textSize rfl dX3_findSeen_21 flX3_65 ?_
        refine ct_74 dX3_findSeen_24 (by omega) (by omega) ?_
        refine g_aload_n 0 dX3_findSeen_25 rfl rfl ?_
        refine cg_rd_struck dX3_findSeen_26 flX3_21 ?_
        refine g_iload_n 1 dX3_findSeen_29 rfl rfl ?_
        refine ca_73 ((ms_row (by decide)).trans (congrFun (hq 73 (by decide) (by decide) (by decide)) _)) dX3_findSeen_30 (by omega) (by omega) ?_
        refine gi_if_ne 72 dX3_findSeen_31 (by decide) (by rw [hkd]; exact ⟨by omega, by omega⟩) (fun c31 => ?_) (fun c31 => ?_)
        · refine gi_inc dX3_findSeen_72 rfl (Nat.le_of_ble_eq_true rfl) rfl ?_
          dsimp only [sto]
          refine g_goto 7 dX3_findSeen_75 (by decide) ?_
          refine g_cut 2 ?_
          have hV : Vi D T i = false := by
            rw [Vi_fF]
            unfold visB
            rw [decide_eq_true (by omega)]; simp
          refine ih (ms C2 74 i (C2 78 0)) (i + 1) (by omega) (by omega) (fun q q1 q2 q3 => (ms_ne q1).trans (hq q q1 q2 q3)) (by rw [ms_row (by decide), ht, hcv, hV]; simp [bI]) (fun k hk2 => ?_) (fun x a b => ?_)
          · by_cases e : k = i
            · rw [e, ms_at, ht]
            · rw [ms_off (by omega)]
              exact ha k (by omega)
          · rw [hcv, hV] at b
            rw [ms_row (by decide)]
            exact hs2 x a (by simpa [bI] using b)
        · refine g_aload_n 0 dX3_findSeen_34 rfl rfl ?_
          refine cg_rd_standing dX3_findSeen_35 flX3_9 ?_
          refine g_aload_n 0 dX3_findSeen_38 rfl rfl ?_
          refine cg_rd_order dX3_findSeen_39 flX3_15 ?_
          refine g_iload_n 1 dX3_findSeen_42 rfl rfl ?_
          refine ca_71 ((ms_row (by decide)).trans ((congrFun (hq 71 (by decide) (by decide) (by decide)) _).trans (hO.1.2 i (by omega) (by omega)))) dX3_findSeen_43 (by omega) (by omega) ?_
          refine ckN (by first | exact bI_Rg _ | assumption | exact ⟨by omega, by omega⟩) lknX3_148 dX3_findSeen_44 (And.intro (Nat.le_of_ble_eq_true rfl) (Nat.le_of_ble_eq_true rfl)) (Nat.le_of_ble_eq_true rfl) (Nat.le_of_ble_eq_true rfl) (Nat.le_of_ble_eq_true rfl) ?_
          rw [hpt]
          refine ca_70 ((ms_row (by decide)).trans (congrFun (hq 70 (by decide) (by decide) (by decide)) _)) dX3_findSeen_47 (by omega) (by omega) ?_
          refine g_iconst (iI 3) dX3_findSeen_48 rfl ?_
          refine gi_icmp_ne 72 dX3_findSeen_49 (by decide) (by rw [hst]; split <;> exact ⟨by decide, by decide⟩) ⟨by decide, by decide⟩ (fun c49 => ?_) (fun c49 => ?_)
          · refine gi_inc dX3_findSeen_72 rfl (Nat.le_of_ble_eq_true rfl) rfl ?_
            dsimp only [sto]
            refine g_goto 7 dX3_findSeen_75 (by decide) ?_
            refine g_cut 2 ?_
            have hV : Vi D T i = false := by
              rw [Vi_fF]
              unfold visB
              cases e : wkB D T (fF (ordF D T) i / 4)
              · rfl
              · rw [e, if_pos rfl] at hst; exact absurd hst c49
            refine ih (ms C2 74 i (C2 78 0)) (i + 1) (by omega) (by omega) (fun q q1 q2 q3 => (ms_ne q1).trans (hq q q1 q2 q3)) (by rw [ms_row (by decide), ht, hcv, hV]; simp [bI]) (fun k hk2 => ?_) (fun x a b => ?_)
            · by_cases e : k = i
              · rw [e, ms_at, ht]
              · rw [ms_off (by omega)]
                exact ha k (by omega)
            · rw [hcv, hV] at b
              rw [ms_row (by decide)]
              exact hs2 x a (by simpa [bI] using b)
          · refine g_aload_n 0 dX3_findSeen_52 rfl rfl ?_
            refine cg_rd_seen dX3_findSeen_53 flX3_27 ?_
            refine g_aload_n 0 dX3_findSeen_56 rfl rfl ?_
            refine cg_rd_textSize (ms_row (by decide)) dX3_findSeen_57 flX3_65 ?_
            refine g_iload_n 1 dX3_findSeen_60 rfl rfl ?_
            refine ct_75 dX3_findSeen_61 (by omega) (by omega) ?_
            refine g_aload_n 0 dX3_findSeen_62 rfl rfl ?_
            refine g_dup dX3_findSeen_63 rfl ?_
            refine cg_rd_textSize rfl dX3_findSeen_64 flX3_65 ?_
            refine g_iconst (iI 1) dX3_findSeen_67 rfl ?_
            refine gi_add dX3_findSeen_68 ?_
            refine cp_rd_textSize dX3_findSeen_69 flX3_65 ?_
            refine gi_inc dX3_findSeen_72 rfl (Nat.le_of_ble_eq_true rfl) rfl ?_
            dsimp only [sto]
            refine g_goto 7 dX3_findSeen_75 (by decide) ?_
            rw [ms_row (show (78 : Nat) ≠ 75 by decide), ms_row (show (78 : Nat) ≠ 74 by decide)]
            refine g_cut 2 ?_
            have hV : Vi D T i = true := by
              rw [Vi_fF]
              unfold visB
              rw [decide_eq_false (by omega)]
              cases e : wkB D T (fF (ordF D T) i / 4)
              · rw [e, if_neg (by decide)] at hst; omega
              · rfl
            have hat : atF D T (cntB (Vi D T) i) = i := fvV_at (z := i) (by omega) hV (by rw [show ((i : Int)).toNat = i by omega]) _ (by omega)
            refine ih (ms (ms (ms C2 74 i (C2 78 0)) 75 (C2 78 0) i) 78 0 (C2 78 0 + 1)) (i + 1) (by omega) (by omega) (fun q q1 q2 q3 => (ms_ne q3).trans ((ms_ne q2).trans ((ms_ne q1).trans (hq q q1 q2 q3)))) (by rw [ms_at, ht, hcv, hV]; rfl) (fun k hk2 => ?_) (fun x a b => ?_)
            · rw [ms_row (by decide), ms_row (by decide)]
              by_cases e : k = i
              · rw [e, ms_at, ht]
              · rw [ms_off (by omega)]
                exact ha k (by omega)
            · rw [hcv, hV, show bI true = 1 from rfl] at b
              rw [ms_row (by decide)]
              by_cases e : x = C2 78 0
              · rw [e, ms_at, ht, hat]
              · rw [ms_off e, ms_row (by decide)]
                exact hs2 x a (by omega)
  refine g_aload_n 0 dX3_findSeen_0 rfl rfl ?_
  refine g_iconst (iI 0) dX3_findSeen_1 rfl ?_
  refine cp_rd_textSize dX3_findSeen_2 flX3_65 ?_
  refine g_iconst (iI 0) dX3_findSeen_5 rfl ?_
  refine g_istore_n 1 dX3_findSeen_6 rfl (Nat.le_of_ble_eq_true rfl) (Nat.le_of_ble_eq_true rfl) rfl ?_
  dsimp only [sto]
  exact loop ((ordF D T).length + 1) (ms C 78 0 0) 0 (by omega) (by omega) (fun q q1 q2 q3 => ms_ne q3) ms_at (fun k h => by omega) (fun x a b => by simp [cntB] at b; omega)
set_option maxHeartbeats 4000000 in
set_option maxRecDepth 100000 in
theorem k_X3_read (Z : LZ) (a : Nat → Nat) (C : Mem) (fS fA : Nat → Option Nat) {D : Mem} (sa sb : Nat → Nat) (N : Nat) (hG : Good D) (hI : iSt D) (hB : Bk D C fS fA sa N) (hX : SpI D C) (T : Int → Bool) (hC : Cl D T) (hU : ∀ u : Int, 0 ≤ u → u < N → T u = true → D 2 u = 3 → T (D 6 u) = true) (p : Nat) (hp : p < 6) (v : Int) (hv : Rg v) (hT : ∀ s : Nat, s < N → T s = (tkB D p s && decide (D 1 s ≤ v))) : Tr Z jX3_read [.ref (a 102), .ref (a (110 + p)), .int (iI v)] (cW Z a C fS fA (sW Z D sa sb N)) (fun r w => ∃ C3 : Mem, r = none ∧ w = cW Z a C3 fS fA (sW Z D sa sb N) ∧ ((∀ q : Nat, q < 70 ∨ q = 80 → C3 q = C q) ∧ SpI D C3 ∧ Rd D T N C3)) := by
  refine tr_of pn_X3_read (Nat.le_of_ble_eq_true rfl) (by intro v h; simp only [List.mem_cons, List.not_mem_nil, or_false] at h; rcases h with h | h | h <;> rw [h] <;> rfl) ?_
  refine g_aload_n 0 dX3_read_0 rfl rfl ?_
  refine g_aload_n 1 dX3_read_1 rfl rfl ?_
  refine g_iload_n 2 dX3_read_2 rfl rfl ?_
  refine ckX lkX3_43 (k_X3_findTaken Z a C fS fA sa sb N hG hB T p hp v hv hT) dX3_read_3 (And.intro (Nat.le_of_ble_eq_true rfl) (Nat.le_of_ble_eq_true rfl)) (ci := 3) (q0 := 30) rfl rfl (Nat.le_of_ble_eq_true rfl) rfl rfl (Nat.le_of_ble_eq_true rfl) (Nat.le_of_ble_eq_true rfl) rfl (fun C3 h3 => ?_)
  have p3 : PsC C C3 := fun q h => h3.1 q (by omega)
  refine g_aload_n 0 dX3_read_6 rfl rfl ?_
  refine ckX lkX3_47 (k_X3_findUndone Z a C3 fS fA sa sb N hG (hB.keep p3) T hU h3.2) dX3_read_7 (And.intro (Nat.le_of_ble_eq_true rfl) (Nat.le_of_ble_eq_true rfl)) (ci := 3) (q0 := 30) rfl rfl (Nat.le_of_ble_eq_true rfl) rfl rfl (Nat.le_of_ble_eq_true rfl) (Nat.le_of_ble_eq_true rfl) rfl (fun C7 h7 => ?_)
  have p7 : PsC C C7 := fun q h => (h7.1 q (by omega)).trans (p3 q h)
  have x7 : SpI D C7 := fun x a b c => by rw [h7.1 72 (by decide), h3.1 72 (by decide)]; exact hX x a b c
  refine g_aload_n 0 dX3_read_10 rfl rfl ?_
  refine ckX lkX3_50 (k_X3_findOrder Z a C7 fS fA sa sb N hG (hB.keep p7) x7 T hC h7.2) dX3_read_11 (And.intro (Nat.le_of_ble_eq_true rfl) (Nat.le_of_ble_eq_true rfl)) (ci := 3) (q0 := 30) rfl rfl (Nat.le_of_ble_eq_true rfl) rfl rfl (Nat.le_of_ble_eq_true rfl) (Nat.le_of_ble_eq_true rfl) rfl (fun C11 h11 => ?_)
  have p11 : PsC C C11 := fun q h => (h11.1 q (by omega) (by omega) (by omega)).trans (p7 q h)
  have s11 : Sd D T N C11 := fun s hs => by rw [h11.1 70 (by decide) (by decide) (by decide)]; exact h7.2 s hs
  refine g_aload_n 0 dX3_read_14 rfl rfl ?_
  refine ckX lkX3_53 (k_X3_findStruck Z a C11 fS fA sa sb N hG hI (hB.keep p11) hC s11 h11.2.1) dX3_read_15 (And.intro (Nat.le_of_ble_eq_true rfl) (Nat.le_of_ble_eq_true rfl)) (ci := 3) (q0 := 30) rfl rfl (Nat.le_of_ble_eq_true rfl) rfl rfl (Nat.le_of_ble_eq_true rfl) (Nat.le_of_ble_eq_true rfl) rfl (fun C15 h15 => ?_)
  have s15 : Sd D T N C15 := fun s hs => by rw [h15.1 70 (by decide)]; exact s11 s hs
  have o15 : Od D T C15 := by unfold Od; rw [h15.1 77 (by decide), h15.1 71 (by decide), h15.1 72 (by decide)]; exact h11.2.1
  refine g_aload_n 0 dX3_read_18 rfl rfl ?_
  refine ckX lkX3_56 (k_X3_findSeen Z a C15 fS fA sa sb N hG hB.d9 hC s15 o15 h15.2) dX3_read_19 (And.intro (Nat.le_of_ble_eq_true rfl) (Nat.le_of_ble_eq_true rfl)) (ci := 3) (q0 := 30) rfl rfl (Nat.le_of_ble_eq_true rfl) rfl rfl (Nat.le_of_ble_eq_true rfl) (Nat.le_of_ble_eq_true rfl) rfl (fun C19 h19 => ?_)
  refine g_vret dX3_read_22 rfl (Nat.le_of_ble_eq_true rfl) (Nat.le_of_ble_eq_true rfl) ⟨C19, rfl, rfl, fun q h => ?_, ?_, ?_, ?_, ?_, ?_⟩
  · rw [h19.1 q (by omega) (by omega) (by omega), h15.1 q (by omega), h11.1 q (by omega) (by omega) (by omega), h7.1 q (by omega), h3.1 q (by omega)]
  · intro x a b c
    rw [h19.1 72 (by decide) (by decide) (by decide), h15.1 72 (by decide)]
    exact h11.2.2 x a b c
  · intro s hs
    rw [h19.1 70 (by decide) (by decide) (by decide)]
    exact s15 s hs
  · unfold Od
    rw [h19.1 77 (by decide) (by decide) (by decide), h19.1 71 (by decide) (by decide) (by decide), h19.1 72 (by decide) (by decide) (by decide)]
    exact o15
  · unfold Kd
    rw [h19.1 73 (by decide) (by decide) (by decide)]
    exact h15.2
  · exact h19.2
