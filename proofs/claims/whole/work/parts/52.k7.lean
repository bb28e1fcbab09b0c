/-! THE CLASS: findTaken, findUndone -/
theorem bI_true {b : Bool} (h : ¬ bI b = 0) : b = true := by cases b; exact absurd rfl h; rfl
theorem allB_iff {P : Int → Bool} {lo : Int} : ∀ k : Nat, allB P lo k = true ↔ ∀ u : Int, lo ≤ u → u < lo + k → P u = true := by
  intro k
  induction k with
  | zero => exact ⟨fun _ u a b => by omega, fun _ => rfl⟩
  | succ k ih =>
    unfold allB
    rw [Bool.and_eq_true, ih]
    constructor
    · rintro ⟨h1, h2⟩ u a b
      by_cases e : u = lo + k
      · rw [e]; exact h2
      · exact h1 u a (by omega)
    · intro h
      exact ⟨fun u a b => h u a (by omega), h _ (by omega) (by omega)⟩
theorem undB_f {D : Mem} {W : Int → Bool} {x u : Int} : undB D W x u = false ↔ D 2 u = 3 ∧ D 6 u = x ∧ W u = true := by
  unfold undB
  simp
theorem undB_t {D : Mem} {W : Int → Bool} {x u : Int} (h : ¬ (D 2 u = 3 ∧ D 6 u = x ∧ W u = true)) : undB D W x u = true := by
  cases e : undB D W x u
  · exact absurd (undB_f.mp e) h
  · rfl
def UD (D : Mem) (T : Int → Bool) (N i : Nat) (C : Mem) : Prop := ∀ s : Nat, s < N → (T s = false → C 70 s = 0) ∧ (T s = true → (∀ u : Nat, i ≤ u → u < N → undB D (wkB D T) s u = true) → C 70 s = 3) ∧ (T s = true → (∃ u : Nat, i ≤ u ∧ u < N ∧ undB D (wkB D T) s u = false) → C 70 s = 2)
theorem wkB_iff {D : Mem} (hD : okP D) {N : Nat} (h9 : D 9 0 = N) (T : Int → Bool) {s : Nat} (hs : s < N) : wkB D T s = true ↔ T s = true ∧ ∀ u : Nat, s < u → u < N → undB D (wkB D T) s u = true := by
  rw [wkB_eq hD T (by omega) (by omega), Bool.and_eq_true, allB_iff]
  constructor
  · rintro ⟨a, b⟩
    exact ⟨a, fun u h1 h2 => b u (by omega) (by omega)⟩
  · rintro ⟨a, b⟩
    refine ⟨a, fun u h1 h2 => ?_⟩
    have := b u.toNat (by omega) (by omega)
    rwa [show ((u.toNat : Nat) : Int) = u by omega] at this
theorem UD_keep {D : Mem} {T : Int → Bool} {N m : Nat} {C : Mem} (h : UD D T N (m + 1) C) (hu : ∀ s : Nat, s < N → undB D (wkB D T) s m = true) : UD D T N m C := by
  intro s hs
  obtain ⟨h1, h2, h3⟩ := h s hs
  refine ⟨h1, fun a b => h2 a (fun u c d => b u (by omega) d), fun a b => h3 a ?_⟩
  obtain ⟨u, b1, b2, b3⟩ := b
  refine ⟨u, ?_, b2, b3⟩
  rcases Nat.lt_or_ge m u with q | q
  · exact q
  · have : u = m := by omega
    subst this
    rw [hu s hs] at b3
    cases b3
theorem UD_set {D : Mem} {T : Int → Bool} {N m : Nat} {C : Mem} (h : UD D T N (m + 1) C) (hm : m < N) (h2 : D 2 m = 3) (hw : wkB D T m = true) (ht : T (D 6 m) = true) (h6 : 0 ≤ D 6 m) : UD D T N m (ms C 70 (D 6 m) 2) := by
  intro s hs
  obtain ⟨h1, h2', h3⟩ := h s hs
  by_cases e : (s : Int) = D 6 m
  · rw [e, ms_at, ht]
    have hf : undB D (wkB D T) (D 6 m) m = false := undB_f.mpr ⟨h2, rfl, hw⟩
    refine ⟨fun q => (by cases q), fun _ q => ?_, fun _ _ => rfl⟩
    have := q m (Nat.le_refl _) hm
    rw [hf] at this
    cases this
  · rw [ms_off e]
    refine ⟨h1, fun a b => h2' a (fun u c d => b u (by omega) d), fun a b => h3 a ?_⟩
    obtain ⟨u, b1, b2, b3⟩ := b
    refine ⟨u, ?_, b2, b3⟩
    rcases Nat.lt_or_ge m u with q | q
    · exact q
    · have : u = m := by omega
      subst this
      have := (undB_f.mp b3).2.1
      omega
theorem UD_w {D : Mem} (hD : okP D) {N : Nat} (h9 : D 9 0 = N) {T : Int → Bool} {m : Nat} {C : Mem} (h : UD D T N (m + 1) C) (hm : m < N) : (C 70 m = 3 ↔ wkB D T m = true) ∧ 0 ≤ C 70 m ∧ C 70 m ≤ 3 := by
  obtain ⟨h1, h2, h3⟩ := h m hm
  rw [wkB_iff hD h9 T hm]
  cases e : T m
  · rw [h1 e]; simp
  · by_cases q : ∀ u : Nat, m + 1 ≤ u → u < N → undB D (wkB D T) m u = true
    · rw [h2 e q]; exact ⟨⟨fun _ => ⟨rfl, q⟩, fun _ => rfl⟩, by omega, by omega⟩
    · have : ∃ u : Nat, m + 1 ≤ u ∧ u < N ∧ undB D (wkB D T) m u = false := by
        apply Classical.byContradiction
        intro g
        refine q (fun u a b => ?_)
        cases e2 : undB D (wkB D T) m u
        · exact absurd ⟨u, a, b, e2⟩ g
        · rfl
      rw [h3 e this]
      exact ⟨⟨fun q2 => by omega, fun q2 => absurd q2.2 q⟩, by omega, by omega⟩
theorem UD_end {D : Mem} (hD : okP D) {N : Nat} (h9 : D 9 0 = N) {T : Int → Bool} {C : Mem} (h : UD D T N 0 C) : Sd D T N C := by
  intro s hs
  obtain ⟨h1, h2, h3⟩ := h s hs
  cases e : T s
  · rw [h1 e]; simp
  · rw [if_pos rfl]
    cases w : wkB D T s
    · rw [if_neg (by simp)]
      apply h3 e
      apply Classical.byContradiction
      intro g
      have : wkB D T s = true := by
        refine (wkB_iff hD h9 T hs).mpr ⟨e, fun u a b => ?_⟩
        cases e2 : undB D (wkB D T) s u
        · exact absurd ⟨u, by omega, b, e2⟩ g
        · rfl
      rw [w] at this
      cases this
    · rw [if_pos rfl]
      refine h2 e (fun u _ b => ?_)
      rcases Nat.lt_or_ge s u with q | q
      · exact ((wkB_iff hD h9 T hs).mp w).2 u q b
      · refine undB_t (fun g => ?_)
        have := (hD.2.2.1 u (by omega) (by omega)).2.2.2.2.2.1 g.1
        omega
set_option maxHeartbeats 4000000 in
set_option maxRecDepth 100000 in
theorem k_X3_findTaken (Z : LZ) (a : Nat → Nat) (C : Mem) (fS fA : Nat → Option Nat) {D : Mem} (sa sb : Nat → Nat) (N : Nat) (hG : Good D) (hB : Bk D C fS fA sa N) (T : Int → Bool) (p : Nat) (hp : p < 6) (v : Int) (hv : Rg v) (hT : ∀ s : Nat, s < N → T s = (tkB D p s && decide (D 1 s ≤ v))) : Tr Z jX3_findTaken [.ref (a 102), .ref (a (110 + p)), .int (iI v)] (cW Z a C fS fA (sW Z D sa sb N)) (fun r w => ∃ C3 : Mem, r = none ∧ w = cW Z a C3 fS fA (sW Z D sa sb N) ∧ ((∀ q : Nat, q ≠ 70 → C3 q = C q) ∧ ∀ s : Nat, s < N → C3 70 s = if T s = true then 3 else 0)) := by
  refine tr_of pn_X3_findTaken (Nat.le_of_ble_eq_true rfl) (by intro v h; simp only [List.mem_cons, List.not_mem_nil, or_false] at h; rcases h with h | h | h <;> rw [h] <;> rfl) ?_
  have hn := hB.n
  have hM := hG.1.1
  have loop : ∀ (fuel : Nat) (C2 : Mem) (i : Nat), N - i < fuel → i ≤ N → (∀ q : Nat, q ≠ 70 → C2 q = C q) → (∀ s : Nat, s < i → C2 70 s = if T s = true then 3 else 0) → G Z jX3_findTaken E0 (QM Z jX3_findTaken (fun r w => ∃ C3 : Mem, r = none ∧ w = cW Z a C3 fS fA (sW Z D sa sb N) ∧ ((∀ q : Nat, q ≠ 70 → C3 q = C q) ∧ ∀ s : Nat, s < N → C3 70 s = if T s = true then 3 else 0))) 2 [.ref (a 102), .ref (a (110 + p)), .int (iI v), .int (iI (i : Int))] [] (cW Z a C2 fS fA (sW Z D sa sb N)) 0 0 := by
    intro fuel
    induction fuel with
    | zero => intros; exfalso; omega
    | succ fuel ih =>
      intro C2 i hf h1 hq hst
      refine g_iload_n 3 dX3_findTaken_2 rfl rfl ?_
      refine g_aload_n 0 dX3_findTaken_3 rfl rfl ?_
      refine cg_rd_book dX3_findTaken_4 flX3_33 ?_
      refine cg_bk_count ((congrFun (hq 1 (by decide)) _).trans (hB.c1)) dX3_findTaken_7 flX3_91 ?_
      refine gi_icmp_ge 71 dX3_findTaken_10 (by decide) (by first | exact bI_Rg _ | assumption | exact ⟨by omega, by omega⟩) (by first | exact bI_Rg _ | assumption | exact ⟨by omega, by omega⟩) (fun c10 => ?_) (fun c10 => ?_)
      · refine g_vret dX3_findTaken_71 rfl (Nat.le_of_ble_eq_true rfl) (Nat.le_of_ble_eq_true rfl) ⟨C2, rfl, rfl, hq, fun s hs => ?_⟩
        exact hst s (by omega)
      · have hi : i < N := by omega
        have hTi := hT i hi
        have htk : decide (C2 (20 + p) (i : Int) = 2) = tkB D p i := by
          rw [hq (20 + p) (by omega)]
          have := hB.tk hG.1 hp hi
          simp only [this, Bool.decide_eq_true]
        refine g_aload_n 0 dX3_findTaken_13 rfl rfl ?_
        refine cg_rd_book dX3_findTaken_14 flX3_33 ?_
        refine cg_bk_slips dX3_findTaken_17 flX3_130 ?_
        refine g_iload_n 3 dX3_findTaken_20 rfl rfl ?_
        refine ca_slips (s := i) (hB.sl i hi) dX3_findTaken_21 (by omega) (by omega) ?_
        refine g_astore dX3_findTaken_22 (Nat.le_of_ble_eq_true rfl) (Nat.le_of_ble_eq_true rfl) rfl ?_
        dsimp only [sto]
        refine g_aload_n 1 dX3_findTaken_24 rfl rfl ?_
        refine g_aload dX3_findTaken_25 rfl ?_
        refine ckE lkX3_133 (k_X4_hasTaken Z a C2 fS fA sa sb N hn p i hp (by omega) (by have := hB.hrg hp i (by omega) (by omega); rw [hq (20 + p) (by omega)]; exact ⟨by omega, by omega⟩)) dX3_findTaken_27 (And.intro (Nat.le_of_ble_eq_true rfl) (Nat.le_of_ble_eq_true rfl)) (ci := 4) rfl (he_sh p hp) (Nat.le_of_ble_eq_true rfl) rfl rfl (Nat.le_of_ble_eq_true rfl) (Nat.le_of_ble_eq_true rfl) rfl ?_
        rw [htk]
        refine gi_if_eq 46 dX3_findTaken_30 (by decide) (by first | exact bI_Rg _ | assumption | exact ⟨by omega, by omega⟩) (fun c30 => ?_) (fun c30 => ?_)
        · refine g_iconst (iI 0) dX3_findTaken_46 rfl ?_
          refine g_istore dX3_findTaken_47 (Nat.le_of_ble_eq_true rfl) (Nat.le_of_ble_eq_true rfl) rfl ?_
          dsimp only [sto]
          refine g_aload_n 0 dX3_findTaken_49 rfl rfl ?_
          refine cg_rd_standing dX3_findTaken_50 flX3_9 ?_
          refine g_iload_n 3 dX3_findTaken_53 rfl rfl ?_
          refine g_iload dX3_findTaken_54 rfl ?_
          refine gi_if_eq 63 dX3_findTaken_56 (by decide) ⟨by decide, by decide⟩ (fun _ => ?_) (fun cc => absurd cc (by decide))
          refine g_iconst (iI 0) dX3_findTaken_63 rfl ?_
          refine ct_70 dX3_findTaken_64 (by omega) (by omega) ?_
          refine gi_inc dX3_findTaken_65 rfl (Nat.le_of_ble_eq_true rfl) rfl ?_
          dsimp only [sto]
          refine g_goto 2 dX3_findTaken_68 (by decide) ?_
          refine g_cut 4 ?_
          refine ih (ms C2 70 i _) (i + 1) (by omega) (by omega) (fun q h => (ms_ne h).trans (hq q h)) (fun s hs => ?_)
          by_cases e : s = i
          · subst e
            rw [ms_at]
            rw [hTi, bI_eq0.mp c30]; rfl
          · rw [ms_off (by omega)]
            exact hst s (by omega)
        · refine g_aload dX3_findTaken_33 rfl ?_
          refine cg_sl_stamp hi dX3_findTaken_35 flX3_138 ?_
          refine g_iload_n 2 dX3_findTaken_38 rfl rfl ?_
          refine gi_icmp_gt 46 dX3_findTaken_39 (by decide) (hM _ _) hv (fun c39 => ?_) (fun c39 => ?_)
          · refine g_iconst (iI 0) dX3_findTaken_46 rfl ?_
            refine g_istore dX3_findTaken_47 (Nat.le_of_ble_eq_true rfl) (Nat.le_of_ble_eq_true rfl) rfl ?_
            dsimp only [sto]
            refine g_aload_n 0 dX3_findTaken_49 rfl rfl ?_
            refine cg_rd_standing dX3_findTaken_50 flX3_9 ?_
            refine g_iload_n 3 dX3_findTaken_53 rfl rfl ?_
            refine g_iload dX3_findTaken_54 rfl ?_
            refine gi_if_eq 63 dX3_findTaken_56 (by decide) ⟨by decide, by decide⟩ (fun _ => ?_) (fun cc => absurd cc (by decide))
            refine g_iconst (iI 0) dX3_findTaken_63 rfl ?_
            refine ct_70 dX3_findTaken_64 (by omega) (by omega) ?_
            refine gi_inc dX3_findTaken_65 rfl (Nat.le_of_ble_eq_true rfl) rfl ?_
            dsimp only [sto]
            refine g_goto 2 dX3_findTaken_68 (by decide) ?_
            refine g_cut 4 ?_
            refine ih (ms C2 70 i _) (i + 1) (by omega) (by omega) (fun q h => (ms_ne h).trans (hq q h)) (fun s hs => ?_)
            by_cases e : s = i
            · subst e
              rw [ms_at]
              rw [hTi, decide_eq_false (by omega), Bool.and_false]; rfl
            · rw [ms_off (by omega)]
              exact hst s (by omega)
          · refine g_iconst (iI 1) dX3_findTaken_42 rfl ?_
            refine g_goto 47 dX3_findTaken_43 (by decide) ?_
            refine g_istore dX3_findTaken_47 (Nat.le_of_ble_eq_true rfl) (Nat.le_of_ble_eq_true rfl) rfl ?_
            dsimp only [sto]
            refine g_aload_n 0 dX3_findTaken_49 rfl rfl ?_
            refine cg_rd_standing dX3_findTaken_50 flX3_9 ?_
            refine g_iload_n 3 dX3_findTaken_53 rfl rfl ?_
            refine g_iload dX3_findTaken_54 rfl ?_
            refine gi_if_eq 63 dX3_findTaken_56 (by decide) ⟨by decide, by decide⟩ (fun cc => absurd cc (by decide)) (fun _ => ?_)
            refine g_iconst (iI 3) dX3_findTaken_59 rfl ?_
            refine g_goto 64 dX3_findTaken_60 (by decide) ?_
            refine ct_70 dX3_findTaken_64 (by omega) (by omega) ?_
            refine gi_inc dX3_findTaken_65 rfl (Nat.le_of_ble_eq_true rfl) rfl ?_
            dsimp only [sto]
            refine g_goto 2 dX3_findTaken_68 (by decide) ?_
            refine g_cut 4 ?_
            refine ih (ms C2 70 i _) (i + 1) (by omega) (by omega) (fun q h => (ms_ne h).trans (hq q h)) (fun s hs => ?_)
            by_cases e : s = i
            · subst e
              rw [ms_at]
              rw [hTi, decide_eq_true (by omega), bI_true c30]; rfl
            · rw [ms_off (by omega)]
              exact hst s (by omega)
  refine g_iconst (iI 0) dX3_findTaken_0 rfl ?_
  refine g_istore_n 3 dX3_findTaken_1 rfl (Nat.le_of_ble_eq_true rfl) (Nat.le_of_ble_eq_true rfl) rfl ?_
  dsimp only [sto]
  exact loop (N + 1) C 0 (by omega) (by omega) (fun _ _ => rfl) (fun s h => by omega)
set_option maxHeartbeats 4000000 in
set_option maxRecDepth 100000 in
theorem k_X3_findUndone (Z : LZ) (a : Nat → Nat) (C : Mem) (fS fA : Nat → Option Nat) {D : Mem} (sa sb : Nat → Nat) (N : Nat) (hG : Good D) (hB : Bk D C fS fA sa N) (T : Int → Bool) (hU : ∀ u : Int, 0 ≤ u → u < N → T u = true → D 2 u = 3 → T (D 6 u) = true) (hS0 : ∀ s : Nat, s < N → C 70 s = if T s = true then 3 else 0) : Tr Z jX3_findUndone [.ref (a 102)] (cW Z a C fS fA (sW Z D sa sb N)) (fun r w => ∃ C3 : Mem, r = none ∧ w = cW Z a C3 fS fA (sW Z D sa sb N) ∧ ((∀ q : Nat, q ≠ 70 → C3 q = C q) ∧ Sd D T N C3)) := by
  refine tr_of pn_X3_findUndone (Nat.le_of_ble_eq_true rfl) (by intro v h; simp only [List.mem_cons, List.not_mem_nil, or_false] at h; rw [h]; rfl) ?_
  have hn := hB.n
  have h9 := hB.d9
  have loop : ∀ (i : Nat) (C2 : Mem), i ≤ N → (∀ q : Nat, q ≠ 70 → C2 q = C q) → UD D T N i C2 → G Z jX3_findUndone E0 (QM Z jX3_findUndone (fun r w => ∃ C3 : Mem, r = none ∧ w = cW Z a C3 fS fA (sW Z D sa sb N) ∧ ((∀ q : Nat, q ≠ 70 → C3 q = C q) ∧ Sd D T N C3))) 10 [.ref (a 102), .int (iI ((i : Int) - 1))] [] (cW Z a C2 fS fA (sW Z D sa sb N)) 0 0 := by
    intro i
    induction i with
    | zero =>
      intro C2 h1 hq hU2
      refine g_iload_n 1 dX3_findUndone_10 rfl rfl ?_
      refine gi_if_lt 62 dX3_findUndone_11 (by decide) (by first | exact bI_Rg _ | assumption | exact ⟨by omega, by omega⟩) (fun c11 => ?_) (fun c11 => ?_)
      · refine g_vret dX3_findUndone_62 rfl (Nat.le_of_ble_eq_true rfl) (Nat.le_of_ble_eq_true rfl) ⟨C2, rfl, rfl, hq, ?_⟩
        exact UD_end hG.1 h9 hU2
      · exfalso; omega
    | succ m ih =>
      intro C2 h1 hq hU2
      rw [show ((m + 1 : Nat) : Int) - 1 = (m : Int) by omega]
      have hi : m < N := by omega
      have hw := UD_w hG.1 h9 hU2 hi
      have hS := hG.s hB hi
      refine g_iload_n 1 dX3_findUndone_10 rfl rfl ?_
      refine gi_if_lt 62 dX3_findUndone_11 (by decide) (by first | exact bI_Rg _ | assumption | exact ⟨by omega, by omega⟩) (fun c11 => ?_) (fun c11 => ?_)
      · exfalso; omega
      · refine g_aload_n 0 dX3_findUndone_14 rfl rfl ?_
        refine cg_rd_standing dX3_findUndone_15 flX3_9 ?_
        refine g_iload_n 1 dX3_findUndone_18 rfl rfl ?_
        refine ca_70 rfl dX3_findUndone_19 (by omega) (by omega) ?_
        refine g_iconst (iI 3) dX3_findUndone_20 rfl ?_
        refine gi_icmp_ne 56 dX3_findUndone_21 (by decide) ⟨by omega, by omega⟩ ⟨by omega, by omega⟩ (fun c21 => ?_) (fun c21 => ?_)
        · refine gi_inc dX3_findUndone_56 rfl (Nat.le_of_ble_eq_true rfl) rfl ?_
          dsimp only [sto]
          refine g_goto 10 dX3_findUndone_59 (by decide) ?_
          refine g_cut 2 ?_
          exact ih C2 (by omega) hq (UD_keep hU2 (fun s hs => undB_t (fun g => c21 (hw.1.mpr g.2.2))))
        · refine g_aload_n 0 dX3_findUndone_24 rfl rfl ?_
          refine cg_rd_book dX3_findUndone_25 flX3_33 ?_
          refine cg_bk_slips dX3_findUndone_28 flX3_130 ?_
          refine g_iload_n 1 dX3_findUndone_31 rfl rfl ?_
          refine ca_slips (s := m) (hB.sl m hi) dX3_findUndone_32 (by omega) (by omega) ?_
          by_cases hk35 : D 2 m = 3
          · refine py_und hi hk35 dX3_findUndone_33 dX3_findUndone_34 dX3_findUndone_35 clX3_141 56 dX3_findUndone_38 (by decide) dX3_findUndone_41 dX3_findUndone_42 clX3_141 dX3_findUndone_45 (Nat.le_of_ble_eq_true rfl) rfl ?_
            dsimp only [List.cons_append, List.nil_append]
            have h6 := hS.2.2.2.2.2.1 hk35
            refine g_aload_n 0 dX3_findUndone_46 rfl rfl ?_
            refine cg_rd_standing dX3_findUndone_47 flX3_9 ?_
            refine g_aload_n 2 dX3_findUndone_50 rfl rfl ?_
            refine cg_und_undone hi hk35 dX3_findUndone_51 flX3_143 ?_
            refine g_iconst (iI 2) dX3_findUndone_54 rfl ?_
            refine ct_70 dX3_findUndone_55 (by omega) (by omega) ?_
            refine gi_inc dX3_findUndone_56 rfl (Nat.le_of_ble_eq_true rfl) rfl ?_
            dsimp only [sto]
            refine g_goto 10 dX3_findUndone_59 (by decide) ?_
            refine g_cut 2 ?_
            exact ih (ms C2 70 (D 6 m) 2) (by omega) (fun q h => (ms_ne h).trans (hq q h)) (UD_set hU2 hi hk35 (hw.1.mp c21) (hU m (by omega) (by omega) (wk_tk hG.1 (by omega) (by omega) (hw.1.mp c21)) hk35) (by omega))
          · refine pn_und hi hk35 hS.2.1 dX3_findUndone_33 dX3_findUndone_34 dX3_findUndone_35 clX3_141 56 dX3_findUndone_38 (by decide) (Nat.le_of_ble_eq_true rfl) rfl ?_
            refine gi_inc dX3_findUndone_56 rfl (Nat.le_of_ble_eq_true rfl) rfl ?_
            dsimp only [sto]
            refine g_goto 10 dX3_findUndone_59 (by decide) ?_
            refine g_cut 2 ?_
            exact ih C2 (by omega) hq (UD_keep hU2 (fun s hs => undB_t (fun g => hk35 g.1)))
  refine g_aload_n 0 dX3_findUndone_0 rfl rfl ?_
  refine cg_rd_book dX3_findUndone_1 flX3_33 ?_
  refine cg_bk_count hB.c1 dX3_findUndone_4 flX3_91 ?_
  refine g_iconst (iI 1) dX3_findUndone_7 rfl ?_
  refine gi_sub dX3_findUndone_8 ?_
  refine g_istore_n 1 dX3_findUndone_9 rfl (Nat.le_of_ble_eq_true rfl) (Nat.le_of_ble_eq_true rfl) rfl ?_
  dsimp only [sto]
  refine loop N C (Nat.le_refl _) (fun _ _ => rfl) (fun s hs => ⟨fun q => ?_, fun q _ => ?_, fun _ q => ?_⟩)
  · rw [hS0 s hs, q]; rfl
  · rw [hS0 s hs, q]; rfl
  · obtain ⟨u, q1, q2, q3⟩ := q; omega
