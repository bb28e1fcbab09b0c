/-! THE REFERENCE: needs, taken, works -/
abbrev nameOK (D : Mem) (s x : Int) : Prop := 0 ≤ x ∧ x / 4 < s ∧ D 2 (x / 4) = 0 ∧ x % 4 < D 3 (x / 4)
def okS (D : Mem) (s : Int) : Prop := (0 ≤ D 0 s ∧ D 0 s < 6) ∧ (0 ≤ D 2 s ∧ D 2 s ≤ 3) ∧ (D 2 s = 0 → 1 ≤ D 3 s ∧ D 3 s ≤ 3 ∧ (D 6 s = -2 ∨ nameOK D s (D 6 s))) ∧ (D 2 s = 1 → 1 ≤ D 3 s ∧ D 3 s ≤ 12 ∧ D 6 s = -3) ∧ (D 2 s = 2 → D 3 s = 2 ∧ (D 6 s = -3 ∨ D 6 s = -2 ∨ nameOK D s (D 6 s)) ∧ 0 ≤ D 7 s ∧ D 7 s ≤ 3) ∧ (D 2 s = 3 → D 3 s = 0 ∧ 0 ≤ D 6 s ∧ D 6 s < s) ∧ (∀ i, (D 2 s = 1 ∨ D 2 s = 2) → 0 ≤ i → i < D 3 s → nameOK D s (D 4 (12 * s + i)))
def okP (D : Mem) : Prop := RM D ∧ (0 ≤ D 9 0 ∧ D 9 0 ≤ 256) ∧ (∀ s, 0 ≤ s → s < D 9 0 → okS D s) ∧ (∀ z, D 8 z = 0 ∨ D 8 z = 1) ∧ (∀ z, D 10 z = 0 ∨ D 10 z = 1)
def ndx (x : Int) : List Int := if 0 ≤ x then [x] else []
theorem ndx_len (x : Int) : (ndx x).length ≤ 1 := by unfold ndx; split <;> simp
def sgN (D : Mem) (s : Int) : Nat → List Int
  | 0 => []
  | i + 1 => sgN D s i ++ ndx (D 4 (12 * s + i) / 4)
theorem sgN_len (D : Mem) (s : Int) : ∀ i, (sgN D s i).length ≤ i := by
  intro i
  induction i with
  | zero => simp [sgN]
  | succ i ih => have := ndx_len (D 4 (12 * s + i) / 4); simp [sgN]; omega
def needA (D : Mem) (s : Int) : List Int := ndx (latestF D (D 0 s) s.toNat) ++ (if D 2 s = 1 ∨ D 2 s = 2 then sgN D s (D 3 s).toNat else [])
def needL (D : Mem) (s : Int) : List Int := needA D s ++ (if D 2 s = 3 then ndx (D 6 s) else if 0 ≤ D 6 s ∧ D 2 s ≠ 1 then ndx (D 6 s / 4) else [])
def NL (M : Mem) (l : List Int) : Prop := M 20 0 = l.length ∧ ∀ (i : Nat) (x : Int), l[i]? = some x → M 19 i = x
theorem NL_0 (M : Mem) : NL (ms M 20 0 0) [] := ⟨ms_at, fun i x h => by simp at h⟩
theorem NL_need {M : Mem} {l : List Int} (h : NL M l) (x : Int) : NL (needF M x) (l ++ ndx x) := by
  unfold needF ndx
  by_cases hx : 0 ≤ x
  · rw [if_pos hx, if_pos hx]
    refine ⟨?_, fun i y hi => ?_⟩
    · rw [ms_at, h.1]; simp
    · rw [ms_row (by decide)]
      by_cases hl : i < l.length
      · rw [List.getElem?_append_left hl] at hi
        rw [ms_off (by rw [h.1]; omega)]
        exact h.2 i y hi
      · rw [List.getElem?_append_right (by omega)] at hi
        have h0 : i - l.length = 0 := by
          rcases Nat.eq_zero_or_pos (i - l.length) with e | e
          · exact e
          · rw [List.getElem?_eq_none (by simp; omega)] at hi; cases hi
        rw [h0] at hi
        simp at hi
        rw [h.1, show (i : Int) = (l.length : Int) by omega, ms_at, hi]
  · rw [if_neg hx, if_neg hx]
    simpa using h
theorem Fx_need {M M1 : Mem} (h : Fx [19, 20] M M1) (x : Int) : Fx [19, 20] M (needF M1 x) := by
  unfold needF
  split
  · exact (h.ms (by decide)).ms (by decide)
  · exact h
theorem need_lt {D : Mem} (hD : okP D) {s : Int} (h0 : 0 ≤ s) (h1 : s < D 9 0) : ∀ t ∈ needL D s, 0 ≤ t ∧ t < s := by
  obtain ⟨hp0, hk0, hS0, hS1, hS2, hS3, hSg⟩ := hD.2.2.1 s h0 h1
  have hla := latestF_rg D (D 0 s) s.toNat
  have hx : ∀ x t : Int, t ∈ ndx x → t = x ∧ 0 ≤ t := by
    intro x t h
    unfold ndx at h
    split at h
    · simp at h; omega
    · simp at h
  have hsg : ∀ i : Nat, (i : Int) ≤ D 3 s → (D 2 s = 1 ∨ D 2 s = 2) → ∀ t ∈ sgN D s i, 0 ≤ t ∧ t < s := by
    intro i
    induction i with
    | zero => intro _ _ t h; simp [sgN] at h
    | succ i ih =>
      intro hi hk t h
      rcases List.mem_append.mp h with h | h
      · exact ih (by omega) hk t h
      · have := hx _ _ h
        have := hSg i hk (by omega) (by omega)
        omega
  intro t ht
  unfold needL needA at ht
  rcases List.mem_append.mp ht with ht | ht
  · rcases List.mem_append.mp ht with ht | ht
    · have := hx _ _ ht; omega
    · split at ht
      · next hk =>
        exact hsg _ (by rcases hk with hk | hk
                        · have := hS1 hk; omega
                        · have := hS2 hk; omega) hk t ht
      · simp at ht
  · split at ht
    · next hk => have := hx _ _ ht; have := hS3 hk; omega
    · split at ht
      · next hk =>
        have h2 := hx _ _ ht
        have hk2 : D 2 s = 0 ∨ D 2 s = 2 := by omega
        rcases hk2 with hk2 | hk2
        · rcases (hS0 hk2).2.2 with h | h <;> omega
        · rcases (hS2 hk2).2.1 with h | h | h <;> omega
      · simp at ht
theorem NL_add {M : Mem} {l l2 : List Int} {x : Int} (h : NL M l) (e : l2 = l ++ ndx x) : NL (needF M x) l2 := e ▸ NL_need h x
set_option maxHeartbeats 4000000 in
set_option maxRecDepth 100000 in
/-- findNeeds -/
theorem c_findNeeds (Z : LZ) (o : Nat) (a : Nat → Nat) {D M : Mem} (hP : Pers D M) (hM : RM D) (hD : okP D) (s : Int) (h0 : 0 ≤ s) (h1 : s < D 9 0)  : Tn Z o a jX9_findNeeds [s] M (fun M2 => Fx [19, 20] M M2 ∧ NL M2 (needL D s)) := by
  refine tr_of pn_X9_findNeeds (Nat.le_of_ble_eq_true rfl) (vI_catO o _) ?_
  show G Z jX9_findNeeds E0 (QM Z jX9_findNeeds (pV Z o a (fun M2 => Fx [19, 20] M M2 ∧ NL M2 (needL D s)))) 0 [.ref o, .int (iI s)] [] (mW Z o a M) 0 0
  obtain ⟨hp0, hk0, hS0, hS1, hS2, hS3, hSg⟩ := hD.2.2.1 s h0 h1
  have hn := hD.2.1
  have hA : (needA D s).length ≤ 13 := by
    have h1 := ndx_len (latestF D (D 0 s) s.toNat)
    have h2 := sgN_len D s (D 3 s).toNat
    unfold needA
    split
    · next hk =>
      simp only [List.length_append]
      rcases hk with hk | hk
      · have := hS1 hk; omega
      · have := hS2 hk; omega
    · simp; omega
  have fin : ∀ (M1 : Mem) (xs : List Value), Fx [19, 20] M M1 → NL M1 (needA D s) → G Z jX9_findNeeds E0 (QM Z jX9_findNeeds (pV Z o a (fun M2 => Fx [19, 20] M M2 ∧ NL M2 (needL D s)))) 75 (.ref o :: .int (iI s) :: xs) [] (mW Z o a M1) 0 0 := by
    intro M1 xs hF hN
    refine g_aload_n 0 dX9_findNeeds_75 rfl rfl ?_
    refine mg_2 dX9_findNeeds_76 rfl ?_
    refine g_iload_n 1 dX9_findNeeds_79 rfl rfl ?_
    refine ml_2 ((hP.fx hF (by decide)).at 2 (by decide) _) dX9_findNeeds_80 (by omega) (by omega) ?_
    refine g_iconst (iI 3) dX9_findNeeds_81 rfl ?_
    refine gi_icmp_ne 98 dX9_findNeeds_82 (by decide) (by first | exact hM _ _ | exact bI_Rg _ | exact ⟨by omega, by omega⟩) (by first | exact hM _ _ | exact bI_Rg _ | exact ⟨by omega, by omega⟩) (fun c82 => ?_) (fun c82 => ?_)
    · refine g_aload_n 0 dX9_findNeeds_98 rfl rfl ?_
      refine mg_6 dX9_findNeeds_99 rfl ?_
      refine g_iload_n 1 dX9_findNeeds_102 rfl rfl ?_
      refine ml_6 ((hP.fx hF (by decide)).at 6 (by decide) _) dX9_findNeeds_103 (by omega) (by omega) ?_
      refine gi_if_lt 129 dX9_findNeeds_104 (by decide) (by first | exact hM _ _ | exact bI_Rg _ | exact ⟨by omega, by omega⟩) (fun c104 => ?_) (fun c104 => ?_)
      · refine g_vret dX9_findNeeds_129 rfl (Nat.le_of_ble_eq_true rfl) (Nat.le_of_ble_eq_true rfl) ⟨_, rfl, rfl, ?_⟩
        first | (refine ⟨Fx_need hF _, NL_add hN ?_⟩; unfold needL; first | rw [if_pos (by omega)] | rw [if_neg (by omega), if_pos (by omega)]) | (refine ⟨hF, ?_⟩; have e : needL D s = needA D s := by { unfold needL; rw [if_neg (by omega), if_neg (by omega)]; simp }; rw [e]; exact hN)
      · refine g_aload_n 0 dX9_findNeeds_107 rfl rfl ?_
        refine mg_2 dX9_findNeeds_108 rfl ?_
        refine g_iload_n 1 dX9_findNeeds_111 rfl rfl ?_
        refine ml_2 ((hP.fx hF (by decide)).at 2 (by decide) _) dX9_findNeeds_112 (by omega) (by omega) ?_
        refine g_iconst (iI 1) dX9_findNeeds_113 rfl ?_
        refine gi_icmp_eq 129 dX9_findNeeds_114 (by decide) (by first | exact hM _ _ | exact bI_Rg _ | exact ⟨by omega, by omega⟩) (by first | exact hM _ _ | exact bI_Rg _ | exact ⟨by omega, by omega⟩) (fun c114 => ?_) (fun c114 => ?_)
        · refine g_vret dX9_findNeeds_129 rfl (Nat.le_of_ble_eq_true rfl) (Nat.le_of_ble_eq_true rfl) ⟨_, rfl, rfl, ?_⟩
          first | (refine ⟨Fx_need hF _, NL_add hN ?_⟩; unfold needL; first | rw [if_pos (by omega)] | rw [if_neg (by omega), if_pos (by omega)]) | (refine ⟨hF, ?_⟩; have e : needL D s = needA D s := by { unfold needL; rw [if_neg (by omega), if_neg (by omega)]; simp }; rw [e]; exact hN)
        · refine g_aload_n 0 dX9_findNeeds_117 rfl rfl ?_
          refine g_aload_n 0 dX9_findNeeds_118 rfl rfl ?_
          refine mg_6 dX9_findNeeds_119 rfl ?_
          refine g_iload_n 1 dX9_findNeeds_122 rfl rfl ?_
          refine ml_6 ((hP.fx hF (by decide)).at 6 (by decide) _) dX9_findNeeds_123 (by omega) (by omega) ?_
          refine g_iconst (iI 4) dX9_findNeeds_124 rfl ?_
          refine gi_div dX9_findNeeds_125 (by omega) (by omega) (by decide) (by decide) ?_
          refine mcV lkX9_94 (c_need Z o a _ (D 6 s / 4) (by have := hM 6 s; exact ⟨by omega, by omega⟩) (by rw [hN.1]; omega) (by rw [hN.1]; omega)) dX9_findNeeds_126 rfl (And.intro (Nat.le_of_ble_eq_true rfl) (Nat.le_of_ble_eq_true rfl)) rfl (Nat.le_of_ble_eq_true rfl) rfl rfl (Nat.le_of_ble_eq_true rfl) (Nat.le_of_ble_eq_true rfl) (fun M126 h126 => ?_)
          subst h126
          refine g_vret dX9_findNeeds_129 rfl (Nat.le_of_ble_eq_true rfl) (Nat.le_of_ble_eq_true rfl) ⟨_, rfl, rfl, ?_⟩
          first | (refine ⟨Fx_need hF _, NL_add hN ?_⟩; unfold needL; first | rw [if_pos (by omega)] | rw [if_neg (by omega), if_pos (by omega)]) | (refine ⟨hF, ?_⟩; have e : needL D s = needA D s := by { unfold needL; rw [if_neg (by omega), if_neg (by omega)]; simp }; rw [e]; exact hN)
    · refine g_aload_n 0 dX9_findNeeds_85 rfl rfl ?_
      refine g_aload_n 0 dX9_findNeeds_86 rfl rfl ?_
      refine mg_6 dX9_findNeeds_87 rfl ?_
      refine g_iload_n 1 dX9_findNeeds_90 rfl rfl ?_
      refine ml_6 ((hP.fx hF (by decide)).at 6 (by decide) _) dX9_findNeeds_91 (by omega) (by omega) ?_
      refine mcV lkX9_94 (c_need Z o a _ (D 6 s) (by first | exact hM _ _) (by rw [hN.1]; omega) (by rw [hN.1]; omega)) dX9_findNeeds_92 rfl (And.intro (Nat.le_of_ble_eq_true rfl) (Nat.le_of_ble_eq_true rfl)) rfl (Nat.le_of_ble_eq_true rfl) rfl rfl (Nat.le_of_ble_eq_true rfl) (Nat.le_of_ble_eq_true rfl) (fun M92 h92 => ?_)
      subst h92
      refine g_goto 129 dX9_findNeeds_95 (by decide) ?_
      refine g_vret dX9_findNeeds_129 rfl (Nat.le_of_ble_eq_true rfl) (Nat.le_of_ble_eq_true rfl) ⟨_, rfl, rfl, ?_⟩
      first | (refine ⟨Fx_need hF _, NL_add hN ?_⟩; unfold needL; first | rw [if_pos (by omega)] | rw [if_neg (by omega), if_pos (by omega)]) | (refine ⟨hF, ?_⟩; have e : needL D s = needA D s := by { unfold needL; rw [if_neg (by omega), if_neg (by omega)]; simp }; rw [e]; exact hN)
  have loop : (D 2 s = 1 ∨ D 2 s = 2) → ∀ (fuel : Nat) (i : Int) (M1 : Mem), D 3 s - i < fuel → 0 ≤ i → i ≤ D 3 s → Fx [19, 20] M M1 → NL M1 (ndx (latestF D (D 0 s) s.toNat) ++ sgN D s i.toNat) → G Z jX9_findNeeds E0 (QM Z jX9_findNeeds (pV Z o a (fun M2 => Fx [19, 20] M M2 ∧ NL M2 (needL D s)))) 42 [.ref o, .int (iI s), .int (iI i)] [] (mW Z o a M1) 0 0 := by
    intro hk fuel
    induction fuel with
    | zero => intros; exfalso; omega
    | succ fuel ih =>
      intro i M1 hfu hi0 hi1 hF hN
      refine g_iload_n 2 dX9_findNeeds_42 rfl rfl ?_
      refine g_aload_n 0 dX9_findNeeds_43 rfl rfl ?_
      refine mg_3 dX9_findNeeds_44 rfl ?_
      refine g_iload_n 1 dX9_findNeeds_47 rfl rfl ?_
      refine ml_3 ((hP.fx hF (by decide)).at 3 (by decide) _) dX9_findNeeds_48 (by omega) (by omega) ?_
      refine gi_icmp_ge 75 dX9_findNeeds_49 (by decide) (by first | exact hM _ _ | exact bI_Rg _ | exact ⟨by omega, by omega⟩) (by first | exact hM _ _ | exact bI_Rg _ | exact ⟨by omega, by omega⟩) (fun c49 => ?_) (fun c49 => ?_)
      · exact fin M1 [_] hF (by
          have e : needA D s = ndx (latestF D (D 0 s) s.toNat) ++ sgN D s i.toNat := by
            unfold needA
            rw [if_pos hk, show D 3 s = i by omega]
          rw [e]
          exact hN)
      · have hsg := hSg i hk hi0 (by omega)
        have hsz : D 3 s ≤ 12 := by
          rcases hk with hk | hk
          · have := hS1 hk; omega
          · have := hS2 hk; omega
        refine g_aload_n 0 dX9_findNeeds_52 rfl rfl ?_
        refine g_aload_n 0 dX9_findNeeds_53 rfl rfl ?_
        refine mg_4 dX9_findNeeds_54 rfl ?_
        refine g_bipush (iI 12) dX9_findNeeds_57 (by decide) ?_
        refine g_iload_n 1 dX9_findNeeds_59 rfl rfl ?_
        refine gi_mul dX9_findNeeds_60 ?_
        refine g_iload_n 2 dX9_findNeeds_61 rfl rfl ?_
        refine gi_add dX9_findNeeds_62 ?_
        refine ml_4 ((hP.fx hF (by decide)).at 4 (by decide) _) dX9_findNeeds_63 (by omega) (by omega) ?_
        refine g_iconst (iI 4) dX9_findNeeds_64 rfl ?_
        refine gi_div dX9_findNeeds_65 (by omega) (by have := hM 4 (12 * s + i); omega) (by decide) (by decide) ?_
        refine mcV lkX9_94 (c_need Z o a _ (D 4 (12 * s + i) / 4) (by have := hSg i hk hi0 (by omega); have := hM 4 (12 * s + i); exact ⟨by omega, by omega⟩) (by rw [hN.1]; omega) (by have := hN.1; have := sgN_len D s i.toNat; have := ndx_len (latestF D (D 0 s) s.toNat); simp at *; omega)) dX9_findNeeds_66 rfl (And.intro (Nat.le_of_ble_eq_true rfl) (Nat.le_of_ble_eq_true rfl)) rfl (Nat.le_of_ble_eq_true rfl) rfl rfl (Nat.le_of_ble_eq_true rfl) (Nat.le_of_ble_eq_true rfl) (fun M66 h66 => ?_)
        subst h66
        refine gi_inc dX9_findNeeds_69 rfl (Nat.le_of_ble_eq_true rfl) rfl ?_
        dsimp only [sto]
        refine g_goto 42 dX9_findNeeds_72 (by decide) ?_
        exact ih _ _ (by omega) (by omega) (by omega) (Fx_need hF _) (NL_add hN (by rw [show (i + 1).toNat = i.toNat + 1 by omega, sgN, show ((i.toNat : Nat) : Int) = i by omega, List.append_assoc]))
  refine g_aload_n 0 dX9_findNeeds_0 rfl rfl ?_
  refine g_iconst (iI 0) dX9_findNeeds_1 rfl ?_
  refine mp_20 dX9_findNeeds_2 rfl ?_
  refine g_aload_n 0 dX9_findNeeds_5 rfl rfl ?_
  refine g_aload_n 0 dX9_findNeeds_6 rfl rfl ?_
  refine g_aload_n 0 dX9_findNeeds_7 rfl rfl ?_
  refine mg_0 dX9_findNeeds_8 rfl ?_
  refine g_iload_n 1 dX9_findNeeds_11 rfl rfl ?_
  refine ml_0 ((hP.ms (r := 20) (by decide)).at 0 (by decide) _) dX9_findNeeds_12 (by omega) (by omega) ?_
  refine g_iload_n 1 dX9_findNeeds_13 rfl rfl ?_
  refine mcI lkX9_90 (c_latestOf Z o a (hP.ms (r := 20) (by decide)) hM (D 0 s) s (hM _ _) (by omega) (by omega)) dX9_findNeeds_14 rfl (And.intro (Nat.le_of_ble_eq_true rfl) (Nat.le_of_ble_eq_true rfl)) rfl (Nat.le_of_ble_eq_true rfl) rfl rfl (Nat.le_of_ble_eq_true rfl) (Nat.le_of_ble_eq_true rfl) (fun z14 M14 h14 => ?_)
  obtain ⟨rfl, rfl⟩ := h14
  refine mcV lkX9_94 (c_need Z o a _ _ (by have := latestF_rg D (D 0 s) s.toNat; exact ⟨by omega, by omega⟩) (by rw [ms_at]; omega) (by rw [ms_at]; omega)) dX9_findNeeds_17 rfl (And.intro (Nat.le_of_ble_eq_true rfl) (Nat.le_of_ble_eq_true rfl)) rfl (Nat.le_of_ble_eq_true rfl) rfl rfl (Nat.le_of_ble_eq_true rfl) (Nat.le_of_ble_eq_true rfl) (fun M17 h17 => ?_)
  subst h17
  have hF0 : Fx [19, 20] M (needF (ms M 20 0 0) (latestF D (D 0 s) s.toNat)) := Fx_need ((Fx.rf _ _).ms (by decide)) _
  have hN0 : NL (needF (ms M 20 0 0) (latestF D (D 0 s) s.toNat)) (ndx (latestF D (D 0 s) s.toNat)) := NL_add (NL_0 M) (by simp)
  generalize needF (ms M 20 0 0) (latestF D (D 0 s) s.toNat) = M0 at hF0 hN0 ⊢
  refine g_aload_n 0 dX9_findNeeds_20 rfl rfl ?_
  refine mg_2 dX9_findNeeds_21 rfl ?_
  refine g_iload_n 1 dX9_findNeeds_24 rfl rfl ?_
  refine ml_2 ((hP.fx hF0 (by decide)).at 2 (by decide) _) dX9_findNeeds_25 (by omega) (by omega) ?_
  refine g_iconst (iI 1) dX9_findNeeds_26 rfl ?_
  refine gi_icmp_eq 40 dX9_findNeeds_27 (by decide) (by first | exact hM _ _ | exact bI_Rg _ | exact ⟨by omega, by omega⟩) (by first | exact hM _ _ | exact bI_Rg _ | exact ⟨by omega, by omega⟩) (fun c27 => ?_) (fun c27 => ?_)
  · refine g_iconst (iI 0) dX9_findNeeds_40 rfl ?_
    refine g_istore_n 2 dX9_findNeeds_41 rfl (Nat.le_of_ble_eq_true rfl) (Nat.le_of_ble_eq_true rfl) rfl ?_
    dsimp only [sto]
    exact loop (by omega) ((D 3 s).toNat + 1) 0 M0 (by omega) (by omega) (by
      have hk : D 2 s = 1 ∨ D 2 s = 2 := by omega
      rcases hk with hk | hk
      · have := hS1 hk; omega
      · have := hS2 hk; omega) hF0 (by simpa [sgN] using hN0)
  · refine g_aload_n 0 dX9_findNeeds_30 rfl rfl ?_
    refine mg_2 dX9_findNeeds_31 rfl ?_
    refine g_iload_n 1 dX9_findNeeds_34 rfl rfl ?_
    refine ml_2 ((hP.fx hF0 (by decide)).at 2 (by decide) _) dX9_findNeeds_35 (by omega) (by omega) ?_
    refine g_iconst (iI 2) dX9_findNeeds_36 rfl ?_
    refine gi_icmp_ne 75 dX9_findNeeds_37 (by decide) (by first | exact hM _ _ | exact bI_Rg _ | exact ⟨by omega, by omega⟩) (by first | exact hM _ _ | exact bI_Rg _ | exact ⟨by omega, by omega⟩) (fun c37 => ?_) (fun c37 => ?_)
    · exact fin M0 [] hF0 (by unfold needA; rw [if_neg (by omega)]; simpa using hN0)
    · refine g_iconst (iI 0) dX9_findNeeds_40 rfl ?_
      refine g_istore_n 2 dX9_findNeeds_41 rfl (Nat.le_of_ble_eq_true rfl) (Nat.le_of_ble_eq_true rfl) rfl ?_
      dsimp only [sto]
      exact loop (by omega) ((D 3 s).toNat + 1) 0 M0 (by omega) (by omega) (by
        have hk : D 2 s = 1 ∨ D 2 s = 2 := by omega
        rcases hk with hk | hk
        · have := hS1 hk; omega
        · have := hS2 hk; omega) hF0 (by simpa [sgN] using hN0)
