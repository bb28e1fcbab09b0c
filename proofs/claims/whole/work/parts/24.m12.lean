set_option maxHeartbeats 4000000 in
set_option maxRecDepth 100000 in
/-- spans -/
theorem c_spans (Z : LZ) (o : Nat) (a : Nat → Nat) {D M : Mem} (hP : Pers D M) (hM : RM D) (hD : okP D) (hO : okO D (D 9 0).toNat) (p t : Int) (hp : Rg p) (ht : Rg t)  : Tm Z o a jX9_spans [p, t] M (fun z M2 => z = A_spans D p t ∧ Pers D M2) := by
  refine tr_of pn_X9_spans (Nat.le_of_ble_eq_true rfl) (vI_catO o _) ?_
  show G Z jX9_spans E0 (QM Z jX9_spans (pI Z o a (fun z M2 => z = A_spans D p t ∧ Pers D M2))) 0 [.ref o, .int (iI p), .int (iI t)] [] (mW Z o a M) 0 0
  have hn := hD.2.1
  refine g_iload_n 1 dX9_spans_0 rfl rfl ?_
  refine mcS lkX9_147 (c_isPen Z o a _ p (by first | assumption | exact ⟨by omega, by omega⟩)) dX9_spans_1 rfl (And.intro (Nat.le_of_ble_eq_true rfl) (Nat.le_of_ble_eq_true rfl)) (Nat.le_of_ble_eq_true rfl) rfl rfl (Nat.le_of_ble_eq_true rfl) (Nat.le_of_ble_eq_true rfl) (fun z1 h1 => ?_)
  rw [h1]
  refine gi_if_eq 16 dX9_spans_4 (by decide) (by first | exact hM _ _ | exact bI_Rg _ | exact ⟨by omega, by omega⟩) (fun c4 => ?_) (fun c4 => ?_)
  · have hp2 := penB_f c4
    refine g_iconst (iI (-1)) dX9_spans_16 rfl ?_
    refine g_iret dX9_spans_17 rfl (Nat.le_of_ble_eq_true rfl) (Nat.le_of_ble_eq_true rfl) ⟨_, _, rfl, rfl, ?_⟩
    refine ⟨?_, hP⟩
    unfold A_spans
    rw [if_neg (fun h => hp2 h.1)]
  · have hp2 := penB_t c4
    refine g_iload_n 2 dX9_spans_7 rfl rfl ?_
    refine gi_if_lt 16 dX9_spans_8 (by decide) (by first | exact hM _ _ | exact bI_Rg _ | exact ⟨by omega, by omega⟩) (fun c8 => ?_) (fun c8 => ?_)
    · refine g_iconst (iI (-1)) dX9_spans_16 rfl ?_
      refine g_iret dX9_spans_17 rfl (Nat.le_of_ble_eq_true rfl) (Nat.le_of_ble_eq_true rfl) ⟨_, _, rfl, rfl, ?_⟩
      refine ⟨?_, hP⟩
      unfold A_spans
      rw [if_neg (by omega)]
    · refine g_iload_n 2 dX9_spans_11 rfl rfl ?_
      refine g_iconst (iI 3) dX9_spans_12 rfl ?_
      refine gi_icmp_le 18 dX9_spans_13 (by decide) (by first | exact hM _ _ | exact bI_Rg _ | exact ⟨by omega, by omega⟩) (by first | exact hM _ _ | exact bI_Rg _ | exact ⟨by omega, by omega⟩) (fun c13 => ?_) (fun c13 => ?_)
      · refine g_aload_n 0 dX9_spans_18 rfl rfl ?_
        refine g_iload_n 1 dX9_spans_19 rfl rfl ?_
        refine mcI lkX9_153 (c_sheet Z o a hP hM hD hO p (by omega) (by omega)) dX9_spans_20 rfl (And.intro (Nat.le_of_ble_eq_true rfl) (Nat.le_of_ble_eq_true rfl)) rfl (Nat.le_of_ble_eq_true rfl) rfl rfl (Nat.le_of_ble_eq_true rfl) (Nat.le_of_ble_eq_true rfl) (fun z20 M20 h20 => ?_)
        obtain ⟨q20, hF20, hS20⟩ := h20
        rw [q20]
        have hC20 := tkB_Cl hD p
        have hT20 := txtN_rg hD hO hC20
        have hL20 := ordF_len hD hO hC20
        refine g_istore_n 3 dX9_spans_23 rfl (Nat.le_of_ble_eq_true rfl) (Nat.le_of_ble_eq_true rfl) rfl ?_
        dsimp only [sto]
        refine g_iconst (iI 0) dX9_spans_24 rfl ?_
        refine g_istore dX9_spans_25 (Nat.le_of_ble_eq_true rfl) (Nat.le_of_ble_eq_true rfl) rfl ?_
        dsimp only [sto]
        refine g_iconst (iI 0) dX9_spans_27 rfl ?_
        refine g_istore dX9_spans_28 (Nat.le_of_ble_eq_true rfl) (Nat.le_of_ble_eq_true rfl) rfl ?_
        dsimp only [sto]
        refine g_iconst (iI 0) dX9_spans_30 rfl ?_
        refine g_istore dX9_spans_31 (Nat.le_of_ble_eq_true rfl) (Nat.le_of_ble_eq_true rfl) rfl ?_
        dsimp only [sto]
        generalize M20 = Mq at hF20 hS20 ⊢
        generalize txtN D (tkB D p) = len
        have hF := hF20
        have hS := hS20
        have hC := hC20
        have loop : ∀ (fuel : Nat) (c h i : Int), (ordF D (tkB D p)).length - i < fuel → 0 ≤ i → i ≤ (ordF D (tkB D p)).length → c = (spF D (tkB D p) t i.toNat).1 → h = bI (spF D (tkB D p) t i.toNat).2 → G Z jX9_spans E0 (QM Z jX9_spans (pI Z o a (fun z M2 => z = A_spans D p t ∧ Pers D M2))) 33 [.ref o, .int (iI p), .int (iI t), .int (iI len), .int (iI c), .int (iI h), .int (iI i)] [] (mW Z o a Mq) 0 0 := by
          intro fuel
          induction fuel with
          | zero => intros; exfalso; omega
          | succ fuel ih =>
            intro c h i hfu hi0 hi1 hc hh
            have hcr := spF_rg D (tkB D p) t i.toNat
            by_cases hlt : i < (ordF D (tkB D p)).length
            · refine g_iload dX9_spans_33 rfl ?_
              refine g_aload_n 0 dX9_spans_35 rfl rfl ?_
              refine mg_17 hS.2.2.1.1 dX9_spans_36 rfl ?_
              refine gi_icmp_ge 91 dX9_spans_39 (by decide) (by first | exact hM _ _ | exact bI_Rg _ | exact ⟨by omega, by omega⟩) (by first | exact hM _ _ | exact bI_Rg _ | exact ⟨by omega, by omega⟩) (fun c39 => ?_) (fun c39 => ?_)
              · exfalso; omega
              · refine g_aload_n 0 dX9_spans_42 rfl rfl ?_
                refine mg_18 dX9_spans_43 rfl ?_
                refine g_iload dX9_spans_46 rfl ?_
                refine ml_18 (hS.vi i (by omega) (by rw [hS.2.2.1.1]; omega)) dX9_spans_48 (by omega) (by omega) ?_
                refine gi_if_eq 85 dX9_spans_49 (by decide) (by first | exact hM _ _ | exact bI_Rg _ | exact ⟨by omega, by omega⟩) (fun c49 => ?_) (fun c49 => ?_)
                · refine gi_inc dX9_spans_85 rfl (Nat.le_of_ble_eq_true rfl) rfl ?_
                  dsimp only [sto]
                  refine g_goto 33 dX9_spans_88 (by decide) ?_
                  exact ih _ _ _ (by omega) (by omega) (by omega) (by
                    rw [show (i + 1).toNat = i.toNat + 1 by omega, spF, show ((i.toNat : Nat) : Int) = i by omega]
                    rw [bI_eq0.mp c49, if_neg (by decide)]; exact hc) (by
                    rw [show (i + 1).toNat = i.toNat + 1 by omega, spF, show ((i.toNat : Nat) : Int) = i by omega]
                    rw [bI_eq0.mp c49, if_neg (by decide)]; exact hh)
                · have hVi : Vi D (tkB D p) i = true := by cases hb : Vi D (tkB D p) i <;> simp_all [bI]
                  refine g_aload_n 0 dX9_spans_52 rfl rfl ?_
                  refine g_iload dX9_spans_53 rfl ?_
                  refine g_iload_n 2 dX9_spans_55 rfl rfl ?_
                  refine mcI lkX9_144 (c_hasTint Z o a (hP.fx hF (by decide)) hM hD hO (tkB D p) hC hS i t (by omega) (by omega) ht) dX9_spans_56 rfl (And.intro (Nat.le_of_ble_eq_true rfl) (Nat.le_of_ble_eq_true rfl)) rfl (Nat.le_of_ble_eq_true rfl) rfl rfl (Nat.le_of_ble_eq_true rfl) (Nat.le_of_ble_eq_true rfl) (fun z56 M56 h56 => ?_)
                  obtain ⟨q1, q2⟩ := h56
                  rw [q1, q2]
                  refine g_istore dX9_spans_59 (Nat.le_of_ble_eq_true rfl) (Nat.le_of_ble_eq_true rfl) rfl ?_
                  dsimp only [sto]
                  refine g_iload dX9_spans_61 rfl ?_
                  refine g_iload dX9_spans_63 rfl ?_
                  refine gi_if_eq 77 dX9_spans_65 (by decide) (by first | exact hM _ _ | exact bI_Rg _ | exact ⟨by omega, by omega⟩) (fun c65 => ?_) (fun c65 => ?_)
                  · refine g_iconst (iI 0) dX9_spans_77 rfl ?_
                    refine gi_add dX9_spans_78 ?_
                    refine g_istore dX9_spans_79 (Nat.le_of_ble_eq_true rfl) (Nat.le_of_ble_eq_true rfl) rfl ?_
                    dsimp only [sto]
                    refine g_iload dX9_spans_81 rfl ?_
                    refine g_istore dX9_spans_83 (Nat.le_of_ble_eq_true rfl) (Nat.le_of_ble_eq_true rfl) rfl ?_
                    dsimp only [sto]
                    refine gi_inc dX9_spans_85 rfl (Nat.le_of_ble_eq_true rfl) rfl ?_
                    dsimp only [sto]
                    refine g_goto 33 dX9_spans_88 (by decide) ?_
                    refine g_drop (ls1 := [_, _, _, _, _, _, _]) (xs := [_]) rfl ?_
                    exact ih _ _ _ (by omega) (by omega) (by omega) (by
                      rw [show (i + 1).toNat = i.toNat + 1 by omega, spF, show ((i.toNat : Nat) : Int) = i by omega]
                      rw [hVi, if_pos rfl]
                      rw [bI_eq0.mp c65]; simp only [Bool.false_and, bI_f]; omega) (by
                      rw [show (i + 1).toNat = i.toNat + 1 by omega, spF, show ((i.toNat : Nat) : Int) = i by omega]
                      rw [hVi, if_pos rfl])
                  · refine g_iload dX9_spans_68 rfl ?_
                    refine gi_if_ne 77 dX9_spans_70 (by decide) (by rw [hh]; exact bI_Rg _) (fun c70 => ?_) (fun c70 => ?_)
                    · refine g_iconst (iI 0) dX9_spans_77 rfl ?_
                      refine gi_add dX9_spans_78 ?_
                      refine g_istore dX9_spans_79 (Nat.le_of_ble_eq_true rfl) (Nat.le_of_ble_eq_true rfl) rfl ?_
                      dsimp only [sto]
                      refine g_iload dX9_spans_81 rfl ?_
                      refine g_istore dX9_spans_83 (Nat.le_of_ble_eq_true rfl) (Nat.le_of_ble_eq_true rfl) rfl ?_
                      dsimp only [sto]
                      refine gi_inc dX9_spans_85 rfl (Nat.le_of_ble_eq_true rfl) rfl ?_
                      dsimp only [sto]
                      refine g_goto 33 dX9_spans_88 (by decide) ?_
                      refine g_drop (ls1 := [_, _, _, _, _, _, _]) (xs := [_]) rfl ?_
                      exact ih _ _ _ (by omega) (by omega) (by omega) (by
                        rw [show (i + 1).toNat = i.toNat + 1 by omega, spF, show ((i.toNat : Nat) : Int) = i by omega]
                        rw [hVi, if_pos rfl]
                        rw [show (spF D (tkB D p) t i.toNat).2 = true by cases hb : (spF D (tkB D p) t i.toNat).2 <;> simp_all [bI]]; simp only [Bool.not_true, Bool.and_false, bI_f]; omega) (by
                        rw [show (i + 1).toNat = i.toNat + 1 by omega, spF, show ((i.toNat : Nat) : Int) = i by omega]
                        rw [hVi, if_pos rfl])
                    · refine g_iconst (iI 1) dX9_spans_73 rfl ?_
                      refine g_goto 78 dX9_spans_74 (by decide) ?_
                      refine gi_add dX9_spans_78 ?_
                      refine g_istore dX9_spans_79 (Nat.le_of_ble_eq_true rfl) (Nat.le_of_ble_eq_true rfl) rfl ?_
                      dsimp only [sto]
                      refine g_iload dX9_spans_81 rfl ?_
                      refine g_istore dX9_spans_83 (Nat.le_of_ble_eq_true rfl) (Nat.le_of_ble_eq_true rfl) rfl ?_
                      dsimp only [sto]
                      refine gi_inc dX9_spans_85 rfl (Nat.le_of_ble_eq_true rfl) rfl ?_
                      dsimp only [sto]
                      refine g_goto 33 dX9_spans_88 (by decide) ?_
                      refine g_drop (ls1 := [_, _, _, _, _, _, _]) (xs := [_]) rfl ?_
                      exact ih _ _ _ (by omega) (by omega) (by omega) (by
                        rw [show (i + 1).toNat = i.toNat + 1 by omega, spF, show ((i.toNat : Nat) : Int) = i by omega]
                        rw [hVi, if_pos rfl]
                        rw [show (spF D (tkB D p) t i.toNat).2 = false from bI_eq0.mp (by rw [← hh]; exact c70)]; have := bI_1 c65; simp only [Bool.not_false, Bool.and_true]; omega) (by
                        rw [show (i + 1).toNat = i.toNat + 1 by omega, spF, show ((i.toNat : Nat) : Int) = i by omega]
                        rw [hVi, if_pos rfl])
            · refine g_iload dX9_spans_33 rfl ?_
              refine g_aload_n 0 dX9_spans_35 rfl rfl ?_
              refine mg_17 hS.2.2.1.1 dX9_spans_36 rfl ?_
              refine gi_icmp_ge 91 dX9_spans_39 (by decide) (by first | exact hM _ _ | exact bI_Rg _ | exact ⟨by omega, by omega⟩) (by first | exact hM _ _ | exact bI_Rg _ | exact ⟨by omega, by omega⟩) (fun c39 => ?_) (fun c39 => ?_)
              · refine g_iload dX9_spans_91 rfl ?_
                refine g_iret dX9_spans_93 rfl (Nat.le_of_ble_eq_true rfl) (Nat.le_of_ble_eq_true rfl) ⟨_, _, rfl, rfl, ?_⟩
                refine ⟨?_, (hP.fx hF (by decide))⟩
                unfold A_spans
                rw [if_pos ⟨hp2, by omega, by omega⟩, hc, show i.toNat = (ordF D (tkB D p)).length by omega]
              · exfalso; omega
        exact loop ((ordF D (tkB D p)).length + 1) 0 0 0 (by omega) (by omega) (by omega) rfl rfl
      · refine g_iconst (iI (-1)) dX9_spans_16 rfl ?_
        refine g_iret dX9_spans_17 rfl (Nat.le_of_ble_eq_true rfl) (Nat.le_of_ble_eq_true rfl) ⟨_, _, rfl, rfl, ?_⟩
        refine ⟨?_, hP⟩
        unfold A_spans
        rw [if_neg (by omega)]
set_option maxHeartbeats 4000000 in
set_option maxRecDepth 100000 in
/-- history -/
theorem c_history (Z : LZ) (o : Nat) (a : Nat → Nat) {D M : Mem} (hP : Pers D M) (hM : RM D) (hD : okP D) (hO : okO D (D 9 0).toNat) (p i : Int) (hp : Rg p) (hi : Rg i)  : Tm Z o a jX9_history [p, i] M (fun z M2 => z = A_history D p i ∧ Pers D M2) := by
  refine tr_of pn_X9_history (Nat.le_of_ble_eq_true rfl) (vI_catO o _) ?_
  show G Z jX9_history E0 (QM Z jX9_history (pI Z o a (fun z M2 => z = A_history D p i ∧ Pers D M2))) 0 [.ref o, .int (iI p), .int (iI i)] [] (mW Z o a M) 0 0
  have hn := hD.2.1
  have hcn := cntB_rg (tkB D p) (D 9 0).toNat
  refine g_iload_n 1 dX9_history_0 rfl rfl ?_
  refine mcS lkX9_147 (c_isPen Z o a _ p (by first | assumption | exact ⟨by omega, by omega⟩)) dX9_history_1 rfl (And.intro (Nat.le_of_ble_eq_true rfl) (Nat.le_of_ble_eq_true rfl)) (Nat.le_of_ble_eq_true rfl) rfl rfl (Nat.le_of_ble_eq_true rfl) (Nat.le_of_ble_eq_true rfl) (fun z1 h1 => ?_)
  rw [h1]
  refine gi_if_eq 20 dX9_history_4 (by decide) (by first | exact hM _ _ | exact bI_Rg _ | exact ⟨by omega, by omega⟩) (fun c4 => ?_) (fun c4 => ?_)
  · have hp2 := penB_f c4
    refine g_iconst (iI (-1)) dX9_history_20 rfl ?_
    refine g_iret dX9_history_21 rfl (Nat.le_of_ble_eq_true rfl) (Nat.le_of_ble_eq_true rfl) ⟨_, _, rfl, rfl, ?_⟩
    refine ⟨?_, hP⟩
    unfold A_history
    rw [if_neg (fun h => hp2 h.1)]
  · have hp2 := penB_t c4
    refine g_iload_n 2 dX9_history_7 rfl rfl ?_
    refine gi_if_lt 20 dX9_history_8 (by decide) (by first | exact hM _ _ | exact bI_Rg _ | exact ⟨by omega, by omega⟩) (fun c8 => ?_) (fun c8 => ?_)
    · refine g_iconst (iI (-1)) dX9_history_20 rfl ?_
      refine g_iret dX9_history_21 rfl (Nat.le_of_ble_eq_true rfl) (Nat.le_of_ble_eq_true rfl) ⟨_, _, rfl, rfl, ?_⟩
      refine ⟨?_, hP⟩
      unfold A_history
      rw [if_neg (by omega)]
    · refine g_iload_n 2 dX9_history_11 rfl rfl ?_
      refine g_aload_n 0 dX9_history_12 rfl rfl ?_
      refine g_iload_n 1 dX9_history_13 rfl rfl ?_
      refine mcI lkX9_131 (c_findTaken Z o a hP hM hD p (by omega) (by omega)) dX9_history_14 rfl (And.intro (Nat.le_of_ble_eq_true rfl) (Nat.le_of_ble_eq_true rfl)) rfl (Nat.le_of_ble_eq_true rfl) rfl rfl (Nat.le_of_ble_eq_true rfl) (Nat.le_of_ble_eq_true rfl) (fun z14 M14 h14 => ?_)
      obtain ⟨q14, hF, hT⟩ := h14
      rw [q14]
      generalize M14 = Mq at hF hT ⊢
      refine gi_icmp_lt 22 dX9_history_17 (by decide) (by first | exact hM _ _ | exact bI_Rg _ | exact ⟨by omega, by omega⟩) (by first | exact hM _ _ | exact bI_Rg _ | exact ⟨by omega, by omega⟩) (fun c17 => ?_) (fun c17 => ?_)
      · refine g_iconst (iI 0) dX9_history_22 rfl ?_
        refine g_istore_n 3 dX9_history_23 rfl (Nat.le_of_ble_eq_true rfl) (Nat.le_of_ble_eq_true rfl) rfl ?_
        dsimp only [sto]
        have loop : ∀ (fuel : Nat) (s : Int), D 9 0 - s < fuel → 0 ≤ s → s ≤ D 9 0 → (∀ t, 0 ≤ t → t < s → hiP D (tkB D p) i t = false) → G Z jX9_history E0 (QM Z jX9_history (pI Z o a (fun z M2 => z = A_history D p i ∧ Pers D M2))) 24 [.ref o, .int (iI p), .int (iI i), .int (iI s)] [] (mW Z o a Mq) 0 0 := by
          intro fuel
          induction fuel with
          | zero => intros; exfalso; omega
          | succ fuel ih =>
            intro s hfu hs0 hs1 hno
            by_cases hlt : s < D 9 0
            · have aft : ∀ c u : Int, c = cntB (hiB D (tkB D p) s) (D 9 0).toNat → G Z jX9_history E0 (QM Z jX9_history (pI Z o a (fun z M2 => z = A_history D p i ∧ Pers D M2))) 83 [.ref o, .int (iI p), .int (iI i), .int (iI s), .int (iI c), .int (iI u)] [] (mW Z o a Mq) 0 0 := by
                intro c u hc
                have hcr := cntB_rg (hiB D (tkB D p) s) (D 9 0).toNat
                refine g_aload_n 0 dX9_history_83 rfl rfl ?_
                refine mg_14 dX9_history_84 rfl ?_
                refine g_iload_n 3 dX9_history_87 rfl rfl ?_
                refine ml_14 (hT s (by omega) (by omega)) dX9_history_88 (by omega) (by omega) ?_
                refine gi_if_eq 100 dX9_history_89 (by decide) (by first | exact hM _ _ | exact bI_Rg _ | exact ⟨by omega, by omega⟩) (fun c89 => ?_) (fun c89 => ?_)
                · refine gi_inc dX9_history_100 rfl (Nat.le_of_ble_eq_true rfl) rfl ?_
                  dsimp only [sto]
                  refine g_goto 24 dX9_history_103 (by decide) ?_
                  refine g_drop (ls1 := [_, _, _, _]) (xs := [_, _]) rfl ?_
                  exact ih _ (by omega) (by omega) (by omega) (fun t a1 a2 => by
                    by_cases e : t = s
                    · subst e
                      unfold hiP
                      rw [bI_eq0.mp c89]; rfl
                    · exact hno t a1 (by omega))
                · refine g_iload dX9_history_92 rfl ?_
                  refine g_iload_n 2 dX9_history_94 rfl rfl ?_
                  refine gi_icmp_ne 100 dX9_history_95 (by decide) (by first | exact hM _ _ | exact bI_Rg _ | exact ⟨by omega, by omega⟩) (by first | exact hM _ _ | exact bI_Rg _ | exact ⟨by omega, by omega⟩) (fun c95 => ?_) (fun c95 => ?_)
                  · refine gi_inc dX9_history_100 rfl (Nat.le_of_ble_eq_true rfl) rfl ?_
                    dsimp only [sto]
                    refine g_goto 24 dX9_history_103 (by decide) ?_
                    refine g_drop (ls1 := [_, _, _, _]) (xs := [_, _]) rfl ?_
                    exact ih _ (by omega) (by omega) (by omega) (fun t a1 a2 => by
                      by_cases e : t = s
                      · subst e
                        unfold hiP
                        rw [decide_eq_false (by omega)]; cases tkB D p t <;> rfl
                      · exact hno t a1 (by omega))
                  · refine g_iload_n 3 dX9_history_98 rfl rfl ?_
                    refine g_iret dX9_history_99 rfl (Nat.le_of_ble_eq_true rfl) (Nat.le_of_ble_eq_true rfl) ⟨_, _, rfl, rfl, ?_⟩
                    refine ⟨?_, (hP.fx hF (by decide))⟩
                    unfold A_history
                    rw [if_pos ⟨hp2, by omega, by omega⟩, fstF_at (s := s) hs0 (by unfold hiP; rw [show tkB D p s = true by cases hb : tkB D p s <;> simp_all [bI], decide_eq_true (by omega)]; rfl) hno _ (by omega)]
              have inn : ∀ (fuel : Nat) (c u : Int), D 9 0 - u < fuel → 0 ≤ u → u ≤ D 9 0 → c = cntB (hiB D (tkB D p) s) u.toNat → G Z jX9_history E0 (QM Z jX9_history (pI Z o a (fun z M2 => z = A_history D p i ∧ Pers D M2))) 38 [.ref o, .int (iI p), .int (iI i), .int (iI s), .int (iI c), .int (iI u)] [] (mW Z o a Mq) 0 0 := by
                intro fuel
                induction fuel with
                | zero => intros; exfalso; omega
                | succ fuel ihi =>
                  intro c u hfu hu0 hu1 hc
                  have hcr := cntB_rg (hiB D (tkB D p) s) u.toNat
                  refine g_iload dX9_history_38 rfl ?_
                  refine g_aload_n 0 dX9_history_40 rfl rfl ?_
                  refine mg_9 ((hP.fx hF (by decide)).at 9 (by decide) _) dX9_history_41 rfl ?_
                  refine gi_icmp_ge 83 dX9_history_44 (by decide) (by first | exact hM _ _ | exact bI_Rg _ | exact ⟨by omega, by omega⟩) (by first | exact hM _ _ | exact bI_Rg _ | exact ⟨by omega, by omega⟩) (fun c44 => ?_) (fun c44 => ?_)
                  · exact aft _ _ (by rw [hc, show u = D 9 0 by omega])
                  · refine g_iload dX9_history_47 rfl ?_
                    refine g_aload_n 0 dX9_history_49 rfl rfl ?_
                    refine mg_14 dX9_history_50 rfl ?_
                    refine g_iload dX9_history_53 rfl ?_
                    refine ml_14 (hT u (by omega) (by omega)) dX9_history_55 (by omega) (by omega) ?_
                    refine gi_if_eq 73 dX9_history_56 (by decide) (by first | exact hM _ _ | exact bI_Rg _ | exact ⟨by omega, by omega⟩) (fun c56 => ?_) (fun c56 => ?_)
                    · refine g_iconst (iI 0) dX9_history_73 rfl ?_
                      refine gi_add dX9_history_74 ?_
                      refine g_istore dX9_history_75 (Nat.le_of_ble_eq_true rfl) (Nat.le_of_ble_eq_true rfl) rfl ?_
                      dsimp only [sto]
                      refine gi_inc dX9_history_77 rfl (Nat.le_of_ble_eq_true rfl) rfl ?_
                      dsimp only [sto]
                      refine g_goto 38 dX9_history_80 (by decide) ?_
                      exact ihi _ _ (by omega) (by omega) (by omega) (by
                        rw [show (u + 1).toNat = u.toNat + 1 by omega, cntB, show ((u.toNat : Nat) : Int) = u by omega, ← hc]
                        unfold hiB
                        rw [bI_eq0.mp c56]; simp [bI_f])
                    · refine g_aload_n 0 dX9_history_59 rfl rfl ?_
                      refine g_iload_n 3 dX9_history_60 rfl rfl ?_
                      refine g_iload dX9_history_61 rfl ?_
                      refine mcI lkX9_108 (c_isLater Z o a (hP.fx hF (by decide)) hM s u (by omega) (by omega) (by omega) (by omega)) dX9_history_63 rfl (And.intro (Nat.le_of_ble_eq_true rfl) (Nat.le_of_ble_eq_true rfl)) rfl (Nat.le_of_ble_eq_true rfl) rfl rfl (Nat.le_of_ble_eq_true rfl) (Nat.le_of_ble_eq_true rfl) (fun z63 M63 h63 => ?_)
                      obtain ⟨q1, q2⟩ := h63
                      rw [q1, q2]
                      refine gi_if_eq 73 dX9_history_66 (by decide) (by first | exact hM _ _ | exact bI_Rg _ | exact ⟨by omega, by omega⟩) (fun c66 => ?_) (fun c66 => ?_)
                      · refine g_iconst (iI 0) dX9_history_73 rfl ?_
                        refine gi_add dX9_history_74 ?_
                        refine g_istore dX9_history_75 (Nat.le_of_ble_eq_true rfl) (Nat.le_of_ble_eq_true rfl) rfl ?_
                        dsimp only [sto]
                        refine gi_inc dX9_history_77 rfl (Nat.le_of_ble_eq_true rfl) rfl ?_
                        dsimp only [sto]
                        refine g_goto 38 dX9_history_80 (by decide) ?_
                        exact ihi _ _ (by omega) (by omega) (by omega) (by
                          rw [show (u + 1).toNat = u.toNat + 1 by omega, cntB, show ((u.toNat : Nat) : Int) = u by omega, ← hc]
                          unfold hiB
                          rw [show tkB D p u = true by cases hb : tkB D p u <;> simp_all [bI]]; simp only [Bool.true_and]; omega)
                      · refine g_iconst (iI 1) dX9_history_69 rfl ?_
                        refine g_goto 74 dX9_history_70 (by decide) ?_
                        refine gi_add dX9_history_74 ?_
                        refine g_istore dX9_history_75 (Nat.le_of_ble_eq_true rfl) (Nat.le_of_ble_eq_true rfl) rfl ?_
                        dsimp only [sto]
                        refine gi_inc dX9_history_77 rfl (Nat.le_of_ble_eq_true rfl) rfl ?_
                        dsimp only [sto]
                        refine g_goto 38 dX9_history_80 (by decide) ?_
                        exact ihi _ _ (by omega) (by omega) (by omega) (by
                          rw [show (u + 1).toNat = u.toNat + 1 by omega, cntB, show ((u.toNat : Nat) : Int) = u by omega, ← hc]
                          unfold hiB
                          rw [show tkB D p u = true by cases hb : tkB D p u <;> simp_all [bI]]; simp only [Bool.true_and]; have := bI_1 c66; omega)
              refine g_iload_n 3 dX9_history_24 rfl rfl ?_
              refine g_aload_n 0 dX9_history_25 rfl rfl ?_
              refine mg_9 ((hP.fx hF (by decide)).at 9 (by decide) _) dX9_history_26 rfl ?_
              refine gi_icmp_ge 106 dX9_history_29 (by decide) (by first | exact hM _ _ | exact bI_Rg _ | exact ⟨by omega, by omega⟩) (by first | exact hM _ _ | exact bI_Rg _ | exact ⟨by omega, by omega⟩) (fun c29 => ?_) (fun c29 => ?_)
              · exfalso; omega
              · refine g_iconst (iI 0) dX9_history_32 rfl ?_
                refine g_istore dX9_history_33 (Nat.le_of_ble_eq_true rfl) (Nat.le_of_ble_eq_true rfl) rfl ?_
                dsimp only [sto]
                refine g_iconst (iI 0) dX9_history_35 rfl ?_
                refine g_istore dX9_history_36 (Nat.le_of_ble_eq_true rfl) (Nat.le_of_ble_eq_true rfl) rfl ?_
                dsimp only [sto]
                exact inn ((D 9 0).toNat + 1) 0 0 (by omega) (by omega) (by omega) rfl
            · refine g_iload_n 3 dX9_history_24 rfl rfl ?_
              refine g_aload_n 0 dX9_history_25 rfl rfl ?_
              refine mg_9 ((hP.fx hF (by decide)).at 9 (by decide) _) dX9_history_26 rfl ?_
              refine gi_icmp_ge 106 dX9_history_29 (by decide) (by first | exact hM _ _ | exact bI_Rg _ | exact ⟨by omega, by omega⟩) (by first | exact hM _ _ | exact bI_Rg _ | exact ⟨by omega, by omega⟩) (fun c29 => ?_) (fun c29 => ?_)
              · refine g_iconst (iI (-1)) dX9_history_106 rfl ?_
                refine g_iret dX9_history_107 rfl (Nat.le_of_ble_eq_true rfl) (Nat.le_of_ble_eq_true rfl) ⟨_, _, rfl, rfl, ?_⟩
                refine ⟨?_, (hP.fx hF (by decide))⟩
                unfold A_history
                rw [if_pos ⟨hp2, by omega, by omega⟩, fstF_no _ (fun t a1 a2 => hno t a1 (by omega))]
              · exfalso; omega
        exact loop ((D 9 0).toNat + 1) 0 (by omega) (by omega) (by omega) (fun t a1 a2 => by omega)
      · refine g_iconst (iI (-1)) dX9_history_20 rfl ?_
        refine g_iret dX9_history_21 rfl (Nat.le_of_ble_eq_true rfl) (Nat.le_of_ble_eq_true rfl) ⟨_, _, rfl, rfl, ?_⟩
        refine ⟨?_, (hP.fx hF (by decide))⟩
        unfold A_history
        rw [if_neg (by omega)]
