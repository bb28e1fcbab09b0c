/-! THE REFERENCE: more that is asked -/
def lkF (D : Mem) (T : Int → Bool) : List Int → Int
  | [] => -1
  | x :: r => x
set_option maxHeartbeats 4000000 in
set_option maxRecDepth 100000 in
/-- strikers -/
theorem c_strikers (Z : LZ) (o : Nat) (a : Nat → Nat) {D M : Mem} (hP : Pers D M) (hM : RM D) (hD : okP D) (hO : okO D (D 9 0).toNat) (p x : Int) (hp : Rg p) (hx : Rg x)  : Tm Z o a jX9_strikers [p, x] M (fun z M2 => z = A_strikers D p x ∧ Pers D M2) := by
  refine tr_of pn_X9_strikers (Nat.le_of_ble_eq_true rfl) (vI_catO o _) ?_
  show G Z jX9_strikers E0 (QM Z jX9_strikers (pI Z o a (fun z M2 => z = A_strikers D p x ∧ Pers D M2))) 0 [.ref o, .int (iI p), .int (iI x)] [] (mW Z o a M) 0 0
  have hn := hD.2.1
  refine g_aload_n 0 dX9_strikers_0 rfl rfl ?_
  refine g_iload_n 1 dX9_strikers_1 rfl rfl ?_
  refine mcI lkX9_179 (c_signs Z o a hP hM hD hO p hp) dX9_strikers_2 rfl (And.intro (Nat.le_of_ble_eq_true rfl) (Nat.le_of_ble_eq_true rfl)) rfl (Nat.le_of_ble_eq_true rfl) rfl rfl (Nat.le_of_ble_eq_true rfl) (Nat.le_of_ble_eq_true rfl) (fun z2 M2 h2 => ?_)
  obtain ⟨q2, hP2, hF2, hS2⟩ := h2
  rw [q2]
  have hC2 := tkB_Cl hD p
  have hL2 := ordF_len hD hO hC2
  refine g_istore_n 3 dX9_strikers_5 rfl (Nat.le_of_ble_eq_true rfl) (Nat.le_of_ble_eq_true rfl) rfl ?_
  dsimp only [sto]
  refine g_iload_n 3 dX9_strikers_6 rfl rfl ?_
  refine gi_if_lt 18 dX9_strikers_7 (by decide) (by unfold A_signs; split <;> exact ⟨by omega, by omega⟩) (fun c7 => ?_) (fun c7 => ?_)
  · have hp2 : ¬ (0 ≤ p ∧ p < 6) := by
      unfold A_signs at c7
      split at c7
      · omega
      · assumption
    refine g_iconst (iI (-1)) dX9_strikers_18 rfl ?_
    refine g_goto 27 dX9_strikers_19 (by decide) ?_
    refine g_iret dX9_strikers_27 rfl (Nat.le_of_ble_eq_true rfl) (Nat.le_of_ble_eq_true rfl) ⟨_, _, rfl, rfl, ?_⟩
    refine ⟨?_, hP2⟩
    unfold A_strikers
    rw [if_neg (fun h => hp2 h.1)]
  · have hp2 : 0 ≤ p ∧ p < 6 := by
      unfold A_signs at c7
      split at c7
      · assumption
      · omega
    have hix := inIx_rg (ordF D (tkB D p)) x
    refine g_aload_n 0 dX9_strikers_10 rfl rfl ?_
    refine g_iload_n 2 dX9_strikers_11 rfl rfl ?_
    refine mcI lkX9_138 (c_inOrderF Z o a hP2 hM hD hO hC2 (hS2 hp2) x hx) dX9_strikers_12 rfl (And.intro (Nat.le_of_ble_eq_true rfl) (Nat.le_of_ble_eq_true rfl)) rfl (Nat.le_of_ble_eq_true rfl) rfl rfl (Nat.le_of_ble_eq_true rfl) (Nat.le_of_ble_eq_true rfl) (fun z12 M12 h12 => ?_)
    obtain ⟨q1, q2⟩ := h12
    rw [q1, q2]
    refine gi_if_ge 22 dX9_strikers_15 (by decide) (by exact ⟨by omega, by omega⟩) (fun c15 => ?_) (fun c15 => ?_)
    · refine g_aload_n 0 dX9_strikers_22 rfl rfl ?_
      refine g_iload_n 2 dX9_strikers_23 rfl rfl ?_
      refine mcI lkX9_118 (c_strikesOf Z o a hP2 hM hD x hx (wkB D (tkB D p)) (hS2 hp2).2.1) dX9_strikers_24 rfl (And.intro (Nat.le_of_ble_eq_true rfl) (Nat.le_of_ble_eq_true rfl)) rfl (Nat.le_of_ble_eq_true rfl) rfl rfl (Nat.le_of_ble_eq_true rfl) (Nat.le_of_ble_eq_true rfl) (fun z24 M24 h24 => ?_)
      obtain ⟨q4, q5⟩ := h24
      rw [q4, q5]
      refine g_iret dX9_strikers_27 rfl (Nat.le_of_ble_eq_true rfl) (Nat.le_of_ble_eq_true rfl) ⟨_, _, rfl, rfl, ?_⟩
      refine ⟨?_, hP2⟩
      unfold A_strikers
      rw [if_pos ⟨hp2, c15⟩]
    · refine g_iconst (iI (-1)) dX9_strikers_18 rfl ?_
      refine g_goto 27 dX9_strikers_19 (by decide) ?_
      refine g_iret dX9_strikers_27 rfl (Nat.le_of_ble_eq_true rfl) (Nat.le_of_ble_eq_true rfl) ⟨_, _, rfl, rfl, ?_⟩
      refine ⟨?_, hP2⟩
      unfold A_strikers
      rw [if_neg (fun h => c15 h.2)]
set_option maxHeartbeats 4000000 in
set_option maxRecDepth 100000 in
/-- state -/
theorem c_state (Z : LZ) (o : Nat) (a : Nat → Nat) {D M : Mem} (hP : Pers D M) (hM : RM D) (hD : okP D) (hO : okO D (D 9 0).toNat) (p s : Int) (hp : Rg p) (hs : Rg s)  : Tm Z o a jX9_state [p, s] M (fun z M2 => z = A_state D p s ∧ Pers D M2) := by
  refine tr_of pn_X9_state (Nat.le_of_ble_eq_true rfl) (vI_catO o _) ?_
  show G Z jX9_state E0 (QM Z jX9_state (pI Z o a (fun z M2 => z = A_state D p s ∧ Pers D M2))) 0 [.ref o, .int (iI p), .int (iI s)] [] (mW Z o a M) 0 0
  have hn := hD.2.1
  refine g_iload_n 1 dX9_state_0 rfl rfl ?_
  refine mcS lkX9_147 (c_isPen Z o a _ p (by first | assumption | exact ⟨by omega, by omega⟩)) dX9_state_1 rfl (And.intro (Nat.le_of_ble_eq_true rfl) (Nat.le_of_ble_eq_true rfl)) (Nat.le_of_ble_eq_true rfl) rfl rfl (Nat.le_of_ble_eq_true rfl) (Nat.le_of_ble_eq_true rfl) (fun z1 h1 => ?_)
  rw [h1]
  refine gi_if_eq 15 dX9_state_4 (by decide) (by first | exact hM _ _ | exact bI_Rg _ | exact ⟨by omega, by omega⟩) (fun c4 => ?_) (fun c4 => ?_)
  · have hp2 := penB_f c4
    refine g_iconst (iI (-1)) dX9_state_15 rfl ?_
    refine g_iret dX9_state_16 rfl (Nat.le_of_ble_eq_true rfl) (Nat.le_of_ble_eq_true rfl) ⟨_, _, rfl, rfl, ?_⟩
    refine ⟨?_, hP⟩
    unfold A_state
    rw [if_neg (fun h => hp2 h.1)]
  · have hp2 := penB_t c4
    refine g_aload_n 0 dX9_state_7 rfl rfl ?_
    refine g_iload_n 2 dX9_state_8 rfl rfl ?_
    refine mcI lkX9_170 (c_isSlip Z o a hP hM s (by first | assumption | exact ⟨by omega, by omega⟩)) dX9_state_9 rfl (And.intro (Nat.le_of_ble_eq_true rfl) (Nat.le_of_ble_eq_true rfl)) rfl (Nat.le_of_ble_eq_true rfl) rfl rfl (Nat.le_of_ble_eq_true rfl) (Nat.le_of_ble_eq_true rfl) (fun z9 M9 h9 => ?_)
    obtain ⟨q1, q2⟩ := h9
    rw [q1, q2]
    refine gi_if_ne 17 dX9_state_12 (by decide) (by first | exact hM _ _ | exact bI_Rg _ | exact ⟨by omega, by omega⟩) (fun c12 => ?_) (fun c12 => ?_)
    · have hs2 := slipB_t c12
      refine g_aload_n 0 dX9_state_17 rfl rfl ?_
      refine g_iload_n 1 dX9_state_18 rfl rfl ?_
      refine mcI lkX9_131 (c_findTaken Z o a hP hM hD p (by omega) (by omega)) dX9_state_19 rfl (And.intro (Nat.le_of_ble_eq_true rfl) (Nat.le_of_ble_eq_true rfl)) rfl (Nat.le_of_ble_eq_true rfl) rfl rfl (Nat.le_of_ble_eq_true rfl) (Nat.le_of_ble_eq_true rfl) (fun z19 M19 h19 => ?_)
      obtain ⟨q19, hF1, hT1⟩ := h19
      refine g_pop dX9_state_22 rfl ?_
      refine g_aload_n 0 dX9_state_23 rfl rfl ?_
      refine mcV lkX9_122 (c_findWorks Z o a (hP.fx hF1 (by decide)) hM hD (tkB D p) hT1) dX9_state_24 rfl (And.intro (Nat.le_of_ble_eq_true rfl) (Nat.le_of_ble_eq_true rfl)) rfl (Nat.le_of_ble_eq_true rfl) rfl rfl (Nat.le_of_ble_eq_true rfl) (Nat.le_of_ble_eq_true rfl) (fun M24 h24 => ?_)
      obtain ⟨hF2, hW2⟩ := h24
      refine g_aload_n 0 dX9_state_27 rfl rfl ?_
      refine mg_10 dX9_state_28 rfl ?_
      refine g_sipush (iI 256) dX9_state_31 (by decide) ?_
      refine g_iload_n 1 dX9_state_34 rfl rfl ?_
      refine gi_mul dX9_state_35 ?_
      refine g_iload_n 2 dX9_state_36 rfl rfl ?_
      refine gi_add dX9_state_37 ?_
      refine ml_10 (((hP.fx hF1 (by decide)).fx hF2 (by decide)).at 10 (by decide) _) dX9_state_38 (by omega) (by omega) ?_
      refine gi_if_ne 46 dX9_state_39 (by decide) (by first | exact hM _ _ | exact bI_Rg _ | exact ⟨by omega, by omega⟩) (fun c39 => ?_) (fun c39 => ?_)
      · refine g_aload_n 0 dX9_state_46 rfl rfl ?_
        refine mg_14 dX9_state_47 rfl ?_
        refine g_iload_n 2 dX9_state_50 rfl rfl ?_
        refine ml_14 ((hF2.at 14 (by decide) s).trans (hT1 s (by omega) (by omega))) dX9_state_51 (by omega) (by omega) ?_
        refine gi_if_ne 59 dX9_state_52 (by decide) (by first | exact hM _ _ | exact bI_Rg _ | exact ⟨by omega, by omega⟩) (fun c52 => ?_) (fun c52 => ?_)
        · refine g_aload_n 0 dX9_state_59 rfl rfl ?_
          refine mg_15 dX9_state_60 rfl ?_
          refine g_iload_n 2 dX9_state_63 rfl rfl ?_
          refine ml_15 (hW2 s (by omega) (by omega)) dX9_state_64 (by omega) (by omega) ?_
          refine gi_if_eq 72 dX9_state_65 (by decide) (by first | exact hM _ _ | exact bI_Rg _ | exact ⟨by omega, by omega⟩) (fun c65 => ?_) (fun c65 => ?_)
          · refine g_iconst (iI 2) dX9_state_72 rfl ?_
            refine g_iret dX9_state_73 rfl (Nat.le_of_ble_eq_true rfl) (Nat.le_of_ble_eq_true rfl) ⟨_, _, rfl, rfl, ?_⟩
            refine ⟨?_, ((hP.fx hF1 (by decide)).fx hF2 (by decide))⟩
            unfold A_state
            rw [if_pos ⟨hp2, hs2⟩]
            rw [if_neg c39]
            rw [show tkB D p s = true by cases h : tkB D p s <;> simp_all [bI], if_neg (by decide)]
            rw [bI_eq0.mp c65, if_neg (by decide)]
          · refine g_iconst (iI 3) dX9_state_68 rfl ?_
            refine g_goto 73 dX9_state_69 (by decide) ?_
            refine g_iret dX9_state_73 rfl (Nat.le_of_ble_eq_true rfl) (Nat.le_of_ble_eq_true rfl) ⟨_, _, rfl, rfl, ?_⟩
            refine ⟨?_, ((hP.fx hF1 (by decide)).fx hF2 (by decide))⟩
            unfold A_state
            rw [if_pos ⟨hp2, hs2⟩]
            rw [if_neg c39]
            rw [show tkB D p s = true by cases h : tkB D p s <;> simp_all [bI], if_neg (by decide)]
            rw [show wkB D (tkB D p) s = true by cases h : wkB D (tkB D p) s <;> simp_all [bI], if_pos rfl]
        · refine g_iconst (iI 1) dX9_state_55 rfl ?_
          refine g_goto 73 dX9_state_56 (by decide) ?_
          refine g_iret dX9_state_73 rfl (Nat.le_of_ble_eq_true rfl) (Nat.le_of_ble_eq_true rfl) ⟨_, _, rfl, rfl, ?_⟩
          refine ⟨?_, ((hP.fx hF1 (by decide)).fx hF2 (by decide))⟩
          unfold A_state
          rw [if_pos ⟨hp2, hs2⟩]
          rw [if_neg c39]
          rw [bI_eq0.mp c52, if_pos rfl]
      · refine g_iconst (iI 0) dX9_state_42 rfl ?_
        refine g_goto 73 dX9_state_43 (by decide) ?_
        refine g_iret dX9_state_73 rfl (Nat.le_of_ble_eq_true rfl) (Nat.le_of_ble_eq_true rfl) ⟨_, _, rfl, rfl, ?_⟩
        refine ⟨?_, ((hP.fx hF1 (by decide)).fx hF2 (by decide))⟩
        unfold A_state
        rw [if_pos ⟨hp2, hs2⟩]
        rw [if_pos c39]
    · have hs2 := slipB_f c12
      refine g_iconst (iI (-1)) dX9_state_15 rfl ?_
      refine g_iret dX9_state_16 rfl (Nat.le_of_ble_eq_true rfl) (Nat.le_of_ble_eq_true rfl) ⟨_, _, rfl, rfl, ?_⟩
      refine ⟨?_, hP⟩
      unfold A_state
      rw [if_neg (fun h => hs2 h.2)]
set_option maxHeartbeats 4000000 in
set_option maxRecDepth 100000 in
/-- text -/
theorem c_text (Z : LZ) (o : Nat) (a : Nat → Nat) {D M : Mem} (hP : Pers D M) (hM : RM D) (hD : okP D) (hO : okO D (D 9 0).toNat) (p i w : Int) (hp : Rg p) (hi : Rg i) (hw : Rg w)  : Tm Z o a jX9_text [p, i, w] M (fun z M2 => z = A_text D p i w ∧ Pers D M2) := by
  refine tr_of pn_X9_text (Nat.le_of_ble_eq_true rfl) (vI_catO o _) ?_
  show G Z jX9_text E0 (QM Z jX9_text (pI Z o a (fun z M2 => z = A_text D p i w ∧ Pers D M2))) 0 [.ref o, .int (iI p), .int (iI i), .int (iI w)] [] (mW Z o a M) 0 0
  have hn := hD.2.1
  refine g_iload_n 1 dX9_text_0 rfl rfl ?_
  refine mcS lkX9_147 (c_isPen Z o a _ p (by first | assumption | exact ⟨by omega, by omega⟩)) dX9_text_1 rfl (And.intro (Nat.le_of_ble_eq_true rfl) (Nat.le_of_ble_eq_true rfl)) (Nat.le_of_ble_eq_true rfl) rfl rfl (Nat.le_of_ble_eq_true rfl) (Nat.le_of_ble_eq_true rfl) (fun z1 h1 => ?_)
  rw [h1]
  refine gi_if_eq 20 dX9_text_4 (by decide) (by first | exact hM _ _ | exact bI_Rg _ | exact ⟨by omega, by omega⟩) (fun c4 => ?_) (fun c4 => ?_)
  · have hp2 := penB_f c4
    refine g_iconst (iI (-1)) dX9_text_20 rfl ?_
    refine g_iret dX9_text_21 rfl (Nat.le_of_ble_eq_true rfl) (Nat.le_of_ble_eq_true rfl) ⟨_, _, rfl, rfl, ?_⟩
    refine ⟨?_, hP⟩
    unfold A_text
    rw [if_neg (fun h => hp2 h.1)]
  · have hp2 := penB_t c4
    refine g_iload_n 2 dX9_text_7 rfl rfl ?_
    refine gi_if_lt 20 dX9_text_8 (by decide) (by first | exact hM _ _ | exact bI_Rg _ | exact ⟨by omega, by omega⟩) (fun c8 => ?_) (fun c8 => ?_)
    · refine g_iconst (iI (-1)) dX9_text_20 rfl ?_
      refine g_iret dX9_text_21 rfl (Nat.le_of_ble_eq_true rfl) (Nat.le_of_ble_eq_true rfl) ⟨_, _, rfl, rfl, ?_⟩
      refine ⟨?_, hP⟩
      unfold A_text
      rw [if_neg (by omega)]
    · refine g_iload_n 2 dX9_text_11 rfl rfl ?_
      refine g_aload_n 0 dX9_text_12 rfl rfl ?_
      refine g_iload_n 1 dX9_text_13 rfl rfl ?_
      refine mcI lkX9_153 (c_sheet Z o a hP hM hD hO p (by omega) (by omega)) dX9_text_14 rfl (And.intro (Nat.le_of_ble_eq_true rfl) (Nat.le_of_ble_eq_true rfl)) rfl (Nat.le_of_ble_eq_true rfl) rfl rfl (Nat.le_of_ble_eq_true rfl) (Nat.le_of_ble_eq_true rfl) (fun z14 M14 h14 => ?_)
      obtain ⟨q14, hF14, hS14⟩ := h14
      rw [q14]
      have hC14 := tkB_Cl hD p
      have hT14 := txtN_rg hD hO hC14
      have hL14 := ordF_len hD hO hC14
      refine gi_icmp_lt 22 dX9_text_17 (by decide) (by first | exact hM _ _ | exact bI_Rg _ | exact ⟨by omega, by omega⟩) (by first | exact hM _ _ | exact bI_Rg _ | exact ⟨by omega, by omega⟩) (fun c17 => ?_) (fun c17 => ?_)
      · refine g_aload_n 0 dX9_text_22 rfl rfl ?_
        refine g_iload_n 2 dX9_text_23 rfl rfl ?_
        refine mcI lkX9_156 (c_atPlaceF Z o a (hP.fx hF14 (by decide)) hM hD hO hC14 hS14 i (by omega) (by omega)) dX9_text_24 rfl (And.intro (Nat.le_of_ble_eq_true rfl) (Nat.le_of_ble_eq_true rfl)) rfl (Nat.le_of_ble_eq_true rfl) rfl rfl (Nat.le_of_ble_eq_true rfl) (Nat.le_of_ble_eq_true rfl) (fun z24 M24 h24 => ?_)
        obtain ⟨q1, q2⟩ := h24
        rw [q1, q2]
        have hat := atF_in (D := D) (T := tkB D p) (x := i) (by omega) (by omega)
        have hfo := fF_ord hD hO (T := tkB D p) hat.1 hat.2.1
        refine g_istore dX9_text_27 (Nat.le_of_ble_eq_true rfl) (Nat.le_of_ble_eq_true rfl) rfl ?_
        dsimp only [sto]
        refine g_iload_n 3 dX9_text_29 rfl rfl ?_
        by_cases w30_0 : w = 0
        · rw [w30_0]
          refine g_tableIn 60 dX9_text_30 (by decide) (by decide) rfl (by decide) ?_
          refine g_aload_n 0 dX9_text_60 rfl rfl ?_
          refine mg_5 dX9_text_61 rfl ?_
          refine g_aload_n 0 dX9_text_64 rfl rfl ?_
          refine mg_16 dX9_text_65 rfl ?_
          refine g_iload dX9_text_68 rfl ?_
          refine ml_16 (OL_fF hS14.2.2.1 (by omega) (by omega)) dX9_text_70 (by omega) (by omega) ?_
          refine ml_5 ((hP.fx hF14 (by decide)).at 5 (by decide) _) dX9_text_71 (by omega) (by omega) ?_
          refine g_iret dX9_text_72 rfl (Nat.le_of_ble_eq_true rfl) (Nat.le_of_ble_eq_true rfl) ⟨_, _, rfl, rfl, ?_⟩
          refine ⟨?_, (hP.fx hF14 (by decide))⟩
          unfold A_text
          rw [if_pos ⟨hp2, by omega, by omega⟩]
          rw [if_pos rfl]
        by_cases w30_1 : w = 1
        · rw [w30_1]
          refine g_tableIn 73 dX9_text_30 (by decide) (by decide) rfl (by decide) ?_
          refine g_aload_n 0 dX9_text_73 rfl rfl ?_
          refine mg_16 dX9_text_74 rfl ?_
          refine g_iload dX9_text_77 rfl ?_
          refine ml_16 (OL_fF hS14.2.2.1 (by omega) (by omega)) dX9_text_79 (by omega) (by omega) ?_
          refine g_iret dX9_text_80 rfl (Nat.le_of_ble_eq_true rfl) (Nat.le_of_ble_eq_true rfl) ⟨_, _, rfl, rfl, ?_⟩
          refine ⟨?_, (hP.fx hF14 (by decide))⟩
          unfold A_text
          rw [if_pos ⟨hp2, by omega, by omega⟩]
          rw [if_neg (by decide)]
          rw [if_pos rfl]
        by_cases w30_2 : w = 2
        · rw [w30_2]
          refine g_tableIn 81 dX9_text_30 (by decide) (by decide) rfl (by decide) ?_
          refine g_aload_n 0 dX9_text_81 rfl rfl ?_
          refine g_iload dX9_text_82 rfl ?_
          refine mcI lkX9_176 (c_tintsOf Z o a (hP.fx hF14 (by decide)) hM hD hO (tkB D p) hC14 hS14 _ (by omega) (by omega)) dX9_text_84 rfl (And.intro (Nat.le_of_ble_eq_true rfl) (Nat.le_of_ble_eq_true rfl)) rfl (Nat.le_of_ble_eq_true rfl) rfl rfl (Nat.le_of_ble_eq_true rfl) (Nat.le_of_ble_eq_true rfl) (fun z84 M84 h84 => ?_)
          obtain ⟨q4, q5⟩ := h84
          rw [q4, q5]
          refine g_iret dX9_text_87 rfl (Nat.le_of_ble_eq_true rfl) (Nat.le_of_ble_eq_true rfl) ⟨_, _, rfl, rfl, ?_⟩
          refine ⟨?_, (hP.fx hF14 (by decide))⟩
          unfold A_text
          rw [if_pos ⟨hp2, by omega, by omega⟩]
          rw [if_neg (by decide)]
          rw [if_neg (by decide)]
          rw [if_pos rfl]
        by_cases w30_3 : w = 3
        · rw [w30_3]
          refine g_tableIn 88 dX9_text_30 (by decide) (by decide) rfl (by decide) ?_
          refine g_aload_n 0 dX9_text_88 rfl rfl ?_
          refine mg_0 dX9_text_89 rfl ?_
          refine g_aload_n 0 dX9_text_92 rfl rfl ?_
          refine mg_16 dX9_text_93 rfl ?_
          refine g_iload dX9_text_96 rfl ?_
          refine ml_16 (OL_fF hS14.2.2.1 (by omega) (by omega)) dX9_text_98 (by omega) (by omega) ?_
          refine g_iconst (iI 4) dX9_text_99 rfl ?_
          refine gi_div dX9_text_100 (by omega) (by omega) (by decide) (by decide) ?_
          refine ml_0 ((hP.fx hF14 (by decide)).at 0 (by decide) _) dX9_text_101 (by omega) (by omega) ?_
          refine g_iret dX9_text_102 rfl (Nat.le_of_ble_eq_true rfl) (Nat.le_of_ble_eq_true rfl) ⟨_, _, rfl, rfl, ?_⟩
          refine ⟨?_, (hP.fx hF14 (by decide))⟩
          unfold A_text
          rw [if_pos ⟨hp2, by omega, by omega⟩]
          rw [if_neg (by decide)]
          rw [if_neg (by decide)]
          rw [if_neg (by decide)]
          rw [if_pos rfl]
        · refine g_tableOut 103 dX9_text_30 (by rw [iI_toInt hw]; omega) (by decide) ?_
          refine g_iconst (iI (-1)) dX9_text_103 rfl ?_
          refine g_iret dX9_text_104 rfl (Nat.le_of_ble_eq_true rfl) (Nat.le_of_ble_eq_true rfl) ⟨_, _, rfl, rfl, ?_⟩
          refine ⟨?_, (hP.fx hF14 (by decide))⟩
          unfold A_text
          rw [if_pos ⟨hp2, by omega, by omega⟩]
          rw [if_neg (by omega), if_neg (by omega), if_neg (by omega), if_neg (by omega)]
      · refine g_iconst (iI (-1)) dX9_text_20 rfl ?_
        refine g_iret dX9_text_21 rfl (Nat.le_of_ble_eq_true rfl) (Nat.le_of_ble_eq_true rfl) ⟨_, _, rfl, rfl, ?_⟩
        refine ⟨?_, (hP.fx hF14 (by decide))⟩
        unfold A_text
        rw [if_neg (by omega)]
def A_part (D : Mem) (s i : Int) : Int × Int := if 0 ≤ s ∧ s < D 9 0 then (if D 2 s = 3 then (-1, 6) else if 0 ≤ i ∧ i < D 3 s then (D 4 (12 * s + i), 0) else (-1, 1)) else (-1, 1)
def A_link (D : Mem) (s k : Int) : Int × Int := if 0 ≤ s ∧ s < D 9 0 then (if D 2 s = k then (D 6 s, 0) else (-1, 6)) else (-1, 1)
theorem Pers_fin {D M : Mem} (h : Pers D M) (v : Int) : Pers (ms D 13 0 v) (ms M 13 0 v) := by
  intro r hr
  by_cases e : r = 13
  · subst e; rw [ms_eq, ms_eq, h 13 (by decide)]
  · rw [ms_ne e, ms_ne e]; exact h r hr
theorem Fx_fin {D M M2 : Mem} (h : Pers D M) (hf : Fx SC M M2) (v : Int) : Pers (ms D 13 0 v) (ms M2 13 0 v) := Pers_fin (h.fx hf SC14) v
set_option maxHeartbeats 4000000 in
set_option maxRecDepth 100000 in
/-- part -/
theorem c_part (Z : LZ) (o : Nat) (a : Nat → Nat) {D M : Mem} (hP : Pers D M) (hM : RM D) (hD : okP D) (hO : okO D (D 9 0).toNat) (s i : Int) (hs : Rg s) (hi : Rg i)  : Tm Z o a jX9_part [s, i] M (fun z M2 => z = (A_part D s i).1 ∧ Pers (ms D 13 0 (A_part D s i).2) M2) := by
  refine tr_of pn_X9_part (Nat.le_of_ble_eq_true rfl) (vI_catO o _) ?_
  show G Z jX9_part E0 (QM Z jX9_part (pI Z o a (fun z M2 => z = (A_part D s i).1 ∧ Pers (ms D 13 0 (A_part D s i).2) M2))) 0 [.ref o, .int (iI s), .int (iI i)] [] (mW Z o a M) 0 0
  have hn := hD.2.1
  refine g_aload_n 0 dX9_part_0 rfl rfl ?_
  refine g_iload_n 1 dX9_part_1 rfl rfl ?_
  refine mcI lkX9_170 (c_isSlip Z o a hP hM s (by first | assumption | exact ⟨by omega, by omega⟩)) dX9_part_2 rfl (And.intro (Nat.le_of_ble_eq_true rfl) (Nat.le_of_ble_eq_true rfl)) rfl (Nat.le_of_ble_eq_true rfl) rfl rfl (Nat.le_of_ble_eq_true rfl) (Nat.le_of_ble_eq_true rfl) (fun z2 M2 h2 => ?_)
  obtain ⟨q1, q2⟩ := h2
  rw [q1, q2]
  refine gi_if_ne 14 dX9_part_5 (by decide) (by first | exact hM _ _ | exact bI_Rg _ | exact ⟨by omega, by omega⟩) (fun c5 => ?_) (fun c5 => ?_)
  · have hs2 := slipB_t c5
    obtain ⟨hp0, hk0, hS0, hS1, hS2, hS3, hSg⟩ := hD.2.2.1 s hs2.1 hs2.2
    have hsz : D 3 s ≤ 12 := by
      have hk : D 2 s = 0 ∨ D 2 s = 1 ∨ D 2 s = 2 ∨ D 2 s = 3 := by omega
      rcases hk with hk | hk | hk | hk
      · have := hS0 hk; omega
      · have := hS1 hk; omega
      · have := hS2 hk; omega
      · have := hS3 hk; omega
    refine g_aload_n 0 dX9_part_14 rfl rfl ?_
    refine mg_2 dX9_part_15 rfl ?_
    refine g_iload_n 1 dX9_part_18 rfl rfl ?_
    refine ml_2 (hP.at 2 (by decide) _) dX9_part_19 (by omega) (by omega) ?_
    refine g_iconst (iI 3) dX9_part_20 rfl ?_
    refine gi_icmp_ne 31 dX9_part_21 (by decide) (by first | exact hM _ _ | exact bI_Rg _ | exact ⟨by omega, by omega⟩) (by first | exact hM _ _ | exact bI_Rg _ | exact ⟨by omega, by omega⟩) (fun c21 => ?_) (fun c21 => ?_)
    · refine g_iload_n 2 dX9_part_31 rfl rfl ?_
      refine gi_if_lt 45 dX9_part_32 (by decide) (by first | exact hM _ _ | exact bI_Rg _ | exact ⟨by omega, by omega⟩) (fun c32 => ?_) (fun c32 => ?_)
      · refine g_aload_n 0 dX9_part_45 rfl rfl ?_
        refine g_iconst (iI 1) dX9_part_46 rfl ?_
        refine mcI lkX9_150 (c_refuse Z o a _ _) dX9_part_47 rfl (And.intro (Nat.le_of_ble_eq_true rfl) (Nat.le_of_ble_eq_true rfl)) rfl (Nat.le_of_ble_eq_true rfl) rfl rfl (Nat.le_of_ble_eq_true rfl) (Nat.le_of_ble_eq_true rfl) (fun z47 M47 h47 => ?_)
        obtain ⟨q1, q2⟩ := h47
        rw [q1, q2]
        refine g_goto 68 dX9_part_50 (by decide) ?_
        refine g_iret dX9_part_68 rfl (Nat.le_of_ble_eq_true rfl) (Nat.le_of_ble_eq_true rfl) ⟨_, _, rfl, rfl, ?_⟩
        unfold A_part
        rw [if_pos hs2]
        rw [if_neg c21]
        rw [if_neg (by omega)]
        exact ⟨rfl, Pers_fin hP _⟩
      · refine g_iload_n 2 dX9_part_35 rfl rfl ?_
        refine g_aload_n 0 dX9_part_36 rfl rfl ?_
        refine mg_3 dX9_part_37 rfl ?_
        refine g_iload_n 1 dX9_part_40 rfl rfl ?_
        refine ml_3 (hP.at 3 (by decide) _) dX9_part_41 (by omega) (by omega) ?_
        refine gi_icmp_lt 53 dX9_part_42 (by decide) (by first | exact hM _ _ | exact bI_Rg _ | exact ⟨by omega, by omega⟩) (by first | exact hM _ _ | exact bI_Rg _ | exact ⟨by omega, by omega⟩) (fun c42 => ?_) (fun c42 => ?_)
        · refine g_aload_n 0 dX9_part_53 rfl rfl ?_
          refine g_aload_n 0 dX9_part_54 rfl rfl ?_
          refine mg_4 dX9_part_55 rfl ?_
          refine g_bipush (iI 12) dX9_part_58 (by decide) ?_
          refine g_iload_n 1 dX9_part_60 rfl rfl ?_
          refine gi_mul dX9_part_61 ?_
          refine g_iload_n 2 dX9_part_62 rfl rfl ?_
          refine gi_add dX9_part_63 ?_
          refine ml_4 (hP.at 4 (by decide) _) dX9_part_64 (by omega) (by omega) ?_
          refine mcI lkX9_163 (c_done Z o a _ _) dX9_part_65 rfl (And.intro (Nat.le_of_ble_eq_true rfl) (Nat.le_of_ble_eq_true rfl)) rfl (Nat.le_of_ble_eq_true rfl) rfl rfl (Nat.le_of_ble_eq_true rfl) (Nat.le_of_ble_eq_true rfl) (fun z65 M65 h65 => ?_)
          obtain ⟨q1, q2⟩ := h65
          rw [q1, q2]
          refine g_iret dX9_part_68 rfl (Nat.le_of_ble_eq_true rfl) (Nat.le_of_ble_eq_true rfl) ⟨_, _, rfl, rfl, ?_⟩
          unfold A_part
          rw [if_pos hs2]
          rw [if_neg c21]
          rw [if_pos (by omega)]
          exact ⟨rfl, Pers_fin hP _⟩
        · refine g_aload_n 0 dX9_part_45 rfl rfl ?_
          refine g_iconst (iI 1) dX9_part_46 rfl ?_
          refine mcI lkX9_150 (c_refuse Z o a _ _) dX9_part_47 rfl (And.intro (Nat.le_of_ble_eq_true rfl) (Nat.le_of_ble_eq_true rfl)) rfl (Nat.le_of_ble_eq_true rfl) rfl rfl (Nat.le_of_ble_eq_true rfl) (Nat.le_of_ble_eq_true rfl) (fun z47 M47 h47 => ?_)
          obtain ⟨q1, q2⟩ := h47
          rw [q1, q2]
          refine g_goto 68 dX9_part_50 (by decide) ?_
          refine g_iret dX9_part_68 rfl (Nat.le_of_ble_eq_true rfl) (Nat.le_of_ble_eq_true rfl) ⟨_, _, rfl, rfl, ?_⟩
          unfold A_part
          rw [if_pos hs2]
          rw [if_neg c21]
          rw [if_neg (by omega)]
          exact ⟨rfl, Pers_fin hP _⟩
    · refine g_aload_n 0 dX9_part_24 rfl rfl ?_
      refine g_bipush (iI 6) dX9_part_25 (by decide) ?_
      refine mcI lkX9_150 (c_refuse Z o a _ _) dX9_part_27 rfl (And.intro (Nat.le_of_ble_eq_true rfl) (Nat.le_of_ble_eq_true rfl)) rfl (Nat.le_of_ble_eq_true rfl) rfl rfl (Nat.le_of_ble_eq_true rfl) (Nat.le_of_ble_eq_true rfl) (fun z27 M27 h27 => ?_)
      obtain ⟨q1, q2⟩ := h27
      rw [q1, q2]
      refine g_iret dX9_part_30 rfl (Nat.le_of_ble_eq_true rfl) (Nat.le_of_ble_eq_true rfl) ⟨_, _, rfl, rfl, ?_⟩
      unfold A_part
      rw [if_pos hs2]
      rw [if_pos c21]
      exact ⟨rfl, Pers_fin hP _⟩
  · have hs2 := slipB_f c5
    refine g_aload_n 0 dX9_part_8 rfl rfl ?_
    refine g_iconst (iI 1) dX9_part_9 rfl ?_
    refine mcI lkX9_150 (c_refuse Z o a _ _) dX9_part_10 rfl (And.intro (Nat.le_of_ble_eq_true rfl) (Nat.le_of_ble_eq_true rfl)) rfl (Nat.le_of_ble_eq_true rfl) rfl rfl (Nat.le_of_ble_eq_true rfl) (Nat.le_of_ble_eq_true rfl) (fun z10 M10 h10 => ?_)
    obtain ⟨q1, q2⟩ := h10
    rw [q1, q2]
    refine g_iret dX9_part_13 rfl (Nat.le_of_ble_eq_true rfl) (Nat.le_of_ble_eq_true rfl) ⟨_, _, rfl, rfl, ?_⟩
    unfold A_part
    rw [if_neg hs2]
    exact ⟨rfl, Pers_fin hP _⟩
set_option maxHeartbeats 4000000 in
set_option maxRecDepth 100000 in
/-- linked -/
theorem c_linked (Z : LZ) (o : Nat) (a : Nat → Nat) {D M : Mem} (hP : Pers D M) (hM : RM D) (hD : okP D) (hO : okO D (D 9 0).toNat) (s k : Int) (hs : Rg s) (hk : Rg k)  : Tm Z o a jX9_linked [s, k] M (fun z M2 => z = (A_link D s k).1 ∧ Pers (ms D 13 0 (A_link D s k).2) M2) := by
  refine tr_of pn_X9_linked (Nat.le_of_ble_eq_true rfl) (vI_catO o _) ?_
  show G Z jX9_linked E0 (QM Z jX9_linked (pI Z o a (fun z M2 => z = (A_link D s k).1 ∧ Pers (ms D 13 0 (A_link D s k).2) M2))) 0 [.ref o, .int (iI s), .int (iI k)] [] (mW Z o a M) 0 0
  have hn := hD.2.1
  refine g_aload_n 0 dX9_linked_0 rfl rfl ?_
  refine g_iload_n 1 dX9_linked_1 rfl rfl ?_
  refine mcI lkX9_170 (c_isSlip Z o a hP hM s (by first | assumption | exact ⟨by omega, by omega⟩)) dX9_linked_2 rfl (And.intro (Nat.le_of_ble_eq_true rfl) (Nat.le_of_ble_eq_true rfl)) rfl (Nat.le_of_ble_eq_true rfl) rfl rfl (Nat.le_of_ble_eq_true rfl) (Nat.le_of_ble_eq_true rfl) (fun z2 M2 h2 => ?_)
  obtain ⟨q1, q2⟩ := h2
  rw [q1, q2]
  refine gi_if_ne 14 dX9_linked_5 (by decide) (by first | exact hM _ _ | exact bI_Rg _ | exact ⟨by omega, by omega⟩) (fun c5 => ?_) (fun c5 => ?_)
  · have hs2 := slipB_t c5
    refine g_aload_n 0 dX9_linked_14 rfl rfl ?_
    refine mg_2 dX9_linked_15 rfl ?_
    refine g_iload_n 1 dX9_linked_18 rfl rfl ?_
    refine ml_2 (hP.at 2 (by decide) _) dX9_linked_19 (by omega) (by omega) ?_
    refine g_iload_n 2 dX9_linked_20 rfl rfl ?_
    refine gi_icmp_eq 33 dX9_linked_21 (by decide) (by first | exact hM _ _ | exact bI_Rg _ | exact ⟨by omega, by omega⟩) (by first | exact hM _ _ | exact bI_Rg _ | exact ⟨by omega, by omega⟩) (fun c21 => ?_) (fun c21 => ?_)
    · refine g_aload_n 0 dX9_linked_33 rfl rfl ?_
      refine g_aload_n 0 dX9_linked_34 rfl rfl ?_
      refine mg_6 dX9_linked_35 rfl ?_
      refine g_iload_n 1 dX9_linked_38 rfl rfl ?_
      refine ml_6 (hP.at 6 (by decide) _) dX9_linked_39 (by omega) (by omega) ?_
      refine mcI lkX9_163 (c_done Z o a _ _) dX9_linked_40 rfl (And.intro (Nat.le_of_ble_eq_true rfl) (Nat.le_of_ble_eq_true rfl)) rfl (Nat.le_of_ble_eq_true rfl) rfl rfl (Nat.le_of_ble_eq_true rfl) (Nat.le_of_ble_eq_true rfl) (fun z40 M40 h40 => ?_)
      obtain ⟨q1, q2⟩ := h40
      rw [q1, q2]
      refine g_iret dX9_linked_43 rfl (Nat.le_of_ble_eq_true rfl) (Nat.le_of_ble_eq_true rfl) ⟨_, _, rfl, rfl, ?_⟩
      unfold A_link
      rw [if_pos hs2]
      rw [if_pos c21]
      exact ⟨rfl, Pers_fin hP _⟩
    · refine g_aload_n 0 dX9_linked_24 rfl rfl ?_
      refine g_bipush (iI 6) dX9_linked_25 (by decide) ?_
      refine mcI lkX9_150 (c_refuse Z o a _ _) dX9_linked_27 rfl (And.intro (Nat.le_of_ble_eq_true rfl) (Nat.le_of_ble_eq_true rfl)) rfl (Nat.le_of_ble_eq_true rfl) rfl rfl (Nat.le_of_ble_eq_true rfl) (Nat.le_of_ble_eq_true rfl) (fun z27 M27 h27 => ?_)
      obtain ⟨q1, q2⟩ := h27
      rw [q1, q2]
      refine g_goto 43 dX9_linked_30 (by decide) ?_
      refine g_iret dX9_linked_43 rfl (Nat.le_of_ble_eq_true rfl) (Nat.le_of_ble_eq_true rfl) ⟨_, _, rfl, rfl, ?_⟩
      unfold A_link
      rw [if_pos hs2]
      rw [if_neg c21]
      exact ⟨rfl, Pers_fin hP _⟩
  · have hs2 := slipB_f c5
    refine g_aload_n 0 dX9_linked_8 rfl rfl ?_
    refine g_iconst (iI 1) dX9_linked_9 rfl ?_
    refine mcI lkX9_150 (c_refuse Z o a _ _) dX9_linked_10 rfl (And.intro (Nat.le_of_ble_eq_true rfl) (Nat.le_of_ble_eq_true rfl)) rfl (Nat.le_of_ble_eq_true rfl) rfl rfl (Nat.le_of_ble_eq_true rfl) (Nat.le_of_ble_eq_true rfl) (fun z10 M10 h10 => ?_)
    obtain ⟨q1, q2⟩ := h10
    rw [q1, q2]
    refine g_iret dX9_linked_13 rfl (Nat.le_of_ble_eq_true rfl) (Nat.le_of_ble_eq_true rfl) ⟨_, _, rfl, rfl, ?_⟩
    unfold A_link
    rw [if_neg hs2]
    exact ⟨rfl, Pers_fin hP _⟩
set_option maxHeartbeats 4000000 in
set_option maxRecDepth 100000 in
/-- left -/
theorem c_left (Z : LZ) (o : Nat) (a : Nat → Nat) {D M : Mem} (hP : Pers D M) (hM : RM D) (hD : okP D) (hO : okO D (D 9 0).toNat) (s : Int) (hs : Rg s)  : Tm Z o a jX9_left [s] M (fun z M2 => z = (A_link D s 0).1 ∧ Pers (ms D 13 0 (A_link D s 0).2) M2) := by
  refine tr_of pn_X9_left (Nat.le_of_ble_eq_true rfl) (vI_catO o _) ?_
  show G Z jX9_left E0 (QM Z jX9_left (pI Z o a (fun z M2 => z = (A_link D s 0).1 ∧ Pers (ms D 13 0 (A_link D s 0).2) M2))) 0 [.ref o, .int (iI s)] [] (mW Z o a M) 0 0
  have hn := hD.2.1
  refine g_aload_n 0 dX9_left_0 rfl rfl ?_
  refine g_iload_n 1 dX9_left_1 rfl rfl ?_
  refine g_iconst (iI 0) dX9_left_2 rfl ?_
  refine mcI lkX9_173 (c_linked Z o a hP hM hD hO s 0 hs (by exact ⟨by omega, by omega⟩)) dX9_left_3 rfl (And.intro (Nat.le_of_ble_eq_true rfl) (Nat.le_of_ble_eq_true rfl)) rfl (Nat.le_of_ble_eq_true rfl) rfl rfl (Nat.le_of_ble_eq_true rfl) (Nat.le_of_ble_eq_true rfl) (fun z3 M3 h3 => ?_)
  obtain ⟨q1, q2⟩ := h3
  refine g_iret dX9_left_6 rfl (Nat.le_of_ble_eq_true rfl) (Nat.le_of_ble_eq_true rfl) ⟨_, _, rfl, rfl, ?_⟩
  exact ⟨q1, q2⟩
set_option maxHeartbeats 4000000 in
set_option maxRecDepth 100000 in
/-- bound -/
theorem c_bound (Z : LZ) (o : Nat) (a : Nat → Nat) {D M : Mem} (hP : Pers D M) (hM : RM D) (hD : okP D) (hO : okO D (D 9 0).toNat) (s : Int) (hs : Rg s)  : Tm Z o a jX9_bound [s] M (fun z M2 => z = (A_link D s 2).1 ∧ Pers (ms D 13 0 (A_link D s 2).2) M2) := by
  refine tr_of pn_X9_bound (Nat.le_of_ble_eq_true rfl) (vI_catO o _) ?_
  show G Z jX9_bound E0 (QM Z jX9_bound (pI Z o a (fun z M2 => z = (A_link D s 2).1 ∧ Pers (ms D 13 0 (A_link D s 2).2) M2))) 0 [.ref o, .int (iI s)] [] (mW Z o a M) 0 0
  have hn := hD.2.1
  refine g_aload_n 0 dX9_bound_0 rfl rfl ?_
  refine g_iload_n 1 dX9_bound_1 rfl rfl ?_
  refine g_iconst (iI 2) dX9_bound_2 rfl ?_
  refine mcI lkX9_173 (c_linked Z o a hP hM hD hO s 2 hs (by exact ⟨by omega, by omega⟩)) dX9_bound_3 rfl (And.intro (Nat.le_of_ble_eq_true rfl) (Nat.le_of_ble_eq_true rfl)) rfl (Nat.le_of_ble_eq_true rfl) rfl rfl (Nat.le_of_ble_eq_true rfl) (Nat.le_of_ble_eq_true rfl) (fun z3 M3 h3 => ?_)
  obtain ⟨q1, q2⟩ := h3
  refine g_iret dX9_bound_6 rfl (Nat.le_of_ble_eq_true rfl) (Nat.le_of_ble_eq_true rfl) ⟨_, _, rfl, rfl, ?_⟩
  exact ⟨q1, q2⟩
set_option maxHeartbeats 4000000 in
set_option maxRecDepth 100000 in
/-- undone -/
theorem c_undone (Z : LZ) (o : Nat) (a : Nat → Nat) {D M : Mem} (hP : Pers D M) (hM : RM D) (hD : okP D) (hO : okO D (D 9 0).toNat) (s : Int) (hs : Rg s)  : Tm Z o a jX9_undone [s] M (fun z M2 => z = (A_link D s 3).1 ∧ Pers (ms D 13 0 (A_link D s 3).2) M2) := by
  refine tr_of pn_X9_undone (Nat.le_of_ble_eq_true rfl) (vI_catO o _) ?_
  show G Z jX9_undone E0 (QM Z jX9_undone (pI Z o a (fun z M2 => z = (A_link D s 3).1 ∧ Pers (ms D 13 0 (A_link D s 3).2) M2))) 0 [.ref o, .int (iI s)] [] (mW Z o a M) 0 0
  have hn := hD.2.1
  refine g_aload_n 0 dX9_undone_0 rfl rfl ?_
  refine g_iload_n 1 dX9_undone_1 rfl rfl ?_
  refine g_iconst (iI 3) dX9_undone_2 rfl ?_
  refine mcI lkX9_173 (c_linked Z o a hP hM hD hO s 3 hs (by exact ⟨by omega, by omega⟩)) dX9_undone_3 rfl (And.intro (Nat.le_of_ble_eq_true rfl) (Nat.le_of_ble_eq_true rfl)) rfl (Nat.le_of_ble_eq_true rfl) rfl rfl (Nat.le_of_ble_eq_true rfl) (Nat.le_of_ble_eq_true rfl) (fun z3 M3 h3 => ?_)
  obtain ⟨q1, q2⟩ := h3
  refine g_iret dX9_undone_6 rfl (Nat.le_of_ble_eq_true rfl) (Nat.le_of_ble_eq_true rfl) ⟨_, _, rfl, rfl, ?_⟩
  exact ⟨q1, q2⟩
