/-! THE CLASS: questions, more -/
set_option maxHeartbeats 4000000 in
set_option maxRecDepth 100000 in
theorem k_X8_state (Z : LZ) (a : Nat → Nat) (C : Mem) (fS fA : Nat → Option Nat) {D : Mem} (sa sb : Nat → Nat) (N : Nat) (hG : Good D) (hI : Inv D) (hR : Rel D C fS fA sa N) (p s : Int) (hp : Rg p) (hs : Rg s) : Tr Z jX8_state [.ref (a 99), .int (iI p), .int (iI s)] (cW Z a C fS fA (sW Z D sa sb N)) (fun r w => ∃ C2 : Mem, r = some (.int (iI (A_state D p s))) ∧ w = cW Z a C2 fS fA (sW Z D sa sb N) ∧ Rel D C2 fS fA sa N) := by
  refine tr_of pn_X8_state (Nat.le_of_ble_eq_true rfl) (by intro v h; simp only [List.mem_cons, List.not_mem_nil, or_false] at h; rcases h with h | h | h <;> rw [h] <;> rfl) ?_
  have hB := hR.1
  have hn := hB.n
  have h9 := hB.d9
  have hM := hG.1.1
  refine g_aload_n 0 dX8_state_0 rfl rfl ?_
  refine g_iload_n 1 dX8_state_1 rfl rfl ?_
  refine ckE lkX8_42 (k_X8_sheetOf Z a C fS fA _ p hp) dX8_state_2 (And.intro (Nat.le_of_ble_eq_true rfl) (Nat.le_of_ble_eq_true rfl)) (ci := 7) (q0 := 0) rfl rfl (Nat.le_of_ble_eq_true rfl) rfl rfl (Nat.le_of_ble_eq_true rfl) (Nat.le_of_ble_eq_true rfl) rfl ?_
  by_cases hPp : 0 ≤ p ∧ p < 6
  · rw [if_pos hPp]
    have hnp : p.toNat < 6 := by omega
    have hep : ((p.toNat : Nat) : Int) = p := by omega
    refine g_astore_n 3 dX8_state_5 rfl (Nat.le_of_ble_eq_true rfl) (Nat.le_of_ble_eq_true rfl) rfl ?_
    dsimp only [sto]
    refine g_aload_n 0 dX8_state_6 rfl rfl ?_
    refine cg_mp_book dX8_state_7 flX8_12 ?_
    refine g_iload_n 2 dX8_state_10 rfl rfl ?_
    refine ckE lkX8_109 (k_X0_find Z a C fS fA sa sb N hn hB.c1 hB.sl s hs) dX8_state_11 (And.intro (Nat.le_of_ble_eq_true rfl) (Nat.le_of_ble_eq_true rfl)) (ci := 0) (q0 := 1) rfl rfl (Nat.le_of_ble_eq_true rfl) rfl rfl (Nat.le_of_ble_eq_true rfl) (Nat.le_of_ble_eq_true rfl) rfl ?_
    by_cases hFs : 0 ≤ s ∧ s < N
    · rw [if_pos hFs]
      have hss : s.toNat < N := by omega
      have hfs : ((s.toNat : Nat) : Int) = s := by omega
      have hSs := hG.s hB hss
      refine g_astore dX8_state_14 (Nat.le_of_ble_eq_true rfl) (Nat.le_of_ble_eq_true rfl) rfl ?_
      dsimp only [sto]
      refine g_aload_n 3 dX8_state_16 rfl rfl ?_
      refine g_ifnull dX8_state_17 ?_
      refine g_aload dX8_state_20 rfl ?_
      refine g_ifnonnull 27 dX8_state_22 (by decide) ?_
      refine g_aload_n 0 dX8_state_27 rfl rfl ?_
      refine cg_mp_reading dX8_state_28 flX8_30 ?_
      refine g_aload_n 3 dX8_state_31 rfl rfl ?_
      refine g_sipush (iI 256) dX8_state_32 (by decide) ?_
      refine ckX lkX8_50 (k_X3_read Z a C fS fA sa sb N hG hI.1 hR.1 hR.2 (tkB D p) (tkB_Cl hG.1 p) (tk_U hG h9 p) p.toNat hnp 256 ⟨by decide, by decide⟩ (tk_T hG h9 hn hep)) dX8_state_35 (And.intro (Nat.le_of_ble_eq_true rfl) (Nat.le_of_ble_eq_true rfl)) (ci := 3) (q0 := 30) rfl rfl (Nat.le_of_ble_eq_true rfl) rfl rfl (Nat.le_of_ble_eq_true rfl) (Nat.le_of_ble_eq_true rfl) rfl (fun C34 h34 => ?_)
      have r34 : Rel D C34 fS fA sa N := hR.rd h34.1 h34.2.1
      have d34 := h34.2.2
      refine g_aload_n 0 dX8_state_38 rfl rfl ?_
      refine cg_mp_reading dX8_state_39 flX8_30 ?_
      refine g_aload dX8_state_42 rfl ?_
      refine ckE lkX8_118 (k_X3_isWorking Z a C34 fS fA sa sb N hn s.toNat hss (Sd_rg d34.1 hss)) dX8_state_44 (And.intro (Nat.le_of_ble_eq_true rfl) (Nat.le_of_ble_eq_true rfl)) (ci := 3) (q0 := 30) rfl rfl (Nat.le_of_ble_eq_true rfl) rfl rfl (Nat.le_of_ble_eq_true rfl) (Nat.le_of_ble_eq_true rfl) rfl ?_
      refine gi_if_eq 54 dX8_state_47 (by decide) (bI_Rg _) (fun c46 => ?_) (fun c46 => ?_)
      · refine g_aload_n 3 dX8_state_54 rfl rfl ?_
        refine cg_sh_held p.toNat hnp dX8_state_55 flX8_148 ?_
        refine g_aload dX8_state_58 rfl ?_
        refine cg_sl_number hss dX8_state_60 flX8_124 ?_
        refine ca_held p.toNat hnp rfl dX8_state_63 (by omega) (by omega) ?_
        refine g_iret dX8_state_64 rfl (Nat.le_of_ble_eq_true rfl) (Nat.le_of_ble_eq_true rfl) ⟨_, ?_, rfl, by first | exact r34 | exact hR⟩
        have g1 := d34.1 _ hss
        have g2 := r34.1.held p.toNat s.toNat hnp (by omega)
        rw [if_pos hss] at g2
        rw [hfs, hep] at g2
        rw [hfs] at g1
        unfold hdF at g2
        unfold A_state
        rw [if_pos ⟨hPp, by omega⟩]
        rw [hfs] at c46 ⊢
        have g3 : ¬ C34 70 s = 3 := fun q => by rw [decide_eq_true q] at c46; exact absurd c46 (by decide)
        rw [g2]
        split
        · rfl
        · cases e : tkB D p s
          · rfl
          · cases e2 : wkB D (tkB D p) s
            · rfl
            · exfalso
              rw [e, e2, if_pos rfl, if_pos rfl] at g1
              exact g3 g1
      · refine g_iconst (iI 3) dX8_state_50 rfl ?_
        refine g_goto 64 dX8_state_51 (by decide) ?_
        refine g_iret dX8_state_64 rfl (Nat.le_of_ble_eq_true rfl) (Nat.le_of_ble_eq_true rfl) ⟨_, ?_, rfl, by first | exact r34 | exact hR⟩
        have g1 := d34.1 _ hss
        have g2 := r34.1.held p.toNat s.toNat hnp (by omega)
        rw [if_pos hss] at g2
        rw [hfs, hep] at g2
        rw [hfs] at g1
        unfold hdF at g2
        unfold A_state
        rw [if_pos ⟨hPp, by omega⟩]
        rw [hfs] at c46
        have g3 : C34 70 s = 3 := Classical.byContradiction (fun q => by rw [decide_eq_false q] at c46; exact c46 rfl)
        rw [g3] at g1
        cases e : tkB D p s
        · rw [e, if_neg (by decide)] at g1; omega
        · cases e2 : wkB D (tkB D p) s
          · rw [e, e2, if_pos rfl, if_neg (by decide)] at g1; omega
          · have g4 := tkB_eq hG.1 p (x := s) (by omega) (by omega)
            rw [e] at g4
            have g5 := (Bool.and_eq_true _ _).mp g4.symm
            have g6 := of_decide_eq_true g5.1
            rw [if_neg (by omega), if_neg (by decide), if_pos rfl]
    · rw [if_neg hFs]
      refine g_astoreN dX8_state_14 (Nat.le_of_ble_eq_true rfl) (Nat.le_of_ble_eq_true rfl) rfl ?_
      dsimp only [sto]
      refine g_aload_n 3 dX8_state_16 rfl rfl ?_
      refine g_ifnull dX8_state_17 ?_
      refine g_aloadN dX8_state_20 rfl ?_
      refine g_ifnonnullN dX8_state_22 ?_
      refine g_iconst (iI (-1)) dX8_state_25 rfl ?_
      refine g_iret dX8_state_26 rfl (Nat.le_of_ble_eq_true rfl) (Nat.le_of_ble_eq_true rfl) ⟨_, ?_, rfl, by first | exact r34 | exact hR⟩
      unfold A_state
      rw [if_neg (by omega)]
  · rw [if_neg hPp]
    refine g_astore_nN 3 dX8_state_5 rfl (Nat.le_of_ble_eq_true rfl) (Nat.le_of_ble_eq_true rfl) rfl ?_
    dsimp only [sto]
    refine g_aload_n 0 dX8_state_6 rfl rfl ?_
    refine cg_mp_book dX8_state_7 flX8_12 ?_
    refine g_iload_n 2 dX8_state_10 rfl rfl ?_
    refine ckE lkX8_109 (k_X0_find Z a C fS fA sa sb N hn hB.c1 hB.sl s hs) dX8_state_11 (And.intro (Nat.le_of_ble_eq_true rfl) (Nat.le_of_ble_eq_true rfl)) (ci := 0) (q0 := 1) rfl rfl (Nat.le_of_ble_eq_true rfl) rfl rfl (Nat.le_of_ble_eq_true rfl) (Nat.le_of_ble_eq_true rfl) rfl ?_
    by_cases hFs : 0 ≤ s ∧ s < N
    · rw [if_pos hFs]
      have hss : s.toNat < N := by omega
      have hfs : ((s.toNat : Nat) : Int) = s := by omega
      have hSs := hG.s hB hss
      refine g_astore dX8_state_14 (Nat.le_of_ble_eq_true rfl) (Nat.le_of_ble_eq_true rfl) rfl ?_
      dsimp only [sto]
      refine g_aload_nN 3 dX8_state_16 rfl rfl ?_
      refine g_ifnullN 25 dX8_state_17 (by decide) ?_
      refine g_iconst (iI (-1)) dX8_state_25 rfl ?_
      refine g_iret dX8_state_26 rfl (Nat.le_of_ble_eq_true rfl) (Nat.le_of_ble_eq_true rfl) ⟨_, ?_, rfl, by first | exact r34 | exact hR⟩
      unfold A_state
      rw [if_neg (by omega)]
    · rw [if_neg hFs]
      refine g_astoreN dX8_state_14 (Nat.le_of_ble_eq_true rfl) (Nat.le_of_ble_eq_true rfl) rfl ?_
      dsimp only [sto]
      refine g_aload_nN 3 dX8_state_16 rfl rfl ?_
      refine g_ifnullN 25 dX8_state_17 (by decide) ?_
      refine g_iconst (iI (-1)) dX8_state_25 rfl ?_
      refine g_iret dX8_state_26 rfl (Nat.le_of_ble_eq_true rfl) (Nat.le_of_ble_eq_true rfl) ⟨_, ?_, rfl, by first | exact r34 | exact hR⟩
      unfold A_state
      rw [if_neg (by omega)]
set_option maxHeartbeats 4000000 in
set_option maxRecDepth 100000 in
theorem k_X8_spans (Z : LZ) (a : Nat → Nat) (C : Mem) (fS fA : Nat → Option Nat) {D : Mem} (sa sb : Nat → Nat) (N : Nat) (hG : Good D) (hI : Inv D) (hR : Rel D C fS fA sa N) (p t : Int) (hp : Rg p) (ht : Rg t) : Tr Z jX8_spans [.ref (a 99), .int (iI p), .int (iI t)] (cW Z a C fS fA (sW Z D sa sb N)) (fun r w => ∃ C2 : Mem, r = some (.int (iI (A_spans D p t))) ∧ w = cW Z a C2 fS fA (sW Z D sa sb N) ∧ Rel D C2 fS fA sa N) := by
  refine tr_of pn_X8_spans (Nat.le_of_ble_eq_true rfl) (by intro v h; simp only [List.mem_cons, List.not_mem_nil, or_false] at h; rcases h with h | h | h <;> rw [h] <;> rfl) ?_
  have hB := hR.1
  have hn := hB.n
  have h9 := hB.d9
  have hM := hG.1.1
  refine g_iload_n 2 dX8_spans_0 rfl rfl ?_
  refine ckS lkX8_97 (k_X8_isTint Z a C fS fA _ t ht) dX8_spans_1 (And.intro (Nat.le_of_ble_eq_true rfl) (Nat.le_of_ble_eq_true rfl)) (Nat.le_of_ble_eq_true rfl) rfl rfl (Nat.le_of_ble_eq_true rfl) (Nat.le_of_ble_eq_true rfl) rfl ?_
  by_cases hT4 : 0 ≤ t ∧ t < 4
  · rw [decide_eq_true hT4]
    refine gi_if_eq 15 dX8_spans_4 (by decide) ⟨by decide, by decide⟩ (fun cc => absurd cc (by decide)) (fun _ => ?_)
    refine g_aload_n 0 dX8_spans_7 rfl rfl ?_
    refine g_iload_n 1 dX8_spans_8 rfl rfl ?_
    refine ckY lkX8_180 (k_X8_read Z a C fS fA sa sb N hG hI hR p hp) dX8_spans_9 (And.intro (Nat.le_of_ble_eq_true rfl) (Nat.le_of_ble_eq_true rfl)) (ci := 7) (q0 := 0) rfl rfl (Nat.le_of_ble_eq_true rfl) rfl rfl (Nat.le_of_ble_eq_true rfl) (Nat.le_of_ble_eq_true rfl) rfl (fun C9 h9 => ?_)
    by_cases hPp : 0 ≤ p ∧ p < 6
    · rw [decide_eq_true hPp]
      have d9 := h9.2 hPp
      have r9 := h9.1
      have hl := ordF_len hG.1 hG.2.1 (tkB_Cl hG.1 p)
      have htx := txtN_rg hG.1 hG.2.1 (tkB_Cl hG.1 p)
      have h78 := d9.2.2.2.2.1
      have h77 := d9.2.1.1.1
      refine gi_if_ne 17 dX8_spans_12 (by decide) ⟨by decide, by decide⟩ (fun _ => ?_) (fun cc => absurd cc (by decide))
      refine g_aload_n 0 dX8_spans_17 rfl rfl ?_
      refine cg_mp_reading dX8_spans_18 flX8_30 ?_
      refine ckX lkX8_188 (k_X3_paint Z a C9 fS fA sa sb N hG hI.2.2.1 r9.1 (tkB_Cl hG.1 p) (tk_M hG hB.d9 p) d9) dX8_spans_21 (And.intro (Nat.le_of_ble_eq_true rfl) (Nat.le_of_ble_eq_true rfl)) (ci := 3) (q0 := 30) rfl rfl (Nat.le_of_ble_eq_true rfl) rfl rfl (Nat.le_of_ble_eq_true rfl) (Nat.le_of_ble_eq_true rfl) rfl (fun C21 h21 => ?_)
      have d21 : Rd D (tkB D p) N C21 := by
        unfold Rd Sd Od Kd Vd at d9 ⊢
        rw [h21.1 70 (by decide), h21.1 77 (by decide), h21.1 71 (by decide), h21.1 72 (by decide), h21.1 73 (by decide), h21.1 74 (by decide), h21.1 78 (by decide), h21.1 75 (by decide)]
        exact d9
      have r21 : Rel D C21 fS fA sa N := ⟨r9.1.keep (fun r hr => h21.1 r (by omega)), fun x a b c => by rw [h21.1 72 (by decide)]; exact r9.2 x a b c⟩
      refine g_aload_n 0 dX8_spans_24 rfl rfl ?_
      refine cg_mp_reading dX8_spans_25 flX8_30 ?_
      refine g_iload_n 2 dX8_spans_28 rfl rfl ?_
      refine ckE lkX8_215 (k_X3_stretchesOf Z a C21 fS fA sa sb N hG (tkB_Cl hG.1 p) d21 h21.2 t hT4.1 hT4.2) dX8_spans_29 (And.intro (Nat.le_of_ble_eq_true rfl) (Nat.le_of_ble_eq_true rfl)) (ci := 3) (q0 := 30) rfl rfl (Nat.le_of_ble_eq_true rfl) rfl rfl (Nat.le_of_ble_eq_true rfl) (Nat.le_of_ble_eq_true rfl) rfl ?_
      refine g_iret dX8_spans_32 rfl (Nat.le_of_ble_eq_true rfl) (Nat.le_of_ble_eq_true rfl) ⟨_, ?_, rfl, by first | exact r21 | exact r9 | exact hR⟩
      unfold A_spans
      first | rw [if_pos (by omega)] | rw [if_neg (by omega)]
    · rw [decide_eq_false hPp]
      have r9 := h9.1
      refine gi_if_ne 17 dX8_spans_12 (by decide) ⟨by decide, by decide⟩ (fun cc => absurd cc (by decide)) (fun _ => ?_)
      refine g_iconst (iI (-1)) dX8_spans_15 rfl ?_
      refine g_iret dX8_spans_16 rfl (Nat.le_of_ble_eq_true rfl) (Nat.le_of_ble_eq_true rfl) ⟨_, ?_, rfl, by first | exact r21 | exact r9 | exact hR⟩
      unfold A_spans
      first | rw [if_pos (by omega)] | rw [if_neg (by omega)]
  · rw [decide_eq_false hT4]
    refine gi_if_eq 15 dX8_spans_4 (by decide) ⟨by decide, by decide⟩ (fun _ => ?_) (fun cc => absurd cc (by decide))
    refine g_iconst (iI (-1)) dX8_spans_15 rfl ?_
    refine g_iret dX8_spans_16 rfl (Nat.le_of_ble_eq_true rfl) (Nat.le_of_ble_eq_true rfl) ⟨_, ?_, rfl, by first | exact r21 | exact r9 | exact hR⟩
    unfold A_spans
    first | rw [if_pos (by omega)] | rw [if_neg (by omega)]
set_option maxHeartbeats 4000000 in
set_option maxRecDepth 100000 in
theorem k_X8_text (Z : LZ) (a : Nat → Nat) (C : Mem) (fS fA : Nat → Option Nat) {D : Mem} (sa sb : Nat → Nat) (N : Nat) (hG : Good D) (hI : Inv D) (hR : Rel D C fS fA sa N) (p x y : Int) (hp : Rg p) (hx : Rg x) (hy : Rg y) : Tr Z jX8_text [.ref (a 99), .int (iI p), .int (iI x), .int (iI y)] (cW Z a C fS fA (sW Z D sa sb N)) (fun r w => ∃ C2 : Mem, r = some (.int (iI (A_text D p x y))) ∧ w = cW Z a C2 fS fA (sW Z D sa sb N) ∧ Rel D C2 fS fA sa N) := by
  refine tr_of pn_X8_text (Nat.le_of_ble_eq_true rfl) (by intro v h; simp only [List.mem_cons, List.not_mem_nil, or_false] at h; rcases h with h | h | h | h <;> rw [h] <;> rfl) ?_
  have hB := hR.1
  have hn := hB.n
  have h9 := hB.d9
  have hM := hG.1.1
  refine g_aload_n 0 dX8_text_0 rfl rfl ?_
  refine g_iload_n 1 dX8_text_1 rfl rfl ?_
  refine ckY lkX8_180 (k_X8_read Z a C fS fA sa sb N hG hI hR p hp) dX8_text_2 (And.intro (Nat.le_of_ble_eq_true rfl) (Nat.le_of_ble_eq_true rfl)) (ci := 7) (q0 := 0) rfl rfl (Nat.le_of_ble_eq_true rfl) rfl rfl (Nat.le_of_ble_eq_true rfl) (Nat.le_of_ble_eq_true rfl) rfl (fun C2 h2 => ?_)
  by_cases hPp : 0 ≤ p ∧ p < 6
  · rw [decide_eq_true hPp]
    have d2 := h2.2 hPp
    have r2 := h2.1
    have hl := ordF_len hG.1 hG.2.1 (tkB_Cl hG.1 p)
    have htx := txtN_rg hG.1 hG.2.1 (tkB_Cl hG.1 p)
    have h78 := d2.2.2.2.2.1
    have h77 := d2.2.1.1.1
    refine gi_if_eq 19 dX8_text_5 (by decide) ⟨by decide, by decide⟩ (fun cc => absurd cc (by decide)) (fun _ => ?_)
    refine g_aload_n 0 dX8_text_8 rfl rfl ?_
    refine cg_mp_reading dX8_text_9 flX8_30 ?_
    refine g_iload_n 2 dX8_text_12 rfl rfl ?_
    refine ckE lkX8_182 (k_X3_isPlace Z a C2 fS fA _ x hx (by rw [h78]; exact ⟨by omega, by omega⟩)) dX8_text_13 (And.intro (Nat.le_of_ble_eq_true rfl) (Nat.le_of_ble_eq_true rfl)) (ci := 3) (q0 := 30) rfl rfl (Nat.le_of_ble_eq_true rfl) rfl rfl (Nat.le_of_ble_eq_true rfl) (Nat.le_of_ble_eq_true rfl) rfl ?_
    by_cases hq0 : 0 ≤ x ∧ x < C2 78 0
    · rw [decide_eq_true hq0]
      have hq := hq0
      rw [h78] at hq
      have hat := atF_in (D := D) (T := tkB D p) hq.1 hq.2
      have hfo := fF_ord hG.1 hG.2.1 (T := tkB D p) hat.1 hat.2.1
      refine gi_if_ne 21 dX8_text_16 (by decide) ⟨by decide, by decide⟩ (fun _ => ?_) (fun cc => absurd cc (by decide))
      refine g_iload_n 3 dX8_text_21 rfl rfl ?_
      by_cases w22_0 : y = 0
      · rw [w22_0]
        refine g_tableIn 52 dX8_text_22 (by decide) (by decide) rfl (by decide) ?_
        refine g_aload_n 0 dX8_text_52 rfl rfl ?_
        refine cg_mp_book dX8_text_53 flX8_12 ?_
        refine g_aload_n 0 dX8_text_56 rfl rfl ?_
        refine cg_mp_reading dX8_text_57 flX8_30 ?_
        refine g_iload_n 2 dX8_text_60 rfl rfl ?_
        refine ckE lkX8_69 (k_X3_nameAt Z a C2 fS fA sa sb N hG (tkB_Cl hG.1 p) d2 x hx) dX8_text_61 (And.intro (Nat.le_of_ble_eq_true rfl) (Nat.le_of_ble_eq_true rfl)) (ci := 3) (q0 := 30) rfl rfl (Nat.le_of_ble_eq_true rfl) rfl rfl (Nat.le_of_ble_eq_true rfl) (Nat.le_of_ble_eq_true rfl) rfl ?_
        rw [if_pos hq]
        refine ckE lkX8_185 (k_X0_codeOf Z a C2 fS fA sa sb N hG r2.1 (nmX D (tkB D p) x) ⟨hfo.1, hfo.2.1, hfo.2.2.1, hfo.2.2.2.2⟩) dX8_text_64 (And.intro (Nat.le_of_ble_eq_true rfl) (Nat.le_of_ble_eq_true rfl)) (ci := 0) (q0 := 1) rfl rfl (Nat.le_of_ble_eq_true rfl) rfl rfl (Nat.le_of_ble_eq_true rfl) (Nat.le_of_ble_eq_true rfl) rfl ?_
        refine g_iret dX8_text_67 rfl (Nat.le_of_ble_eq_true rfl) (Nat.le_of_ble_eq_true rfl) ⟨_, ?_, rfl, by first | exact r81 | exact r2 | exact hR⟩
        unfold A_text
        rw [if_pos ⟨hPp, hq⟩, if_pos rfl]
        rfl
      by_cases w22_1 : y = 1
      · rw [w22_1]
        refine g_tableIn 68 dX8_text_22 (by decide) (by decide) rfl (by decide) ?_
        refine g_aload_n 0 dX8_text_68 rfl rfl ?_
        refine cg_mp_reading dX8_text_69 flX8_30 ?_
        refine g_iload_n 2 dX8_text_72 rfl rfl ?_
        refine ckE lkX8_69 (k_X3_nameAt Z a C2 fS fA sa sb N hG (tkB_Cl hG.1 p) d2 x hx) dX8_text_73 (And.intro (Nat.le_of_ble_eq_true rfl) (Nat.le_of_ble_eq_true rfl)) (ci := 3) (q0 := 30) rfl rfl (Nat.le_of_ble_eq_true rfl) rfl rfl (Nat.le_of_ble_eq_true rfl) (Nat.le_of_ble_eq_true rfl) rfl ?_
        rw [if_pos hq]
        refine g_iret dX8_text_76 rfl (Nat.le_of_ble_eq_true rfl) (Nat.le_of_ble_eq_true rfl) ⟨_, ?_, rfl, by first | exact r81 | exact r2 | exact hR⟩
        unfold A_text
        rw [if_pos ⟨hPp, hq⟩, if_neg (by decide), if_pos rfl]
        rfl
      by_cases w22_2 : y = 2
      · rw [w22_2]
        refine g_tableIn 77 dX8_text_22 (by decide) (by decide) rfl (by decide) ?_
        refine g_aload_n 0 dX8_text_77 rfl rfl ?_
        refine cg_mp_reading dX8_text_78 flX8_30 ?_
        refine ckX lkX8_188 (k_X3_paint Z a C2 fS fA sa sb N hG hI.2.2.1 r2.1 (tkB_Cl hG.1 p) (tk_M hG h9 p) d2) dX8_text_81 (And.intro (Nat.le_of_ble_eq_true rfl) (Nat.le_of_ble_eq_true rfl)) (ci := 3) (q0 := 30) rfl rfl (Nat.le_of_ble_eq_true rfl) rfl rfl (Nat.le_of_ble_eq_true rfl) (Nat.le_of_ble_eq_true rfl) rfl (fun C81 h81 => ?_)
        have d81 : Rd D (tkB D p) N C81 := by
          unfold Rd Sd Od Kd Vd at d2 ⊢
          rw [h81.1 70 (by decide), h81.1 77 (by decide), h81.1 71 (by decide), h81.1 72 (by decide), h81.1 73 (by decide), h81.1 74 (by decide), h81.1 78 (by decide), h81.1 75 (by decide)]
          exact d2
        have r81 : Rel D C81 fS fA sa N := ⟨r2.1.keep (fun r hr => h81.1 r (by omega)), fun x a b c => by rw [h81.1 72 (by decide)]; exact r2.2 x a b c⟩
        refine g_aload_n 0 dX8_text_84 rfl rfl ?_
        refine cg_mp_reading dX8_text_85 flX8_30 ?_
        refine g_iload_n 2 dX8_text_88 rfl rfl ?_
        refine ckE lkX8_191 (k_X3_tintsAt Z a C81 fS fA sa sb N hG (tkB_Cl hG.1 p) d81 h81.2 x hx) dX8_text_89 (And.intro (Nat.le_of_ble_eq_true rfl) (Nat.le_of_ble_eq_true rfl)) (ci := 3) (q0 := 30) rfl rfl (Nat.le_of_ble_eq_true rfl) rfl rfl (Nat.le_of_ble_eq_true rfl) (Nat.le_of_ble_eq_true rfl) rfl ?_
        rw [if_pos hq]
        refine g_iret dX8_text_92 rfl (Nat.le_of_ble_eq_true rfl) (Nat.le_of_ble_eq_true rfl) ⟨_, ?_, rfl, by first | exact r81 | exact r2 | exact hR⟩
        unfold A_text
        rw [if_pos ⟨hPp, hq⟩, if_neg (by decide), if_neg (by decide), if_pos rfl]
        rfl
      by_cases w22_3 : y = 3
      · rw [w22_3]
        refine g_tableIn 93 dX8_text_22 (by decide) (by decide) rfl (by decide) ?_
        refine g_aload_n 0 dX8_text_93 rfl rfl ?_
        refine cg_mp_book dX8_text_94 flX8_12 ?_
        refine g_aload_n 0 dX8_text_97 rfl rfl ?_
        refine cg_mp_reading dX8_text_98 flX8_30 ?_
        refine g_iload_n 2 dX8_text_101 rfl rfl ?_
        refine ckE lkX8_69 (k_X3_nameAt Z a C2 fS fA sa sb N hG (tkB_Cl hG.1 p) d2 x hx) dX8_text_102 (And.intro (Nat.le_of_ble_eq_true rfl) (Nat.le_of_ble_eq_true rfl)) (ci := 3) (q0 := 30) rfl rfl (Nat.le_of_ble_eq_true rfl) rfl rfl (Nat.le_of_ble_eq_true rfl) (Nat.le_of_ble_eq_true rfl) rfl ?_
        rw [if_pos hq]
        refine ckE lkX8_194 (k_X0_penOf Z a C2 fS fA sa sb N hG r2.1 (nmX D (tkB D p) x) ⟨hfo.1, hfo.2.1, hfo.2.2.1, hfo.2.2.2.2⟩) dX8_text_105 (And.intro (Nat.le_of_ble_eq_true rfl) (Nat.le_of_ble_eq_true rfl)) (ci := 0) (q0 := 1) rfl rfl (Nat.le_of_ble_eq_true rfl) rfl rfl (Nat.le_of_ble_eq_true rfl) (Nat.le_of_ble_eq_true rfl) rfl ?_
        refine g_iret dX8_text_108 rfl (Nat.le_of_ble_eq_true rfl) (Nat.le_of_ble_eq_true rfl) ⟨_, ?_, rfl, by first | exact r81 | exact r2 | exact hR⟩
        unfold A_text
        rw [if_pos ⟨hPp, hq⟩, if_neg (by decide), if_neg (by decide), if_neg (by decide), if_pos rfl]
        rfl
      · refine g_tableOut 109 dX8_text_22 (by rw [iI_toInt hy]; omega) (by decide) ?_
        refine g_iconst (iI (-1)) dX8_text_109 rfl ?_
        refine g_iret dX8_text_110 rfl (Nat.le_of_ble_eq_true rfl) (Nat.le_of_ble_eq_true rfl) ⟨_, ?_, rfl, by first | exact r81 | exact r2 | exact hR⟩
        unfold A_text
        rw [if_pos ⟨hPp, hq⟩, if_neg w22_0, if_neg w22_1, if_neg w22_2, if_neg w22_3]
    · rw [decide_eq_false hq0]
      rw [h78] at hq0
      refine gi_if_ne 21 dX8_text_16 (by decide) ⟨by decide, by decide⟩ (fun cc => absurd cc (by decide)) (fun _ => ?_)
      refine g_iconst (iI (-1)) dX8_text_19 rfl ?_
      refine g_iret dX8_text_20 rfl (Nat.le_of_ble_eq_true rfl) (Nat.le_of_ble_eq_true rfl) ⟨_, ?_, rfl, by first | exact r81 | exact r2 | exact hR⟩
      unfold A_text
      rw [if_neg (by omega)]
  · rw [decide_eq_false hPp]
    have r2 := h2.1
    refine gi_if_eq 19 dX8_text_5 (by decide) ⟨by decide, by decide⟩ (fun _ => ?_) (fun cc => absurd cc (by decide))
    refine g_iconst (iI (-1)) dX8_text_19 rfl ?_
    refine g_iret dX8_text_20 rfl (Nat.le_of_ble_eq_true rfl) (Nat.le_of_ble_eq_true rfl) ⟨_, ?_, rfl, by first | exact r81 | exact r2 | exact hR⟩
    unfold A_text
    rw [if_neg (by omega)]
set_option maxHeartbeats 4000000 in
set_option maxRecDepth 100000 in
theorem k_X8_asOf (Z : LZ) (a : Nat → Nat) (C : Mem) (fS fA : Nat → Option Nat) {D : Mem} (sa sb : Nat → Nat) (N : Nat) (hG : Good D) (hI : Inv D) (hR : Rel D C fS fA sa N) (p v x : Int) (hp : Rg p) (hv : Rg v) (hx : Rg x) : Tr Z jX8_asOf [.ref (a 99), .int (iI p), .int (iI v), .int (iI x)] (cW Z a C fS fA (sW Z D sa sb N)) (fun r w => ∃ C2 : Mem, r = some (.int (iI (A_asOf D p v x))) ∧ w = cW Z a C2 fS fA (sW Z D sa sb N) ∧ Rel D C2 fS fA sa N) := by
  refine tr_of pn_X8_asOf (Nat.le_of_ble_eq_true rfl) (by intro v h; simp only [List.mem_cons, List.not_mem_nil, or_false] at h; rcases h with h | h | h | h <;> rw [h] <;> rfl) ?_
  have hB := hR.1
  have hn := hB.n
  have h9 := hB.d9
  have hM := hG.1.1
  refine g_aload_n 0 dX8_asOf_0 rfl rfl ?_
  refine g_iload_n 1 dX8_asOf_1 rfl rfl ?_
  refine ckE lkX8_42 (k_X8_sheetOf Z a C fS fA _ p hp) dX8_asOf_2 (And.intro (Nat.le_of_ble_eq_true rfl) (Nat.le_of_ble_eq_true rfl)) (ci := 7) (q0 := 0) rfl rfl (Nat.le_of_ble_eq_true rfl) rfl rfl (Nat.le_of_ble_eq_true rfl) (Nat.le_of_ble_eq_true rfl) rfl ?_
  by_cases hPp : 0 ≤ p ∧ p < 6
  · rw [if_pos hPp]
    have hnp : p.toNat < 6 := by omega
    have hep : ((p.toNat : Nat) : Int) = p := by omega
    refine g_astore dX8_asOf_5 (Nat.le_of_ble_eq_true rfl) (Nat.le_of_ble_eq_true rfl) rfl ?_
    dsimp only [sto]
    refine g_aload dX8_asOf_7 rfl ?_
    refine g_ifnonnull 14 dX8_asOf_9 (by decide) ?_
    refine g_aload_n 0 dX8_asOf_14 rfl rfl ?_
    refine cg_mp_reading dX8_asOf_15 flX8_30 ?_
    refine g_aload dX8_asOf_18 rfl ?_
    refine g_iload_n 2 dX8_asOf_20 rfl rfl ?_
    refine ckX lkX8_50 (k_X3_read Z a C fS fA sa sb N hG hI.1 hR.1 hR.2 (asT D p v) (asT_Cl hG.1 hG.2.1 p v) (as_U hG hI.2.1 h9 p v) p.toNat hnp v hv (fun s _ => by rw [hep]; rfl)) dX8_asOf_21 (And.intro (Nat.le_of_ble_eq_true rfl) (Nat.le_of_ble_eq_true rfl)) (ci := 3) (q0 := 30) rfl rfl (Nat.le_of_ble_eq_true rfl) rfl rfl (Nat.le_of_ble_eq_true rfl) (Nat.le_of_ble_eq_true rfl) rfl (fun C21 h21 => ?_)
    have r21 : Rel D C21 fS fA sa N := hR.rd h21.1 h21.2.1
    have d21 := h21.2.2
    have htx := txtN_rg hG.1 hG.2.1 (asT_Cl hG.1 hG.2.1 p v)
    have h78 := d21.2.2.2.2.1
    refine g_aload_n 0 dX8_asOf_24 rfl rfl ?_
    refine cg_mp_reading dX8_asOf_25 flX8_30 ?_
    refine g_iload_n 3 dX8_asOf_28 rfl rfl ?_
    refine ckE lkX8_182 (k_X3_isPlace Z a C21 fS fA _ x hx (by rw [h78]; exact ⟨by omega, by omega⟩)) dX8_asOf_29 (And.intro (Nat.le_of_ble_eq_true rfl) (Nat.le_of_ble_eq_true rfl)) (ci := 3) (q0 := 30) rfl rfl (Nat.le_of_ble_eq_true rfl) rfl rfl (Nat.le_of_ble_eq_true rfl) (Nat.le_of_ble_eq_true rfl) rfl ?_
    by_cases hq0 : 0 ≤ x ∧ x < C21 78 0
    · rw [decide_eq_true hq0]
      have hq := hq0
      rw [h78] at hq
      have hat := atF_in (D := D) (T := asT D p v) hq.1 hq.2
      have hfo := fF_ord hG.1 hG.2.1 (T := asT D p v) hat.1 hat.2.1
      refine gi_if_eq 53 dX8_asOf_32 (by decide) ⟨by decide, by decide⟩ (fun cc => absurd cc (by decide)) (fun _ => ?_)
      refine g_aload_n 0 dX8_asOf_35 rfl rfl ?_
      refine cg_mp_book dX8_asOf_36 flX8_12 ?_
      refine g_aload_n 0 dX8_asOf_39 rfl rfl ?_
      refine cg_mp_reading dX8_asOf_40 flX8_30 ?_
      refine g_iload_n 3 dX8_asOf_43 rfl rfl ?_
      refine ckE lkX8_69 (k_X3_nameAt Z a C21 fS fA sa sb N hG (asT_Cl hG.1 hG.2.1 p v) d21 x hx) dX8_asOf_44 (And.intro (Nat.le_of_ble_eq_true rfl) (Nat.le_of_ble_eq_true rfl)) (ci := 3) (q0 := 30) rfl rfl (Nat.le_of_ble_eq_true rfl) rfl rfl (Nat.le_of_ble_eq_true rfl) (Nat.le_of_ble_eq_true rfl) rfl ?_
      rw [if_pos hq]
      refine ckE lkX8_185 (k_X0_codeOf Z a C21 fS fA sa sb N hG r21.1 (nmX D (asT D p v) x) ⟨hfo.1, hfo.2.1, hfo.2.2.1, hfo.2.2.2.2⟩) dX8_asOf_47 (And.intro (Nat.le_of_ble_eq_true rfl) (Nat.le_of_ble_eq_true rfl)) (ci := 0) (q0 := 1) rfl rfl (Nat.le_of_ble_eq_true rfl) rfl rfl (Nat.le_of_ble_eq_true rfl) (Nat.le_of_ble_eq_true rfl) rfl ?_
      refine g_goto 54 dX8_asOf_50 (by decide) ?_
      refine g_iret dX8_asOf_54 rfl (Nat.le_of_ble_eq_true rfl) (Nat.le_of_ble_eq_true rfl) ⟨_, ?_, rfl, by first | exact r21 | exact hR⟩
      unfold A_asOf
      rw [if_pos ⟨hPp, hq⟩]
      rfl
    · rw [decide_eq_false hq0]
      rw [h78] at hq0
      refine gi_if_eq 53 dX8_asOf_32 (by decide) ⟨by decide, by decide⟩ (fun _ => ?_) (fun cc => absurd cc (by decide))
      refine g_iconst (iI (-1)) dX8_asOf_53 rfl ?_
      refine g_iret dX8_asOf_54 rfl (Nat.le_of_ble_eq_true rfl) (Nat.le_of_ble_eq_true rfl) ⟨_, ?_, rfl, by first | exact r21 | exact hR⟩
      unfold A_asOf
      rw [if_neg (by omega)]
  · rw [if_neg hPp]
    refine g_astoreN dX8_asOf_5 (Nat.le_of_ble_eq_true rfl) (Nat.le_of_ble_eq_true rfl) rfl ?_
    dsimp only [sto]
    refine g_aloadN dX8_asOf_7 rfl ?_
    refine g_ifnonnullN dX8_asOf_9 ?_
    refine g_iconst (iI (-1)) dX8_asOf_12 rfl ?_
    refine g_iret dX8_asOf_13 rfl (Nat.le_of_ble_eq_true rfl) (Nat.le_of_ble_eq_true rfl) ⟨_, ?_, rfl, by first | exact r21 | exact hR⟩
    unfold A_asOf
    rw [if_neg (by omega)]
set_option maxHeartbeats 4000000 in
set_option maxRecDepth 100000 in
theorem k_X8_where (Z : LZ) (a : Nat → Nat) (C : Mem) (fS fA : Nat → Option Nat) {D : Mem} (sa sb : Nat → Nat) (N : Nat) (hG : Good D) (hI : Inv D) (hR : Rel D C fS fA sa N) (p c : Int) (hp : Rg p) (hc : Rg c) : Tr Z jX8_where [.ref (a 99), .int (iI p), .int (iI c)] (cW Z a C fS fA (sW Z D sa sb N)) (fun r w => ∃ C2 : Mem, r = some (.int (iI (A_where D p c))) ∧ w = cW Z a C2 fS fA (sW Z D sa sb N) ∧ Rel D C2 fS fA sa N) := by
  refine tr_of pn_X8_where (Nat.le_of_ble_eq_true rfl) (by intro v h; simp only [List.mem_cons, List.not_mem_nil, or_false] at h; rcases h with h | h | h <;> rw [h] <;> rfl) ?_
  have hB := hR.1
  have hn := hB.n
  have h9 := hB.d9
  have hM := hG.1.1
  refine g_aload_n 0 dX8_where_0 rfl rfl ?_
  refine g_iload_n 1 dX8_where_1 rfl rfl ?_
  refine ckE lkX8_42 (k_X8_sheetOf Z a C fS fA _ p hp) dX8_where_2 (And.intro (Nat.le_of_ble_eq_true rfl) (Nat.le_of_ble_eq_true rfl)) (ci := 7) (q0 := 0) rfl rfl (Nat.le_of_ble_eq_true rfl) rfl rfl (Nat.le_of_ble_eq_true rfl) (Nat.le_of_ble_eq_true rfl) rfl ?_
  by_cases hPp : 0 ≤ p ∧ p < 6
  · rw [if_pos hPp]
    have hnp : p.toNat < 6 := by omega
    have hep : ((p.toNat : Nat) : Int) = p := by omega
    refine g_astore_n 3 dX8_where_5 rfl (Nat.le_of_ble_eq_true rfl) (Nat.le_of_ble_eq_true rfl) rfl ?_
    dsimp only [sto]
    refine g_aload_n 3 dX8_where_6 rfl rfl ?_
    refine g_ifnull dX8_where_7 ?_
    refine g_iload_n 2 dX8_where_10 rfl rfl ?_
    refine ckS lkX8_229 (k_X8_isCursor Z a C fS fA _ c hc) dX8_where_11 (And.intro (Nat.le_of_ble_eq_true rfl) (Nat.le_of_ble_eq_true rfl)) (Nat.le_of_ble_eq_true rfl) rfl rfl (Nat.le_of_ble_eq_true rfl) (Nat.le_of_ble_eq_true rfl) rfl ?_
    by_cases hK3 : 0 ≤ c ∧ c < 3
    · rw [decide_eq_true hK3]
      have hec : ((c.toNat : Nat) : Int) = c := by omega
      have hl40 : C (40 + p.toNat) c = D 12 (3 * p + c) := by
        have g := (hB.cur p.toNat c.toNat hnp (by omega)).1
        rw [hep, hec] at g
        exact g
      refine gi_if_eq 27 dX8_where_14 (by decide) ⟨by decide, by decide⟩ (fun cc => absurd cc (by decide)) (fun _ => ?_)
      refine g_aload_n 3 dX8_where_17 rfl rfl ?_
      refine cg_sh_leans p.toNat hnp dX8_where_18 flX8_235 ?_
      refine g_iload_n 2 dX8_where_21 rfl rfl ?_
      refine ca_leans p.toNat hnp hl40 dX8_where_22 (by omega) (by omega) ?_
      refine g_iconst (iI (-1)) dX8_where_23 rfl ?_
      refine gi_icmp_ne 29 dX8_where_24 (by decide) (hM _ _) ⟨by decide, by decide⟩ (fun c24 => ?_) (fun c24 => ?_)
      · have hcu := hG.2.2.2.2 p c hPp.1 hPp.2 hK3.1 hK3.2
        have hci := hI.2.2.2.2 p c hPp.1 hPp.2 hK3.1 hK3.2
        have h12 : 0 ≤ D 12 (3 * p + c) := by omega
        have hb11 := (hB.cur p.toNat c.toNat hnp (by omega)).2
        rw [hep, hec] at hb11
        have hb11 := hb11 h12
        have hcu2 := hcu h12
        refine g_aload_n 0 dX8_where_29 rfl rfl ?_
        refine cg_mp_reading dX8_where_30 flX8_30 ?_
        refine g_aload_n 3 dX8_where_33 rfl rfl ?_
        refine g_sipush (iI 256) dX8_where_34 (by decide) ?_
        refine ckX lkX8_50 (k_X3_read Z a C fS fA sa sb N hG hI.1 hR.1 hR.2 (tkB D p) (tkB_Cl hG.1 p) (tk_U hG h9 p) p.toNat hnp 256 ⟨by decide, by decide⟩ (tk_T hG h9 hn hep)) dX8_where_37 (And.intro (Nat.le_of_ble_eq_true rfl) (Nat.le_of_ble_eq_true rfl)) (ci := 3) (q0 := 30) rfl rfl (Nat.le_of_ble_eq_true rfl) rfl rfl (Nat.le_of_ble_eq_true rfl) (Nat.le_of_ble_eq_true rfl) rfl (fun C36 h36 => ?_)
        have r36 : Rel D C36 fS fA sa N := hR.rd h36.1 h36.2.1
        have d36 := h36.2.2
        have hl := ordF_len hG.1 hG.2.1 (tkB_Cl hG.1 p)
        have htx := txtN_rg hG.1 hG.2.1 (tkB_Cl hG.1 p)
        have h78 := d36.2.2.2.2.1
        refine g_aload_n 3 dX8_where_40 rfl rfl ?_
        refine cg_sh_leans p.toNat hnp dX8_where_41 flX8_235 ?_
        refine g_iload_n 2 dX8_where_44 rfl rfl ?_
        refine ca_leans p.toNat hnp ((congrFun (h36.1 _ (by omega)) _).trans hl40) dX8_where_45 (by omega) (by omega) ?_
        refine gi_if_ne 53 dX8_where_46 (by decide) (hM _ _) (fun c45 => ?_) (fun c45 => ?_)
        · refine g_iconst (iI 0) dX8_where_53 rfl ?_
          refine g_istore dX8_where_54 (Nat.le_of_ble_eq_true rfl) (Nat.le_of_ble_eq_true rfl) rfl ?_
          dsimp only [sto]
          refine g_aload_n 0 dX8_where_56 rfl rfl ?_
          refine cg_mp_reading dX8_where_57 flX8_30 ?_
          refine g_aload_n 3 dX8_where_60 rfl rfl ?_
          refine cg_sh_beside p.toNat hnp dX8_where_61 flX8_232 ?_
          refine g_iload_n 2 dX8_where_64 rfl rfl ?_
          refine ca_beside p.toNat hnp ((congrFun (h36.1 _ (by omega)) _).trans hb11) dX8_where_65 (by omega) (by omega) ?_
          refine ckE lkX8_203 (k_X3_spotOf Z a C36 fS fA sa sb N hG d36.2.1 (D 11 (3 * p + c)) (hM _ _)) dX8_where_66 (And.intro (Nat.le_of_ble_eq_true rfl) (Nat.le_of_ble_eq_true rfl)) (ci := 3) (q0 := 30) rfl rfl (Nat.le_of_ble_eq_true rfl) rfl rfl (Nat.le_of_ble_eq_true rfl) (Nat.le_of_ble_eq_true rfl) rfl ?_
          have hix := inIx_rg (ordF D (tkB D p)) (D 11 (3 * p + c))
          refine g_istore dX8_where_69 (Nat.le_of_ble_eq_true rfl) (Nat.le_of_ble_eq_true rfl) rfl ?_
          dsimp only [sto]
          refine g_iload dX8_where_71 rfl ?_
          refine g_iconst (iI (-1)) dX8_where_73 rfl ?_
          refine gi_icmp_ne 94 dX8_where_74 (by decide) (by first | exact bI_Rg _ | assumption | exact ⟨by omega, by omega⟩) (by first | exact bI_Rg _ | assumption | exact ⟨by omega, by omega⟩) (fun c73 => ?_) (fun c73 => ?_)
          · have hin : D 11 (3 * p + c) ∈ ordF D (tkB D p) := by
              rcases hcu2.2 with q | q
              · exfalso
                rw [q, inIx_out (fun g => by have := ord_lt hG g; omega)] at c73
                exact c73 rfl
              · exact q
            have hne : ¬ D 11 (3 * p + c) = -2 := by have := ord_lt hG hin; omega
            have hah := d36.2.2.2.1 (inIx (ordF D (tkB D p)) (D 11 (3 * p + c))).toNat (by omega)
            rw [show (((inIx (ordF D (tkB D p)) (D 11 (3 * p + c))).toNat : Nat) : Int) = inIx (ordF D (tkB D p)) (D 11 (3 * p + c)) by omega] at hah
            have hah2 := d36.2.2.2.1 (inIx (ordF D (tkB D p)) (D 11 (3 * p + c)) + 1).toNat (by omega)
            rw [show (((inIx (ordF D (tkB D p)) (D 11 (3 * p + c)) + 1).toNat : Nat) : Int) = inIx (ordF D (tkB D p)) (D 11 (3 * p + c)) + 1 by omega] at hah2
            refine g_iload dX8_where_94 rfl ?_
            refine gi_if_eq 114 dX8_where_96 (by decide) ⟨by decide, by decide⟩ (fun _ => ?_) (fun cc => absurd cc (by decide))
            refine g_aload_n 0 dX8_where_114 rfl rfl ?_
            refine cg_mp_reading dX8_where_115 flX8_30 ?_
            refine cg_rd_ahead dX8_where_118 flX8_209 ?_
            refine g_iload dX8_where_121 rfl ?_
            refine ca_74 hah dX8_where_123 (by omega) (by omega) ?_
            refine g_iret dX8_where_124 rfl (Nat.le_of_ble_eq_true rfl) (Nat.le_of_ble_eq_true rfl) ⟨_, ?_, rfl, by first | exact r36 | exact hR⟩
            unfold A_where
            rw [if_pos ⟨hPp, hK3, by omega⟩]
            rw [if_neg (by omega), if_neg (by omega)]
          · have hne : D 11 (3 * p + c) = -2 := by
              rcases hcu2.2 with q | q
              · exact q
              · have := inIx_mem q
                omega
            refine g_iload dX8_where_77 rfl ?_
            refine gi_if_eq 86 dX8_where_79 (by decide) ⟨by decide, by decide⟩ (fun _ => ?_) (fun cc => absurd cc (by decide))
            refine g_aload_n 0 dX8_where_86 rfl rfl ?_
            refine cg_mp_reading dX8_where_87 flX8_30 ?_
            refine cg_rd_textSize h78 dX8_where_90 flX8_58 ?_
            refine g_iret dX8_where_93 rfl (Nat.le_of_ble_eq_true rfl) (Nat.le_of_ble_eq_true rfl) ⟨_, ?_, rfl, by first | exact r36 | exact hR⟩
            unfold A_where
            rw [if_pos ⟨hPp, hK3, by omega⟩]
            rw [if_pos (by omega), if_neg (by omega)]
        · refine g_iconst (iI 1) dX8_where_49 rfl ?_
          refine g_goto 54 dX8_where_50 (by decide) ?_
          refine g_istore dX8_where_54 (Nat.le_of_ble_eq_true rfl) (Nat.le_of_ble_eq_true rfl) rfl ?_
          dsimp only [sto]
          refine g_aload_n 0 dX8_where_56 rfl rfl ?_
          refine cg_mp_reading dX8_where_57 flX8_30 ?_
          refine g_aload_n 3 dX8_where_60 rfl rfl ?_
          refine cg_sh_beside p.toNat hnp dX8_where_61 flX8_232 ?_
          refine g_iload_n 2 dX8_where_64 rfl rfl ?_
          refine ca_beside p.toNat hnp ((congrFun (h36.1 _ (by omega)) _).trans hb11) dX8_where_65 (by omega) (by omega) ?_
          refine ckE lkX8_203 (k_X3_spotOf Z a C36 fS fA sa sb N hG d36.2.1 (D 11 (3 * p + c)) (hM _ _)) dX8_where_66 (And.intro (Nat.le_of_ble_eq_true rfl) (Nat.le_of_ble_eq_true rfl)) (ci := 3) (q0 := 30) rfl rfl (Nat.le_of_ble_eq_true rfl) rfl rfl (Nat.le_of_ble_eq_true rfl) (Nat.le_of_ble_eq_true rfl) rfl ?_
          have hix := inIx_rg (ordF D (tkB D p)) (D 11 (3 * p + c))
          refine g_istore dX8_where_69 (Nat.le_of_ble_eq_true rfl) (Nat.le_of_ble_eq_true rfl) rfl ?_
          dsimp only [sto]
          refine g_iload dX8_where_71 rfl ?_
          refine g_iconst (iI (-1)) dX8_where_73 rfl ?_
          refine gi_icmp_ne 94 dX8_where_74 (by decide) (by first | exact bI_Rg _ | assumption | exact ⟨by omega, by omega⟩) (by first | exact bI_Rg _ | assumption | exact ⟨by omega, by omega⟩) (fun c73 => ?_) (fun c73 => ?_)
          · have hin : D 11 (3 * p + c) ∈ ordF D (tkB D p) := by
              rcases hcu2.2 with q | q
              · exfalso
                rw [q, inIx_out (fun g => by have := ord_lt hG g; omega)] at c73
                exact c73 rfl
              · exact q
            have hne : ¬ D 11 (3 * p + c) = -2 := by have := ord_lt hG hin; omega
            have hah := d36.2.2.2.1 (inIx (ordF D (tkB D p)) (D 11 (3 * p + c))).toNat (by omega)
            rw [show (((inIx (ordF D (tkB D p)) (D 11 (3 * p + c))).toNat : Nat) : Int) = inIx (ordF D (tkB D p)) (D 11 (3 * p + c)) by omega] at hah
            have hah2 := d36.2.2.2.1 (inIx (ordF D (tkB D p)) (D 11 (3 * p + c)) + 1).toNat (by omega)
            rw [show (((inIx (ordF D (tkB D p)) (D 11 (3 * p + c)) + 1).toNat : Nat) : Int) = inIx (ordF D (tkB D p)) (D 11 (3 * p + c)) + 1 by omega] at hah2
            refine g_iload dX8_where_94 rfl ?_
            refine gi_if_eq 114 dX8_where_96 (by decide) ⟨by decide, by decide⟩ (fun cc => absurd cc (by decide)) (fun _ => ?_)
            refine g_aload_n 0 dX8_where_99 rfl rfl ?_
            refine cg_mp_reading dX8_where_100 flX8_30 ?_
            refine cg_rd_ahead dX8_where_103 flX8_209 ?_
            refine g_iload dX8_where_106 rfl ?_
            refine g_iconst (iI 1) dX8_where_108 rfl ?_
            refine gi_add dX8_where_109 ?_
            refine ca_74 hah2 dX8_where_110 (by omega) (by omega) ?_
            refine g_goto 124 dX8_where_111 (by decide) ?_
            refine g_iret dX8_where_124 rfl (Nat.le_of_ble_eq_true rfl) (Nat.le_of_ble_eq_true rfl) ⟨_, ?_, rfl, by first | exact r36 | exact hR⟩
            unfold A_where
            rw [if_pos ⟨hPp, hK3, by omega⟩]
            rw [if_neg (by omega), if_pos (by omega)]
          · have hne : D 11 (3 * p + c) = -2 := by
              rcases hcu2.2 with q | q
              · exact q
              · have := inIx_mem q
                omega
            refine g_iload dX8_where_77 rfl ?_
            refine gi_if_eq 86 dX8_where_79 (by decide) ⟨by decide, by decide⟩ (fun cc => absurd cc (by decide)) (fun _ => ?_)
            refine g_iconst (iI 0) dX8_where_82 rfl ?_
            refine g_goto 93 dX8_where_83 (by decide) ?_
            refine g_iret dX8_where_93 rfl (Nat.le_of_ble_eq_true rfl) (Nat.le_of_ble_eq_true rfl) ⟨_, ?_, rfl, by first | exact r36 | exact hR⟩
            unfold A_where
            rw [if_pos ⟨hPp, hK3, by omega⟩]
            rw [if_pos (by omega), if_pos (by omega)]
      · refine g_iconst (iI (-1)) dX8_where_27 rfl ?_
        refine g_iret dX8_where_28 rfl (Nat.le_of_ble_eq_true rfl) (Nat.le_of_ble_eq_true rfl) ⟨_, ?_, rfl, by first | exact r36 | exact hR⟩
        unfold A_where
        rw [if_neg (by omega)]
    · rw [decide_eq_false hK3]
      refine gi_if_eq 27 dX8_where_14 (by decide) ⟨by decide, by decide⟩ (fun _ => ?_) (fun cc => absurd cc (by decide))
      refine g_iconst (iI (-1)) dX8_where_27 rfl ?_
      refine g_iret dX8_where_28 rfl (Nat.le_of_ble_eq_true rfl) (Nat.le_of_ble_eq_true rfl) ⟨_, ?_, rfl, by first | exact r36 | exact hR⟩
      unfold A_where
      rw [if_neg (by omega)]
  · rw [if_neg hPp]
    refine g_astore_nN 3 dX8_where_5 rfl (Nat.le_of_ble_eq_true rfl) (Nat.le_of_ble_eq_true rfl) rfl ?_
    dsimp only [sto]
    refine g_aload_nN 3 dX8_where_6 rfl rfl ?_
    refine g_ifnullN 27 dX8_where_7 (by decide) ?_
    refine g_iconst (iI (-1)) dX8_where_27 rfl ?_
    refine g_iret dX8_where_28 rfl (Nat.le_of_ble_eq_true rfl) (Nat.le_of_ble_eq_true rfl) ⟨_, ?_, rfl, by first | exact r36 | exact hR⟩
    unfold A_where
    rw [if_neg (by omega)]
