/-! THE CLASS: strike, type -/
theorem allB_cg {P S : Int → Bool} {m : Nat} (h : ∀ i : Int, 0 ≤ i → i < m → P i = S i) : allB P 0 m = allB S 0 m := allB_congr m (fun u a b => h u a (by omega))
theorem k_namesFromI (Z : LZ) (a : Nat → Nat) (C : Mem) (fS fA : Nat → Option Nat) (W : va_W) {D : Mem} {N : Nat} (hG : Good D) {T : Int → Bool} (hC : Cl D T) (hR : Rd D T N C) (x y : Int) (h0 : 0 ≤ x) (hy : 0 ≤ y) (hm : y ≤ 12) (h1 : x + y ≤ txtN D T) : Tr Z jX3_namesFrom [.ref (a 102), .int (iI x), .int (iI y)] (cW Z a C fS fA W) (fun r w => ∃ (b : Nat) (g : Int → Int), r = some (.ref b) ∧ w = cW Z a C fS fA (W ++ [(b, .inl (Z.2 0, y.toNat, .inl (rowI g)))]) ∧ ∀ i : Int, 0 ≤ i → i < y → g i = nmX D T (x + i)) := by
  obtain ⟨m, rfl⟩ := Int.eq_ofNat_of_zero_le hy
  exact k_namesFrom Z a C fS fA W hG hC hR x m h0 (by omega) h1
set_option maxHeartbeats 4000000 in
set_option maxRecDepth 100000 in
theorem k_X8_strike (Z : LZ) (a : Nat → Nat) (C : Mem) (fS fA : Nat → Option Nat) {D : Mem} (sa sb : Nat → Nat) (N : Nat) (hG : Good D) (hI : Inv D) (hR : Rel D C fS fA sa N) (p x y : Int) (hp : Rg p) (hx : Rg x) (hy : Rg y) : Tr Z jX8_strike [.ref (a 99), .int (iI p), .int (iI x), .int (iI y)] (cW Z a C fS fA (sW Z D sa sb N)) (Pn Z a (A_strike D p x y).2 (A_strike D p x y).1) := by
  refine tr_of pn_X8_strike (Nat.le_of_ble_eq_true rfl) (by intro v h; simp only [List.mem_cons, List.not_mem_nil, or_false] at h; rcases h with h | h | h | h <;> rw [h] <;> rfl) ?_
  have hB := hR.1
  have hn := hB.n
  have h9 := hB.d9
  have hM := hG.1.1
  have hSD : ∀ s : Nat, s < N → okS D s := fun s hs => hG.s hB hs
  refine g_aload_n 0 dX8_strike_0 rfl rfl ?_
  refine g_iload_n 1 dX8_strike_1 rfl rfl ?_
  refine ckE lkX8_42 (k_X8_sheetOf Z a C fS fA _ p hp) dX8_strike_2 (And.intro (Nat.le_of_ble_eq_true rfl) (Nat.le_of_ble_eq_true rfl)) (ci := 7) (q0 := 0) rfl rfl (Nat.le_of_ble_eq_true rfl) rfl rfl (Nat.le_of_ble_eq_true rfl) (Nat.le_of_ble_eq_true rfl) rfl ?_
  by_cases hPp : 0 ≤ p ∧ p < 6
  · rw [if_pos hPp]
    have hnp : p.toNat < 6 := by omega
    have hep : ((p.toNat : Nat) : Int) = p := by omega
    refine g_astore dX8_strike_5 (Nat.le_of_ble_eq_true rfl) (Nat.le_of_ble_eq_true rfl) rfl ?_
    dsimp only [sto]
    refine g_aload dX8_strike_7 rfl ?_
    refine g_ifnonnull 18 dX8_strike_9 (by decide) ?_
    refine g_iload_n 3 dX8_strike_18 rfl rfl ?_
    refine gi_if_ge 28 dX8_strike_19 (by decide) (by first | exact bI_Rg _ | assumption | exact ⟨by omega, by omega⟩) (fun c19 => ?_) (fun c19 => ?_)
    · refine g_aload_n 0 dX8_strike_28 rfl rfl ?_
      refine cg_mp_reading dX8_strike_29 flX8_30 ?_
      refine g_aload dX8_strike_32 rfl ?_
      refine g_sipush (iI 256) dX8_strike_34 (by decide) ?_
      refine ckX lkX8_50 (k_X3_read Z a C fS fA sa sb N hG hI.1 hR.1 hR.2 (tkB D p) (tkB_Cl hG.1 p) (tk_U hG h9 p) p.toNat hnp 256 ⟨by decide, by decide⟩ (tk_T hG h9 hn hep)) dX8_strike_37 (And.intro (Nat.le_of_ble_eq_true rfl) (Nat.le_of_ble_eq_true rfl)) (ci := 3) (q0 := 30) rfl rfl (Nat.le_of_ble_eq_true rfl) rfl rfl (Nat.le_of_ble_eq_true rfl) (Nat.le_of_ble_eq_true rfl) rfl (fun C36 h36 => ?_)
      have r36 : Rel D C36 fS fA sa N := hR.rd h36.1 h36.2.1
      have d36 := h36.2.2
      have htx := txtN_rg hG.1 hG.2.1 (tkB_Cl hG.1 p)
      have h78 := d36.2.2.2.2.1
      have hl := ordF_len hG.1 hG.2.1 (tkB_Cl hG.1 p)
      refine g_iload_n 3 dX8_strike_40 rfl rfl ?_
      refine g_bipush (iI 12) dX8_strike_41 (by decide) ?_
      refine gi_icmp_gt 58 dX8_strike_43 (by decide) (by first | exact bI_Rg _ | assumption | exact ⟨by omega, by omega⟩) (by first | exact bI_Rg _ | assumption | exact ⟨by omega, by omega⟩) (fun c42 => ?_) (fun c42 => ?_)
      · refine g_aload_n 0 dX8_strike_58 rfl rfl ?_
        refine g_iconst (iI 1) dX8_strike_59 rfl ?_
        refine ckE lkX8_46 (k_X8_refuse Z a C36 fS fA _ 1) dX8_strike_60 (And.intro (Nat.le_of_ble_eq_true rfl) (Nat.le_of_ble_eq_true rfl)) (ci := 7) (q0 := 0) rfl rfl (Nat.le_of_ble_eq_true rfl) rfl rfl (Nat.le_of_ble_eq_true rfl) (Nat.le_of_ble_eq_true rfl) rfl ?_
        refine g_iret dX8_strike_63 rfl (Nat.le_of_ble_eq_true rfl) (Nat.le_of_ble_eq_true rfl) ?_
        have hA : A_strike D p x y = (-1, ms D 13 0 1) := by unfold A_strike; rw [if_pos hPp, if_neg (by omega), if_neg (by omega)]
        rw [hA]
        exact ⟨_, fS, fA, sa, sb, N, rfl, by rw [sW_fin], Rel_fin r36 1⟩
      · refine g_aload_n 0 dX8_strike_46 rfl rfl ?_
        refine cg_mp_reading dX8_strike_47 flX8_30 ?_
        refine g_iload_n 2 dX8_strike_50 rfl rfl ?_
        refine g_iload_n 3 dX8_strike_51 rfl rfl ?_
        refine ckE lkX8_84 (k_X3_hasStretch Z a C36 fS fA sa sb N hG (tkB_Cl hG.1 p) d36 x y hx hy) dX8_strike_52 (And.intro (Nat.le_of_ble_eq_true rfl) (Nat.le_of_ble_eq_true rfl)) (ci := 3) (q0 := 30) rfl rfl (Nat.le_of_ble_eq_true rfl) rfl rfl (Nat.le_of_ble_eq_true rfl) (Nat.le_of_ble_eq_true rfl) rfl ?_
        by_cases hst : 0 < y ∧ 0 ≤ x ∧ x ≤ txtN D (tkB D p) - y
        · rw [decide_eq_true hst]
          refine gi_if_ne 64 dX8_strike_55 (by decide) ⟨by decide, by decide⟩ (fun _ => ?_) (fun cc => absurd cc (by decide))
          have hcnd : (1 ≤ y ∧ y ≤ 12) ∧ (0 ≤ x ∧ 0 ≤ y ∧ y ≤ txtN D (tkB D p) ∧ x ≤ txtN D (tkB D p) - y) := ⟨by omega, by omega⟩
          refine g_aload_n 0 dX8_strike_64 rfl rfl ?_
          refine cg_mp_book dX8_strike_65 flX8_12 ?_
          refine ckE lkX8_65 (k_X0_isFull Z a C36 fS fA _ (by rw [r36.1.c1]; exact ⟨by omega, by omega⟩)) dX8_strike_68 (And.intro (Nat.le_of_ble_eq_true rfl) (Nat.le_of_ble_eq_true rfl)) (ci := 0) (q0 := 1) rfl rfl (Nat.le_of_ble_eq_true rfl) rfl rfl (Nat.le_of_ble_eq_true rfl) (Nat.le_of_ble_eq_true rfl) rfl ?_
          by_cases hfl : 256 ≤ C36 1 0
          · rw [decide_eq_true hfl]
            rw [r36.1.c1] at hfl
            refine gi_if_eq 80 dX8_strike_71 (by decide) ⟨by decide, by decide⟩ (fun cc => absurd cc (by decide)) (fun _ => ?_)
            refine g_aload_n 0 dX8_strike_74 rfl rfl ?_
            refine g_iconst (iI 2) dX8_strike_75 rfl ?_
            refine ckE lkX8_46 (k_X8_refuse Z a C36 fS fA _ 2) dX8_strike_76 (And.intro (Nat.le_of_ble_eq_true rfl) (Nat.le_of_ble_eq_true rfl)) (ci := 7) (q0 := 0) rfl rfl (Nat.le_of_ble_eq_true rfl) rfl rfl (Nat.le_of_ble_eq_true rfl) (Nat.le_of_ble_eq_true rfl) rfl ?_
            refine g_iret dX8_strike_79 rfl (Nat.le_of_ble_eq_true rfl) (Nat.le_of_ble_eq_true rfl) ?_
            have hA : A_strike D p x y = (-1, ms D 13 0 2) := by unfold A_strike; rw [if_pos hPp, if_neg (by omega), if_pos hcnd, if_pos (by omega)]
            rw [hA]
            exact ⟨_, fS, fA, sa, sb, N, rfl, by rw [sW_fin], Rel_fin r36 2⟩
          · rw [decide_eq_false hfl]
            rw [r36.1.c1] at hfl
            refine gi_if_eq 80 dX8_strike_71 (by decide) ⟨by decide, by decide⟩ (fun _ => ?_) (fun cc => absurd cc (by decide))
            refine g_aload_n 0 dX8_strike_80 rfl rfl ?_
            refine g_aload dX8_strike_81 rfl ?_
            refine g_newO 5 tyX6 [.int (iI 0), .int (iI 0), .int (iI 0), .int (iI 0), .null] dX8_strike_83 rfl fwX6 tyX6_ok clX8_88 isX6 inX6 dfv5 (Nat.le_of_ble_eq_true rfl) (Nat.le_of_ble_eq_true rfl) (fun q => ?_)
            rw [← cW_app]
            refine g_dup dX8_strike_86 rfl ?_
            refine g_aload_n 0 dX8_strike_87 rfl rfl ?_
            refine cg_mp_book dX8_strike_88 flX8_12 ?_
            refine cg_bk_count r36.1.c1 dX8_strike_91 flX8_74 ?_
            refine g_aload dX8_strike_94 rfl ?_
            refine g_aload_n 0 dX8_strike_96 rfl rfl ?_
            refine cg_mp_reading dX8_strike_97 flX8_30 ?_
            refine g_iload_n 2 dX8_strike_100 rfl rfl ?_
            refine g_iload_n 3 dX8_strike_101 rfl rfl ?_
            refine g_callVF (J := jX8_strike) (k := 0 + 1) (n := 0 + 5) (As := [.int (iI x), .int (iI y)]) (b := a 102) (st := [.ref (a (110 + p.toNat)), .int (iI (N : Int)), .ref q, .ref q, .ref (a (110 + p.toNat)), .ref (a 99)]) (ci := 3) (q0 := 30) lkX8_90 (k_namesFromI Z a C36 fS fA (sW Z D sa sb N ++ [(q, .inr (5, [.int (iI 0), .int (iI 0), .int (iI 0), .int (iI 0), .null]))]) hG (tkB_Cl hG.1 p) d36 x y (by omega) (by omega) (by omega) (by omega)) dX8_strike_102 (And.intro (Nat.le_of_ble_eq_true rfl) (Nat.le_of_ble_eq_true rfl)) rfl rfl (Nat.le_of_ble_eq_true rfl) (Nat.le_of_ble_eq_true rfl) (Nat.le_of_ble_eq_true rfl) (fun r w2 h => ?_) rfl
            obtain ⟨b, g, rfl, rfl, hg⟩ := h
            show G Z jX8_strike E0 _ 105 _ [.ref b, .ref (a (110 + p.toNat)), .int (iI (N : Int)), .ref q, .ref q, .ref (a (110 + p.toNat)), .ref (a 99)] _ (0 + 1 + 1) (0 + 5 + 12)
            rw [cW_app, cW_app, List.append_assoc]
            refine g_swap _ _ _ ?_
            rw [show ∀ (P : va_W) (u v : Nat × va_E), P ++ [u, v] = (P ++ [u]) ++ [v] from fun P u v => by simp, ← cW_app, ← cW_app]
            refine ckI lkX8_94 (k_init5 Z a C36 fS fA _ q N p.toNat hnp b) dX8_strike_105 (And.intro (Nat.le_of_ble_eq_true rfl) (Nat.le_of_ble_eq_true rfl)) (Nat.le_of_ble_eq_true rfl) rfl rfl (Nat.le_of_ble_eq_true rfl) (Nat.le_of_ble_eq_true rfl) rfl ?_
            obtain ⟨hA, hw, h3, h4⟩ := st_new hG (p := p) (f := x) (n := y) hp hy hPp hcnd (by omega)
            rw [hA]
            show G Z jX8_strike E0 (QM Z jX8_strike (Pn Z a (ms (stE D p x y) 13 0 0) (D 9 0))) 108 _ _ _ _ _
            rw [h9, cW_app, cW_app, List.append_assoc]
            refine g_swap _ _ _ ?_
            rw [h9] at h3 h4
            have hpn := pri_new hw.1 h9
            have e1 : stE D p x y 1 N = C36 (50 + p.toNat) 0 + 1 := by
              have g := hw.2.2.1
              rw [h9] at g
              rw [g, r36.1.mx p.toNat hnp, hep]
              show mxF D (tkB D p) (D 9 0).toNat + 1 = _
              rw [show (D 9 0).toNat = N by omega]
            have e2 : stE D p x y 2 N = 1 := by have g := hw.2.2.2.1; rwa [h9] at g
            refine g_cong (WC_new (sa := sa) (sb := sb) (q := q) (b := b) hw.1 h9 hSD ?_ ?_ (Or.inr e2)) ?_
            · rw [slC1 e2, hpn.1, hpn.2, e1, upN_at, r36.1.lt p.toNat hnp, hep]
            · unfold slA
              rw [h3]
              refine WC.arr (fun i hi => ?_)
              unfold rowI
              rw [e2, if_neg (by decide)]
              show iI (g i) = iI (stE D p x y 4 (12 * N + i))
              rw [hg i (by omega) (by omega), h4 i (by omega) (by omega)]
            · exact g_end (p := p.toNat) (E := stE D p x y) (upN_at sa N q) lkX8_80 dX8_strike_108 (And.intro (Nat.le_of_ble_eq_true rfl) (Nat.le_of_ble_eq_true rfl)) dX8_strike_111 rfl (Nat.le_of_ble_eq_true rfl) (Nat.le_of_ble_eq_true rfl) hnp hG (by rw [hep]; exact hw) (Rel_sa r36 (fun s hs => upN_lt hs)) (by omega)
        · rw [decide_eq_false hst]
          refine gi_if_ne 64 dX8_strike_55 (by decide) ⟨by decide, by decide⟩ (fun cc => absurd cc (by decide)) (fun _ => ?_)
          refine g_aload_n 0 dX8_strike_58 rfl rfl ?_
          refine g_iconst (iI 1) dX8_strike_59 rfl ?_
          refine ckE lkX8_46 (k_X8_refuse Z a C36 fS fA _ 1) dX8_strike_60 (And.intro (Nat.le_of_ble_eq_true rfl) (Nat.le_of_ble_eq_true rfl)) (ci := 7) (q0 := 0) rfl rfl (Nat.le_of_ble_eq_true rfl) rfl rfl (Nat.le_of_ble_eq_true rfl) (Nat.le_of_ble_eq_true rfl) rfl ?_
          refine g_iret dX8_strike_63 rfl (Nat.le_of_ble_eq_true rfl) (Nat.le_of_ble_eq_true rfl) ?_
          have hA : A_strike D p x y = (-1, ms D 13 0 1) := by unfold A_strike; rw [if_pos hPp, if_neg (by omega), if_neg (by omega)]
          rw [hA]
          exact ⟨_, fS, fA, sa, sb, N, rfl, by rw [sW_fin], Rel_fin r36 1⟩
    · refine g_aload_n 0 dX8_strike_22 rfl rfl ?_
      refine g_iconst (iI 5) dX8_strike_23 rfl ?_
      refine ckE lkX8_46 (k_X8_refuse Z a C fS fA _ 5) dX8_strike_24 (And.intro (Nat.le_of_ble_eq_true rfl) (Nat.le_of_ble_eq_true rfl)) (ci := 7) (q0 := 0) rfl rfl (Nat.le_of_ble_eq_true rfl) rfl rfl (Nat.le_of_ble_eq_true rfl) (Nat.le_of_ble_eq_true rfl) rfl ?_
      refine g_iret dX8_strike_27 rfl (Nat.le_of_ble_eq_true rfl) (Nat.le_of_ble_eq_true rfl) ?_
      have hA : A_strike D p x y = (-1, ms D 13 0 5) := by unfold A_strike; rw [if_pos hPp, if_pos (by omega)]
      rw [hA]
      exact ⟨_, fS, fA, sa, sb, N, rfl, by rw [sW_fin], Rel_fin hR 5⟩
  · rw [if_neg hPp]
    refine g_astoreN dX8_strike_5 (Nat.le_of_ble_eq_true rfl) (Nat.le_of_ble_eq_true rfl) rfl ?_
    dsimp only [sto]
    refine g_aloadN dX8_strike_7 rfl ?_
    refine g_ifnonnullN dX8_strike_9 ?_
    refine g_aload_n 0 dX8_strike_12 rfl rfl ?_
    refine g_iconst (iI 1) dX8_strike_13 rfl ?_
    refine ckE lkX8_46 (k_X8_refuse Z a C fS fA _ 1) dX8_strike_14 (And.intro (Nat.le_of_ble_eq_true rfl) (Nat.le_of_ble_eq_true rfl)) (ci := 7) (q0 := 0) rfl rfl (Nat.le_of_ble_eq_true rfl) rfl rfl (Nat.le_of_ble_eq_true rfl) (Nat.le_of_ble_eq_true rfl) rfl ?_
    refine g_iret dX8_strike_17 rfl (Nat.le_of_ble_eq_true rfl) (Nat.le_of_ble_eq_true rfl) ?_
    have hA : A_strike D p x y = (-1, ms D 13 0 1) := by unfold A_strike; rw [if_neg (by omega)]
    rw [hA]
    exact ⟨_, fS, fA, sa, sb, N, rfl, by rw [sW_fin], Rel_fin hR 1⟩
set_option maxHeartbeats 4000000 in
set_option maxRecDepth 100000 in
theorem k_X8_type (Z : LZ) (a : Nat → Nat) (C : Mem) (fS fA : Nat → Option Nat) {D : Mem} (sa sb : Nat → Nat) (N : Nat) (hG : Good D) (hI : Inv D) (hR : Rel D C fS fA sa N) (p x c1 c2 c3 : Int) (hp : Rg p) (hx : Rg x) (hc1 : Rg c1) (hc2 : Rg c2) (hc3 : Rg c3) : Tr Z jX8_type [.ref (a 99), .int (iI p), .int (iI x), .int (iI c1), .int (iI c2), .int (iI c3)] (cW Z a C fS fA (sW Z D sa sb N)) (Pn Z a (A_type D p x c1 c2 c3).2 (A_type D p x c1 c2 c3).1) := by
  refine tr_of pn_X8_type (Nat.le_of_ble_eq_true rfl) (by intro v h; simp only [List.mem_cons, List.not_mem_nil, or_false] at h; rcases h with h | h | h | h | h | h <;> rw [h] <;> rfl) ?_
  have hB := hR.1
  have hn := hB.n
  have h9 := hB.d9
  have hM := hG.1.1
  have hSD : ∀ s : Nat, s < N → okS D s := fun s hs => hG.s hB hs
  refine g_aload_n 0 dX8_type_0 rfl rfl ?_
  refine g_iload_n 1 dX8_type_1 rfl rfl ?_
  refine ckE lkX8_42 (k_X8_sheetOf Z a C fS fA _ p hp) dX8_type_2 (And.intro (Nat.le_of_ble_eq_true rfl) (Nat.le_of_ble_eq_true rfl)) (ci := 7) (q0 := 0) rfl rfl (Nat.le_of_ble_eq_true rfl) rfl rfl (Nat.le_of_ble_eq_true rfl) (Nat.le_of_ble_eq_true rfl) rfl ?_
  by_cases hPp : 0 ≤ p ∧ p < 6
  · rw [if_pos hPp]
    have hnp : p.toNat < 6 := by omega
    have hep : ((p.toNat : Nat) : Int) = p := by omega
    refine g_astore dX8_type_5 (Nat.le_of_ble_eq_true rfl) (Nat.le_of_ble_eq_true rfl) rfl ?_
    dsimp only [sto]
    refine g_aload dX8_type_7 rfl ?_
    refine g_ifnonnull 18 dX8_type_9 (by decide) ?_
    refine g_aload_n 0 dX8_type_18 rfl rfl ?_
    refine cg_mp_reading dX8_type_19 flX8_30 ?_
    refine g_aload dX8_type_22 rfl ?_
    refine g_sipush (iI 256) dX8_type_24 (by decide) ?_
    refine ckX lkX8_50 (k_X3_read Z a C fS fA sa sb N hG hI.1 hR.1 hR.2 (tkB D p) (tkB_Cl hG.1 p) (tk_U hG h9 p) p.toNat hnp 256 ⟨by decide, by decide⟩ (tk_T hG h9 hn hep)) dX8_type_27 (And.intro (Nat.le_of_ble_eq_true rfl) (Nat.le_of_ble_eq_true rfl)) (ci := 3) (q0 := 30) rfl rfl (Nat.le_of_ble_eq_true rfl) rfl rfl (Nat.le_of_ble_eq_true rfl) (Nat.le_of_ble_eq_true rfl) rfl (fun C26 h26 => ?_)
    have r26 : Rel D C26 fS fA sa N := hR.rd h26.1 h26.2.1
    have d26 := h26.2.2
    have htx := txtN_rg hG.1 hG.2.1 (tkB_Cl hG.1 p)
    have h78 := d26.2.2.2.2.1
    have hl := ordF_len hG.1 hG.2.1 (tkB_Cl hG.1 p)
    refine g_iload_n 3 dX8_type_30 rfl rfl ?_
    refine g_iload dX8_type_31 rfl ?_
    refine g_iload dX8_type_33 rfl ?_
    refine ckS0 lkX8_54 (k_codes Z c1 c2 c3 hc1 hc2 hc3) dX8_type_35 (And.intro (Nat.le_of_ble_eq_true rfl) (Nat.le_of_ble_eq_true rfl)) (Nat.le_of_ble_eq_true rfl) (Nat.le_of_ble_eq_true rfl) (Nat.le_of_ble_eq_true rfl) rfl (fun r w2 h => ?_)
    obtain ⟨b, g, rfl, rfl, hg⟩ := h
    rw [← cW_app]
    have hcl := cl3_rg c1 c2 c3
    have hclm : (((cl3 c1 c2 c3).toNat : Nat) : Int) = cl3 c1 c2 c3 := by omega
    have hf3 : ∀ i, Rg (f3 c1 c2 c3 i) := by
      intro i
      unfold f3
      split
      · exact hc1
      · split
        · exact hc2
        · exact hc3
    show G Z jX8_type E0 _ 38 _ [.ref b] _ (0 + 2) (0 + 6)
    refine g_astore dX8_type_38 (Nat.le_of_ble_eq_true rfl) (Nat.le_of_ble_eq_true rfl) rfl ?_
    dsimp only [sto]
    refine g_iload_n 2 dX8_type_40 rfl rfl ?_
    refine gi_if_lt 63 dX8_type_41 (by decide) (by first | exact bI_Rg _ | assumption | exact ⟨by omega, by omega⟩) (fun c40 => ?_) (fun c40 => ?_)
    · refine g_aload_n 0 dX8_type_63 rfl rfl ?_
      refine g_iconst (iI 1) dX8_type_64 rfl ?_
      refine ckE lkX8_46 (k_X8_refuse Z a C26 fS fA _ 1) dX8_type_65 (And.intro (Nat.le_of_ble_eq_true rfl) (Nat.le_of_ble_eq_true rfl)) (ci := 7) (q0 := 0) rfl rfl (Nat.le_of_ble_eq_true rfl) rfl rfl (Nat.le_of_ble_eq_true rfl) (Nat.le_of_ble_eq_true rfl) rfl ?_
      rw [cW_app]
      refine g_dropW _ _ ?_
      refine g_iret dX8_type_68 rfl (Nat.le_of_ble_eq_true rfl) (Nat.le_of_ble_eq_true rfl) ?_
      have hA : A_type D p x c1 c2 c3 = (-1, ms D 13 0 1) := by unfold A_type; rw [if_pos hPp, if_neg (by unfold goodB; rw [decide_eq_false (by omega)]; simp)]
      rw [hA]
      exact ⟨_, fS, fA, sa, sb, N, rfl, by rw [sW_fin], Rel_fin r26 1⟩
    · refine g_iload_n 2 dX8_type_44 rfl rfl ?_
      refine g_aload_n 0 dX8_type_45 rfl rfl ?_
      refine cg_mp_reading dX8_type_46 flX8_30 ?_
      refine cg_rd_textSize h78 dX8_type_49 flX8_58 ?_
      refine gi_icmp_gt 63 dX8_type_52 (by decide) (by first | exact bI_Rg _ | assumption | exact ⟨by omega, by omega⟩) (by first | exact bI_Rg _ | assumption | exact ⟨by omega, by omega⟩) (fun c51 => ?_) (fun c51 => ?_)
      · refine g_aload_n 0 dX8_type_63 rfl rfl ?_
        refine g_iconst (iI 1) dX8_type_64 rfl ?_
        refine ckE lkX8_46 (k_X8_refuse Z a C26 fS fA _ 1) dX8_type_65 (And.intro (Nat.le_of_ble_eq_true rfl) (Nat.le_of_ble_eq_true rfl)) (ci := 7) (q0 := 0) rfl rfl (Nat.le_of_ble_eq_true rfl) rfl rfl (Nat.le_of_ble_eq_true rfl) (Nat.le_of_ble_eq_true rfl) rfl ?_
        rw [cW_app]
        refine g_dropW _ _ ?_
        refine g_iret dX8_type_68 rfl (Nat.le_of_ble_eq_true rfl) (Nat.le_of_ble_eq_true rfl) ?_
        have hA : A_type D p x c1 c2 c3 = (-1, ms D 13 0 1) := by unfold A_type; rw [if_pos hPp, if_neg (by unfold goodB; rw [decide_eq_false (by omega)]; simp)]
        rw [hA]
        exact ⟨_, fS, fA, sa, sb, N, rfl, by rw [sW_fin], Rel_fin r26 1⟩
      · refine g_aload dX8_type_55 rfl ?_
        rw [cW_app]
        refine ckSL lkX8_61 (k_arePut Z b (cl3 c1 c2 c3).toNat (by omega) g (fun i u v => by rw [hg i u (by omega)]; exact hf3 i)) dX8_type_57 (And.intro (Nat.le_of_ble_eq_true rfl) (Nat.le_of_ble_eq_true rfl)) (Nat.le_of_ble_eq_true rfl) rfl rfl (Nat.le_of_ble_eq_true rfl) (Nat.le_of_ble_eq_true rfl) rfl ?_
        rw [← cW_app]
        have hgq : goodB D p x c1 c2 c3 = gdC g (cl3 c1 c2 c3).toNat := by
          unfold goodB gdC
          congr 1
          · by_cases e : c1 = -1
            · rw [decide_eq_false (by omega), decide_eq_false (by unfold cl3; rw [if_pos e]; decide)]
            · have := hcl.2.2 e
              rw [decide_eq_true (by omega), decide_eq_true (by omega)]
          · refine allB_cg (fun i u v => ?_)
            unfold inC
            rw [hg i u (by omega)]
        refine gi_if_ne 69 dX8_type_60 (by decide) (bI_Rg _) (fun c59 => ?_) (fun c59 => ?_)
        · have hgB : goodB D p x c1 c2 c3 = true := by rw [hgq]; exact bI_true c59
          refine g_aload_n 0 dX8_type_69 rfl rfl ?_
          refine cg_mp_book dX8_type_70 flX8_12 ?_
          refine ckE lkX8_65 (k_X0_isFull Z a C26 fS fA _ (by rw [r26.1.c1]; exact ⟨by omega, by omega⟩)) dX8_type_73 (And.intro (Nat.le_of_ble_eq_true rfl) (Nat.le_of_ble_eq_true rfl)) (ci := 0) (q0 := 1) rfl rfl (Nat.le_of_ble_eq_true rfl) rfl rfl (Nat.le_of_ble_eq_true rfl) (Nat.le_of_ble_eq_true rfl) rfl ?_
          by_cases hfl : 256 ≤ C26 1 0
          · rw [decide_eq_true hfl]
            rw [r26.1.c1] at hfl
            refine gi_if_eq 85 dX8_type_76 (by decide) ⟨by decide, by decide⟩ (fun cc => absurd cc (by decide)) (fun _ => ?_)
            refine g_aload_n 0 dX8_type_79 rfl rfl ?_
            refine g_iconst (iI 2) dX8_type_80 rfl ?_
            refine ckE lkX8_46 (k_X8_refuse Z a C26 fS fA _ 2) dX8_type_81 (And.intro (Nat.le_of_ble_eq_true rfl) (Nat.le_of_ble_eq_true rfl)) (ci := 7) (q0 := 0) rfl rfl (Nat.le_of_ble_eq_true rfl) rfl rfl (Nat.le_of_ble_eq_true rfl) (Nat.le_of_ble_eq_true rfl) rfl ?_
            rw [cW_app]
            refine g_dropW _ _ ?_
            refine g_iret dX8_type_84 rfl (Nat.le_of_ble_eq_true rfl) (Nat.le_of_ble_eq_true rfl) ?_
            have hA : A_type D p x c1 c2 c3 = (-1, ms D 13 0 2) := by unfold A_type; rw [if_pos hPp, if_pos hgB, if_pos (by omega)]
            rw [hA]
            exact ⟨_, fS, fA, sa, sb, N, rfl, by rw [sW_fin], Rel_fin r26 2⟩
          · rw [decide_eq_false hfl]
            rw [r26.1.c1] at hfl
            refine gi_if_eq 85 dX8_type_76 (by decide) ⟨by decide, by decide⟩ (fun _ => ?_) (fun cc => absurd cc (by decide))
            refine g_iload_n 2 dX8_type_85 rfl rfl ?_
            refine gi_if_ne 94 dX8_type_86 (by decide) (by first | exact bI_Rg _ | assumption | exact ⟨by omega, by omega⟩) (fun c85 => ?_) (fun c85 => ?_)
            · refine g_aload_n 0 dX8_type_94 rfl rfl ?_
              refine cg_mp_reading dX8_type_95 flX8_30 ?_
              refine g_iload_n 2 dX8_type_98 rfl rfl ?_
              refine g_iconst (iI 1) dX8_type_99 rfl ?_
              refine gi_sub dX8_type_100 ?_
              refine ckE lkX8_69 (k_nameAtW Z a C26 fS fA _ hG (tkB_Cl hG.1 p) d26 (x - 1) (by omega) (by omega)) dX8_type_101 (And.intro (Nat.le_of_ble_eq_true rfl) (Nat.le_of_ble_eq_true rfl)) (ci := 3) (q0 := 30) rfl rfl (Nat.le_of_ble_eq_true rfl) rfl rfl (Nat.le_of_ble_eq_true rfl) (Nat.le_of_ble_eq_true rfl) rfl ?_
              refine g_istore dX8_type_104 (Nat.le_of_ble_eq_true rfl) (Nat.le_of_ble_eq_true rfl) rfl ?_
              dsimp only [sto]
              refine g_aload_n 0 dX8_type_106 rfl rfl ?_
              refine g_aload dX8_type_107 rfl ?_
              refine g_newO 2 tyX2 [.int (iI 0), .int (iI 0), .int (iI 0), .int (iI 0), .int (iI 0), .null] dX8_type_109 rfl fwX2 tyX2_ok clX8_72 isX2 inX2 dfv2 (Nat.le_of_ble_eq_true rfl) (Nat.le_of_ble_eq_true rfl) (fun q => ?_)
              rw [← cW_app]
              refine g_dup dX8_type_112 rfl ?_
              refine g_aload_n 0 dX8_type_113 rfl rfl ?_
              refine cg_mp_book dX8_type_114 flX8_12 ?_
              refine cg_bk_count r26.1.c1 dX8_type_117 flX8_74 ?_
              refine g_aload dX8_type_120 rfl ?_
              refine g_iload dX8_type_122 rfl ?_
              refine g_aload dX8_type_124 rfl ?_
              refine ckI lkX8_77 (k_init2 Z a C26 fS fA _ q N p.toNat hnp (nmX D (tkB D p) (x - 1)) b) dX8_type_126 (And.intro (Nat.le_of_ble_eq_true rfl) (Nat.le_of_ble_eq_true rfl)) (Nat.le_of_ble_eq_true rfl) rfl rfl (Nat.le_of_ble_eq_true rfl) (Nat.le_of_ble_eq_true rfl) rfl ?_
              have hlf : lftX D p x = nmX D (tkB D p) (x - 1) := by
                unfold lftX
                rw [if_neg (by omega)]
                rfl
              obtain ⟨hA, hw, h3, h6, h45⟩ := ty_new hG (p := p) (q := x) hp hc1 hc2 hc3 hPp hgB (by omega)
              rw [hA]
              show G Z jX8_type E0 (QM Z jX8_type (Pn Z a (ms (tyE D p x c1 c2 c3) 13 0 0) (D 9 0))) 129 _ _ _ _ _
              rw [h9, cW_app, cW_app, List.append_assoc]
              refine g_swap _ _ _ ?_
              rw [h9] at h3 h6 h45
              have hpn := pri_new hw.1 h9
              have e1 : tyE D p x c1 c2 c3 1 N = C26 (50 + p.toNat) 0 + 1 := by
                have g := hw.2.2.1
                rw [h9] at g
                rw [g, r26.1.mx p.toNat hnp, hep]
                show mxF D (tkB D p) (D 9 0).toNat + 1 = _
                rw [show (D 9 0).toNat = N by omega]
              have e2 : tyE D p x c1 c2 c3 2 N = 0 := by have g := hw.2.2.2.1; rwa [h9] at g
              refine g_cong (WC_new (sa := sa) (sb := sb) (q := q) (b := b) hw.1 h9 hSD ?_ ?_ (Or.inl e2)) ?_
              · rw [slC0 e2, hpn.1, hpn.2, e1, h6, hlf, upN_at, r26.1.lt p.toNat hnp, hep]
              · unfold slA
                rw [h3]
                refine WC.arr (fun i hi => ?_)
                unfold rowI
                rw [e2, if_pos rfl]
                show iI (g i) = iI (tyE D p x c1 c2 c3 5 (4 * N + i))
                rw [hg i (by omega) (by omega), (h45 i (by omega) (by omega)).1]
              · exact g_end (p := p.toNat) (E := tyE D p x c1 c2 c3) (upN_at sa N q) lkX8_80 dX8_type_129 (And.intro (Nat.le_of_ble_eq_true rfl) (Nat.le_of_ble_eq_true rfl)) dX8_type_132 rfl (Nat.le_of_ble_eq_true rfl) (Nat.le_of_ble_eq_true rfl) hnp hG (by rw [hep]; exact hw) (Rel_sa r26 (fun s hs => upN_lt hs)) (by omega)
            · refine g_bipush (iI (-2)) dX8_type_89 (by decide) ?_
              refine g_goto 104 dX8_type_91 (by decide) ?_
              refine g_istore dX8_type_104 (Nat.le_of_ble_eq_true rfl) (Nat.le_of_ble_eq_true rfl) rfl ?_
              dsimp only [sto]
              refine g_aload_n 0 dX8_type_106 rfl rfl ?_
              refine g_aload dX8_type_107 rfl ?_
              refine g_newO 2 tyX2 [.int (iI 0), .int (iI 0), .int (iI 0), .int (iI 0), .int (iI 0), .null] dX8_type_109 rfl fwX2 tyX2_ok clX8_72 isX2 inX2 dfv2 (Nat.le_of_ble_eq_true rfl) (Nat.le_of_ble_eq_true rfl) (fun q => ?_)
              rw [← cW_app]
              refine g_dup dX8_type_112 rfl ?_
              refine g_aload_n 0 dX8_type_113 rfl rfl ?_
              refine cg_mp_book dX8_type_114 flX8_12 ?_
              refine cg_bk_count r26.1.c1 dX8_type_117 flX8_74 ?_
              refine g_aload dX8_type_120 rfl ?_
              refine g_iload dX8_type_122 rfl ?_
              refine g_aload dX8_type_124 rfl ?_
              refine ckI lkX8_77 (k_init2 Z a C26 fS fA _ q N p.toNat hnp (-2) b) dX8_type_126 (And.intro (Nat.le_of_ble_eq_true rfl) (Nat.le_of_ble_eq_true rfl)) (Nat.le_of_ble_eq_true rfl) rfl rfl (Nat.le_of_ble_eq_true rfl) (Nat.le_of_ble_eq_true rfl) rfl ?_
              have hlf : lftX D p x = -2 := by
                unfold lftX
                rw [if_pos (by omega)]
                
              obtain ⟨hA, hw, h3, h6, h45⟩ := ty_new hG (p := p) (q := x) hp hc1 hc2 hc3 hPp hgB (by omega)
              rw [hA]
              show G Z jX8_type E0 (QM Z jX8_type (Pn Z a (ms (tyE D p x c1 c2 c3) 13 0 0) (D 9 0))) 129 _ _ _ _ _
              rw [h9, cW_app, cW_app, List.append_assoc]
              refine g_swap _ _ _ ?_
              rw [h9] at h3 h6 h45
              have hpn := pri_new hw.1 h9
              have e1 : tyE D p x c1 c2 c3 1 N = C26 (50 + p.toNat) 0 + 1 := by
                have g := hw.2.2.1
                rw [h9] at g
                rw [g, r26.1.mx p.toNat hnp, hep]
                show mxF D (tkB D p) (D 9 0).toNat + 1 = _
                rw [show (D 9 0).toNat = N by omega]
              have e2 : tyE D p x c1 c2 c3 2 N = 0 := by have g := hw.2.2.2.1; rwa [h9] at g
              refine g_cong (WC_new (sa := sa) (sb := sb) (q := q) (b := b) hw.1 h9 hSD ?_ ?_ (Or.inl e2)) ?_
              · rw [slC0 e2, hpn.1, hpn.2, e1, h6, hlf, upN_at, r26.1.lt p.toNat hnp, hep]
              · unfold slA
                rw [h3]
                refine WC.arr (fun i hi => ?_)
                unfold rowI
                rw [e2, if_pos rfl]
                show iI (g i) = iI (tyE D p x c1 c2 c3 5 (4 * N + i))
                rw [hg i (by omega) (by omega), (h45 i (by omega) (by omega)).1]
              · exact g_end (p := p.toNat) (E := tyE D p x c1 c2 c3) (upN_at sa N q) lkX8_80 dX8_type_129 (And.intro (Nat.le_of_ble_eq_true rfl) (Nat.le_of_ble_eq_true rfl)) dX8_type_132 rfl (Nat.le_of_ble_eq_true rfl) (Nat.le_of_ble_eq_true rfl) hnp hG (by rw [hep]; exact hw) (Rel_sa r26 (fun s hs => upN_lt hs)) (by omega)
        · refine g_aload_n 0 dX8_type_63 rfl rfl ?_
          refine g_iconst (iI 1) dX8_type_64 rfl ?_
          refine ckE lkX8_46 (k_X8_refuse Z a C26 fS fA _ 1) dX8_type_65 (And.intro (Nat.le_of_ble_eq_true rfl) (Nat.le_of_ble_eq_true rfl)) (ci := 7) (q0 := 0) rfl rfl (Nat.le_of_ble_eq_true rfl) rfl rfl (Nat.le_of_ble_eq_true rfl) (Nat.le_of_ble_eq_true rfl) rfl ?_
          rw [cW_app]
          refine g_dropW _ _ ?_
          refine g_iret dX8_type_68 rfl (Nat.le_of_ble_eq_true rfl) (Nat.le_of_ble_eq_true rfl) ?_
          have hA : A_type D p x c1 c2 c3 = (-1, ms D 13 0 1) := by unfold A_type; rw [if_pos hPp, if_neg (by rw [hgq, bI_eq0.mp c59]; decide)]
          rw [hA]
          exact ⟨_, fS, fA, sa, sb, N, rfl, by rw [sW_fin], Rel_fin r26 1⟩
  · rw [if_neg hPp]
    refine g_astoreN dX8_type_5 (Nat.le_of_ble_eq_true rfl) (Nat.le_of_ble_eq_true rfl) rfl ?_
    dsimp only [sto]
    refine g_aloadN dX8_type_7 rfl ?_
    refine g_ifnonnullN dX8_type_9 ?_
    refine g_aload_n 0 dX8_type_12 rfl rfl ?_
    refine g_iconst (iI 1) dX8_type_13 rfl ?_
    refine ckE lkX8_46 (k_X8_refuse Z a C fS fA _ 1) dX8_type_14 (And.intro (Nat.le_of_ble_eq_true rfl) (Nat.le_of_ble_eq_true rfl)) (ci := 7) (q0 := 0) rfl rfl (Nat.le_of_ble_eq_true rfl) rfl rfl (Nat.le_of_ble_eq_true rfl) (Nat.le_of_ble_eq_true rfl) rfl ?_
    refine g_iret dX8_type_17 rfl (Nat.le_of_ble_eq_true rfl) (Nat.le_of_ble_eq_true rfl) ?_
    have hA : A_type D p x c1 c2 c3 = (-1, ms D 13 0 1) := by unfold A_type; rw [if_neg (by omega)]
    rw [hA]
    exact ⟨_, fS, fA, sa, sb, N, rfl, by rw [sW_fin], Rel_fin hR 1⟩
