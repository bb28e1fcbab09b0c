/-! THE CLASS: type, strike, mark, undo -/
theorem wk_f {z : Int} {b : Bool} (h : z = 3 ↔ b = true) (c : bI (decide (z = 3)) = 0) : b = false := by
  cases e : b
  · rfl
  · rw [decide_eq_true (h.mpr e)] at c
    exact absurd c (by decide)
theorem cg_sl_numberA {Z : LZ} {J : MD} {E : State → Array Value → (Nat → Prop) → Prop} {Q : List Frame → Array Value → State → (Nat → Prop) → State → Prop} {pc : Nat} {ls st : List Value} {k n : Nat} {a : Nat → Nat} {C : Mem} {fS fA : Nat → Option Nat} {i : Nat} {D : Mem} {sa sb : Nat → Nat} {N s : Nat} {R : va_W} (hs : s < N) (d : decode J.2.1 pc = .ok (.getfield i, 3)) (hl : Cond.fieldLink J.1.cls i "ManyPens$Slip" "number" "I" ∈ WT) (K : G Z J E Q (pc + 3) ls (.int (iI (s : Int)) :: st) (cW Z a C fS fA (sW Z D sa sb N ++ R)) k n) : G Z J E Q pc ls (.ref (sa s) :: st) (cW Z a C fS fA (sW Z D sa sb N ++ R)) k n := by
  obtain ⟨q, hq⟩ := sW_sl (Z := Z) (D := D) (sa := sa) (sb := sb) N s hs
  have hw : (cW Z a C fS fA (sW Z D sa sb N ++ R))[q + 39]? = some (sa s, slC D sb s) := by
    rw [cW_off, List.getElem?_append_left (List.getElem?_eq_some_iff.mp hq).1]
    exact hq
  unfold slC at hw
  split at hw
  · exact g_get 2 (q + 39) 0 d rfl fwX2 (by decide) hl hw rfl K
  · split at hw
    · exact g_get 5 (q + 39) 0 d rfl fwX6 (by decide) hl hw rfl K
    · split at hw
      · exact g_get 1 (q + 39) 0 d rfl fwX1 (by decide) hl hw rfl K
      · exact g_get 6 (q + 39) 0 d rfl fwX7 (by decide) hl hw rfl K
theorem dfv2 : ∀ j, j < 6 → defaultValue (tyX2 j) = vp_V [.int (iI 0), .int (iI 0), .int (iI 0), .int (iI 0), .int (iI 0), .null] j := by
  intro j hj
  have hj2 : j = 0 ∨ j = 1 ∨ j = 2 ∨ j = 3 ∨ j = 4 ∨ j = 5 := by omega
  rcases hj2 with rfl | rfl | rfl | rfl | rfl | rfl <;> rfl
theorem dfv5 : ∀ j, j < 5 → defaultValue (tyX6 j) = vp_V [.int (iI 0), .int (iI 0), .int (iI 0), .int (iI 0), .null] j := by
  intro j hj
  have hj2 : j = 0 ∨ j = 1 ∨ j = 2 ∨ j = 3 ∨ j = 4 := by omega
  rcases hj2 with rfl | rfl | rfl | rfl | rfl <;> rfl
theorem dfv1 : ∀ j, j < 9 → defaultValue (tyX1 j) = vp_V [.int (iI 0), .int (iI 0), .int (iI 0), .int (iI 0), .int (iI 0), .int (iI 0), .int (iI 0), .int (iI 0), .int (iI 0)] j := by
  intro j hj
  have hj2 : j = 0 ∨ j = 1 ∨ j = 2 ∨ j = 3 ∨ j = 4 ∨ j = 5 ∨ j = 6 ∨ j = 7 ∨ j = 8 := by omega
  rcases hj2 with rfl | rfl | rfl | rfl | rfl | rfl | rfl | rfl | rfl <;> rfl
theorem dfv6 : ∀ j, j < 5 → defaultValue (tyX7 j) = vp_V [.int (iI 0), .int (iI 0), .int (iI 0), .int (iI 0), .int (iI 0)] j := by
  intro j hj
  have hj2 : j = 0 ∨ j = 1 ∨ j = 2 ∨ j = 3 ∨ j = 4 := by omega
  rcases hj2 with rfl | rfl | rfl | rfl | rfl <;> rfl
set_option maxHeartbeats 4000000 in
set_option maxRecDepth 100000 in
theorem k_X8_undo (Z : LZ) (a : Nat → Nat) (C : Mem) (fS fA : Nat → Option Nat) {D : Mem} (sa sb : Nat → Nat) (N : Nat) (hG : Good D) (hI : Inv D) (hR : Rel D C fS fA sa N) (p s : Int) (hp : Rg p) (hs : Rg s) : Tr Z jX8_undo [.ref (a 99), .int (iI p), .int (iI s)] (cW Z a C fS fA (sW Z D sa sb N)) (Pn Z a (A_undo D p s).2 (A_undo D p s).1) := by
  refine tr_of pn_X8_undo (Nat.le_of_ble_eq_true rfl) (by intro v h; simp only [List.mem_cons, List.not_mem_nil, or_false] at h; rcases h with h | h | h <;> rw [h] <;> rfl) ?_
  have hB := hR.1
  have hn := hB.n
  have h9 := hB.d9
  have hM := hG.1.1
  have hSD : ∀ s : Nat, s < N → okS D s := fun s hs => hG.s hB hs
  refine g_aload_n 0 dX8_undo_0 rfl rfl ?_
  refine g_iload_n 1 dX8_undo_1 rfl rfl ?_
  refine ckE lkX8_42 (k_X8_sheetOf Z a C fS fA _ p hp) dX8_undo_2 (And.intro (Nat.le_of_ble_eq_true rfl) (Nat.le_of_ble_eq_true rfl)) (ci := 7) (q0 := 0) rfl rfl (Nat.le_of_ble_eq_true rfl) rfl rfl (Nat.le_of_ble_eq_true rfl) (Nat.le_of_ble_eq_true rfl) rfl ?_
  by_cases hPp : 0 ≤ p ∧ p < 6
  · rw [if_pos hPp]
    have hnp : p.toNat < 6 := by omega
    have hep : ((p.toNat : Nat) : Int) = p := by omega
    refine g_astore_n 3 dX8_undo_5 rfl (Nat.le_of_ble_eq_true rfl) (Nat.le_of_ble_eq_true rfl) rfl ?_
    dsimp only [sto]
    refine g_aload_n 0 dX8_undo_6 rfl rfl ?_
    refine cg_mp_book dX8_undo_7 flX8_12 ?_
    refine g_iload_n 2 dX8_undo_10 rfl rfl ?_
    refine ckE lkX8_109 (k_X0_find Z a C fS fA sa sb N hn hB.c1 hB.sl s hs) dX8_undo_11 (And.intro (Nat.le_of_ble_eq_true rfl) (Nat.le_of_ble_eq_true rfl)) (ci := 0) (q0 := 1) rfl rfl (Nat.le_of_ble_eq_true rfl) rfl rfl (Nat.le_of_ble_eq_true rfl) (Nat.le_of_ble_eq_true rfl) rfl ?_
    by_cases hFs : 0 ≤ s ∧ s < N
    · rw [if_pos hFs]
      have hss : s.toNat < N := by omega
      have hfs : ((s.toNat : Nat) : Int) = s := by omega
      have hSs := hG.s hB hss
      refine g_astore dX8_undo_14 (Nat.le_of_ble_eq_true rfl) (Nat.le_of_ble_eq_true rfl) rfl ?_
      dsimp only [sto]
      refine g_aload_n 3 dX8_undo_16 rfl rfl ?_
      refine g_ifnull dX8_undo_17 ?_
      refine g_aload dX8_undo_20 rfl ?_
      refine g_ifnonnull 31 dX8_undo_22 (by decide) ?_
      refine g_aload dX8_undo_31 rfl ?_
      refine cg_sl_pen hss dX8_undo_33 flX8_113 ?_
      refine g_iload_n 1 dX8_undo_36 rfl rfl ?_
      refine gi_icmp_eq 46 dX8_undo_37 (by decide) (hM _ _) hp (fun c37 => ?_) (fun c37 => ?_)
      · refine g_aload_n 0 dX8_undo_46 rfl rfl ?_
        refine cg_mp_reading dX8_undo_47 flX8_30 ?_
        refine g_aload_n 3 dX8_undo_50 rfl rfl ?_
        refine g_sipush (iI 256) dX8_undo_51 (by decide) ?_
        refine ckX lkX8_50 (k_X3_read Z a C fS fA sa sb N hG hI.1 hR.1 hR.2 (tkB D p) (tkB_Cl hG.1 p) (tk_U hG h9 p) p.toNat hnp 256 ⟨by decide, by decide⟩ (tk_T hG h9 hn hep)) dX8_undo_54 (And.intro (Nat.le_of_ble_eq_true rfl) (Nat.le_of_ble_eq_true rfl)) (ci := 3) (q0 := 30) rfl rfl (Nat.le_of_ble_eq_true rfl) rfl rfl (Nat.le_of_ble_eq_true rfl) (Nat.le_of_ble_eq_true rfl) rfl (fun C53 h53 => ?_)
        have r53 : Rel D C53 fS fA sa N := hR.rd h53.1 h53.2.1
        have d53 := h53.2.2
        have htx := txtN_rg hG.1 hG.2.1 (tkB_Cl hG.1 p)
        have h78 := d53.2.2.2.2.1
        have hl := ordF_len hG.1 hG.2.1 (tkB_Cl hG.1 p)
        have hst := d53.1 _ hss
        rw [hfs] at hst
        have hwk : C53 70 s = 3 ↔ wkB D (tkB D p) s = true := by
          rw [hst]
          cases e : tkB D p s
          · cases e2 : wkB D (tkB D p) s
            · simp
            · have := wk_tk hG.1 (by omega) (by omega) e2
              rw [e] at this
              cases this
          · cases e2 : wkB D (tkB D p) s <;> simp
        refine g_aload_n 0 dX8_undo_57 rfl rfl ?_
        refine cg_mp_reading dX8_undo_58 flX8_30 ?_
        refine g_aload dX8_undo_61 rfl ?_
        refine ckE lkX8_118 (k_X3_isWorking Z a C53 fS fA sa sb N hn s.toNat hss (Sd_rg d53.1 hss)) dX8_undo_63 (And.intro (Nat.le_of_ble_eq_true rfl) (Nat.le_of_ble_eq_true rfl)) (ci := 3) (q0 := 30) rfl rfl (Nat.le_of_ble_eq_true rfl) rfl rfl (Nat.le_of_ble_eq_true rfl) (Nat.le_of_ble_eq_true rfl) rfl ?_
        refine gi_if_ne 75 dX8_undo_66 (by decide) (bI_Rg _) (fun c65 => ?_) (fun c65 => ?_)
        · have hww : wkB D (tkB D p) s = true := by
            rw [hfs] at c65
            refine hwk.mp (Classical.byContradiction (fun g => ?_))
            rw [decide_eq_false g] at c65
            exact c65 rfl
          refine g_aload_n 0 dX8_undo_75 rfl rfl ?_
          refine cg_mp_book dX8_undo_76 flX8_12 ?_
          refine ckE lkX8_65 (k_X0_isFull Z a C53 fS fA _ (by rw [r53.1.c1]; exact ⟨by omega, by omega⟩)) dX8_undo_79 (And.intro (Nat.le_of_ble_eq_true rfl) (Nat.le_of_ble_eq_true rfl)) (ci := 0) (q0 := 1) rfl rfl (Nat.le_of_ble_eq_true rfl) rfl rfl (Nat.le_of_ble_eq_true rfl) (Nat.le_of_ble_eq_true rfl) rfl ?_
          by_cases hfl : 256 ≤ C53 1 0
          · rw [decide_eq_true hfl]
            rw [r53.1.c1] at hfl
            refine gi_if_eq 91 dX8_undo_82 (by decide) ⟨by decide, by decide⟩ (fun cc => absurd cc (by decide)) (fun _ => ?_)
            refine g_aload_n 0 dX8_undo_85 rfl rfl ?_
            refine g_iconst (iI 2) dX8_undo_86 rfl ?_
            refine ckE lkX8_46 (k_X8_refuse Z a C53 fS fA _ 2) dX8_undo_87 (And.intro (Nat.le_of_ble_eq_true rfl) (Nat.le_of_ble_eq_true rfl)) (ci := 7) (q0 := 0) rfl rfl (Nat.le_of_ble_eq_true rfl) rfl rfl (Nat.le_of_ble_eq_true rfl) (Nat.le_of_ble_eq_true rfl) rfl ?_
            refine g_iret dX8_undo_90 rfl (Nat.le_of_ble_eq_true rfl) (Nat.le_of_ble_eq_true rfl) ?_
            have hA : A_undo D p s = (-1, ms D 13 0 2) := by unfold A_undo; rw [if_pos ⟨hPp, by omega⟩, if_neg (by rw [← hfs]; exact fun g => g c37), if_neg (by rw [hww]; decide), if_pos (by omega)]
            rw [hA]
            exact ⟨_, fS, fA, sa, sb, N, rfl, by rw [sW_fin], Rel_fin r53 2⟩
          · rw [decide_eq_false hfl]
            rw [r53.1.c1] at hfl
            refine gi_if_eq 91 dX8_undo_82 (by decide) ⟨by decide, by decide⟩ (fun _ => ?_) (fun cc => absurd cc (by decide))
            refine g_aload_n 0 dX8_undo_91 rfl rfl ?_
            refine g_aload_n 3 dX8_undo_92 rfl rfl ?_
            refine g_newO 6 tyX7 [.int (iI 0), .int (iI 0), .int (iI 0), .int (iI 0), .int (iI 0)] dX8_undo_93 rfl fwX7 tyX7_ok clX8_122 isX7 inX7 dfv6 (Nat.le_of_ble_eq_true rfl) (Nat.le_of_ble_eq_true rfl) (fun q => ?_)
            rw [← cW_app]
            refine g_dup dX8_undo_96 rfl ?_
            refine g_aload_n 0 dX8_undo_97 rfl rfl ?_
            refine cg_mp_book dX8_undo_98 flX8_12 ?_
            refine cg_bk_count r53.1.c1 dX8_undo_101 flX8_74 ?_
            refine g_aload_n 3 dX8_undo_104 rfl rfl ?_
            refine g_aload dX8_undo_105 rfl ?_
            refine cg_sl_numberA hss dX8_undo_107 flX8_124 ?_
            refine ckI lkX8_127 (k_init6 Z a C53 fS fA _ q N p.toNat hnp (s.toNat : Nat)) dX8_undo_110 (And.intro (Nat.le_of_ble_eq_true rfl) (Nat.le_of_ble_eq_true rfl)) (Nat.le_of_ble_eq_true rfl) rfl rfl (Nat.le_of_ble_eq_true rfl) (Nat.le_of_ble_eq_true rfl) rfl ?_
            have hk0 : D 0 s = p := by rw [← hfs]; exact c37
            obtain ⟨hA, hw, h6⟩ := un_new hG hp hs hPp (by omega) hk0 hww (by omega)
            rw [hA]
            show G Z jX8_undo E0 (QM Z jX8_undo (Pn Z a (ms (unE D p s) 13 0 0) (D 9 0))) 113 _ _ _ _ _
            rw [h9, cW_app]
            have hpn := pri_new hw.1 h9
            have e1 : unE D p s 1 N = C53 (50 + p.toNat) 0 + 1 := by
              have g := hw.2.2.1
              rw [h9] at g
              rw [g, r53.1.mx p.toNat hnp, hep]
              show mxF D (tkB D p) (D 9 0).toNat + 1 = _
              rw [show (D 9 0).toNat = N by omega]
            have e2 : unE D p s 2 N = 3 := by have g := hw.2.2.2.1; rwa [h9] at g
            have e6 : unE D p s 6 N = s := by rwa [h9] at h6
            refine g_cong (WC_new1 (sa := sa) (sb := sb) (q := q) hw.1 h9 hSD ?_ (by omega)) ?_
            · rw [slC3 e2, hpn.1, hpn.2, e1, e6, r53.1.lt p.toNat hnp, hep, hfs]
            · exact g_end (p := p.toNat) (E := unE D p s) (upN_at sa N q) lkX8_80 dX8_undo_113 (And.intro (Nat.le_of_ble_eq_true rfl) (Nat.le_of_ble_eq_true rfl)) dX8_undo_116 rfl (Nat.le_of_ble_eq_true rfl) (Nat.le_of_ble_eq_true rfl) hnp hG (by rw [hep]; exact hw) (Rel_sa r53 (fun s hs => upN_lt hs)) (by omega)
        · refine g_aload_n 0 dX8_undo_69 rfl rfl ?_
          refine g_iconst (iI 4) dX8_undo_70 rfl ?_
          refine ckE lkX8_46 (k_X8_refuse Z a C53 fS fA _ 4) dX8_undo_71 (And.intro (Nat.le_of_ble_eq_true rfl) (Nat.le_of_ble_eq_true rfl)) (ci := 7) (q0 := 0) rfl rfl (Nat.le_of_ble_eq_true rfl) rfl rfl (Nat.le_of_ble_eq_true rfl) (Nat.le_of_ble_eq_true rfl) rfl ?_
          refine g_iret dX8_undo_74 rfl (Nat.le_of_ble_eq_true rfl) (Nat.le_of_ble_eq_true rfl) ?_
          have hA : A_undo D p s = (-1, ms D 13 0 4) := by unfold A_undo; rw [if_pos ⟨hPp, by omega⟩, if_neg (by rw [← hfs]; exact fun g => g c37), if_pos (by rw [hfs] at c65; exact wk_f hwk c65)]
          rw [hA]
          exact ⟨_, fS, fA, sa, sb, N, rfl, by rw [sW_fin], Rel_fin r53 4⟩
      · refine g_aload_n 0 dX8_undo_40 rfl rfl ?_
        refine g_iconst (iI 3) dX8_undo_41 rfl ?_
        refine ckE lkX8_46 (k_X8_refuse Z a C fS fA _ 3) dX8_undo_42 (And.intro (Nat.le_of_ble_eq_true rfl) (Nat.le_of_ble_eq_true rfl)) (ci := 7) (q0 := 0) rfl rfl (Nat.le_of_ble_eq_true rfl) rfl rfl (Nat.le_of_ble_eq_true rfl) (Nat.le_of_ble_eq_true rfl) rfl ?_
        refine g_iret dX8_undo_45 rfl (Nat.le_of_ble_eq_true rfl) (Nat.le_of_ble_eq_true rfl) ?_
        have hA : A_undo D p s = (-1, ms D 13 0 3) := by unfold A_undo; rw [if_pos ⟨hPp, by omega⟩, if_pos (by rw [← hfs]; exact c37)]
        rw [hA]
        exact ⟨_, fS, fA, sa, sb, N, rfl, by rw [sW_fin], Rel_fin hR 3⟩
    · rw [if_neg hFs]
      refine g_astoreN dX8_undo_14 (Nat.le_of_ble_eq_true rfl) (Nat.le_of_ble_eq_true rfl) rfl ?_
      dsimp only [sto]
      refine g_aload_n 3 dX8_undo_16 rfl rfl ?_
      refine g_ifnull dX8_undo_17 ?_
      refine g_aloadN dX8_undo_20 rfl ?_
      refine g_ifnonnullN dX8_undo_22 ?_
      refine g_aload_n 0 dX8_undo_25 rfl rfl ?_
      refine g_iconst (iI 1) dX8_undo_26 rfl ?_
      refine ckE lkX8_46 (k_X8_refuse Z a C fS fA _ 1) dX8_undo_27 (And.intro (Nat.le_of_ble_eq_true rfl) (Nat.le_of_ble_eq_true rfl)) (ci := 7) (q0 := 0) rfl rfl (Nat.le_of_ble_eq_true rfl) rfl rfl (Nat.le_of_ble_eq_true rfl) (Nat.le_of_ble_eq_true rfl) rfl ?_
      refine g_iret dX8_undo_30 rfl (Nat.le_of_ble_eq_true rfl) (Nat.le_of_ble_eq_true rfl) ?_
      have hA : A_undo D p s = (-1, ms D 13 0 1) := by unfold A_undo; rw [if_neg (by omega)]
      rw [hA]
      exact ⟨_, fS, fA, sa, sb, N, rfl, by rw [sW_fin], Rel_fin hR 1⟩
  · rw [if_neg hPp]
    refine g_astore_nN 3 dX8_undo_5 rfl (Nat.le_of_ble_eq_true rfl) (Nat.le_of_ble_eq_true rfl) rfl ?_
    dsimp only [sto]
    refine g_aload_n 0 dX8_undo_6 rfl rfl ?_
    refine cg_mp_book dX8_undo_7 flX8_12 ?_
    refine g_iload_n 2 dX8_undo_10 rfl rfl ?_
    refine ckE lkX8_109 (k_X0_find Z a C fS fA sa sb N hn hB.c1 hB.sl s hs) dX8_undo_11 (And.intro (Nat.le_of_ble_eq_true rfl) (Nat.le_of_ble_eq_true rfl)) (ci := 0) (q0 := 1) rfl rfl (Nat.le_of_ble_eq_true rfl) rfl rfl (Nat.le_of_ble_eq_true rfl) (Nat.le_of_ble_eq_true rfl) rfl ?_
    by_cases hFs : 0 ≤ s ∧ s < N
    · rw [if_pos hFs]
      have hss : s.toNat < N := by omega
      have hfs : ((s.toNat : Nat) : Int) = s := by omega
      have hSs := hG.s hB hss
      refine g_astore dX8_undo_14 (Nat.le_of_ble_eq_true rfl) (Nat.le_of_ble_eq_true rfl) rfl ?_
      dsimp only [sto]
      refine g_aload_nN 3 dX8_undo_16 rfl rfl ?_
      refine g_ifnullN 25 dX8_undo_17 (by decide) ?_
      refine g_aload_n 0 dX8_undo_25 rfl rfl ?_
      refine g_iconst (iI 1) dX8_undo_26 rfl ?_
      refine ckE lkX8_46 (k_X8_refuse Z a C fS fA _ 1) dX8_undo_27 (And.intro (Nat.le_of_ble_eq_true rfl) (Nat.le_of_ble_eq_true rfl)) (ci := 7) (q0 := 0) rfl rfl (Nat.le_of_ble_eq_true rfl) rfl rfl (Nat.le_of_ble_eq_true rfl) (Nat.le_of_ble_eq_true rfl) rfl ?_
      refine g_iret dX8_undo_30 rfl (Nat.le_of_ble_eq_true rfl) (Nat.le_of_ble_eq_true rfl) ?_
      have hA : A_undo D p s = (-1, ms D 13 0 1) := by unfold A_undo; rw [if_neg (by omega)]
      rw [hA]
      exact ⟨_, fS, fA, sa, sb, N, rfl, by rw [sW_fin], Rel_fin hR 1⟩
    · rw [if_neg hFs]
      refine g_astoreN dX8_undo_14 (Nat.le_of_ble_eq_true rfl) (Nat.le_of_ble_eq_true rfl) rfl ?_
      dsimp only [sto]
      refine g_aload_nN 3 dX8_undo_16 rfl rfl ?_
      refine g_ifnullN 25 dX8_undo_17 (by decide) ?_
      refine g_aload_n 0 dX8_undo_25 rfl rfl ?_
      refine g_iconst (iI 1) dX8_undo_26 rfl ?_
      refine ckE lkX8_46 (k_X8_refuse Z a C fS fA _ 1) dX8_undo_27 (And.intro (Nat.le_of_ble_eq_true rfl) (Nat.le_of_ble_eq_true rfl)) (ci := 7) (q0 := 0) rfl rfl (Nat.le_of_ble_eq_true rfl) rfl rfl (Nat.le_of_ble_eq_true rfl) (Nat.le_of_ble_eq_true rfl) rfl ?_
      refine g_iret dX8_undo_30 rfl (Nat.le_of_ble_eq_true rfl) (Nat.le_of_ble_eq_true rfl) ?_
      have hA : A_undo D p s = (-1, ms D 13 0 1) := by unfold A_undo; rw [if_neg (by omega)]
      rw [hA]
      exact ⟨_, fS, fA, sa, sb, N, rfl, by rw [sW_fin], Rel_fin hR 1⟩
set_option maxHeartbeats 4000000 in
set_option maxRecDepth 100000 in
theorem k_X8_mark (Z : LZ) (a : Nat → Nat) (C : Mem) (fS fA : Nat → Option Nat) {D : Mem} (sa sb : Nat → Nat) (N : Nat) (hG : Good D) (hI : Inv D) (hR : Rel D C fS fA sa N) (p x y t h : Int) (hp : Rg p) (hx : Rg x) (hy : Rg y) (ht : Rg t) (hh : Rg h) : Tr Z jX8_mark [.ref (a 99), .int (iI p), .int (iI x), .int (iI y), .int (iI t), .int (iI h)] (cW Z a C fS fA (sW Z D sa sb N)) (Pn Z a (A_mark D p x y t h).2 (A_mark D p x y t h).1) := by
  refine tr_of pn_X8_mark (Nat.le_of_ble_eq_true rfl) (by intro v h; simp only [List.mem_cons, List.not_mem_nil, or_false] at h; rcases h with h | h | h | h | h | h <;> rw [h] <;> rfl) ?_
  have hB := hR.1
  have hn := hB.n
  have h9 := hB.d9
  have hM := hG.1.1
  have hSD : ∀ s : Nat, s < N → okS D s := fun s hs => hG.s hB hs
  refine g_aload_n 0 dX8_mark_0 rfl rfl ?_
  refine g_iload_n 1 dX8_mark_1 rfl rfl ?_
  refine ckE lkX8_42 (k_X8_sheetOf Z a C fS fA _ p hp) dX8_mark_2 (And.intro (Nat.le_of_ble_eq_true rfl) (Nat.le_of_ble_eq_true rfl)) (ci := 7) (q0 := 0) rfl rfl (Nat.le_of_ble_eq_true rfl) rfl rfl (Nat.le_of_ble_eq_true rfl) (Nat.le_of_ble_eq_true rfl) rfl ?_
  by_cases hPp : 0 ≤ p ∧ p < 6
  · rw [if_pos hPp]
    have hnp : p.toNat < 6 := by omega
    have hep : ((p.toNat : Nat) : Int) = p := by omega
    refine g_astore dX8_mark_5 (Nat.le_of_ble_eq_true rfl) (Nat.le_of_ble_eq_true rfl) rfl ?_
    dsimp only [sto]
    refine g_aload dX8_mark_7 rfl ?_
    refine g_ifnonnull 18 dX8_mark_9 (by decide) ?_
    refine g_iload_n 3 dX8_mark_18 rfl rfl ?_
    refine gi_if_ge 28 dX8_mark_19 (by decide) (by first | exact bI_Rg _ | assumption | exact ⟨by omega, by omega⟩) (fun c19 => ?_) (fun c19 => ?_)
    · refine g_aload_n 0 dX8_mark_28 rfl rfl ?_
      refine cg_mp_reading dX8_mark_29 flX8_30 ?_
      refine g_aload dX8_mark_32 rfl ?_
      refine g_sipush (iI 256) dX8_mark_34 (by decide) ?_
      refine ckX lkX8_50 (k_X3_read Z a C fS fA sa sb N hG hI.1 hR.1 hR.2 (tkB D p) (tkB_Cl hG.1 p) (tk_U hG h9 p) p.toNat hnp 256 ⟨by decide, by decide⟩ (tk_T hG h9 hn hep)) dX8_mark_37 (And.intro (Nat.le_of_ble_eq_true rfl) (Nat.le_of_ble_eq_true rfl)) (ci := 3) (q0 := 30) rfl rfl (Nat.le_of_ble_eq_true rfl) rfl rfl (Nat.le_of_ble_eq_true rfl) (Nat.le_of_ble_eq_true rfl) rfl (fun C36 h36 => ?_)
      have r36 : Rel D C36 fS fA sa N := hR.rd h36.1 h36.2.1
      have d36 := h36.2.2
      have htx := txtN_rg hG.1 hG.2.1 (tkB_Cl hG.1 p)
      have h78 := d36.2.2.2.2.1
      have hl := ordF_len hG.1 hG.2.1 (tkB_Cl hG.1 p)
      refine g_aload_n 0 dX8_mark_40 rfl rfl ?_
      refine cg_mp_reading dX8_mark_41 flX8_30 ?_
      refine g_iload_n 2 dX8_mark_44 rfl rfl ?_
      refine g_iload_n 3 dX8_mark_45 rfl rfl ?_
      refine ckE lkX8_84 (k_X3_hasStretch Z a C36 fS fA sa sb N hG (tkB_Cl hG.1 p) d36 x y hx hy) dX8_mark_46 (And.intro (Nat.le_of_ble_eq_true rfl) (Nat.le_of_ble_eq_true rfl)) (ci := 3) (q0 := 30) rfl rfl (Nat.le_of_ble_eq_true rfl) rfl rfl (Nat.le_of_ble_eq_true rfl) (Nat.le_of_ble_eq_true rfl) rfl ?_
      by_cases hst : 0 < y ∧ 0 ≤ x ∧ x ≤ txtN D (tkB D p) - y
      · rw [decide_eq_true hst]
        refine gi_if_eq 71 dX8_mark_49 (by decide) ⟨by decide, by decide⟩ (fun cc => absurd cc (by decide)) (fun _ => ?_)
        refine g_iload dX8_mark_52 rfl ?_
        refine ckS lkX8_97 (k_X8_isTint Z a C36 fS fA _ t ht) dX8_mark_54 (And.intro (Nat.le_of_ble_eq_true rfl) (Nat.le_of_ble_eq_true rfl)) (Nat.le_of_ble_eq_true rfl) rfl rfl (Nat.le_of_ble_eq_true rfl) (Nat.le_of_ble_eq_true rfl) rfl ?_
        by_cases hT4 : 0 ≤ t ∧ t < 4
        · rw [decide_eq_true hT4]
          refine gi_if_eq 71 dX8_mark_57 (by decide) ⟨by decide, by decide⟩ (fun cc => absurd cc (by decide)) (fun _ => ?_)
          refine g_iload dX8_mark_60 rfl ?_
          refine gi_if_lt 71 dX8_mark_62 (by decide) (by first | exact bI_Rg _ | assumption | exact ⟨by omega, by omega⟩) (fun c61 => ?_) (fun c61 => ?_)
          · refine g_aload_n 0 dX8_mark_71 rfl rfl ?_
            refine g_iconst (iI 1) dX8_mark_72 rfl ?_
            refine ckE lkX8_46 (k_X8_refuse Z a C36 fS fA _ 1) dX8_mark_73 (And.intro (Nat.le_of_ble_eq_true rfl) (Nat.le_of_ble_eq_true rfl)) (ci := 7) (q0 := 0) rfl rfl (Nat.le_of_ble_eq_true rfl) rfl rfl (Nat.le_of_ble_eq_true rfl) (Nat.le_of_ble_eq_true rfl) rfl ?_
            refine g_iret dX8_mark_76 rfl (Nat.le_of_ble_eq_true rfl) (Nat.le_of_ble_eq_true rfl) ?_
            have hA : A_mark D p x y t h = (-1, ms D 13 0 1) := by unfold A_mark; rw [if_pos hPp, if_neg (by omega), if_neg (by omega)]
            rw [hA]
            exact ⟨_, fS, fA, sa, sb, N, rfl, by rw [sW_fin], Rel_fin r36 1⟩
          · refine g_iload dX8_mark_65 rfl ?_
            refine g_iconst (iI 4) dX8_mark_67 rfl ?_
            refine gi_icmp_lt 77 dX8_mark_68 (by decide) (by first | exact bI_Rg _ | assumption | exact ⟨by omega, by omega⟩) (by first | exact bI_Rg _ | assumption | exact ⟨by omega, by omega⟩) (fun c67 => ?_) (fun c67 => ?_)
            · have hcnd : (1 ≤ y ∧ (0 ≤ x ∧ 0 ≤ y ∧ y ≤ txtN D (tkB D p) ∧ x ≤ txtN D (tkB D p) - y)) ∧ (0 ≤ t ∧ t ≤ 3) ∧ (0 ≤ h ∧ h ≤ 3) := ⟨⟨by omega, by omega⟩, by omega, by omega⟩
              have hat := atF_in (D := D) (T := tkB D p) (x := x + y - 1) (by omega) (by omega)
              have hnin : nmX D (tkB D p) (x + y - 1) ∈ ordF D (tkB D p) := fF_mem hat.1 hat.2.1
              have hnrg : Rg (nmX D (tkB D p) (x + y - 1)) := by have := ord_lt hG hnin; exact ⟨by omega, by omega⟩
              have hixn : inIx (ordF D (tkB D p)) (nmX D (tkB D p) (x + y - 1)) = atF D (tkB D p) (x + y - 1) := inIx_at (ordF_nd hG (tkB_Cl hG.1 p)) hat.1 hat.2.1
              refine g_aload_n 0 dX8_mark_77 rfl rfl ?_
              refine cg_mp_book dX8_mark_78 flX8_12 ?_
              refine ckE lkX8_65 (k_X0_isFull Z a C36 fS fA _ (by rw [r36.1.c1]; exact ⟨by omega, by omega⟩)) dX8_mark_81 (And.intro (Nat.le_of_ble_eq_true rfl) (Nat.le_of_ble_eq_true rfl)) (ci := 0) (q0 := 1) rfl rfl (Nat.le_of_ble_eq_true rfl) rfl rfl (Nat.le_of_ble_eq_true rfl) (Nat.le_of_ble_eq_true rfl) rfl ?_
              by_cases hfl : 256 ≤ C36 1 0
              · rw [decide_eq_true hfl]
                rw [r36.1.c1] at hfl
                refine gi_if_eq 93 dX8_mark_84 (by decide) ⟨by decide, by decide⟩ (fun cc => absurd cc (by decide)) (fun _ => ?_)
                refine g_aload_n 0 dX8_mark_87 rfl rfl ?_
                refine g_iconst (iI 2) dX8_mark_88 rfl ?_
                refine ckE lkX8_46 (k_X8_refuse Z a C36 fS fA _ 2) dX8_mark_89 (And.intro (Nat.le_of_ble_eq_true rfl) (Nat.le_of_ble_eq_true rfl)) (ci := 7) (q0 := 0) rfl rfl (Nat.le_of_ble_eq_true rfl) rfl rfl (Nat.le_of_ble_eq_true rfl) (Nat.le_of_ble_eq_true rfl) rfl ?_
                refine g_iret dX8_mark_92 rfl (Nat.le_of_ble_eq_true rfl) (Nat.le_of_ble_eq_true rfl) ?_
                have hA : A_mark D p x y t h = (-1, ms D 13 0 2) := by unfold A_mark; rw [if_pos hPp, if_neg (by omega), if_pos hcnd, if_pos (by omega)]
                rw [hA]
                exact ⟨_, fS, fA, sa, sb, N, rfl, by rw [sW_fin], Rel_fin r36 2⟩
              · rw [decide_eq_false hfl]
                rw [r36.1.c1] at hfl
                refine gi_if_eq 93 dX8_mark_84 (by decide) ⟨by decide, by decide⟩ (fun _ => ?_) (fun cc => absurd cc (by decide))
                refine g_aload_n 0 dX8_mark_93 rfl rfl ?_
                refine cg_mp_reading dX8_mark_94 flX8_30 ?_
                refine g_iload_n 2 dX8_mark_97 rfl rfl ?_
                refine ckE lkX8_69 (k_X3_nameAt Z a C36 fS fA sa sb N hG (tkB_Cl hG.1 p) d36 x hx) dX8_mark_98 (And.intro (Nat.le_of_ble_eq_true rfl) (Nat.le_of_ble_eq_true rfl)) (ci := 3) (q0 := 30) rfl rfl (Nat.le_of_ble_eq_true rfl) rfl rfl (Nat.le_of_ble_eq_true rfl) (Nat.le_of_ble_eq_true rfl) rfl ?_
                rw [if_pos (by omega)]
                refine g_istore dX8_mark_101 (Nat.le_of_ble_eq_true rfl) (Nat.le_of_ble_eq_true rfl) rfl ?_
                dsimp only [sto]
                refine g_aload_n 0 dX8_mark_103 rfl rfl ?_
                refine cg_mp_reading dX8_mark_104 flX8_30 ?_
                refine g_iload_n 2 dX8_mark_107 rfl rfl ?_
                refine g_iload_n 3 dX8_mark_108 rfl rfl ?_
                refine gi_add dX8_mark_109 ?_
                refine g_iconst (iI 1) dX8_mark_110 rfl ?_
                refine gi_sub dX8_mark_111 ?_
                refine ckE lkX8_69 (k_X3_nameAt Z a C36 fS fA sa sb N hG (tkB_Cl hG.1 p) d36 (x + y - 1) ⟨by omega, by omega⟩) dX8_mark_112 (And.intro (Nat.le_of_ble_eq_true rfl) (Nat.le_of_ble_eq_true rfl)) (ci := 3) (q0 := 30) rfl rfl (Nat.le_of_ble_eq_true rfl) rfl rfl (Nat.le_of_ble_eq_true rfl) (Nat.le_of_ble_eq_true rfl) rfl ?_
                rw [if_pos (by omega)]
                refine g_istore dX8_mark_115 (Nat.le_of_ble_eq_true rfl) (Nat.le_of_ble_eq_true rfl) rfl ?_
                dsimp only [sto]
                refine g_iload dX8_mark_117 rfl ?_
                refine g_iconst (iI 2) dX8_mark_119 rfl ?_
                refine gi_icmp_lt 135 dX8_mark_120 (by decide) (by first | exact bI_Rg _ | assumption | exact ⟨by omega, by omega⟩) (by first | exact bI_Rg _ | assumption | exact ⟨by omega, by omega⟩) (fun c119 => ?_) (fun c119 => ?_)
                · refine g_bipush (iI (-3)) dX8_mark_135 (by decide) ?_
                  refine g_istore dX8_mark_137 (Nat.le_of_ble_eq_true rfl) (Nat.le_of_ble_eq_true rfl) rfl ?_
                  dsimp only [sto]
                  refine g_aload_n 0 dX8_mark_139 rfl rfl ?_
                  refine g_aload dX8_mark_140 rfl ?_
                  refine g_newO 1 tyX1 [.int (iI 0), .int (iI 0), .int (iI 0), .int (iI 0), .int (iI 0), .int (iI 0), .int (iI 0), .int (iI 0), .int (iI 0)] dX8_mark_142 rfl fwX1 tyX1_ok clX8_104 isX1 inX1 dfv1 (Nat.le_of_ble_eq_true rfl) (Nat.le_of_ble_eq_true rfl) (fun q => ?_)
                  rw [← cW_app]
                  refine g_dup dX8_mark_145 rfl ?_
                  refine g_aload_n 0 dX8_mark_146 rfl rfl ?_
                  refine cg_mp_book dX8_mark_147 flX8_12 ?_
                  refine cg_bk_count r36.1.c1 dX8_mark_150 flX8_74 ?_
                  refine g_aload dX8_mark_153 rfl ?_
                  refine g_iload dX8_mark_155 rfl ?_
                  refine g_iload dX8_mark_157 rfl ?_
                  refine g_iload dX8_mark_159 rfl ?_
                  refine g_iload dX8_mark_161 rfl ?_
                  refine g_iload dX8_mark_163 rfl ?_
                  refine g_iconst (iI 2) dX8_mark_165 rfl ?_
                  refine gi_rem dX8_mark_166 (by omega) (by omega) (by decide) (by decide) ?_
                  refine g_iconst (iI 1) dX8_mark_167 rfl ?_
                  refine gi_icmp_ne 175 dX8_mark_168 (by decide) (by first | exact bI_Rg _ | assumption | exact ⟨by omega, by omega⟩) (by first | exact bI_Rg _ | assumption | exact ⟨by omega, by omega⟩) (fun c167 => ?_) (fun c167 => ?_)
                  · refine g_iconst (iI 0) dX8_mark_175 rfl ?_
                    refine ckI lkX8_106 (k_init1 Z a C36 fS fA _ q N p.toNat hnp (nmX D (tkB D p) x) (nmX D (tkB D p) (x + y - 1)) (-3) t 0 (Or.inl rfl)) dX8_mark_176 (And.intro (Nat.le_of_ble_eq_true rfl) (Nat.le_of_ble_eq_true rfl)) (Nat.le_of_ble_eq_true rfl) rfl rfl (Nat.le_of_ble_eq_true rfl) (Nat.le_of_ble_eq_true rfl) rfl ?_
                    have hbx : bndX D p x y h = -3 := by
                      unfold bndX
                      rw [if_pos (by omega)]
                    have hon : bI (decide (h = 1 ∨ h = 3)) = 0 := by
                      rw [decide_eq_false (by omega)]
                      rfl
                    obtain ⟨hA, hw, h41, h42, h6, h7, h8⟩ := mk_new hG (p := p) (f := x) (n := y) (t := t) (h := h) hPp hcnd (by omega)
                    rw [hA]
                    show G Z jX8_mark E0 (QM Z jX8_mark (Pn Z a (ms (mkE D p x y t h) 13 0 0) (D 9 0))) 179 _ _ _ _ _
                    rw [h9, cW_app]
                    rw [h9] at h41 h42 h6 h7 h8
                    have hpn := pri_new hw.1 h9
                    have e1 : mkE D p x y t h 1 N = C36 (50 + p.toNat) 0 + 1 := by
                      have g := hw.2.2.1
                      rw [h9] at g
                      rw [g, r36.1.mx p.toNat hnp, hep]
                      show mxF D (tkB D p) (D 9 0).toNat + 1 = _
                      rw [show (D 9 0).toNat = N by omega]
                    have e2 : mkE D p x y t h 2 N = 2 := by have g := hw.2.2.2.1; rwa [h9] at g
                    refine g_cong (WC_new1 (sa := sa) (sb := sb) (q := q) hw.1 h9 hSD ?_ (by omega)) ?_
                    · rw [slC2 e2, hpn.1, hpn.2, e1, h41, h42, h6, h7, h8, hbx, hon, r36.1.lt p.toNat hnp, hep]
                    · exact g_end (p := p.toNat) (E := mkE D p x y t h) (upN_at sa N q) lkX8_80 dX8_mark_179 (And.intro (Nat.le_of_ble_eq_true rfl) (Nat.le_of_ble_eq_true rfl)) dX8_mark_182 rfl (Nat.le_of_ble_eq_true rfl) (Nat.le_of_ble_eq_true rfl) hnp hG (by rw [hep]; exact hw) (Rel_sa r36 (fun s hs => upN_lt hs)) (by omega)
                  · refine g_iconst (iI 1) dX8_mark_171 rfl ?_
                    refine g_goto 176 dX8_mark_172 (by decide) ?_
                    refine ckI lkX8_106 (k_init1 Z a C36 fS fA _ q N p.toNat hnp (nmX D (tkB D p) x) (nmX D (tkB D p) (x + y - 1)) (-3) t 1 (Or.inr rfl)) dX8_mark_176 (And.intro (Nat.le_of_ble_eq_true rfl) (Nat.le_of_ble_eq_true rfl)) (Nat.le_of_ble_eq_true rfl) rfl rfl (Nat.le_of_ble_eq_true rfl) (Nat.le_of_ble_eq_true rfl) rfl ?_
                    have hbx : bndX D p x y h = -3 := by
                      unfold bndX
                      rw [if_pos (by omega)]
                    have hon : bI (decide (h = 1 ∨ h = 3)) = 1 := by
                      rw [decide_eq_true (by omega)]
                      rfl
                    obtain ⟨hA, hw, h41, h42, h6, h7, h8⟩ := mk_new hG (p := p) (f := x) (n := y) (t := t) (h := h) hPp hcnd (by omega)
                    rw [hA]
                    show G Z jX8_mark E0 (QM Z jX8_mark (Pn Z a (ms (mkE D p x y t h) 13 0 0) (D 9 0))) 179 _ _ _ _ _
                    rw [h9, cW_app]
                    rw [h9] at h41 h42 h6 h7 h8
                    have hpn := pri_new hw.1 h9
                    have e1 : mkE D p x y t h 1 N = C36 (50 + p.toNat) 0 + 1 := by
                      have g := hw.2.2.1
                      rw [h9] at g
                      rw [g, r36.1.mx p.toNat hnp, hep]
                      show mxF D (tkB D p) (D 9 0).toNat + 1 = _
                      rw [show (D 9 0).toNat = N by omega]
                    have e2 : mkE D p x y t h 2 N = 2 := by have g := hw.2.2.2.1; rwa [h9] at g
                    refine g_cong (WC_new1 (sa := sa) (sb := sb) (q := q) hw.1 h9 hSD ?_ (by omega)) ?_
                    · rw [slC2 e2, hpn.1, hpn.2, e1, h41, h42, h6, h7, h8, hbx, hon, r36.1.lt p.toNat hnp, hep]
                    · exact g_end (p := p.toNat) (E := mkE D p x y t h) (upN_at sa N q) lkX8_80 dX8_mark_179 (And.intro (Nat.le_of_ble_eq_true rfl) (Nat.le_of_ble_eq_true rfl)) dX8_mark_182 rfl (Nat.le_of_ble_eq_true rfl) (Nat.le_of_ble_eq_true rfl) hnp hG (by rw [hep]; exact hw) (Rel_sa r36 (fun s hs => upN_lt hs)) (by omega)
                · refine g_aload_n 0 dX8_mark_123 rfl rfl ?_
                  refine cg_mp_reading dX8_mark_124 flX8_30 ?_
                  refine g_iload dX8_mark_127 rfl ?_
                  refine ckE lkX8_101 (k_X3_nextBehind Z a C36 fS fA sa sb N hG (tkB_Cl hG.1 p) d36 (nmX D (tkB D p) (x + y - 1)) hnrg hnin) dX8_mark_129 (And.intro (Nat.le_of_ble_eq_true rfl) (Nat.le_of_ble_eq_true rfl)) (ci := 3) (q0 := 30) rfl rfl (Nat.le_of_ble_eq_true rfl) rfl rfl (Nat.le_of_ble_eq_true rfl) (Nat.le_of_ble_eq_true rfl) rfl ?_
                  rw [hixn]
                  refine g_goto 137 dX8_mark_132 (by decide) ?_
                  refine g_istore dX8_mark_137 (Nat.le_of_ble_eq_true rfl) (Nat.le_of_ble_eq_true rfl) rfl ?_
                  dsimp only [sto]
                  refine g_aload_n 0 dX8_mark_139 rfl rfl ?_
                  refine g_aload dX8_mark_140 rfl ?_
                  refine g_newO 1 tyX1 [.int (iI 0), .int (iI 0), .int (iI 0), .int (iI 0), .int (iI 0), .int (iI 0), .int (iI 0), .int (iI 0), .int (iI 0)] dX8_mark_142 rfl fwX1 tyX1_ok clX8_104 isX1 inX1 dfv1 (Nat.le_of_ble_eq_true rfl) (Nat.le_of_ble_eq_true rfl) (fun q => ?_)
                  rw [← cW_app]
                  refine g_dup dX8_mark_145 rfl ?_
                  refine g_aload_n 0 dX8_mark_146 rfl rfl ?_
                  refine cg_mp_book dX8_mark_147 flX8_12 ?_
                  refine cg_bk_count r36.1.c1 dX8_mark_150 flX8_74 ?_
                  refine g_aload dX8_mark_153 rfl ?_
                  refine g_iload dX8_mark_155 rfl ?_
                  refine g_iload dX8_mark_157 rfl ?_
                  refine g_iload dX8_mark_159 rfl ?_
                  refine g_iload dX8_mark_161 rfl ?_
                  refine g_iload dX8_mark_163 rfl ?_
                  refine g_iconst (iI 2) dX8_mark_165 rfl ?_
                  refine gi_rem dX8_mark_166 (by omega) (by omega) (by decide) (by decide) ?_
                  refine g_iconst (iI 1) dX8_mark_167 rfl ?_
                  refine gi_icmp_ne 175 dX8_mark_168 (by decide) (by first | exact bI_Rg _ | assumption | exact ⟨by omega, by omega⟩) (by first | exact bI_Rg _ | assumption | exact ⟨by omega, by omega⟩) (fun c167 => ?_) (fun c167 => ?_)
                  · refine g_iconst (iI 0) dX8_mark_175 rfl ?_
                    refine ckI lkX8_106 (k_init1 Z a C36 fS fA _ q N p.toNat hnp (nmX D (tkB D p) x) (nmX D (tkB D p) (x + y - 1)) (if atF D (tkB D p) (x + y - 1) + 1 < (ordF D (tkB D p)).length then fF (ordF D (tkB D p)) (atF D (tkB D p) (x + y - 1) + 1) else -2) t 0 (Or.inl rfl)) dX8_mark_176 (And.intro (Nat.le_of_ble_eq_true rfl) (Nat.le_of_ble_eq_true rfl)) (Nat.le_of_ble_eq_true rfl) rfl rfl (Nat.le_of_ble_eq_true rfl) (Nat.le_of_ble_eq_true rfl) rfl ?_
                    have hbx : bndX D p x y h = (if atF D (tkB D p) (x + y - 1) + 1 < (ordF D (tkB D p)).length then fF (ordF D (tkB D p)) (atF D (tkB D p) (x + y - 1) + 1) else -2) := by
                      unfold bndX
                      rw [if_neg (by omega)]
                    have hon : bI (decide (h = 1 ∨ h = 3)) = 0 := by
                      rw [decide_eq_false (by omega)]
                      rfl
                    obtain ⟨hA, hw, h41, h42, h6, h7, h8⟩ := mk_new hG (p := p) (f := x) (n := y) (t := t) (h := h) hPp hcnd (by omega)
                    rw [hA]
                    show G Z jX8_mark E0 (QM Z jX8_mark (Pn Z a (ms (mkE D p x y t h) 13 0 0) (D 9 0))) 179 _ _ _ _ _
                    rw [h9, cW_app]
                    rw [h9] at h41 h42 h6 h7 h8
                    have hpn := pri_new hw.1 h9
                    have e1 : mkE D p x y t h 1 N = C36 (50 + p.toNat) 0 + 1 := by
                      have g := hw.2.2.1
                      rw [h9] at g
                      rw [g, r36.1.mx p.toNat hnp, hep]
                      show mxF D (tkB D p) (D 9 0).toNat + 1 = _
                      rw [show (D 9 0).toNat = N by omega]
                    have e2 : mkE D p x y t h 2 N = 2 := by have g := hw.2.2.2.1; rwa [h9] at g
                    refine g_cong (WC_new1 (sa := sa) (sb := sb) (q := q) hw.1 h9 hSD ?_ (by omega)) ?_
                    · rw [slC2 e2, hpn.1, hpn.2, e1, h41, h42, h6, h7, h8, hbx, hon, r36.1.lt p.toNat hnp, hep]
                    · exact g_end (p := p.toNat) (E := mkE D p x y t h) (upN_at sa N q) lkX8_80 dX8_mark_179 (And.intro (Nat.le_of_ble_eq_true rfl) (Nat.le_of_ble_eq_true rfl)) dX8_mark_182 rfl (Nat.le_of_ble_eq_true rfl) (Nat.le_of_ble_eq_true rfl) hnp hG (by rw [hep]; exact hw) (Rel_sa r36 (fun s hs => upN_lt hs)) (by omega)
                  · refine g_iconst (iI 1) dX8_mark_171 rfl ?_
                    refine g_goto 176 dX8_mark_172 (by decide) ?_
                    refine ckI lkX8_106 (k_init1 Z a C36 fS fA _ q N p.toNat hnp (nmX D (tkB D p) x) (nmX D (tkB D p) (x + y - 1)) (if atF D (tkB D p) (x + y - 1) + 1 < (ordF D (tkB D p)).length then fF (ordF D (tkB D p)) (atF D (tkB D p) (x + y - 1) + 1) else -2) t 1 (Or.inr rfl)) dX8_mark_176 (And.intro (Nat.le_of_ble_eq_true rfl) (Nat.le_of_ble_eq_true rfl)) (Nat.le_of_ble_eq_true rfl) rfl rfl (Nat.le_of_ble_eq_true rfl) (Nat.le_of_ble_eq_true rfl) rfl ?_
                    have hbx : bndX D p x y h = (if atF D (tkB D p) (x + y - 1) + 1 < (ordF D (tkB D p)).length then fF (ordF D (tkB D p)) (atF D (tkB D p) (x + y - 1) + 1) else -2) := by
                      unfold bndX
                      rw [if_neg (by omega)]
                    have hon : bI (decide (h = 1 ∨ h = 3)) = 1 := by
                      rw [decide_eq_true (by omega)]
                      rfl
                    obtain ⟨hA, hw, h41, h42, h6, h7, h8⟩ := mk_new hG (p := p) (f := x) (n := y) (t := t) (h := h) hPp hcnd (by omega)
                    rw [hA]
                    show G Z jX8_mark E0 (QM Z jX8_mark (Pn Z a (ms (mkE D p x y t h) 13 0 0) (D 9 0))) 179 _ _ _ _ _
                    rw [h9, cW_app]
                    rw [h9] at h41 h42 h6 h7 h8
                    have hpn := pri_new hw.1 h9
                    have e1 : mkE D p x y t h 1 N = C36 (50 + p.toNat) 0 + 1 := by
                      have g := hw.2.2.1
                      rw [h9] at g
                      rw [g, r36.1.mx p.toNat hnp, hep]
                      show mxF D (tkB D p) (D 9 0).toNat + 1 = _
                      rw [show (D 9 0).toNat = N by omega]
                    have e2 : mkE D p x y t h 2 N = 2 := by have g := hw.2.2.2.1; rwa [h9] at g
                    refine g_cong (WC_new1 (sa := sa) (sb := sb) (q := q) hw.1 h9 hSD ?_ (by omega)) ?_
                    · rw [slC2 e2, hpn.1, hpn.2, e1, h41, h42, h6, h7, h8, hbx, hon, r36.1.lt p.toNat hnp, hep]
                    · exact g_end (p := p.toNat) (E := mkE D p x y t h) (upN_at sa N q) lkX8_80 dX8_mark_179 (And.intro (Nat.le_of_ble_eq_true rfl) (Nat.le_of_ble_eq_true rfl)) dX8_mark_182 rfl (Nat.le_of_ble_eq_true rfl) (Nat.le_of_ble_eq_true rfl) hnp hG (by rw [hep]; exact hw) (Rel_sa r36 (fun s hs => upN_lt hs)) (by omega)
            · refine g_aload_n 0 dX8_mark_71 rfl rfl ?_
              refine g_iconst (iI 1) dX8_mark_72 rfl ?_
              refine ckE lkX8_46 (k_X8_refuse Z a C36 fS fA _ 1) dX8_mark_73 (And.intro (Nat.le_of_ble_eq_true rfl) (Nat.le_of_ble_eq_true rfl)) (ci := 7) (q0 := 0) rfl rfl (Nat.le_of_ble_eq_true rfl) rfl rfl (Nat.le_of_ble_eq_true rfl) (Nat.le_of_ble_eq_true rfl) rfl ?_
              refine g_iret dX8_mark_76 rfl (Nat.le_of_ble_eq_true rfl) (Nat.le_of_ble_eq_true rfl) ?_
              have hA : A_mark D p x y t h = (-1, ms D 13 0 1) := by unfold A_mark; rw [if_pos hPp, if_neg (by omega), if_neg (by omega)]
              rw [hA]
              exact ⟨_, fS, fA, sa, sb, N, rfl, by rw [sW_fin], Rel_fin r36 1⟩
        · rw [decide_eq_false hT4]
          refine gi_if_eq 71 dX8_mark_57 (by decide) ⟨by decide, by decide⟩ (fun _ => ?_) (fun cc => absurd cc (by decide))
          refine g_aload_n 0 dX8_mark_71 rfl rfl ?_
          refine g_iconst (iI 1) dX8_mark_72 rfl ?_
          refine ckE lkX8_46 (k_X8_refuse Z a C36 fS fA _ 1) dX8_mark_73 (And.intro (Nat.le_of_ble_eq_true rfl) (Nat.le_of_ble_eq_true rfl)) (ci := 7) (q0 := 0) rfl rfl (Nat.le_of_ble_eq_true rfl) rfl rfl (Nat.le_of_ble_eq_true rfl) (Nat.le_of_ble_eq_true rfl) rfl ?_
          refine g_iret dX8_mark_76 rfl (Nat.le_of_ble_eq_true rfl) (Nat.le_of_ble_eq_true rfl) ?_
          have hA : A_mark D p x y t h = (-1, ms D 13 0 1) := by unfold A_mark; rw [if_pos hPp, if_neg (by omega), if_neg (by omega)]
          rw [hA]
          exact ⟨_, fS, fA, sa, sb, N, rfl, by rw [sW_fin], Rel_fin r36 1⟩
      · rw [decide_eq_false hst]
        refine gi_if_eq 71 dX8_mark_49 (by decide) ⟨by decide, by decide⟩ (fun _ => ?_) (fun cc => absurd cc (by decide))
        refine g_aload_n 0 dX8_mark_71 rfl rfl ?_
        refine g_iconst (iI 1) dX8_mark_72 rfl ?_
        refine ckE lkX8_46 (k_X8_refuse Z a C36 fS fA _ 1) dX8_mark_73 (And.intro (Nat.le_of_ble_eq_true rfl) (Nat.le_of_ble_eq_true rfl)) (ci := 7) (q0 := 0) rfl rfl (Nat.le_of_ble_eq_true rfl) rfl rfl (Nat.le_of_ble_eq_true rfl) (Nat.le_of_ble_eq_true rfl) rfl ?_
        refine g_iret dX8_mark_76 rfl (Nat.le_of_ble_eq_true rfl) (Nat.le_of_ble_eq_true rfl) ?_
        have hA : A_mark D p x y t h = (-1, ms D 13 0 1) := by unfold A_mark; rw [if_pos hPp, if_neg (by omega), if_neg (by omega)]
        rw [hA]
        exact ⟨_, fS, fA, sa, sb, N, rfl, by rw [sW_fin], Rel_fin r36 1⟩
    · refine g_aload_n 0 dX8_mark_22 rfl rfl ?_
      refine g_iconst (iI 5) dX8_mark_23 rfl ?_
      refine ckE lkX8_46 (k_X8_refuse Z a C fS fA _ 5) dX8_mark_24 (And.intro (Nat.le_of_ble_eq_true rfl) (Nat.le_of_ble_eq_true rfl)) (ci := 7) (q0 := 0) rfl rfl (Nat.le_of_ble_eq_true rfl) rfl rfl (Nat.le_of_ble_eq_true rfl) (Nat.le_of_ble_eq_true rfl) rfl ?_
      refine g_iret dX8_mark_27 rfl (Nat.le_of_ble_eq_true rfl) (Nat.le_of_ble_eq_true rfl) ?_
      have hA : A_mark D p x y t h = (-1, ms D 13 0 5) := by unfold A_mark; rw [if_pos hPp, if_pos (by omega)]
      rw [hA]
      exact ⟨_, fS, fA, sa, sb, N, rfl, by rw [sW_fin], Rel_fin hR 5⟩
  · rw [if_neg hPp]
    refine g_astoreN dX8_mark_5 (Nat.le_of_ble_eq_true rfl) (Nat.le_of_ble_eq_true rfl) rfl ?_
    dsimp only [sto]
    refine g_aloadN dX8_mark_7 rfl ?_
    refine g_ifnonnullN dX8_mark_9 ?_
    refine g_aload_n 0 dX8_mark_12 rfl rfl ?_
    refine g_iconst (iI 1) dX8_mark_13 rfl ?_
    refine ckE lkX8_46 (k_X8_refuse Z a C fS fA _ 1) dX8_mark_14 (And.intro (Nat.le_of_ble_eq_true rfl) (Nat.le_of_ble_eq_true rfl)) (ci := 7) (q0 := 0) rfl rfl (Nat.le_of_ble_eq_true rfl) rfl rfl (Nat.le_of_ble_eq_true rfl) (Nat.le_of_ble_eq_true rfl) rfl ?_
    refine g_iret dX8_mark_17 rfl (Nat.le_of_ble_eq_true rfl) (Nat.le_of_ble_eq_true rfl) ?_
    have hA : A_mark D p x y t h = (-1, ms D 13 0 1) := by unfold A_mark; rw [if_neg (by omega)]
    rw [hA]
    exact ⟨_, fS, fA, sa, sb, N, rfl, by rw [sW_fin], Rel_fin hR 1⟩
