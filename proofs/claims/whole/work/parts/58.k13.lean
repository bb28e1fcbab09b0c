/-! THE CLASS: part, left, bound, undone, cursor -/
theorem sW_congr {Z : LZ} {D E : Mem} {sa sb : Nat → Nat} : ∀ N : Nat, (∀ r : Nat, r < 9 → E r = D r) → sW Z E sa sb N = sW Z D sa sb N := by
  intro N h
  have e0 := h 0 (by decide)
  have e1 := h 1 (by decide)
  have e2 := h 2 (by decide)
  have e3 := h 3 (by decide)
  have e4 := h 4 (by decide)
  have e5 := h 5 (by decide)
  have e6 := h 6 (by decide)
  have e7 := h 7 (by decide)
  have e8 := h 8 (by decide)
  induction N with
  | zero => rfl
  | succ k ih =>
    rw [sW_succ, sW_succ, ih]
    have hp : pri E k = pri D k := by
      unfold pri
      rw [e0]
      exact latestF_congr _ (fun t _ _ => by rw [e0])
    unfold slC slA
    rw [e0, e1, e2, e3, e4, e5, e6, e7, e8, hp]
theorem tkU_row {D E : Mem} {p : Int} (hn : ∀ s, needL E s = needL D s) (h10 : E 10 = D 10) : ∀ (k : Nat) (s : Int), tkU E p k s = tkU D p k s := by
  intro k
  induction k with
  | zero => intro s; rfl
  | succ k ih =>
    intro s
    unfold tkU
    rw [h10, hn, all_congr (fun t _ => ih t)]
theorem mxF_congr {D E : Mem} {S T : Int → Bool} : ∀ k : Nat, (∀ s : Int, 0 ≤ s → s < k → S s = T s) → (∀ s : Int, 0 ≤ s → s < k → E 1 s = D 1 s) → mxF E S k = mxF D T k := by
  intro k
  induction k with
  | zero => intro _ _; rfl
  | succ k ih =>
    intro h1 h2
    unfold mxF
    rw [ih (fun s a b => h1 s a (by omega)) (fun s a b => h2 s a (by omega)), h1 k (by omega) (by omega), h2 k (by omega) (by omega)]
section KeepP
variable {D E C C2 : Mem} {fS fA : Nat → Option Nat} {sa : Nat → Nat} {N : Nat}
theorem kp_tkB (hr : ∀ r : Nat, r ≠ 11 → r ≠ 12 → r ≠ 13 → E r = D r) (p : Int) : tkB E p = tkB D p := by
  funext s
  exact tkU_row (kp_needL (fun r _ h2 h3 h4 => hr r h2 h3 h4)) (hr 10 (by decide) (by decide) (by decide)) 300 s
theorem kp_Age (hr : ∀ r : Nat, r ≠ 10 → r ≠ 11 → r ≠ 12 → r ≠ 13 → E r = D r) (h : Age D fA sa N) : Age E fA sa N := by
  obtain ⟨L, h1, h2, h3, h4⟩ := h
  refine ⟨L, h1, h2, ?_, h4⟩
  have e0 := hr 0 (by decide) (by decide) (by decide) (by decide)
  have e1 := hr 1 (by decide) (by decide) (by decide) (by decide)
  unfold Lat
  rw [e0, e1]
  exact h3
theorem Rel_row (h : Rel D C fS fA sa N) (hr : ∀ r : Nat, r ≠ 11 → r ≠ 12 → r ≠ 13 → E r = D r) (hc : ∀ r : Nat, ¬ r = 0 → ¬ (30 ≤ r ∧ r < 50) → C2 r = C r) (h0 : C2 0 0 = E 13 0) (hcu : ∀ p c : Nat, p < 6 → c < 3 → C2 (40 + p) c = E 12 (3 * p + c) ∧ (0 ≤ E 12 (3 * p + c) → C2 (30 + p) c = E 11 (3 * p + c))) : Rel E C2 fS fA sa N := by
  obtain ⟨hB, hX⟩ := h
  have hr4 : ∀ r : Nat, r ≠ 10 → r ≠ 11 → r ≠ 12 → r ≠ 13 → E r = D r := fun r _ h2 h3 h4 => hr r h2 h3 h4
  have e0 := hr 0 (by decide) (by decide) (by decide)
  have e1 := hr 1 (by decide) (by decide) (by decide)
  have e9 := hr 9 (by decide) (by decide) (by decide)
  have e10 := hr 10 (by decide) (by decide) (by decide)
  refine ⟨⟨⟨by rw [e9]; exact hB.d9, hB.n⟩, by rw [hc 1 (by decide) (by decide)]; exact hB.c1, h0, hB.sl, kp_Age hr4 hB.age, ?_, fun p s a b => ?_, hcu, fun p a => ?_, fun p a => ?_⟩, ?_⟩
  · rw [kp_ordF hr4, hc 2 (by decide) (by decide), hc 3 (by decide) (by decide)]
    exact hB.ord
  · rw [hc (20 + p) (by omega) (by omega), hB.held p s a b]
    unfold hdF
    rw [e10, kp_tkB hr]
  · rw [hc (50 + p) (by omega) (by omega), hB.mx p a, kp_tkB hr]
    exact (mxF_congr N (fun _ _ _ => rfl) (fun s _ _ => by rw [e1])).symm
  · rw [hc (60 + p) (by omega) (by omega), hB.lt p a]
    exact (latestF_congr N (fun t _ _ => by rw [e0])).symm
  · unfold SpI
    rw [kp_ordF hr4, hc 72 (by decide) (by decide)]
    exact hX
theorem Rel_fin (h : Rel D C fS fA sa N) (v : Int) : Rel (ms D 13 0 v) (ms C 0 0 v) fS fA sa N := by
  refine Rel_row h (fun r _ _ h3 => ms_ne h3) (fun r h _ => ms_ne h) (by rw [ms_at, ms_at]) (fun p c a b => ?_)
  rw [ms_row (show 40 + p ≠ 0 by omega), ms_row (show 30 + p ≠ 0 by omega), ms_row (show (12 : Nat) ≠ 13 by decide), ms_row (show (11 : Nat) ≠ 13 by decide)]
  exact h.1.cur p c a b
theorem Rel_cur (h : Rel D C fS fA sa N) {p c : Nat} (hp : p < 6) (hc : c < 3) (x l : Int) : Rel (ms (ms (ms D 11 (3 * p + c) x) 12 (3 * p + c) l) 13 0 0) (ms (ms (ms C (30 + p) c x) (40 + p) c l) 0 0 0) fS fA sa N := by
  refine Rel_row h (fun r h1 h2 h3 => by rw [ms_ne h3, ms_ne h2, ms_ne h1]) (fun r h1 h2 => by rw [ms_ne h1, ms_ne (by omega), ms_ne (by omega)]) (by rw [ms_at, ms_at]) (fun p2 c2 ha hb => ?_)
  by_cases e : p2 = p ∧ c2 = c
  · obtain ⟨e1, e2⟩ := e
    subst e1
    subst e2
    refine ⟨?_, fun _ => ?_⟩
    · rw [ms_row (show 40 + p2 ≠ 0 by omega), ms_at, ms_row (show (12 : Nat) ≠ 13 by decide), ms_at]
    · rw [ms_row (show 30 + p2 ≠ 0 by omega), ms_row (show 30 + p2 ≠ 40 + p2 by omega), ms_at, ms_row (show (11 : Nat) ≠ 13 by decide), ms_row (show (11 : Nat) ≠ 12 by decide), ms_at]
  · have hz : (3 * (p2 : Int) + c2) ≠ 3 * p + c := by omega
    have k1 : ms (ms (ms C (30 + p) c x) (40 + p) c l) 0 0 0 (40 + p2) c2 = C (40 + p2) c2 := by
      rw [ms_row (show 40 + p2 ≠ 0 by omega)]
      by_cases e1 : p2 = p
      · subst e1
        rw [ms_off (by omega), ms_row (show 40 + p2 ≠ 30 + p2 by omega)]
      · rw [ms_row (show 40 + p2 ≠ 40 + p by omega), ms_row (show 40 + p2 ≠ 30 + p by omega)]
    have k2 : ms (ms (ms C (30 + p) c x) (40 + p) c l) 0 0 0 (30 + p2) c2 = C (30 + p2) c2 := by
      rw [ms_row (show 30 + p2 ≠ 0 by omega), ms_row (show 30 + p2 ≠ 40 + p by omega)]
      by_cases e1 : p2 = p
      · subst e1
        rw [ms_off (by omega)]
      · rw [ms_row (show 30 + p2 ≠ 30 + p by omega)]
    rw [k1, k2, ms_row (show (12 : Nat) ≠ 13 by decide), ms_off hz, ms_row (show (12 : Nat) ≠ 11 by decide), ms_row (show (11 : Nat) ≠ 13 by decide), ms_row (show (11 : Nat) ≠ 12 by decide), ms_off hz]
    exact h.1.cur p2 c2 ha hb
end KeepP
theorem sW_cur (Z : LZ) (D : Mem) (sa sb : Nat → Nat) (N : Nat) (z x y u : Int) : sW Z (ms (ms (ms D 11 z x) 12 y u) 13 0 0) sa sb N = sW Z D sa sb N := sW_congr N (fun r h => by rw [ms_ne (by omega), ms_ne (by omega), ms_ne (by omega)])
theorem sW_fin (Z : LZ) (D : Mem) (sa sb : Nat → Nat) (N : Nat) (v : Int) : sW Z (ms D 13 0 v) sa sb N = sW Z D sa sb N := sW_congr N (fun r h => ms_ne (by omega))
set_option maxHeartbeats 4000000 in
set_option maxRecDepth 100000 in
theorem k_X8_part (Z : LZ) (a : Nat → Nat) (C : Mem) (fS fA : Nat → Option Nat) {D : Mem} (sa sb : Nat → Nat) (N : Nat) (hG : Good D) (hI : Inv D) (hR : Rel D C fS fA sa N) (s x : Int) (hs : Rg s) (hx : Rg x) : Tr Z jX8_part [.ref (a 99), .int (iI s), .int (iI x)] (cW Z a C fS fA (sW Z D sa sb N)) (fun r w => ∃ C2 : Mem, r = some (.int (iI ((A_part D s x).1))) ∧ w = cW Z a C2 fS fA (sW Z (ms D 13 0 (A_part D s x).2) sa sb N) ∧ Rel (ms D 13 0 (A_part D s x).2) C2 fS fA sa N) := by
  refine tr_of pn_X8_part (Nat.le_of_ble_eq_true rfl) (by intro v h; simp only [List.mem_cons, List.not_mem_nil, or_false] at h; rcases h with h | h | h <;> rw [h] <;> rfl) ?_
  have hB := hR.1
  have hn := hB.n
  have h9 := hB.d9
  have hM := hG.1.1
  refine g_aload_n 0 dX8_part_0 rfl rfl ?_
  refine cg_mp_book dX8_part_1 flX8_12 ?_
  refine g_iload_n 1 dX8_part_4 rfl rfl ?_
  refine ckE lkX8_109 (k_X0_find Z a C fS fA sa sb N hn hB.c1 hB.sl s hs) dX8_part_5 (And.intro (Nat.le_of_ble_eq_true rfl) (Nat.le_of_ble_eq_true rfl)) (ci := 0) (q0 := 1) rfl rfl (Nat.le_of_ble_eq_true rfl) rfl rfl (Nat.le_of_ble_eq_true rfl) (Nat.le_of_ble_eq_true rfl) rfl ?_
  by_cases hFs : 0 ≤ s ∧ s < N
  · rw [if_pos hFs]
    have hss : s.toNat < N := by omega
    have hfs : ((s.toNat : Nat) : Int) = s := by omega
    have hSs := hG.s hB hss
    refine g_astore_n 3 dX8_part_8 rfl (Nat.le_of_ble_eq_true rfl) (Nat.le_of_ble_eq_true rfl) rfl ?_
    dsimp only [sto]
    refine g_aload_n 3 dX8_part_9 rfl rfl ?_
    refine g_ifnonnull 19 dX8_part_10 (by decide) ?_
    refine g_aload_n 3 dX8_part_19 rfl rfl ?_
    refine cu_kind_X8_158 rfl hss  hSs.2.1 dX8_part_20 (And.intro (Nat.le_of_ble_eq_true rfl) (Nat.le_of_ble_eq_true rfl)) (And.intro (Nat.le_of_ble_eq_true rfl) (Nat.le_of_ble_eq_true rfl)) (And.intro (Nat.le_of_ble_eq_true rfl) (Nat.le_of_ble_eq_true rfl)) (And.intro (Nat.le_of_ble_eq_true rfl) (Nat.le_of_ble_eq_true rfl)) (Nat.le_of_ble_eq_true rfl) (Nat.le_of_ble_eq_true rfl) (Nat.le_of_ble_eq_true rfl) ?_
    refine g_iconst (iI 3) dX8_part_23 rfl ?_
    refine gi_icmp_ne 34 dX8_part_24 (by decide) (hM _ _) ⟨by decide, by decide⟩ (fun c24 => ?_) (fun c24 => ?_)
    · have hd3 := hSs.d3
      refine g_iload_n 2 dX8_part_34 rfl rfl ?_
      refine gi_if_lt 46 dX8_part_35 (by decide) (by first | exact bI_Rg _ | assumption | exact ⟨by omega, by omega⟩) (fun c35 => ?_) (fun c35 => ?_)
      · refine g_aload_n 0 dX8_part_46 rfl rfl ?_
        refine g_iconst (iI 1) dX8_part_47 rfl ?_
        refine ckE lkX8_46 (k_X8_refuse Z a C fS fA _ 1) dX8_part_48 (And.intro (Nat.le_of_ble_eq_true rfl) (Nat.le_of_ble_eq_true rfl)) (ci := 7) (q0 := 0) rfl rfl (Nat.le_of_ble_eq_true rfl) rfl rfl (Nat.le_of_ble_eq_true rfl) (Nat.le_of_ble_eq_true rfl) rfl ?_
        refine g_iret dX8_part_51 rfl (Nat.le_of_ble_eq_true rfl) (Nat.le_of_ble_eq_true rfl) ?_
        have hA : A_part D s x = (-1, 1) := by
          unfold A_part
          rw [if_pos (by omega), if_neg (by rw [← hfs]; exact c24), if_neg (by rw [← hfs]; omega)]
        rw [hA, sW_fin]
        refine ⟨_, rfl, rfl, Rel_fin hR _⟩
      · refine g_iload_n 2 dX8_part_38 rfl rfl ?_
        refine g_aload_n 3 dX8_part_39 rfl rfl ?_
        refine cu_size_X8_162 rfl hss hSs.d3.1 (fun q => (hSs.2.2.2.2.1 q).1) (fun q => (hSs.2.2.2.2.2.1 q).1) hSs.2.1 dX8_part_40 (And.intro (Nat.le_of_ble_eq_true rfl) (Nat.le_of_ble_eq_true rfl)) (And.intro (Nat.le_of_ble_eq_true rfl) (Nat.le_of_ble_eq_true rfl)) (And.intro (Nat.le_of_ble_eq_true rfl) (Nat.le_of_ble_eq_true rfl)) (And.intro (Nat.le_of_ble_eq_true rfl) (Nat.le_of_ble_eq_true rfl)) (Nat.le_of_ble_eq_true rfl) (Nat.le_of_ble_eq_true rfl) (Nat.le_of_ble_eq_true rfl) ?_
        refine gi_icmp_lt 52 dX8_part_43 (by decide) hx (hM _ _) (fun c43 => ?_) (fun c43 => ?_)
        · refine g_aload_n 0 dX8_part_52 rfl rfl ?_
          refine g_aload_n 3 dX8_part_53 rfl rfl ?_
          refine g_iload_n 2 dX8_part_54 rfl rfl ?_
          refine cu_nameOf_X8_165 rfl hss hx (by omega) (by omega) ⟨by omega, by omega⟩ (fun q => (hSs.2.2.2.2.1 q).1) (fun q => (hSs.2.2.2.2.2.1 q).1) (fun q => hI.2.2.2.1 s.toNat (by omega) (by omega) q x (by omega) (by omega)) hSs.2.1 dX8_part_55 (And.intro (Nat.le_of_ble_eq_true rfl) (Nat.le_of_ble_eq_true rfl)) (And.intro (Nat.le_of_ble_eq_true rfl) (Nat.le_of_ble_eq_true rfl)) (And.intro (Nat.le_of_ble_eq_true rfl) (Nat.le_of_ble_eq_true rfl)) (And.intro (Nat.le_of_ble_eq_true rfl) (Nat.le_of_ble_eq_true rfl)) (Nat.le_of_ble_eq_true rfl) (Nat.le_of_ble_eq_true rfl) (Nat.le_of_ble_eq_true rfl) ?_
          refine ckE lkX8_138 (k_X8_done Z a C fS fA _ (D 4 (12 * (s.toNat : Nat) + x))) dX8_part_58 (And.intro (Nat.le_of_ble_eq_true rfl) (Nat.le_of_ble_eq_true rfl)) (ci := 7) (q0 := 0) rfl rfl (Nat.le_of_ble_eq_true rfl) rfl rfl (Nat.le_of_ble_eq_true rfl) (Nat.le_of_ble_eq_true rfl) rfl ?_
          refine g_iret dX8_part_61 rfl (Nat.le_of_ble_eq_true rfl) (Nat.le_of_ble_eq_true rfl) ?_
          have hA : A_part D s x = (D 4 (12 * s + x), 0) := by
            unfold A_part
            rw [if_pos (by omega), if_neg (by rw [← hfs]; exact c24), if_pos (by rw [← hfs]; omega)]
          rw [hA, sW_fin]
          refine ⟨_, by rw [hfs], rfl, Rel_fin hR _⟩
        · refine g_aload_n 0 dX8_part_46 rfl rfl ?_
          refine g_iconst (iI 1) dX8_part_47 rfl ?_
          refine ckE lkX8_46 (k_X8_refuse Z a C fS fA _ 1) dX8_part_48 (And.intro (Nat.le_of_ble_eq_true rfl) (Nat.le_of_ble_eq_true rfl)) (ci := 7) (q0 := 0) rfl rfl (Nat.le_of_ble_eq_true rfl) rfl rfl (Nat.le_of_ble_eq_true rfl) (Nat.le_of_ble_eq_true rfl) rfl ?_
          refine g_iret dX8_part_51 rfl (Nat.le_of_ble_eq_true rfl) (Nat.le_of_ble_eq_true rfl) ?_
          have hA : A_part D s x = (-1, 1) := by
            unfold A_part
            rw [if_pos (by omega), if_neg (by rw [← hfs]; exact c24), if_neg (by rw [← hfs]; omega)]
          rw [hA, sW_fin]
          refine ⟨_, rfl, rfl, Rel_fin hR _⟩
    · refine g_aload_n 0 dX8_part_27 rfl rfl ?_
      refine g_bipush (iI 6) dX8_part_28 (by decide) ?_
      refine ckE lkX8_46 (k_X8_refuse Z a C fS fA _ 6) dX8_part_30 (And.intro (Nat.le_of_ble_eq_true rfl) (Nat.le_of_ble_eq_true rfl)) (ci := 7) (q0 := 0) rfl rfl (Nat.le_of_ble_eq_true rfl) rfl rfl (Nat.le_of_ble_eq_true rfl) (Nat.le_of_ble_eq_true rfl) rfl ?_
      refine g_iret dX8_part_33 rfl (Nat.le_of_ble_eq_true rfl) (Nat.le_of_ble_eq_true rfl) ?_
      have hA : A_part D s x = (-1, 6) := by
        unfold A_part
        rw [if_pos (by omega), if_pos (by rw [← hfs]; exact c24)]
      rw [hA, sW_fin]
      refine ⟨_, rfl, rfl, Rel_fin hR _⟩
  · rw [if_neg hFs]
    refine g_astore_nN 3 dX8_part_8 rfl (Nat.le_of_ble_eq_true rfl) (Nat.le_of_ble_eq_true rfl) rfl ?_
    dsimp only [sto]
    refine g_aload_nN 3 dX8_part_9 rfl rfl ?_
    refine g_ifnonnullN dX8_part_10 ?_
    refine g_aload_n 0 dX8_part_13 rfl rfl ?_
    refine g_iconst (iI 1) dX8_part_14 rfl ?_
    refine ckE lkX8_46 (k_X8_refuse Z a C fS fA _ 1) dX8_part_15 (And.intro (Nat.le_of_ble_eq_true rfl) (Nat.le_of_ble_eq_true rfl)) (ci := 7) (q0 := 0) rfl rfl (Nat.le_of_ble_eq_true rfl) rfl rfl (Nat.le_of_ble_eq_true rfl) (Nat.le_of_ble_eq_true rfl) rfl ?_
    refine g_iret dX8_part_18 rfl (Nat.le_of_ble_eq_true rfl) (Nat.le_of_ble_eq_true rfl) ?_
    have hA : A_part D s x = (-1, 1) := by
      unfold A_part
      rw [if_neg (by omega)]
    rw [hA, sW_fin]
    refine ⟨_, rfl, rfl, Rel_fin hR _⟩
set_option maxHeartbeats 4000000 in
set_option maxRecDepth 100000 in
theorem k_X8_left (Z : LZ) (a : Nat → Nat) (C : Mem) (fS fA : Nat → Option Nat) {D : Mem} (sa sb : Nat → Nat) (N : Nat) (hG : Good D) (hI : Inv D) (hR : Rel D C fS fA sa N) (s : Int) (hs : Rg s) : Tr Z jX8_left [.ref (a 99), .int (iI s)] (cW Z a C fS fA (sW Z D sa sb N)) (fun r w => ∃ C2 : Mem, r = some (.int (iI ((A_link D s 0).1))) ∧ w = cW Z a C2 fS fA (sW Z (ms D 13 0 (A_link D s 0).2) sa sb N) ∧ Rel (ms D 13 0 (A_link D s 0).2) C2 fS fA sa N) := by
  refine tr_of pn_X8_left (Nat.le_of_ble_eq_true rfl) (by intro v h; simp only [List.mem_cons, List.not_mem_nil, or_false] at h; rcases h with h | h <;> rw [h] <;> rfl) ?_
  have hB := hR.1
  have hn := hB.n
  have h9 := hB.d9
  have hM := hG.1.1
  refine g_aload_n 0 dX8_left_0 rfl rfl ?_
  refine cg_mp_book dX8_left_1 flX8_12 ?_
  refine g_iload_n 1 dX8_left_4 rfl rfl ?_
  refine ckE lkX8_109 (k_X0_find Z a C fS fA sa sb N hn hB.c1 hB.sl s hs) dX8_left_5 (And.intro (Nat.le_of_ble_eq_true rfl) (Nat.le_of_ble_eq_true rfl)) (ci := 0) (q0 := 1) rfl rfl (Nat.le_of_ble_eq_true rfl) rfl rfl (Nat.le_of_ble_eq_true rfl) (Nat.le_of_ble_eq_true rfl) rfl ?_
  by_cases hFs : 0 ≤ s ∧ s < N
  · rw [if_pos hFs]
    have hss : s.toNat < N := by omega
    have hfs : ((s.toNat : Nat) : Int) = s := by omega
    have hSs := hG.s hB hss
    refine g_astore_n 2 dX8_left_8 rfl (Nat.le_of_ble_eq_true rfl) (Nat.le_of_ble_eq_true rfl) rfl ?_
    dsimp only [sto]
    refine g_aload_n 2 dX8_left_9 rfl rfl ?_
    refine g_ifnonnull 19 dX8_left_10 (by decide) ?_
    refine g_aload_n 2 dX8_left_19 rfl rfl ?_
    by_cases hk20 : D 2 s.toNat = 0
    · refine cy_put hss hk20 dX8_left_20 clX8_72 ?_
      refine gi_if_eq 42 dX8_left_23 (by decide) ⟨by decide, by decide⟩ (fun cc => absurd cc (by decide)) (fun _ => ?_)
      refine g_aload_n 2 dX8_left_26 rfl rfl ?_
      refine cz_put hss hk20 dX8_left_27 clX8_72 ?_
      refine g_astore_n 3 dX8_left_30 rfl (Nat.le_of_ble_eq_true rfl) (Nat.le_of_ble_eq_true rfl) rfl ?_
      dsimp only [sto]
      refine g_aload_n 0 dX8_left_31 rfl rfl ?_
      refine g_aload_n 3 dX8_left_32 rfl rfl ?_
      refine cg_put_left hss hk20 dX8_left_33 flX8_168 ?_
      refine ckE lkX8_138 (k_X8_done Z a C fS fA _ (D 6 (s.toNat : Nat))) dX8_left_36 (And.intro (Nat.le_of_ble_eq_true rfl) (Nat.le_of_ble_eq_true rfl)) (ci := 7) (q0 := 0) rfl rfl (Nat.le_of_ble_eq_true rfl) rfl rfl (Nat.le_of_ble_eq_true rfl) (Nat.le_of_ble_eq_true rfl) rfl ?_
      refine g_goto 48 dX8_left_39 (by decide) ?_
      refine g_iret dX8_left_48 rfl (Nat.le_of_ble_eq_true rfl) (Nat.le_of_ble_eq_true rfl) ?_
      have hA : A_link D s 0 = (D 6 s, 0) := by
        unfold A_link
        rw [if_pos (by omega), if_pos (by rw [← hfs]; exact hk20)]
      rw [hA, sW_fin]
      refine ⟨_, by rw [hfs], rfl, Rel_fin hR _⟩
    · refine cn_put hss hk20 hSs.2.1 dX8_left_20 clX8_72 ?_
      refine gi_if_eq 42 dX8_left_23 (by decide) ⟨by decide, by decide⟩ (fun _ => ?_) (fun cc => absurd cc (by decide))
      refine g_aload_n 0 dX8_left_42 rfl rfl ?_
      refine g_bipush (iI 6) dX8_left_43 (by decide) ?_
      refine ckE lkX8_46 (k_X8_refuse Z a C fS fA _ 6) dX8_left_45 (And.intro (Nat.le_of_ble_eq_true rfl) (Nat.le_of_ble_eq_true rfl)) (ci := 7) (q0 := 0) rfl rfl (Nat.le_of_ble_eq_true rfl) rfl rfl (Nat.le_of_ble_eq_true rfl) (Nat.le_of_ble_eq_true rfl) rfl ?_
      refine g_iret dX8_left_48 rfl (Nat.le_of_ble_eq_true rfl) (Nat.le_of_ble_eq_true rfl) ?_
      have hA : A_link D s 0 = (-1, 6) := by
        unfold A_link
        rw [if_pos (by omega), if_neg (by rw [← hfs]; exact hk20)]
      rw [hA, sW_fin]
      refine ⟨_, rfl, rfl, Rel_fin hR _⟩
  · rw [if_neg hFs]
    refine g_astore_nN 2 dX8_left_8 rfl (Nat.le_of_ble_eq_true rfl) (Nat.le_of_ble_eq_true rfl) rfl ?_
    dsimp only [sto]
    refine g_aload_nN 2 dX8_left_9 rfl rfl ?_
    refine g_ifnonnullN dX8_left_10 ?_
    refine g_aload_n 0 dX8_left_13 rfl rfl ?_
    refine g_iconst (iI 1) dX8_left_14 rfl ?_
    refine ckE lkX8_46 (k_X8_refuse Z a C fS fA _ 1) dX8_left_15 (And.intro (Nat.le_of_ble_eq_true rfl) (Nat.le_of_ble_eq_true rfl)) (ci := 7) (q0 := 0) rfl rfl (Nat.le_of_ble_eq_true rfl) rfl rfl (Nat.le_of_ble_eq_true rfl) (Nat.le_of_ble_eq_true rfl) rfl ?_
    refine g_iret dX8_left_18 rfl (Nat.le_of_ble_eq_true rfl) (Nat.le_of_ble_eq_true rfl) ?_
    have hA : A_link D s 0 = (-1, 1) := by
      unfold A_link
      rw [if_neg (by omega)]
    rw [hA, sW_fin]
    refine ⟨_, rfl, rfl, Rel_fin hR _⟩
set_option maxHeartbeats 4000000 in
set_option maxRecDepth 100000 in
theorem k_X8_bound (Z : LZ) (a : Nat → Nat) (C : Mem) (fS fA : Nat → Option Nat) {D : Mem} (sa sb : Nat → Nat) (N : Nat) (hG : Good D) (hI : Inv D) (hR : Rel D C fS fA sa N) (s : Int) (hs : Rg s) : Tr Z jX8_bound [.ref (a 99), .int (iI s)] (cW Z a C fS fA (sW Z D sa sb N)) (fun r w => ∃ C2 : Mem, r = some (.int (iI ((A_link D s 2).1))) ∧ w = cW Z a C2 fS fA (sW Z (ms D 13 0 (A_link D s 2).2) sa sb N) ∧ Rel (ms D 13 0 (A_link D s 2).2) C2 fS fA sa N) := by
  refine tr_of pn_X8_bound (Nat.le_of_ble_eq_true rfl) (by intro v h; simp only [List.mem_cons, List.not_mem_nil, or_false] at h; rcases h with h | h <;> rw [h] <;> rfl) ?_
  have hB := hR.1
  have hn := hB.n
  have h9 := hB.d9
  have hM := hG.1.1
  refine g_aload_n 0 dX8_bound_0 rfl rfl ?_
  refine cg_mp_book dX8_bound_1 flX8_12 ?_
  refine g_iload_n 1 dX8_bound_4 rfl rfl ?_
  refine ckE lkX8_109 (k_X0_find Z a C fS fA sa sb N hn hB.c1 hB.sl s hs) dX8_bound_5 (And.intro (Nat.le_of_ble_eq_true rfl) (Nat.le_of_ble_eq_true rfl)) (ci := 0) (q0 := 1) rfl rfl (Nat.le_of_ble_eq_true rfl) rfl rfl (Nat.le_of_ble_eq_true rfl) (Nat.le_of_ble_eq_true rfl) rfl ?_
  by_cases hFs : 0 ≤ s ∧ s < N
  · rw [if_pos hFs]
    have hss : s.toNat < N := by omega
    have hfs : ((s.toNat : Nat) : Int) = s := by omega
    have hSs := hG.s hB hss
    refine g_astore_n 2 dX8_bound_8 rfl (Nat.le_of_ble_eq_true rfl) (Nat.le_of_ble_eq_true rfl) rfl ?_
    dsimp only [sto]
    refine g_aload_n 2 dX8_bound_9 rfl rfl ?_
    refine g_ifnonnull 19 dX8_bound_10 (by decide) ?_
    refine g_aload_n 2 dX8_bound_19 rfl rfl ?_
    by_cases hk20 : D 2 s.toNat = 2
    · refine cy_mrk hss hk20 dX8_bound_20 clX8_104 ?_
      refine gi_if_eq 42 dX8_bound_23 (by decide) ⟨by decide, by decide⟩ (fun cc => absurd cc (by decide)) (fun _ => ?_)
      refine g_aload_n 2 dX8_bound_26 rfl rfl ?_
      refine cz_mrk hss hk20 dX8_bound_27 clX8_104 ?_
      refine g_astore_n 3 dX8_bound_30 rfl (Nat.le_of_ble_eq_true rfl) (Nat.le_of_ble_eq_true rfl) rfl ?_
      dsimp only [sto]
      refine g_aload_n 0 dX8_bound_31 rfl rfl ?_
      refine g_aload_n 3 dX8_bound_32 rfl rfl ?_
      refine cg_mrk_bound hss hk20 dX8_bound_33 flX8_171 ?_
      refine ckE lkX8_138 (k_X8_done Z a C fS fA _ (D 6 (s.toNat : Nat))) dX8_bound_36 (And.intro (Nat.le_of_ble_eq_true rfl) (Nat.le_of_ble_eq_true rfl)) (ci := 7) (q0 := 0) rfl rfl (Nat.le_of_ble_eq_true rfl) rfl rfl (Nat.le_of_ble_eq_true rfl) (Nat.le_of_ble_eq_true rfl) rfl ?_
      refine g_goto 48 dX8_bound_39 (by decide) ?_
      refine g_iret dX8_bound_48 rfl (Nat.le_of_ble_eq_true rfl) (Nat.le_of_ble_eq_true rfl) ?_
      have hA : A_link D s 2 = (D 6 s, 0) := by
        unfold A_link
        rw [if_pos (by omega), if_pos (by rw [← hfs]; exact hk20)]
      rw [hA, sW_fin]
      refine ⟨_, by rw [hfs], rfl, Rel_fin hR _⟩
    · refine cn_mrk hss hk20 hSs.2.1 dX8_bound_20 clX8_104 ?_
      refine gi_if_eq 42 dX8_bound_23 (by decide) ⟨by decide, by decide⟩ (fun _ => ?_) (fun cc => absurd cc (by decide))
      refine g_aload_n 0 dX8_bound_42 rfl rfl ?_
      refine g_bipush (iI 6) dX8_bound_43 (by decide) ?_
      refine ckE lkX8_46 (k_X8_refuse Z a C fS fA _ 6) dX8_bound_45 (And.intro (Nat.le_of_ble_eq_true rfl) (Nat.le_of_ble_eq_true rfl)) (ci := 7) (q0 := 0) rfl rfl (Nat.le_of_ble_eq_true rfl) rfl rfl (Nat.le_of_ble_eq_true rfl) (Nat.le_of_ble_eq_true rfl) rfl ?_
      refine g_iret dX8_bound_48 rfl (Nat.le_of_ble_eq_true rfl) (Nat.le_of_ble_eq_true rfl) ?_
      have hA : A_link D s 2 = (-1, 6) := by
        unfold A_link
        rw [if_pos (by omega), if_neg (by rw [← hfs]; exact hk20)]
      rw [hA, sW_fin]
      refine ⟨_, rfl, rfl, Rel_fin hR _⟩
  · rw [if_neg hFs]
    refine g_astore_nN 2 dX8_bound_8 rfl (Nat.le_of_ble_eq_true rfl) (Nat.le_of_ble_eq_true rfl) rfl ?_
    dsimp only [sto]
    refine g_aload_nN 2 dX8_bound_9 rfl rfl ?_
    refine g_ifnonnullN dX8_bound_10 ?_
    refine g_aload_n 0 dX8_bound_13 rfl rfl ?_
    refine g_iconst (iI 1) dX8_bound_14 rfl ?_
    refine ckE lkX8_46 (k_X8_refuse Z a C fS fA _ 1) dX8_bound_15 (And.intro (Nat.le_of_ble_eq_true rfl) (Nat.le_of_ble_eq_true rfl)) (ci := 7) (q0 := 0) rfl rfl (Nat.le_of_ble_eq_true rfl) rfl rfl (Nat.le_of_ble_eq_true rfl) (Nat.le_of_ble_eq_true rfl) rfl ?_
    refine g_iret dX8_bound_18 rfl (Nat.le_of_ble_eq_true rfl) (Nat.le_of_ble_eq_true rfl) ?_
    have hA : A_link D s 2 = (-1, 1) := by
      unfold A_link
      rw [if_neg (by omega)]
    rw [hA, sW_fin]
    refine ⟨_, rfl, rfl, Rel_fin hR _⟩
set_option maxHeartbeats 4000000 in
set_option maxRecDepth 100000 in
theorem k_X8_undone (Z : LZ) (a : Nat → Nat) (C : Mem) (fS fA : Nat → Option Nat) {D : Mem} (sa sb : Nat → Nat) (N : Nat) (hG : Good D) (hI : Inv D) (hR : Rel D C fS fA sa N) (s : Int) (hs : Rg s) : Tr Z jX8_undone [.ref (a 99), .int (iI s)] (cW Z a C fS fA (sW Z D sa sb N)) (fun r w => ∃ C2 : Mem, r = some (.int (iI ((A_link D s 3).1))) ∧ w = cW Z a C2 fS fA (sW Z (ms D 13 0 (A_link D s 3).2) sa sb N) ∧ Rel (ms D 13 0 (A_link D s 3).2) C2 fS fA sa N) := by
  refine tr_of pn_X8_undone (Nat.le_of_ble_eq_true rfl) (by intro v h; simp only [List.mem_cons, List.not_mem_nil, or_false] at h; rcases h with h | h <;> rw [h] <;> rfl) ?_
  have hB := hR.1
  have hn := hB.n
  have h9 := hB.d9
  have hM := hG.1.1
  refine g_aload_n 0 dX8_undone_0 rfl rfl ?_
  refine cg_mp_book dX8_undone_1 flX8_12 ?_
  refine g_iload_n 1 dX8_undone_4 rfl rfl ?_
  refine ckE lkX8_109 (k_X0_find Z a C fS fA sa sb N hn hB.c1 hB.sl s hs) dX8_undone_5 (And.intro (Nat.le_of_ble_eq_true rfl) (Nat.le_of_ble_eq_true rfl)) (ci := 0) (q0 := 1) rfl rfl (Nat.le_of_ble_eq_true rfl) rfl rfl (Nat.le_of_ble_eq_true rfl) (Nat.le_of_ble_eq_true rfl) rfl ?_
  by_cases hFs : 0 ≤ s ∧ s < N
  · rw [if_pos hFs]
    have hss : s.toNat < N := by omega
    have hfs : ((s.toNat : Nat) : Int) = s := by omega
    have hSs := hG.s hB hss
    refine g_astore_n 2 dX8_undone_8 rfl (Nat.le_of_ble_eq_true rfl) (Nat.le_of_ble_eq_true rfl) rfl ?_
    dsimp only [sto]
    refine g_aload_n 2 dX8_undone_9 rfl rfl ?_
    refine g_ifnonnull 19 dX8_undone_10 (by decide) ?_
    refine g_aload_n 2 dX8_undone_19 rfl rfl ?_
    by_cases hk20 : D 2 s.toNat = 3
    · refine cy_und hss hk20 dX8_undone_20 clX8_122 ?_
      refine gi_if_eq 42 dX8_undone_23 (by decide) ⟨by decide, by decide⟩ (fun cc => absurd cc (by decide)) (fun _ => ?_)
      refine g_aload_n 2 dX8_undone_26 rfl rfl ?_
      refine cz_und hss hk20 dX8_undone_27 clX8_122 ?_
      refine g_astore_n 3 dX8_undone_30 rfl (Nat.le_of_ble_eq_true rfl) (Nat.le_of_ble_eq_true rfl) rfl ?_
      dsimp only [sto]
      refine g_aload_n 0 dX8_undone_31 rfl rfl ?_
      refine g_aload_n 3 dX8_undone_32 rfl rfl ?_
      refine cg_und_undone hss hk20 dX8_undone_33 flX8_174 ?_
      refine ckE lkX8_138 (k_X8_done Z a C fS fA _ (D 6 (s.toNat : Nat))) dX8_undone_36 (And.intro (Nat.le_of_ble_eq_true rfl) (Nat.le_of_ble_eq_true rfl)) (ci := 7) (q0 := 0) rfl rfl (Nat.le_of_ble_eq_true rfl) rfl rfl (Nat.le_of_ble_eq_true rfl) (Nat.le_of_ble_eq_true rfl) rfl ?_
      refine g_goto 48 dX8_undone_39 (by decide) ?_
      refine g_iret dX8_undone_48 rfl (Nat.le_of_ble_eq_true rfl) (Nat.le_of_ble_eq_true rfl) ?_
      have hA : A_link D s 3 = (D 6 s, 0) := by
        unfold A_link
        rw [if_pos (by omega), if_pos (by rw [← hfs]; exact hk20)]
      rw [hA, sW_fin]
      refine ⟨_, by rw [hfs], rfl, Rel_fin hR _⟩
    · refine cn_und hss hk20 hSs.2.1 dX8_undone_20 clX8_122 ?_
      refine gi_if_eq 42 dX8_undone_23 (by decide) ⟨by decide, by decide⟩ (fun _ => ?_) (fun cc => absurd cc (by decide))
      refine g_aload_n 0 dX8_undone_42 rfl rfl ?_
      refine g_bipush (iI 6) dX8_undone_43 (by decide) ?_
      refine ckE lkX8_46 (k_X8_refuse Z a C fS fA _ 6) dX8_undone_45 (And.intro (Nat.le_of_ble_eq_true rfl) (Nat.le_of_ble_eq_true rfl)) (ci := 7) (q0 := 0) rfl rfl (Nat.le_of_ble_eq_true rfl) rfl rfl (Nat.le_of_ble_eq_true rfl) (Nat.le_of_ble_eq_true rfl) rfl ?_
      refine g_iret dX8_undone_48 rfl (Nat.le_of_ble_eq_true rfl) (Nat.le_of_ble_eq_true rfl) ?_
      have hA : A_link D s 3 = (-1, 6) := by
        unfold A_link
        rw [if_pos (by omega), if_neg (by rw [← hfs]; exact hk20)]
      rw [hA, sW_fin]
      refine ⟨_, rfl, rfl, Rel_fin hR _⟩
  · rw [if_neg hFs]
    refine g_astore_nN 2 dX8_undone_8 rfl (Nat.le_of_ble_eq_true rfl) (Nat.le_of_ble_eq_true rfl) rfl ?_
    dsimp only [sto]
    refine g_aload_nN 2 dX8_undone_9 rfl rfl ?_
    refine g_ifnonnullN dX8_undone_10 ?_
    refine g_aload_n 0 dX8_undone_13 rfl rfl ?_
    refine g_iconst (iI 1) dX8_undone_14 rfl ?_
    refine ckE lkX8_46 (k_X8_refuse Z a C fS fA _ 1) dX8_undone_15 (And.intro (Nat.le_of_ble_eq_true rfl) (Nat.le_of_ble_eq_true rfl)) (ci := 7) (q0 := 0) rfl rfl (Nat.le_of_ble_eq_true rfl) rfl rfl (Nat.le_of_ble_eq_true rfl) (Nat.le_of_ble_eq_true rfl) rfl ?_
    refine g_iret dX8_undone_18 rfl (Nat.le_of_ble_eq_true rfl) (Nat.le_of_ble_eq_true rfl) ?_
    have hA : A_link D s 3 = (-1, 1) := by
      unfold A_link
      rw [if_neg (by omega)]
    rw [hA, sW_fin]
    refine ⟨_, rfl, rfl, Rel_fin hR _⟩
set_option maxHeartbeats 4000000 in
set_option maxRecDepth 100000 in
theorem k_X8_cursor (Z : LZ) (a : Nat → Nat) (C : Mem) (fS fA : Nat → Option Nat) {D : Mem} (sa sb : Nat → Nat) (N : Nat) (hG : Good D) (hI : Inv D) (hR : Rel D C fS fA sa N) (p c q l : Int) (hp : Rg p) (hc : Rg c) (hq : Rg q) (hl : Rg l) : Tr Z jX8_cursor [.ref (a 99), .int (iI p), .int (iI c), .int (iI q), .int (iI l)] (cW Z a C fS fA (sW Z D sa sb N)) (fun r w => ∃ C2 : Mem, r = some (.int (iI ((A_cursor D p c q l).1))) ∧ w = cW Z a C2 fS fA (sW Z ((A_cursor D p c q l).2) sa sb N) ∧ Rel ((A_cursor D p c q l).2) C2 fS fA sa N) := by
  refine tr_of pn_X8_cursor (Nat.le_of_ble_eq_true rfl) (by intro v h; simp only [List.mem_cons, List.not_mem_nil, or_false] at h; rcases h with h | h | h | h | h <;> rw [h] <;> rfl) ?_
  have hB := hR.1
  have hn := hB.n
  have h9 := hB.d9
  have hM := hG.1.1
  refine g_aload_n 0 dX8_cursor_0 rfl rfl ?_
  refine g_iload_n 1 dX8_cursor_1 rfl rfl ?_
  refine ckE lkX8_42 (k_X8_sheetOf Z a C fS fA _ p hp) dX8_cursor_2 (And.intro (Nat.le_of_ble_eq_true rfl) (Nat.le_of_ble_eq_true rfl)) (ci := 7) (q0 := 0) rfl rfl (Nat.le_of_ble_eq_true rfl) rfl rfl (Nat.le_of_ble_eq_true rfl) (Nat.le_of_ble_eq_true rfl) rfl ?_
  by_cases hPp : 0 ≤ p ∧ p < 6
  · rw [if_pos hPp]
    have hnp : p.toNat < 6 := by omega
    have hep : ((p.toNat : Nat) : Int) = p := by omega
    refine g_astore dX8_cursor_5 (Nat.le_of_ble_eq_true rfl) (Nat.le_of_ble_eq_true rfl) rfl ?_
    dsimp only [sto]
    refine g_aload dX8_cursor_7 rfl ?_
    refine g_ifnull dX8_cursor_9 ?_
    refine g_iload_n 2 dX8_cursor_12 rfl rfl ?_
    refine ckS lkX8_229 (k_X8_isCursor Z a C fS fA _ c hc) dX8_cursor_13 (And.intro (Nat.le_of_ble_eq_true rfl) (Nat.le_of_ble_eq_true rfl)) (Nat.le_of_ble_eq_true rfl) rfl rfl (Nat.le_of_ble_eq_true rfl) (Nat.le_of_ble_eq_true rfl) rfl ?_
    by_cases hK3 : 0 ≤ c ∧ c < 3
    · rw [decide_eq_true hK3]
      have hec : ((c.toNat : Nat) : Int) = c := by omega
      refine gi_if_eq 30 dX8_cursor_16 (by decide) ⟨by decide, by decide⟩ (fun cc => absurd cc (by decide)) (fun _ => ?_)
      refine g_iload dX8_cursor_19 rfl ?_
      refine gi_if_lt 30 dX8_cursor_21 (by decide) (by first | exact bI_Rg _ | assumption | exact ⟨by omega, by omega⟩) (fun c21 => ?_) (fun c21 => ?_)
      · refine g_aload_n 0 dX8_cursor_30 rfl rfl ?_
        refine g_iconst (iI 1) dX8_cursor_31 rfl ?_
        refine ckE lkX8_46 (k_X8_refuse Z a C fS fA _ 1) dX8_cursor_32 (And.intro (Nat.le_of_ble_eq_true rfl) (Nat.le_of_ble_eq_true rfl)) (ci := 7) (q0 := 0) rfl rfl (Nat.le_of_ble_eq_true rfl) rfl rfl (Nat.le_of_ble_eq_true rfl) (Nat.le_of_ble_eq_true rfl) rfl ?_
        refine g_iret dX8_cursor_35 rfl (Nat.le_of_ble_eq_true rfl) (Nat.le_of_ble_eq_true rfl) ?_
        have hA : A_cursor D p c q l = (-1, ms D 13 0 1) := by
          unfold A_cursor
          rw [if_neg (by omega)]
        rw [hA, sW_fin]
        exact ⟨_, rfl, rfl, Rel_fin hR _⟩
      · refine g_iload dX8_cursor_24 rfl ?_
        refine g_iconst (iI 1) dX8_cursor_26 rfl ?_
        refine gi_icmp_le 36 dX8_cursor_27 (by decide) (by first | exact bI_Rg _ | assumption | exact ⟨by omega, by omega⟩) (by first | exact bI_Rg _ | assumption | exact ⟨by omega, by omega⟩) (fun c27 => ?_) (fun c27 => ?_)
        · refine g_aload_n 0 dX8_cursor_36 rfl rfl ?_
          refine cg_mp_reading dX8_cursor_37 flX8_30 ?_
          refine g_aload dX8_cursor_40 rfl ?_
          refine g_sipush (iI 256) dX8_cursor_42 (by decide) ?_
          refine ckX lkX8_50 (k_X3_read Z a C fS fA sa sb N hG hI.1 hR.1 hR.2 (tkB D p) (tkB_Cl hG.1 p) (tk_U hG h9 p) p.toNat hnp 256 ⟨by decide, by decide⟩ (tk_T hG h9 hn hep)) dX8_cursor_45 (And.intro (Nat.le_of_ble_eq_true rfl) (Nat.le_of_ble_eq_true rfl)) (ci := 3) (q0 := 30) rfl rfl (Nat.le_of_ble_eq_true rfl) rfl rfl (Nat.le_of_ble_eq_true rfl) (Nat.le_of_ble_eq_true rfl) rfl (fun C44 h44 => ?_)
          have r44 : Rel D C44 fS fA sa N := hR.rd h44.1 h44.2.1
          have d44 := h44.2.2
          have htx := txtN_rg hG.1 hG.2.1 (tkB_Cl hG.1 p)
          have h78 := d44.2.2.2.2.1
          refine g_iload_n 3 dX8_cursor_48 rfl rfl ?_
          refine gi_if_lt 63 dX8_cursor_49 (by decide) (by first | exact bI_Rg _ | assumption | exact ⟨by omega, by omega⟩) (fun c48 => ?_) (fun c48 => ?_)
          · refine g_aload_n 0 dX8_cursor_63 rfl rfl ?_
            refine g_iconst (iI 1) dX8_cursor_64 rfl ?_
            refine ckE lkX8_46 (k_X8_refuse Z a C44 fS fA _ 1) dX8_cursor_65 (And.intro (Nat.le_of_ble_eq_true rfl) (Nat.le_of_ble_eq_true rfl)) (ci := 7) (q0 := 0) rfl rfl (Nat.le_of_ble_eq_true rfl) rfl rfl (Nat.le_of_ble_eq_true rfl) (Nat.le_of_ble_eq_true rfl) rfl ?_
            refine g_iret dX8_cursor_68 rfl (Nat.le_of_ble_eq_true rfl) (Nat.le_of_ble_eq_true rfl) ?_
            have hA : A_cursor D p c q l = (-1, ms D 13 0 1) := by
              unfold A_cursor
              rw [if_neg (by omega)]
            rw [hA, sW_fin]
            exact ⟨_, rfl, rfl, Rel_fin r44 _⟩
          · refine g_iload_n 3 dX8_cursor_52 rfl rfl ?_
            refine g_aload_n 0 dX8_cursor_53 rfl rfl ?_
            refine cg_mp_reading dX8_cursor_54 flX8_30 ?_
            refine cg_rd_textSize h78 dX8_cursor_57 flX8_58 ?_
            refine gi_icmp_le 69 dX8_cursor_60 (by decide) (by first | exact bI_Rg _ | assumption | exact ⟨by omega, by omega⟩) (by first | exact bI_Rg _ | assumption | exact ⟨by omega, by omega⟩) (fun c59 => ?_) (fun c59 => ?_)
            · refine g_iload dX8_cursor_69 rfl ?_
              refine gi_if_ne 80 dX8_cursor_71 (by decide) (by first | exact bI_Rg _ | assumption | exact ⟨by omega, by omega⟩) (fun c70 => ?_) (fun c70 => ?_)
              · refine g_iload_n 3 dX8_cursor_80 rfl rfl ?_
                refine g_istore dX8_cursor_81 (Nat.le_of_ble_eq_true rfl) (Nat.le_of_ble_eq_true rfl) rfl ?_
                dsimp only [sto]
                refine g_aload dX8_cursor_83 rfl ?_
                refine cg_sh_beside p.toNat hnp dX8_cursor_85 flX8_232 ?_
                refine g_iload_n 2 dX8_cursor_88 rfl rfl ?_
                refine g_aload_n 0 dX8_cursor_89 rfl rfl ?_
                refine cg_mp_reading dX8_cursor_90 flX8_30 ?_
                refine g_iload dX8_cursor_93 rfl ?_
                refine ckE lkX8_182 (k_X3_isPlace Z a C44 fS fA _ (q) ⟨by omega, by omega⟩ (by rw [h78]; exact ⟨by omega, by omega⟩)) dX8_cursor_95 (And.intro (Nat.le_of_ble_eq_true rfl) (Nat.le_of_ble_eq_true rfl)) (ci := 3) (q0 := 30) rfl rfl (Nat.le_of_ble_eq_true rfl) rfl rfl (Nat.le_of_ble_eq_true rfl) (Nat.le_of_ble_eq_true rfl) rfl ?_
                by_cases hq0 : 0 ≤ q ∧ q < C44 78 0
                · rw [decide_eq_true hq0]
                  rw [h78] at hq0
                  refine gi_if_eq 113 dX8_cursor_98 (by decide) ⟨by decide, by decide⟩ (fun cc => absurd cc (by decide)) (fun _ => ?_)
                  refine g_aload_n 0 dX8_cursor_101 rfl rfl ?_
                  refine cg_mp_reading dX8_cursor_102 flX8_30 ?_
                  refine g_iload dX8_cursor_105 rfl ?_
                  refine ckE lkX8_69 (k_X3_nameAt Z a C44 fS fA sa sb N hG (tkB_Cl hG.1 p) d44 (q) ⟨by omega, by omega⟩) dX8_cursor_107 (And.intro (Nat.le_of_ble_eq_true rfl) (Nat.le_of_ble_eq_true rfl)) (ci := 3) (q0 := 30) rfl rfl (Nat.le_of_ble_eq_true rfl) rfl rfl (Nat.le_of_ble_eq_true rfl) (Nat.le_of_ble_eq_true rfl) rfl ?_
                  rw [if_pos hq0]
                  refine g_goto 115 dX8_cursor_110 (by decide) ?_
                  refine ct_beside p.toNat hnp dX8_cursor_115 (by omega) (by omega) ?_
                  refine g_aload dX8_cursor_116 rfl ?_
                  refine cg_sh_leans p.toNat hnp dX8_cursor_118 flX8_235 ?_
                  refine g_iload_n 2 dX8_cursor_121 rfl rfl ?_
                  refine g_iload dX8_cursor_122 rfl ?_
                  refine ct_leans p.toNat hnp dX8_cursor_124 (by omega) (by omega) ?_
                  refine g_aload_n 0 dX8_cursor_125 rfl rfl ?_
                  refine g_iconst (iI 1) dX8_cursor_126 rfl ?_
                  refine ckE lkX8_138 (k_X8_done Z a _ fS fA _ 1) dX8_cursor_127 (And.intro (Nat.le_of_ble_eq_true rfl) (Nat.le_of_ble_eq_true rfl)) (ci := 7) (q0 := 0) rfl rfl (Nat.le_of_ble_eq_true rfl) rfl rfl (Nat.le_of_ble_eq_true rfl) (Nat.le_of_ble_eq_true rfl) rfl ?_
                  refine g_iret dX8_cursor_130 rfl (Nat.le_of_ble_eq_true rfl) (Nat.le_of_ble_eq_true rfl) ?_
                  have hA : A_cursor D p c q l = (1, ms (ms (ms D 11 (3 * p + c) (curX D p (if l = 0 then q - 1 else q))) 12 (3 * p + c) l) 13 0 0) := by
                    unfold A_cursor
                    rw [if_pos ⟨⟨hPp, hK3⟩, by omega, by omega⟩]
                  rw [hA]
                  have hcx : curX D p (if l = 0 then q - 1 else q) = nmX D (tkB D p) (q) := by
                    rw [if_neg (by omega)]
                    unfold curX
                    rw [if_pos (by omega)]
                    rfl
                  rw [hcx]
                  have g := Rel_cur r44 hnp (show c.toNat < 3 by omega) (nmX D (tkB D p) (q)) l
                  rw [hep, hec] at g
                  exact ⟨_, rfl, congrArg (cW Z a _ fS fA) (sW_cur Z D sa sb N _ _ _ _).symm, g⟩
                · rw [decide_eq_false hq0]
                  rw [h78] at hq0
                  refine gi_if_eq 113 dX8_cursor_98 (by decide) ⟨by decide, by decide⟩ (fun _ => ?_) (fun cc => absurd cc (by decide))
                  refine g_bipush (iI (-2)) dX8_cursor_113 (by decide) ?_
                  refine ct_beside p.toNat hnp dX8_cursor_115 (by omega) (by omega) ?_
                  refine g_aload dX8_cursor_116 rfl ?_
                  refine cg_sh_leans p.toNat hnp dX8_cursor_118 flX8_235 ?_
                  refine g_iload_n 2 dX8_cursor_121 rfl rfl ?_
                  refine g_iload dX8_cursor_122 rfl ?_
                  refine ct_leans p.toNat hnp dX8_cursor_124 (by omega) (by omega) ?_
                  refine g_aload_n 0 dX8_cursor_125 rfl rfl ?_
                  refine g_iconst (iI 1) dX8_cursor_126 rfl ?_
                  refine ckE lkX8_138 (k_X8_done Z a _ fS fA _ 1) dX8_cursor_127 (And.intro (Nat.le_of_ble_eq_true rfl) (Nat.le_of_ble_eq_true rfl)) (ci := 7) (q0 := 0) rfl rfl (Nat.le_of_ble_eq_true rfl) rfl rfl (Nat.le_of_ble_eq_true rfl) (Nat.le_of_ble_eq_true rfl) rfl ?_
                  refine g_iret dX8_cursor_130 rfl (Nat.le_of_ble_eq_true rfl) (Nat.le_of_ble_eq_true rfl) ?_
                  have hA : A_cursor D p c q l = (1, ms (ms (ms D 11 (3 * p + c) (curX D p (if l = 0 then q - 1 else q))) 12 (3 * p + c) l) 13 0 0) := by
                    unfold A_cursor
                    rw [if_pos ⟨⟨hPp, hK3⟩, by omega, by omega⟩]
                  rw [hA]
                  have hcx : curX D p (if l = 0 then q - 1 else q) = -2 := by
                    rw [if_neg (by omega)]
                    unfold curX
                    rw [if_neg (by omega)]
                    
                  rw [hcx]
                  have g := Rel_cur r44 hnp (show c.toNat < 3 by omega) (-2) l
                  rw [hep, hec] at g
                  exact ⟨_, rfl, congrArg (cW Z a _ fS fA) (sW_cur Z D sa sb N _ _ _ _).symm, g⟩
              · refine g_iload_n 3 dX8_cursor_74 rfl rfl ?_
                refine g_iconst (iI 1) dX8_cursor_75 rfl ?_
                refine gi_sub dX8_cursor_76 ?_
                refine g_goto 81 dX8_cursor_77 (by decide) ?_
                refine g_istore dX8_cursor_81 (Nat.le_of_ble_eq_true rfl) (Nat.le_of_ble_eq_true rfl) rfl ?_
                dsimp only [sto]
                refine g_aload dX8_cursor_83 rfl ?_
                refine cg_sh_beside p.toNat hnp dX8_cursor_85 flX8_232 ?_
                refine g_iload_n 2 dX8_cursor_88 rfl rfl ?_
                refine g_aload_n 0 dX8_cursor_89 rfl rfl ?_
                refine cg_mp_reading dX8_cursor_90 flX8_30 ?_
                refine g_iload dX8_cursor_93 rfl ?_
                refine ckE lkX8_182 (k_X3_isPlace Z a C44 fS fA _ (q - 1) ⟨by omega, by omega⟩ (by rw [h78]; exact ⟨by omega, by omega⟩)) dX8_cursor_95 (And.intro (Nat.le_of_ble_eq_true rfl) (Nat.le_of_ble_eq_true rfl)) (ci := 3) (q0 := 30) rfl rfl (Nat.le_of_ble_eq_true rfl) rfl rfl (Nat.le_of_ble_eq_true rfl) (Nat.le_of_ble_eq_true rfl) rfl ?_
                by_cases hq0 : 0 ≤ q - 1 ∧ q - 1 < C44 78 0
                · rw [decide_eq_true hq0]
                  rw [h78] at hq0
                  refine gi_if_eq 113 dX8_cursor_98 (by decide) ⟨by decide, by decide⟩ (fun cc => absurd cc (by decide)) (fun _ => ?_)
                  refine g_aload_n 0 dX8_cursor_101 rfl rfl ?_
                  refine cg_mp_reading dX8_cursor_102 flX8_30 ?_
                  refine g_iload dX8_cursor_105 rfl ?_
                  refine ckE lkX8_69 (k_X3_nameAt Z a C44 fS fA sa sb N hG (tkB_Cl hG.1 p) d44 (q - 1) ⟨by omega, by omega⟩) dX8_cursor_107 (And.intro (Nat.le_of_ble_eq_true rfl) (Nat.le_of_ble_eq_true rfl)) (ci := 3) (q0 := 30) rfl rfl (Nat.le_of_ble_eq_true rfl) rfl rfl (Nat.le_of_ble_eq_true rfl) (Nat.le_of_ble_eq_true rfl) rfl ?_
                  rw [if_pos hq0]
                  refine g_goto 115 dX8_cursor_110 (by decide) ?_
                  refine ct_beside p.toNat hnp dX8_cursor_115 (by omega) (by omega) ?_
                  refine g_aload dX8_cursor_116 rfl ?_
                  refine cg_sh_leans p.toNat hnp dX8_cursor_118 flX8_235 ?_
                  refine g_iload_n 2 dX8_cursor_121 rfl rfl ?_
                  refine g_iload dX8_cursor_122 rfl ?_
                  refine ct_leans p.toNat hnp dX8_cursor_124 (by omega) (by omega) ?_
                  refine g_aload_n 0 dX8_cursor_125 rfl rfl ?_
                  refine g_iconst (iI 1) dX8_cursor_126 rfl ?_
                  refine ckE lkX8_138 (k_X8_done Z a _ fS fA _ 1) dX8_cursor_127 (And.intro (Nat.le_of_ble_eq_true rfl) (Nat.le_of_ble_eq_true rfl)) (ci := 7) (q0 := 0) rfl rfl (Nat.le_of_ble_eq_true rfl) rfl rfl (Nat.le_of_ble_eq_true rfl) (Nat.le_of_ble_eq_true rfl) rfl ?_
                  refine g_iret dX8_cursor_130 rfl (Nat.le_of_ble_eq_true rfl) (Nat.le_of_ble_eq_true rfl) ?_
                  have hA : A_cursor D p c q l = (1, ms (ms (ms D 11 (3 * p + c) (curX D p (if l = 0 then q - 1 else q))) 12 (3 * p + c) l) 13 0 0) := by
                    unfold A_cursor
                    rw [if_pos ⟨⟨hPp, hK3⟩, by omega, by omega⟩]
                  rw [hA]
                  have hcx : curX D p (if l = 0 then q - 1 else q) = nmX D (tkB D p) (q - 1) := by
                    rw [if_pos (by omega)]
                    unfold curX
                    rw [if_pos (by omega)]
                    rfl
                  rw [hcx]
                  have g := Rel_cur r44 hnp (show c.toNat < 3 by omega) (nmX D (tkB D p) (q - 1)) l
                  rw [hep, hec] at g
                  exact ⟨_, rfl, congrArg (cW Z a _ fS fA) (sW_cur Z D sa sb N _ _ _ _).symm, g⟩
                · rw [decide_eq_false hq0]
                  rw [h78] at hq0
                  refine gi_if_eq 113 dX8_cursor_98 (by decide) ⟨by decide, by decide⟩ (fun _ => ?_) (fun cc => absurd cc (by decide))
                  refine g_bipush (iI (-2)) dX8_cursor_113 (by decide) ?_
                  refine ct_beside p.toNat hnp dX8_cursor_115 (by omega) (by omega) ?_
                  refine g_aload dX8_cursor_116 rfl ?_
                  refine cg_sh_leans p.toNat hnp dX8_cursor_118 flX8_235 ?_
                  refine g_iload_n 2 dX8_cursor_121 rfl rfl ?_
                  refine g_iload dX8_cursor_122 rfl ?_
                  refine ct_leans p.toNat hnp dX8_cursor_124 (by omega) (by omega) ?_
                  refine g_aload_n 0 dX8_cursor_125 rfl rfl ?_
                  refine g_iconst (iI 1) dX8_cursor_126 rfl ?_
                  refine ckE lkX8_138 (k_X8_done Z a _ fS fA _ 1) dX8_cursor_127 (And.intro (Nat.le_of_ble_eq_true rfl) (Nat.le_of_ble_eq_true rfl)) (ci := 7) (q0 := 0) rfl rfl (Nat.le_of_ble_eq_true rfl) rfl rfl (Nat.le_of_ble_eq_true rfl) (Nat.le_of_ble_eq_true rfl) rfl ?_
                  refine g_iret dX8_cursor_130 rfl (Nat.le_of_ble_eq_true rfl) (Nat.le_of_ble_eq_true rfl) ?_
                  have hA : A_cursor D p c q l = (1, ms (ms (ms D 11 (3 * p + c) (curX D p (if l = 0 then q - 1 else q))) 12 (3 * p + c) l) 13 0 0) := by
                    unfold A_cursor
                    rw [if_pos ⟨⟨hPp, hK3⟩, by omega, by omega⟩]
                  rw [hA]
                  have hcx : curX D p (if l = 0 then q - 1 else q) = -2 := by
                    rw [if_pos (by omega)]
                    unfold curX
                    rw [if_neg (by omega)]
                    
                  rw [hcx]
                  have g := Rel_cur r44 hnp (show c.toNat < 3 by omega) (-2) l
                  rw [hep, hec] at g
                  exact ⟨_, rfl, congrArg (cW Z a _ fS fA) (sW_cur Z D sa sb N _ _ _ _).symm, g⟩
            · refine g_aload_n 0 dX8_cursor_63 rfl rfl ?_
              refine g_iconst (iI 1) dX8_cursor_64 rfl ?_
              refine ckE lkX8_46 (k_X8_refuse Z a C44 fS fA _ 1) dX8_cursor_65 (And.intro (Nat.le_of_ble_eq_true rfl) (Nat.le_of_ble_eq_true rfl)) (ci := 7) (q0 := 0) rfl rfl (Nat.le_of_ble_eq_true rfl) rfl rfl (Nat.le_of_ble_eq_true rfl) (Nat.le_of_ble_eq_true rfl) rfl ?_
              refine g_iret dX8_cursor_68 rfl (Nat.le_of_ble_eq_true rfl) (Nat.le_of_ble_eq_true rfl) ?_
              have hA : A_cursor D p c q l = (-1, ms D 13 0 1) := by
                unfold A_cursor
                rw [if_neg (by omega)]
              rw [hA, sW_fin]
              exact ⟨_, rfl, rfl, Rel_fin r44 _⟩
        · refine g_aload_n 0 dX8_cursor_30 rfl rfl ?_
          refine g_iconst (iI 1) dX8_cursor_31 rfl ?_
          refine ckE lkX8_46 (k_X8_refuse Z a C fS fA _ 1) dX8_cursor_32 (And.intro (Nat.le_of_ble_eq_true rfl) (Nat.le_of_ble_eq_true rfl)) (ci := 7) (q0 := 0) rfl rfl (Nat.le_of_ble_eq_true rfl) rfl rfl (Nat.le_of_ble_eq_true rfl) (Nat.le_of_ble_eq_true rfl) rfl ?_
          refine g_iret dX8_cursor_35 rfl (Nat.le_of_ble_eq_true rfl) (Nat.le_of_ble_eq_true rfl) ?_
          have hA : A_cursor D p c q l = (-1, ms D 13 0 1) := by
            unfold A_cursor
            rw [if_neg (by omega)]
          rw [hA, sW_fin]
          exact ⟨_, rfl, rfl, Rel_fin hR _⟩
    · rw [decide_eq_false hK3]
      refine gi_if_eq 30 dX8_cursor_16 (by decide) ⟨by decide, by decide⟩ (fun _ => ?_) (fun cc => absurd cc (by decide))
      refine g_aload_n 0 dX8_cursor_30 rfl rfl ?_
      refine g_iconst (iI 1) dX8_cursor_31 rfl ?_
      refine ckE lkX8_46 (k_X8_refuse Z a C fS fA _ 1) dX8_cursor_32 (And.intro (Nat.le_of_ble_eq_true rfl) (Nat.le_of_ble_eq_true rfl)) (ci := 7) (q0 := 0) rfl rfl (Nat.le_of_ble_eq_true rfl) rfl rfl (Nat.le_of_ble_eq_true rfl) (Nat.le_of_ble_eq_true rfl) rfl ?_
      refine g_iret dX8_cursor_35 rfl (Nat.le_of_ble_eq_true rfl) (Nat.le_of_ble_eq_true rfl) ?_
      have hA : A_cursor D p c q l = (-1, ms D 13 0 1) := by
        unfold A_cursor
        rw [if_neg (by omega)]
      rw [hA, sW_fin]
      exact ⟨_, rfl, rfl, Rel_fin hR _⟩
  · rw [if_neg hPp]
    refine g_astoreN dX8_cursor_5 (Nat.le_of_ble_eq_true rfl) (Nat.le_of_ble_eq_true rfl) rfl ?_
    dsimp only [sto]
    refine g_aloadN dX8_cursor_7 rfl ?_
    refine g_ifnullN 30 dX8_cursor_9 (by decide) ?_
    refine g_aload_n 0 dX8_cursor_30 rfl rfl ?_
    refine g_iconst (iI 1) dX8_cursor_31 rfl ?_
    refine ckE lkX8_46 (k_X8_refuse Z a C fS fA _ 1) dX8_cursor_32 (And.intro (Nat.le_of_ble_eq_true rfl) (Nat.le_of_ble_eq_true rfl)) (ci := 7) (q0 := 0) rfl rfl (Nat.le_of_ble_eq_true rfl) rfl rfl (Nat.le_of_ble_eq_true rfl) (Nat.le_of_ble_eq_true rfl) rfl ?_
    refine g_iret dX8_cursor_35 rfl (Nat.le_of_ble_eq_true rfl) (Nat.le_of_ble_eq_true rfl) ?_
    have hA : A_cursor D p c q l = (-1, ms D 13 0 1) := by
      unfold A_cursor
      rw [if_neg (by omega)]
    rw [hA, sW_fin]
    exact ⟨_, rfl, rfl, Rel_fin hR _⟩
