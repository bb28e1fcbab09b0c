/-! THE CLASS: find -/
set_option maxHeartbeats 4000000 in
theorem k_X0_find (Z : LZ) (a : Nat → Nat) (C : Mem) (fS fA : Nat → Option Nat) {D : Mem} (sa sb : Nat → Nat) (N : Nat) (hN : N ≤ 256) (h1 : C 1 0 = N) (hfS : ∀ s : Nat, s < N → fS s = some (sa s)) (x : Int) (hx : Rg x) : Tr Z jX0_find [.ref (a 100), .int (iI x)] (cW Z a C fS fA (sW Z D sa sb N)) (fun r w => r = some (if 0 ≤ x ∧ x < N then .ref (sa x.toNat) else .null) ∧ w = cW Z a C fS fA (sW Z D sa sb N)) := by
  refine tr_of pn_X0_find (Nat.le_of_ble_eq_true rfl) (by intro v h; simp only [List.mem_cons, List.not_mem_nil, or_false] at h; rcases h with h | h <;> rw [h] <;> rfl) ?_
  refine g_iload_n 1 dX0_find_0 rfl rfl ?_
  refine gi_if_lt 21 dX0_find_1 (by decide) (by first | exact hM _ _ | exact bI_Rg _ | exact ⟨by omega, by omega⟩) (fun c1 => ?_) (fun c1 => ?_)
  · refine g_null dX0_find_21 ?_
    refine g_aret dX0_find_22 rfl (by first | exact Or.inl ⟨_, rfl⟩ | exact Or.inr ⟨_, rfl⟩) (by first | exact Or.inl rfl | exact Or.inr ⟨_, rfl⟩) (Nat.le_of_ble_eq_true rfl) (Nat.le_of_ble_eq_true rfl) ⟨?_, rfl⟩
    first | rw [if_pos (by omega)] | rw [if_neg (by omega)]
  · refine g_iload_n 1 dX0_find_4 rfl rfl ?_
    refine g_aload_n 0 dX0_find_5 rfl rfl ?_
    refine cg_bk_count h1 dX0_find_6 flX0_24 ?_
    refine gi_icmp_ge 21 dX0_find_9 (by decide) (by first | exact hM _ _ | exact bI_Rg _ | exact ⟨by omega, by omega⟩) (by first | exact hM _ _ | exact bI_Rg _ | exact ⟨by omega, by omega⟩) (fun c9 => ?_) (fun c9 => ?_)
    · refine g_null dX0_find_21 ?_
      refine g_aret dX0_find_22 rfl (by first | exact Or.inl ⟨_, rfl⟩ | exact Or.inr ⟨_, rfl⟩) (by first | exact Or.inl rfl | exact Or.inr ⟨_, rfl⟩) (Nat.le_of_ble_eq_true rfl) (Nat.le_of_ble_eq_true rfl) ⟨?_, rfl⟩
      first | rw [if_pos (by omega)] | rw [if_neg (by omega)]
    · refine g_aload_n 0 dX0_find_12 rfl rfl ?_
      refine cg_bk_slips dX0_find_13 flX0_11 ?_
      refine g_iload_n 1 dX0_find_16 rfl rfl ?_
      refine ca_slips (s := x.toNat) (hfS _ (by omega)) dX0_find_17 (by omega) (by omega) ?_
      refine g_goto 22 dX0_find_18 (by decide) ?_
      refine g_aret dX0_find_22 rfl (by first | exact Or.inl ⟨_, rfl⟩ | exact Or.inr ⟨_, rfl⟩) (by first | exact Or.inl rfl | exact Or.inr ⟨_, rfl⟩) (Nat.le_of_ble_eq_true rfl) (Nat.le_of_ble_eq_true rfl) ⟨?_, rfl⟩
      first | rw [if_pos (by omega)] | rw [if_neg (by omega)]
set_option maxHeartbeats 4000000 in
theorem k_X4_hasTaken (Z : LZ) (a : Nat → Nat) (C : Mem) (fS fA : Nat → Option Nat) {D : Mem} (sa sb : Nat → Nat) (N : Nat) (hN : N ≤ 256) (p s : Nat) (hp : p < 6) (hs : s < N) (hr : Rg (C (20 + p) s)) : Tr Z jX4_hasTaken [.ref (a (110 + p)), .ref (sa s)] (cW Z a C fS fA (sW Z D sa sb N)) (fun r w => r = some (.int (iI (bI (decide (C (20 + p) s = 2))))) ∧ w = cW Z a C fS fA (sW Z D sa sb N)) := by
  refine tr_of pn_X4_hasTaken (Nat.le_of_ble_eq_true rfl) (by intro v h; simp only [List.mem_cons, List.not_mem_nil, or_false] at h; rcases h with h | h <;> rw [h] <;> rfl) ?_
  refine g_aload_n 0 dX4_hasTaken_0 rfl rfl ?_
  refine cg_sh_held p hp dX4_hasTaken_1 flX4_9 ?_
  refine g_aload_n 1 dX4_hasTaken_4 rfl rfl ?_
  refine cg_sl_number hs dX4_hasTaken_5 flX4_34 ?_
  refine ca_held p hp rfl dX4_hasTaken_8 (by omega) (by omega) ?_
  refine g_iconst (iI 2) dX4_hasTaken_9 rfl ?_
  refine gi_icmp_ne 17 dX4_hasTaken_10 (by decide) hr (by exact ⟨by omega, by omega⟩) (fun c10 => ?_) (fun c10 => ?_)
  · refine g_iconst (iI 0) dX4_hasTaken_17 rfl ?_
    refine g_zret dX4_hasTaken_18 rfl (narrow_bool (by first | exact Or.inl rfl | exact Or.inr rfl | assumption | omega)) (Nat.le_of_ble_eq_true rfl) (Nat.le_of_ble_eq_true rfl) ⟨?_, rfl⟩
    first | (rw [decide_eq_true (by omega)]; rfl) | (rw [decide_eq_false (by omega)]; rfl)
  · refine g_iconst (iI 1) dX4_hasTaken_13 rfl ?_
    refine g_goto 18 dX4_hasTaken_14 (by decide) ?_
    refine g_zret dX4_hasTaken_18 rfl (narrow_bool (by first | exact Or.inl rfl | exact Or.inr rfl | assumption | omega)) (Nat.le_of_ble_eq_true rfl) (Nat.le_of_ble_eq_true rfl) ⟨?_, rfl⟩
    first | (rw [decide_eq_true (by omega)]; rfl) | (rw [decide_eq_false (by omega)]; rfl)
set_option maxHeartbeats 4000000 in
theorem k_X4_get (Z : LZ) (a : Nat → Nat) (C : Mem) (fS fA : Nat → Option Nat) {D : Mem} (sa sb : Nat → Nat) (N : Nat) (hN : N ≤ 256) (p s : Nat) (hp : p < 6) (hs : s < N) (hr : Rg (C (20 + p) s)) : Tr Z jX4_get [.ref (a (110 + p)), .ref (sa s)] (cW Z a C fS fA (sW Z D sa sb N)) (fun r w => r = none ∧ w = cW Z a (if C (20 + p) s = 0 then ms C (20 + p) s 1 else C) fS fA (sW Z D sa sb N)) := by
  refine tr_of pn_X4_get (Nat.le_of_ble_eq_true rfl) (by intro v h; simp only [List.mem_cons, List.not_mem_nil, or_false] at h; rcases h with h | h <;> rw [h] <;> rfl) ?_
  refine g_aload_n 0 dX4_get_0 rfl rfl ?_
  refine cg_sh_held p hp dX4_get_1 flX4_9 ?_
  refine g_aload_n 1 dX4_get_4 rfl rfl ?_
  refine cg_sl_number hs dX4_get_5 flX4_34 ?_
  refine ca_held p hp rfl dX4_get_8 (by omega) (by omega) ?_
  refine gi_if_ne 22 dX4_get_9 (by decide) hr (fun c9 => ?_) (fun c9 => ?_)
  · refine g_vret dX4_get_22 rfl (Nat.le_of_ble_eq_true rfl) (Nat.le_of_ble_eq_true rfl) ⟨rfl, ?_⟩
    first | rw [if_pos (by omega)] | rw [if_neg (by omega)]
  · refine g_aload_n 0 dX4_get_12 rfl rfl ?_
    refine cg_sh_held p hp dX4_get_13 flX4_9 ?_
    refine g_aload_n 1 dX4_get_16 rfl rfl ?_
    refine cg_sl_number hs dX4_get_17 flX4_34 ?_
    refine g_iconst (iI 1) dX4_get_20 rfl ?_
    refine ct_held p hp dX4_get_21 (by omega) (by omega) ?_
    refine g_vret dX4_get_22 rfl (Nat.le_of_ble_eq_true rfl) (Nat.le_of_ble_eq_true rfl) ⟨rfl, ?_⟩
    first | rw [if_pos (by omega)] | rw [if_neg (by omega)]
set_option maxHeartbeats 4000000 in
theorem k_X4_take (Z : LZ) (a : Nat → Nat) (C : Mem) (fS fA : Nat → Option Nat) {D : Mem} (hM : RM D) (sa sb : Nat → Nat) (N : Nat) (hN : N ≤ 256) (p s : Nat) (hp : p < 6) (hs : s < N) (hr : Rg (C (50 + p) 0)) : Tr Z jX4_take [.ref (a (110 + p)), .ref (sa s)] (cW Z a C fS fA (sW Z D sa sb N)) (fun r w => r = none ∧ w = cW Z a (ms (ms C (20 + p) s 2) (50 + p) 0 (if C (50 + p) 0 < D 1 s then D 1 s else C (50 + p) 0)) fS fA (sW Z D sa sb N)) := by
  refine tr_of pn_X4_take (Nat.le_of_ble_eq_true rfl) (by intro v h; simp only [List.mem_cons, List.not_mem_nil, or_false] at h; rcases h with h | h <;> rw [h] <;> rfl) ?_
  refine g_aload_n 0 dX4_take_0 rfl rfl ?_
  refine cg_sh_held p hp dX4_take_1 flX4_9 ?_
  refine g_aload_n 1 dX4_take_4 rfl rfl ?_
  refine cg_sl_number hs dX4_take_5 flX4_34 ?_
  refine g_iconst (iI 2) dX4_take_8 rfl ?_
  refine ct_held p hp dX4_take_9 (by omega) (by omega) ?_
  refine g_aload_n 0 dX4_take_10 rfl rfl ?_
  refine g_aload_n 0 dX4_take_11 rfl rfl ?_
  refine cg_sh_greatestStamp p hp dX4_take_12 flX4_76 ?_
  refine g_aload_n 1 dX4_take_15 rfl rfl ?_
  refine cg_sl_stamp hs dX4_take_16 flX4_79 ?_
  refine g_mmax dX4_take_19 lkmX4_82 mst_max min_ mcd_max (Nat.le_of_ble_eq_true rfl) (Nat.le_of_ble_eq_true rfl) (Nat.le_of_ble_eq_true rfl) (Nat.le_of_ble_eq_true rfl) (by rw [ms_row (by omega)]; exact hr) (hM _ _) ?_
  refine cp_sh_greatestStamp p hp dX4_take_22 flX4_76 ?_
  refine g_vret dX4_take_25 rfl (Nat.le_of_ble_eq_true rfl) (Nat.le_of_ble_eq_true rfl) ⟨rfl, ?_⟩
  rw [ms_row (by omega)]
