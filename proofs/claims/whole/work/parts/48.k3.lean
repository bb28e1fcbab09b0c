/-! THE CLASS: small methods of Reading -/
set_option maxHeartbeats 4000000 in
theorem k_X3_isWorking (Z : LZ) (a : Nat → Nat) (C : Mem) (fS fA : Nat → Option Nat) {D : Mem} (sa sb : Nat → Nat) (N : Nat) (hN : N ≤ 256) (s : Nat) (hs : s < N) (hr : Rg (C 70 s)) : Tr Z jX3_isWorking [.ref (a 102), .ref (sa s)] (cW Z a C fS fA (sW Z D sa sb N)) (fun r w => r = some (.int (iI (bI (decide (C 70 s = 3))))) ∧ w = cW Z a C fS fA (sW Z D sa sb N)) := by
  refine tr_of pn_X3_isWorking (Nat.le_of_ble_eq_true rfl) (by intro v h; simp only [List.mem_cons, List.not_mem_nil, or_false] at h; rcases h with h | h <;> rw [h] <;> rfl) ?_
  refine g_aload_n 0 dX3_isWorking_0 rfl rfl ?_
  refine cg_rd_standing dX3_isWorking_1 flX3_9 ?_
  refine g_aload_n 1 dX3_isWorking_4 rfl rfl ?_
  refine cg_sl_number hs dX3_isWorking_5 flX3_59 ?_
  refine ca_70 rfl dX3_isWorking_8 (by omega) (by omega) ?_
  refine g_iconst (iI 3) dX3_isWorking_9 rfl ?_
  refine gi_icmp_ne 17 dX3_isWorking_10 (by decide) hr (by exact ⟨by omega, by omega⟩) (fun c10 => ?_) (fun c10 => ?_)
  · refine g_iconst (iI 0) dX3_isWorking_17 rfl ?_
    refine g_zret dX3_isWorking_18 rfl (narrow_bool (by first | exact Or.inl rfl | exact Or.inr rfl | assumption | omega)) (Nat.le_of_ble_eq_true rfl) (Nat.le_of_ble_eq_true rfl) ⟨?_, rfl⟩
    first | (rw [decide_eq_true (by omega)]; rfl) | (rw [decide_eq_false (by omega)]; rfl)
  · refine g_iconst (iI 1) dX3_isWorking_13 rfl ?_
    refine g_goto 18 dX3_isWorking_14 (by decide) ?_
    refine g_zret dX3_isWorking_18 rfl (narrow_bool (by first | exact Or.inl rfl | exact Or.inr rfl | assumption | omega)) (Nat.le_of_ble_eq_true rfl) (Nat.le_of_ble_eq_true rfl) ⟨?_, rfl⟩
    first | (rw [decide_eq_true (by omega)]; rfl) | (rw [decide_eq_false (by omega)]; rfl)
set_option maxHeartbeats 4000000 in
theorem k_X3_isPlace (Z : LZ) (a : Nat → Nat) (C : Mem) (fS fA : Nat → Option Nat) (W : va_W) (x : Int) (hx : Rg x) (h7 : Rg (C 78 0)) : Tr Z jX3_isPlace [.ref (a 102), .int (iI x)] (cW Z a C fS fA W) (fun r w => r = some (.int (iI (bI (decide (0 ≤ x ∧ x < C 78 0))))) ∧ w = cW Z a C fS fA W) := by
  refine tr_of pn_X3_isPlace (Nat.le_of_ble_eq_true rfl) (by intro v h; simp only [List.mem_cons, List.not_mem_nil, or_false] at h; rcases h with h | h <;> rw [h] <;> rfl) ?_
  refine g_iload_n 1 dX3_isPlace_0 rfl rfl ?_
  refine gi_if_lt 16 dX3_isPlace_1 (by decide) (by first | exact hM _ _ | exact bI_Rg _ | exact ⟨by omega, by omega⟩) (fun c1 => ?_) (fun c1 => ?_)
  · refine g_iconst (iI 0) dX3_isPlace_16 rfl ?_
    refine g_zret dX3_isPlace_17 rfl (narrow_bool (by first | exact Or.inl rfl | exact Or.inr rfl | assumption | omega)) (Nat.le_of_ble_eq_true rfl) (Nat.le_of_ble_eq_true rfl) ⟨?_, rfl⟩
    first | (rw [decide_eq_true (by omega)]; rfl) | (rw [decide_eq_false (by omega)]; rfl)
  · refine g_iload_n 1 dX3_isPlace_4 rfl rfl ?_
    refine g_aload_n 0 dX3_isPlace_5 rfl rfl ?_
    refine cg_rd_textSize rfl dX3_isPlace_6 flX3_65 ?_
    refine gi_icmp_ge 16 dX3_isPlace_9 (by decide) hx h7 (fun c9 => ?_) (fun c9 => ?_)
    · refine g_iconst (iI 0) dX3_isPlace_16 rfl ?_
      refine g_zret dX3_isPlace_17 rfl (narrow_bool (by first | exact Or.inl rfl | exact Or.inr rfl | assumption | omega)) (Nat.le_of_ble_eq_true rfl) (Nat.le_of_ble_eq_true rfl) ⟨?_, rfl⟩
      first | (rw [decide_eq_true (by omega)]; rfl) | (rw [decide_eq_false (by omega)]; rfl)
    · refine g_iconst (iI 1) dX3_isPlace_12 rfl ?_
      refine g_goto 17 dX3_isPlace_13 (by decide) ?_
      refine g_zret dX3_isPlace_17 rfl (narrow_bool (by first | exact Or.inl rfl | exact Or.inr rfl | assumption | omega)) (Nat.le_of_ble_eq_true rfl) (Nat.le_of_ble_eq_true rfl) ⟨?_, rfl⟩
      first | (rw [decide_eq_true (by omega)]; rfl) | (rw [decide_eq_false (by omega)]; rfl)
