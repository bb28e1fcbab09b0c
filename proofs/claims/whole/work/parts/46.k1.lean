/-! THE CLASS: small methods -/
theorem ca_sheetsW {Z : LZ} {J : MD} {E : State → Array Value → (Nat → Prop) → Prop} {Q : List Frame → Array Value → State → (Nat → Prop) → State → Prop} {pc : Nat} {ls st : List Value} {k n : Nat} {x : Int} {a : Nat → Nat} {C : Mem} {fS fA : Nat → Option Nat} {W : va_W} (d : decode J.2.1 pc = .ok (.aaload, 1)) (h0 : 0 ≤ x) (h1 : x < 6) (K : G Z J E Q (pc + 1) ls (.ref (a (110 + x.toNat)) :: st) (cW Z a C fS fA W) k n) : G Z J E Q pc ls (.int (iI x) :: .ref (a 101) :: st) (cW Z a C fS fA W) k n := g_aald3 5 d rfl (iI_in h0 h1 (by decide)) (by rw [iI_clamp h0 (by omega)]; exact K)
set_option maxHeartbeats 4000000 in
theorem k_X8_refuse (Z : LZ) (a : Nat → Nat) (C : Mem) (fS fA : Nat → Option Nat) (W : va_W) (x : Int) : Tr Z jX8_refuse [.ref (a 99), .int (iI x)] (cW Z a C fS fA W) (fun r w => r = some (.int (iI (-1))) ∧ w = cW Z a (ms C 0 0 x) fS fA W) := by
  refine tr_of pn_X8_refuse (Nat.le_of_ble_eq_true rfl) (by intro v h; simp only [List.mem_cons, List.not_mem_nil, or_false] at h; rcases h with h | h <;> rw [h] <;> rfl) ?_
  refine g_aload_n 0 dX8_refuse_0 rfl rfl ?_
  refine g_iload_n 1 dX8_refuse_1 rfl rfl ?_
  refine cp_mp_finding dX8_refuse_2 flX8_38 ?_
  refine g_iconst (iI (-1)) dX8_refuse_5 rfl ?_
  refine g_iret dX8_refuse_6 rfl (Nat.le_of_ble_eq_true rfl) (Nat.le_of_ble_eq_true rfl) ⟨?_, rfl⟩
  rfl
set_option maxHeartbeats 4000000 in
theorem k_X8_done (Z : LZ) (a : Nat → Nat) (C : Mem) (fS fA : Nat → Option Nat) (W : va_W) (x : Int) : Tr Z jX8_done [.ref (a 99), .int (iI x)] (cW Z a C fS fA W) (fun r w => r = some (.int (iI x)) ∧ w = cW Z a (ms C 0 0 0) fS fA W) := by
  refine tr_of pn_X8_done (Nat.le_of_ble_eq_true rfl) (by intro v h; simp only [List.mem_cons, List.not_mem_nil, or_false] at h; rcases h with h | h <;> rw [h] <;> rfl) ?_
  refine g_aload_n 0 dX8_done_0 rfl rfl ?_
  refine g_iconst (iI 0) dX8_done_1 rfl ?_
  refine cp_mp_finding dX8_done_2 flX8_38 ?_
  refine g_iload_n 1 dX8_done_5 rfl rfl ?_
  refine g_iret dX8_done_6 rfl (Nat.le_of_ble_eq_true rfl) (Nat.le_of_ble_eq_true rfl) ⟨?_, rfl⟩
  rfl
set_option maxHeartbeats 4000000 in
theorem k_X8_status (Z : LZ) (a : Nat → Nat) (C : Mem) (fS fA : Nat → Option Nat) (W : va_W)  : Tr Z jX8_status [.ref (a 99)] (cW Z a C fS fA W) (fun r w => r = some (.int (iI (C 0 0))) ∧ w = cW Z a C fS fA W) := by
  refine tr_of pn_X8_status (Nat.le_of_ble_eq_true rfl) (by intro v h; rw [List.mem_singleton.mp h]; rfl) ?_
  refine g_aload_n 0 dX8_status_0 rfl rfl ?_
  refine cg_mp_finding rfl dX8_status_1 flX8_38 ?_
  refine g_iret dX8_status_4 rfl (Nat.le_of_ble_eq_true rfl) (Nat.le_of_ble_eq_true rfl) ⟨?_, rfl⟩
  rfl
set_option maxHeartbeats 4000000 in
theorem k_X8_slips (Z : LZ) (a : Nat → Nat) (C : Mem) (fS fA : Nat → Option Nat) (W : va_W)  : Tr Z jX8_slips [.ref (a 99)] (cW Z a C fS fA W) (fun r w => r = some (.int (iI (C 1 0))) ∧ w = cW Z a C fS fA W) := by
  refine tr_of pn_X8_slips (Nat.le_of_ble_eq_true rfl) (by intro v h; rw [List.mem_singleton.mp h]; rfl) ?_
  refine g_aload_n 0 dX8_slips_0 rfl rfl ?_
  refine cg_mp_book dX8_slips_1 flX8_12 ?_
  refine cg_bk_count rfl dX8_slips_4 flX8_74 ?_
  refine g_iret dX8_slips_7 rfl (Nat.le_of_ble_eq_true rfl) (Nat.le_of_ble_eq_true rfl) ⟨?_, rfl⟩
  rfl
set_option maxHeartbeats 4000000 in
theorem k_X8_isTint (Z : LZ) (a : Nat → Nat) (C : Mem) (fS fA : Nat → Option Nat) (W : va_W) (t : Int) (ht : Rg t) : Tr Z jX8_isTint [.int (iI t)] (cW Z a C fS fA W) (fun r w => r = some (.int (iI (bI (decide (0 ≤ t ∧ t < 4))))) ∧ w = cW Z a C fS fA W) := by
  refine tr_of pn_X8_isTint (Nat.le_of_ble_eq_true rfl) (by intro v h; rw [List.mem_singleton.mp h]; rfl) ?_
  refine g_iload_n 0 dX8_isTint_0 rfl rfl ?_
  refine gi_if_lt 13 dX8_isTint_1 (by decide) (by first | exact hM _ _ | exact bI_Rg _ | exact ⟨by omega, by omega⟩) (fun c1 => ?_) (fun c1 => ?_)
  · refine g_iconst (iI 0) dX8_isTint_13 rfl ?_
    refine g_zret dX8_isTint_14 rfl (narrow_bool (by first | exact Or.inl rfl | exact Or.inr rfl | assumption | omega)) (Nat.le_of_ble_eq_true rfl) (Nat.le_of_ble_eq_true rfl) ⟨?_, rfl⟩
    first | (rw [decide_eq_true (by omega)]; rfl) | (rw [decide_eq_false (by omega)]; rfl)
  · refine g_iload_n 0 dX8_isTint_4 rfl rfl ?_
    refine g_iconst (iI 4) dX8_isTint_5 rfl ?_
    refine gi_icmp_ge 13 dX8_isTint_6 (by decide) (by first | exact hM _ _ | exact bI_Rg _ | exact ⟨by omega, by omega⟩) (by first | exact hM _ _ | exact bI_Rg _ | exact ⟨by omega, by omega⟩) (fun c6 => ?_) (fun c6 => ?_)
    · refine g_iconst (iI 0) dX8_isTint_13 rfl ?_
      refine g_zret dX8_isTint_14 rfl (narrow_bool (by first | exact Or.inl rfl | exact Or.inr rfl | assumption | omega)) (Nat.le_of_ble_eq_true rfl) (Nat.le_of_ble_eq_true rfl) ⟨?_, rfl⟩
      first | (rw [decide_eq_true (by omega)]; rfl) | (rw [decide_eq_false (by omega)]; rfl)
    · refine g_iconst (iI 1) dX8_isTint_9 rfl ?_
      refine g_goto 14 dX8_isTint_10 (by decide) ?_
      refine g_zret dX8_isTint_14 rfl (narrow_bool (by first | exact Or.inl rfl | exact Or.inr rfl | assumption | omega)) (Nat.le_of_ble_eq_true rfl) (Nat.le_of_ble_eq_true rfl) ⟨?_, rfl⟩
      first | (rw [decide_eq_true (by omega)]; rfl) | (rw [decide_eq_false (by omega)]; rfl)
set_option maxHeartbeats 4000000 in
theorem k_X8_isCursor (Z : LZ) (a : Nat → Nat) (C : Mem) (fS fA : Nat → Option Nat) (W : va_W) (t : Int) (ht : Rg t) : Tr Z jX8_isCursor [.int (iI t)] (cW Z a C fS fA W) (fun r w => r = some (.int (iI (bI (decide (0 ≤ t ∧ t < 3))))) ∧ w = cW Z a C fS fA W) := by
  refine tr_of pn_X8_isCursor (Nat.le_of_ble_eq_true rfl) (by intro v h; rw [List.mem_singleton.mp h]; rfl) ?_
  refine g_iload_n 0 dX8_isCursor_0 rfl rfl ?_
  refine gi_if_lt 13 dX8_isCursor_1 (by decide) (by first | exact hM _ _ | exact bI_Rg _ | exact ⟨by omega, by omega⟩) (fun c1 => ?_) (fun c1 => ?_)
  · refine g_iconst (iI 0) dX8_isCursor_13 rfl ?_
    refine g_zret dX8_isCursor_14 rfl (narrow_bool (by first | exact Or.inl rfl | exact Or.inr rfl | assumption | omega)) (Nat.le_of_ble_eq_true rfl) (Nat.le_of_ble_eq_true rfl) ⟨?_, rfl⟩
    first | (rw [decide_eq_true (by omega)]; rfl) | (rw [decide_eq_false (by omega)]; rfl)
  · refine g_iload_n 0 dX8_isCursor_4 rfl rfl ?_
    refine g_iconst (iI 3) dX8_isCursor_5 rfl ?_
    refine gi_icmp_ge 13 dX8_isCursor_6 (by decide) (by first | exact hM _ _ | exact bI_Rg _ | exact ⟨by omega, by omega⟩) (by first | exact hM _ _ | exact bI_Rg _ | exact ⟨by omega, by omega⟩) (fun c6 => ?_) (fun c6 => ?_)
    · refine g_iconst (iI 0) dX8_isCursor_13 rfl ?_
      refine g_zret dX8_isCursor_14 rfl (narrow_bool (by first | exact Or.inl rfl | exact Or.inr rfl | assumption | omega)) (Nat.le_of_ble_eq_true rfl) (Nat.le_of_ble_eq_true rfl) ⟨?_, rfl⟩
      first | (rw [decide_eq_true (by omega)]; rfl) | (rw [decide_eq_false (by omega)]; rfl)
    · refine g_iconst (iI 1) dX8_isCursor_9 rfl ?_
      refine g_goto 14 dX8_isCursor_10 (by decide) ?_
      refine g_zret dX8_isCursor_14 rfl (narrow_bool (by first | exact Or.inl rfl | exact Or.inr rfl | assumption | omega)) (Nat.le_of_ble_eq_true rfl) (Nat.le_of_ble_eq_true rfl) ⟨?_, rfl⟩
      first | (rw [decide_eq_true (by omega)]; rfl) | (rw [decide_eq_false (by omega)]; rfl)
set_option maxHeartbeats 4000000 in
theorem k_X0_isFull (Z : LZ) (a : Nat → Nat) (C : Mem) (fS fA : Nat → Option Nat) (W : va_W) (h1 : Rg (C 1 0)) : Tr Z jX0_isFull [.ref (a 100)] (cW Z a C fS fA W) (fun r w => r = some (.int (iI (bI (decide (256 ≤ C 1 0))))) ∧ w = cW Z a C fS fA W) := by
  refine tr_of pn_X0_isFull (Nat.le_of_ble_eq_true rfl) (by intro v h; rw [List.mem_singleton.mp h]; rfl) ?_
  refine g_aload_n 0 dX0_isFull_0 rfl rfl ?_
  refine cg_bk_count rfl dX0_isFull_1 flX0_24 ?_
  refine g_sipush (iI 256) dX0_isFull_4 (by decide) ?_
  refine gi_icmp_lt 14 dX0_isFull_7 (by decide) h1 (by exact ⟨by omega, by omega⟩) (fun c7 => ?_) (fun c7 => ?_)
  · refine g_iconst (iI 0) dX0_isFull_14 rfl ?_
    refine g_zret dX0_isFull_15 rfl (narrow_bool (by first | exact Or.inl rfl | exact Or.inr rfl | assumption | omega)) (Nat.le_of_ble_eq_true rfl) (Nat.le_of_ble_eq_true rfl) ⟨?_, rfl⟩
    first | (rw [decide_eq_true (by omega)]; rfl) | (rw [decide_eq_false (by omega)]; rfl)
  · refine g_iconst (iI 1) dX0_isFull_10 rfl ?_
    refine g_goto 15 dX0_isFull_11 (by decide) ?_
    refine g_zret dX0_isFull_15 rfl (narrow_bool (by first | exact Or.inl rfl | exact Or.inr rfl | assumption | omega)) (Nat.le_of_ble_eq_true rfl) (Nat.le_of_ble_eq_true rfl) ⟨?_, rfl⟩
    first | (rw [decide_eq_true (by omega)]; rfl) | (rw [decide_eq_false (by omega)]; rfl)
set_option maxHeartbeats 4000000 in
theorem k_X8_sheetOf (Z : LZ) (a : Nat → Nat) (C : Mem) (fS fA : Nat → Option Nat) (W : va_W) (p : Int) (hp : Rg p) : Tr Z jX8_sheetOf [.ref (a 99), .int (iI p)] (cW Z a C fS fA W) (fun r w => r = some (if 0 ≤ p ∧ p < 6 then .ref (a (110 + p.toNat)) else .null) ∧ w = cW Z a C fS fA W) := by
  refine tr_of pn_X8_sheetOf (Nat.le_of_ble_eq_true rfl) (by intro v h; simp only [List.mem_cons, List.not_mem_nil, or_false] at h; rcases h with h | h <;> rw [h] <;> rfl) ?_
  refine g_iload_n 1 dX8_sheetOf_0 rfl rfl ?_
  refine gi_if_lt 19 dX8_sheetOf_1 (by decide) (by first | exact hM _ _ | exact bI_Rg _ | exact ⟨by omega, by omega⟩) (fun c1 => ?_) (fun c1 => ?_)
  · refine g_null dX8_sheetOf_19 ?_
    refine g_aret dX8_sheetOf_20 rfl (by first | exact Or.inl ⟨_, rfl⟩ | exact Or.inr ⟨_, rfl⟩) (by first | exact Or.inl rfl | exact Or.inr ⟨_, rfl⟩) (Nat.le_of_ble_eq_true rfl) (Nat.le_of_ble_eq_true rfl) ⟨?_, rfl⟩
    first | rw [if_pos (by omega)] | rw [if_neg (by omega)]
  · refine g_iload_n 1 dX8_sheetOf_4 rfl rfl ?_
    refine g_bipush (iI 6) dX8_sheetOf_5 (by decide) ?_
    refine gi_icmp_ge 19 dX8_sheetOf_7 (by decide) (by first | exact hM _ _ | exact bI_Rg _ | exact ⟨by omega, by omega⟩) (by first | exact hM _ _ | exact bI_Rg _ | exact ⟨by omega, by omega⟩) (fun c7 => ?_) (fun c7 => ?_)
    · refine g_null dX8_sheetOf_19 ?_
      refine g_aret dX8_sheetOf_20 rfl (by first | exact Or.inl ⟨_, rfl⟩ | exact Or.inr ⟨_, rfl⟩) (by first | exact Or.inl rfl | exact Or.inr ⟨_, rfl⟩) (Nat.le_of_ble_eq_true rfl) (Nat.le_of_ble_eq_true rfl) ⟨?_, rfl⟩
      first | rw [if_pos (by omega)] | rw [if_neg (by omega)]
    · refine g_aload_n 0 dX8_sheetOf_10 rfl rfl ?_
      refine cg_mp_sheets dX8_sheetOf_11 flX8_18 ?_
      refine g_iload_n 1 dX8_sheetOf_14 rfl rfl ?_
      refine ca_sheetsW dX8_sheetOf_15 (by omega) (by omega) ?_
      refine g_goto 20 dX8_sheetOf_16 (by decide) ?_
      refine g_aret dX8_sheetOf_20 rfl (by first | exact Or.inl ⟨_, rfl⟩ | exact Or.inr ⟨_, rfl⟩) (by first | exact Or.inl rfl | exact Or.inr ⟨_, rfl⟩) (Nat.le_of_ble_eq_true rfl) (Nat.le_of_ble_eq_true rfl) ⟨?_, rfl⟩
      first | rw [if_pos (by omega)] | rw [if_neg (by omega)]
