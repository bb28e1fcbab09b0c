/-! THE CLASS: first leaves -/
def ptF (x : Int) : Int := if x < 0 then -1 else x / 4
set_option maxHeartbeats 4000000 in
theorem k_putOf (Z : LZ) (ws : va_W) (x : Int) (hx : Rg x) : Tr Z jX8_putOf [.int (iI x)] ws (fun r w => r = some (.int (iI (ptF x))) ∧ w = ws) := by
  refine tr_of pn_X8_putOf (Nat.le_of_ble_eq_true rfl) (by intro v h; rw [List.mem_singleton.mp h]; rfl) ?_
  refine g_iload_n 0 dX8_putOf_0 rfl rfl ?_
  refine gi_if_ge 8 dX8_putOf_1 (by decide) hx (fun c1 => ?_) (fun c1 => ?_)
  · refine g_iload_n 0 dX8_putOf_8 rfl rfl ?_
    refine g_iconst (iI 4) dX8_putOf_9 rfl ?_
    refine gi_div dX8_putOf_10 (by omega) (by omega) (by decide) (by decide) ?_
    refine g_iret dX8_putOf_11 rfl (Nat.le_of_ble_eq_true rfl) (Nat.le_of_ble_eq_true rfl) ⟨?_, rfl⟩
    unfold ptF
    rw [if_neg (by omega)]
  · refine g_iconst (iI (-1)) dX8_putOf_4 rfl ?_
    refine g_goto 11 dX8_putOf_5 (by decide) ?_
    refine g_iret dX8_putOf_11 rfl (Nat.le_of_ble_eq_true rfl) (Nat.le_of_ble_eq_true rfl) ⟨?_, rfl⟩
    unfold ptF
    rw [if_pos (by omega)]
set_option maxHeartbeats 4000000 in
theorem k_isLaterThan (Z : LZ) (a : Nat → Nat) (C : Mem) (fS fA : Nat → Option Nat) {D : Mem} (hM : RM D) (sa sb : Nat → Nat) (N s t : Nat) (hs : s < N) (ht : t < N) : Tr Z jX5_isLaterThan [.ref (sa s), .ref (sa t)] (cW Z a C fS fA (sW Z D sa sb N)) (fun r w => r = some (.int (iI (bI (laterB D s t)))) ∧ w = cW Z a C fS fA (sW Z D sa sb N)) := by
  refine tr_of pn_X5_isLaterThan (Nat.le_of_ble_eq_true rfl) (by intro v h; simp only [List.mem_cons, List.not_mem_nil, or_false] at h; rcases h with h | h <;> rw [h] <;> rfl) ?_
  refine g_aload_n 0 dX5_isLaterThan_0 rfl rfl ?_
  refine cg_sl_stamp hs dX5_isLaterThan_1 flX5_22 ?_
  refine g_aload_n 1 dX5_isLaterThan_4 rfl rfl ?_
  refine cg_sl_stamp ht dX5_isLaterThan_5 flX5_22 ?_
  refine gi_icmp_eq 30 dX5_isLaterThan_8 (by decide) (hM _ _) (hM _ _) (fun c8 => ?_) (fun c8 => ?_)
  · refine g_aload_n 0 dX5_isLaterThan_30 rfl rfl ?_
    refine cg_sl_pen hs dX5_isLaterThan_31 flX5_18 ?_
    refine g_aload_n 1 dX5_isLaterThan_34 rfl rfl ?_
    refine cg_sl_pen ht dX5_isLaterThan_35 flX5_18 ?_
    refine gi_icmp_le 45 dX5_isLaterThan_38 (by decide) (hM _ _) (hM _ _) (fun c38 => ?_) (fun c38 => ?_)
    · refine g_iconst (iI 0) dX5_isLaterThan_45 rfl ?_
      refine g_zret dX5_isLaterThan_46 rfl (narrow_bool (Or.inl rfl)) (Nat.le_of_ble_eq_true rfl) (Nat.le_of_ble_eq_true rfl) ⟨?_, rfl⟩
      unfold laterB
      rw [if_pos c8, decide_eq_false (by omega)]
      rfl
    · refine g_iconst (iI 1) dX5_isLaterThan_41 rfl ?_
      refine g_goto 46 dX5_isLaterThan_42 (by decide) ?_
      refine g_zret dX5_isLaterThan_46 rfl (narrow_bool (Or.inr rfl)) (Nat.le_of_ble_eq_true rfl) (Nat.le_of_ble_eq_true rfl) ⟨?_, rfl⟩
      unfold laterB
      rw [if_pos c8, decide_eq_true (by omega)]
      rfl
  · refine g_aload_n 0 dX5_isLaterThan_11 rfl rfl ?_
    refine cg_sl_stamp hs dX5_isLaterThan_12 flX5_22 ?_
    refine g_aload_n 1 dX5_isLaterThan_15 rfl rfl ?_
    refine cg_sl_stamp ht dX5_isLaterThan_16 flX5_22 ?_
    refine gi_icmp_le 26 dX5_isLaterThan_19 (by decide) (hM _ _) (hM _ _) (fun c19 => ?_) (fun c19 => ?_)
    · refine g_iconst (iI 0) dX5_isLaterThan_26 rfl ?_
      refine g_goto 46 dX5_isLaterThan_27 (by decide) ?_
      refine g_zret dX5_isLaterThan_46 rfl (narrow_bool (Or.inl rfl)) (Nat.le_of_ble_eq_true rfl) (Nat.le_of_ble_eq_true rfl) ⟨?_, rfl⟩
      unfold laterB
      rw [if_neg c8, decide_eq_false (by omega)]
      rfl
    · refine g_iconst (iI 1) dX5_isLaterThan_22 rfl ?_
      refine g_goto 46 dX5_isLaterThan_23 (by decide) ?_
      refine g_zret dX5_isLaterThan_46 rfl (narrow_bool (Or.inr rfl)) (Nat.le_of_ble_eq_true rfl) (Nat.le_of_ble_eq_true rfl) ⟨?_, rfl⟩
      unfold laterB
      rw [if_neg c8, decide_eq_true (by omega)]
      rfl
