/-! THE CLASS: what kind, size and howManyNeeds answer -/
theorem k_X2_kind (Z : LZ) (ws : va_W) (b : Nat) : Tr Z jX2_kind [.ref b] ws (fun r w => r = some (.int (iI 0)) ∧ w = ws) := by
  refine tr_of pn_X2_kind (Nat.le_of_ble_eq_true rfl) (by intro v h; rw [List.mem_singleton.mp h]; rfl) ?_
  refine g_iconst (iI 0) dX2_kind_0 rfl ?_
  exact g_iret dX2_kind_1 rfl (Nat.le_of_ble_eq_true rfl) (Nat.le_of_ble_eq_true rfl) ⟨rfl, rfl⟩
theorem k_X2_size (Z : LZ) (a : Nat → Nat) (C : Mem) (fS fA : Nat → Option Nat) {D : Mem} (sa sb : Nat → Nat) (N s : Nat) (hs : s < N) (hk : D 2 s = 0) (h3 : 0 ≤ D 3 s) : Tr Z jX2_size [.ref (sa s)] (cW Z a C fS fA (sW Z D sa sb N)) (fun r w => r = some (.int (iI (D 3 s))) ∧ w = cW Z a C fS fA (sW Z D sa sb N)) := by
  refine tr_of pn_X2_size (Nat.le_of_ble_eq_true rfl) (by intro v h; rw [List.mem_singleton.mp h]; rfl) ?_
  refine g_aload_n 0 dX2_size_0 rfl rfl ?_
  refine cg_put_codes hs hk dX2_size_1 flX2_15 ?_
  refine cl_codes hs hk h3 dX2_size_4 ?_
  exact g_iret dX2_size_5 rfl (Nat.le_of_ble_eq_true rfl) (Nat.le_of_ble_eq_true rfl) ⟨rfl, rfl⟩
theorem k_X2_howManyNeeds (Z : LZ) (ws : va_W) (b : Nat) : Tr Z jX2_howManyNeeds [.ref b] ws (fun r w => r = some (.int (iI 1)) ∧ w = ws) := by
  refine tr_of pn_X2_howManyNeeds (Nat.le_of_ble_eq_true rfl) (by intro v h; rw [List.mem_singleton.mp h]; rfl) ?_
  refine g_iconst (iI 1) dX2_howManyNeeds_0 rfl ?_
  exact g_iret dX2_howManyNeeds_1 rfl (Nat.le_of_ble_eq_true rfl) (Nat.le_of_ble_eq_true rfl) ⟨rfl, rfl⟩
theorem k_X6_kind (Z : LZ) (ws : va_W) (b : Nat) : Tr Z jX6_kind [.ref b] ws (fun r w => r = some (.int (iI 1)) ∧ w = ws) := by
  refine tr_of pn_X6_kind (Nat.le_of_ble_eq_true rfl) (by intro v h; rw [List.mem_singleton.mp h]; rfl) ?_
  refine g_iconst (iI 1) dX6_kind_0 rfl ?_
  exact g_iret dX6_kind_1 rfl (Nat.le_of_ble_eq_true rfl) (Nat.le_of_ble_eq_true rfl) ⟨rfl, rfl⟩
theorem k_X6_size (Z : LZ) (a : Nat → Nat) (C : Mem) (fS fA : Nat → Option Nat) {D : Mem} (sa sb : Nat → Nat) (N s : Nat) (hs : s < N) (hk : D 2 s = 1) (h3 : 0 ≤ D 3 s) : Tr Z jX6_size [.ref (sa s)] (cW Z a C fS fA (sW Z D sa sb N)) (fun r w => r = some (.int (iI (D 3 s))) ∧ w = cW Z a C fS fA (sW Z D sa sb N)) := by
  refine tr_of pn_X6_size (Nat.le_of_ble_eq_true rfl) (by intro v h; rw [List.mem_singleton.mp h]; rfl) ?_
  refine g_aload_n 0 dX6_size_0 rfl rfl ?_
  refine cg_stk_names hs hk dX6_size_1 flX6_9 ?_
  refine cl_names hs hk h3 dX6_size_4 ?_
  exact g_iret dX6_size_5 rfl (Nat.le_of_ble_eq_true rfl) (Nat.le_of_ble_eq_true rfl) ⟨rfl, rfl⟩
theorem k_X6_howManyNeeds (Z : LZ) (a : Nat → Nat) (C : Mem) (fS fA : Nat → Option Nat) {D : Mem} (sa sb : Nat → Nat) (N s : Nat) (hs : s < N) (hk : D 2 s = 1) (h3 : 0 ≤ D 3 s) : Tr Z jX6_howManyNeeds [.ref (sa s)] (cW Z a C fS fA (sW Z D sa sb N)) (fun r w => r = some (.int (iI (D 3 s))) ∧ w = cW Z a C fS fA (sW Z D sa sb N)) := by
  refine tr_of pn_X6_howManyNeeds (Nat.le_of_ble_eq_true rfl) (by intro v h; rw [List.mem_singleton.mp h]; rfl) ?_
  refine g_aload_n 0 dX6_howManyNeeds_0 rfl rfl ?_
  refine cg_stk_names hs hk dX6_howManyNeeds_1 flX6_9 ?_
  refine cl_names hs hk h3 dX6_howManyNeeds_4 ?_
  exact g_iret dX6_howManyNeeds_5 rfl (Nat.le_of_ble_eq_true rfl) (Nat.le_of_ble_eq_true rfl) ⟨rfl, rfl⟩
theorem k_X1_kind (Z : LZ) (ws : va_W) (b : Nat) : Tr Z jX1_kind [.ref b] ws (fun r w => r = some (.int (iI 2)) ∧ w = ws) := by
  refine tr_of pn_X1_kind (Nat.le_of_ble_eq_true rfl) (by intro v h; rw [List.mem_singleton.mp h]; rfl) ?_
  refine g_iconst (iI 2) dX1_kind_0 rfl ?_
  exact g_iret dX1_kind_1 rfl (Nat.le_of_ble_eq_true rfl) (Nat.le_of_ble_eq_true rfl) ⟨rfl, rfl⟩
theorem k_X1_size (Z : LZ) (ws : va_W) (b : Nat) : Tr Z jX1_size [.ref b] ws (fun r w => r = some (.int (iI 2)) ∧ w = ws) := by
  refine tr_of pn_X1_size (Nat.le_of_ble_eq_true rfl) (by intro v h; rw [List.mem_singleton.mp h]; rfl) ?_
  refine g_iconst (iI 2) dX1_size_0 rfl ?_
  exact g_iret dX1_size_1 rfl (Nat.le_of_ble_eq_true rfl) (Nat.le_of_ble_eq_true rfl) ⟨rfl, rfl⟩
theorem k_X1_howManyNeeds (Z : LZ) (ws : va_W) (b : Nat) : Tr Z jX1_howManyNeeds [.ref b] ws (fun r w => r = some (.int (iI 3)) ∧ w = ws) := by
  refine tr_of pn_X1_howManyNeeds (Nat.le_of_ble_eq_true rfl) (by intro v h; rw [List.mem_singleton.mp h]; rfl) ?_
  refine g_iconst (iI 3) dX1_howManyNeeds_0 rfl ?_
  exact g_iret dX1_howManyNeeds_1 rfl (Nat.le_of_ble_eq_true rfl) (Nat.le_of_ble_eq_true rfl) ⟨rfl, rfl⟩
theorem k_X7_kind (Z : LZ) (ws : va_W) (b : Nat) : Tr Z jX7_kind [.ref b] ws (fun r w => r = some (.int (iI 3)) ∧ w = ws) := by
  refine tr_of pn_X7_kind (Nat.le_of_ble_eq_true rfl) (by intro v h; rw [List.mem_singleton.mp h]; rfl) ?_
  refine g_iconst (iI 3) dX7_kind_0 rfl ?_
  exact g_iret dX7_kind_1 rfl (Nat.le_of_ble_eq_true rfl) (Nat.le_of_ble_eq_true rfl) ⟨rfl, rfl⟩
theorem k_X7_size (Z : LZ) (ws : va_W) (b : Nat) : Tr Z jX7_size [.ref b] ws (fun r w => r = some (.int (iI 0)) ∧ w = ws) := by
  refine tr_of pn_X7_size (Nat.le_of_ble_eq_true rfl) (by intro v h; rw [List.mem_singleton.mp h]; rfl) ?_
  refine g_iconst (iI 0) dX7_size_0 rfl ?_
  exact g_iret dX7_size_1 rfl (Nat.le_of_ble_eq_true rfl) (Nat.le_of_ble_eq_true rfl) ⟨rfl, rfl⟩
theorem k_X7_howManyNeeds (Z : LZ) (ws : va_W) (b : Nat) : Tr Z jX7_howManyNeeds [.ref b] ws (fun r w => r = some (.int (iI 1)) ∧ w = ws) := by
  refine tr_of pn_X7_howManyNeeds (Nat.le_of_ble_eq_true rfl) (by intro v h; rw [List.mem_singleton.mp h]; rfl) ?_
  refine g_iconst (iI 1) dX7_howManyNeeds_0 rfl ?_
  exact g_iret dX7_howManyNeeds_1 rfl (Nat.le_of_ble_eq_true rfl) (Nat.le_of_ble_eq_true rfl) ⟨rfl, rfl⟩
