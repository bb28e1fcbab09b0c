/-! THE CLASS: names and needs of the kinds, what is missing -/
theorem sf_put : Cond.sameField "ManyPens$Put" "ManyPens$Slip" "number" "I" ∈ WT := wt_of 300 (by decide +kernel) rfl
theorem cg_put_number {Z : LZ} {J : MD} {E : State → Array Value → (Nat → Prop) → Prop} {Q : List Frame → Array Value → State → (Nat → Prop) → State → Prop} {pc : Nat} {ls st : List Value} {k n : Nat} {a : Nat → Nat} {C : Mem} {fS fA : Nat → Option Nat} {i : Nat} {D : Mem} {sa sb : Nat → Nat} {N s : Nat} (hs : s < N) (hk : D 2 s = 0) (d : decode J.2.1 pc = .ok (.getfield i, 3)) (hl : Cond.fieldLink J.1.cls i "ManyPens$Put" "number" "I" ∈ WT) (K : G Z J E Q (pc + 3) ls (.int (iI (s : Int)) :: st) (cW Z a C fS fA (sW Z D sa sb N)) k n) : G Z J E Q pc ls (.ref (sa s) :: st) (cW Z a C fS fA (sW Z D sa sb N)) k n := by
  obtain ⟨q, hq⟩ := sl_ex (Z := Z) (a := a) (C := C) (fS := fS) (fA := fA) (D := D) (sa := sa) (sb := sb) hs
  rw [slC0 hk] at hq
  intro p l e s m args below meth c A H locs lsA CC hE hP hD hS hL
  exact va_get (D := Z.1) (ref := "ManyPens$Put") (T := TX2) CC.ex CC.by CC.ts fwX2 CC.ow CC.kk hP q hq rfl 0 (by decide) (CC.ts _ hl) (fun x h => u_same (CC.ts _ sf_put) x h) rfl d (K p l e s m args below meth c A H locs lsA CC hE hP hD hS hL)
set_option maxHeartbeats 4000000 in
set_option maxRecDepth 100000 in
theorem k_X2_nameOf (Z : LZ) (a : Nat → Nat) (C : Mem) (fS fA : Nat → Option Nat) {D : Mem} (sa sb : Nat → Nat) (N : Nat) (s : Nat) (hs : s < N) (hk : D 2 s = 0) (x : Int) : Tr Z jX2_nameOf [.ref (sa s), .int (iI x)] (cW Z a C fS fA (sW Z D sa sb N)) (fun r w => r = some (.int (iI (4 * s + x))) ∧ w = cW Z a C fS fA (sW Z D sa sb N)) := by
  refine tr_of pn_X2_nameOf (Nat.le_of_ble_eq_true rfl) (by intro v h; simp only [List.mem_cons, List.not_mem_nil, or_false] at h; rcases h with h | h <;> rw [h] <;> rfl) ?_
  refine g_iconst (iI 4) dX2_nameOf_0 rfl ?_
  refine g_aload_n 0 dX2_nameOf_1 rfl rfl ?_
  refine cg_put_number hs hk dX2_nameOf_2 flX2_19 ?_
  refine gi_mul dX2_nameOf_5 ?_
  refine g_iload_n 1 dX2_nameOf_6 rfl rfl ?_
  refine gi_add dX2_nameOf_7 ?_
  refine g_iret dX2_nameOf_8 rfl (Nat.le_of_ble_eq_true rfl) (Nat.le_of_ble_eq_true rfl) ⟨?_, rfl⟩
  rfl
set_option maxHeartbeats 4000000 in
set_option maxRecDepth 100000 in
theorem k_X6_nameOf (Z : LZ) (a : Nat → Nat) (C : Mem) (fS fA : Nat → Option Nat) {D : Mem} (sa sb : Nat → Nat) (N : Nat) (s : Nat) (hs : s < N) (hk : D 2 s = 1) (h3 : 0 ≤ D 3 s ∧ D 3 s ≤ 100) (x : Int) (hx : Rg x) : Tr Z jX6_nameOf [.ref (sa s), .int (iI x)] (cW Z a C fS fA (sW Z D sa sb N)) (fun r w => r = some (.int (iI (if 0 ≤ x ∧ x < D 3 s then D 4 (12 * s + x) else -1))) ∧ w = cW Z a C fS fA (sW Z D sa sb N)) := by
  refine tr_of pn_X6_nameOf (Nat.le_of_ble_eq_true rfl) (by intro v h; simp only [List.mem_cons, List.not_mem_nil, or_false] at h; rcases h with h | h <;> rw [h] <;> rfl) ?_
  refine g_iload_n 1 dX6_nameOf_0 rfl rfl ?_
  refine gi_if_lt 22 dX6_nameOf_1 (by decide) (by first | exact bI_Rg _ | assumption | exact ⟨by omega, by omega⟩) (fun c1 => ?_) (fun c1 => ?_)
  · refine g_iconst (iI (-1)) dX6_nameOf_22 rfl ?_
    refine g_iret dX6_nameOf_23 rfl (Nat.le_of_ble_eq_true rfl) (Nat.le_of_ble_eq_true rfl) ⟨?_, rfl⟩
    first | rw [if_pos (by omega)] | rw [if_neg (by omega)]
  · refine g_iload_n 1 dX6_nameOf_4 rfl rfl ?_
    refine g_aload_n 0 dX6_nameOf_5 rfl rfl ?_
    refine cg_stk_names hs hk dX6_nameOf_6 flX6_9 ?_
    refine cl_names hs hk (by omega) dX6_nameOf_9 ?_
    refine gi_icmp_ge 22 dX6_nameOf_10 (by decide) (by first | exact bI_Rg _ | assumption | exact ⟨by omega, by omega⟩) (by first | exact bI_Rg _ | assumption | exact ⟨by omega, by omega⟩) (fun c10 => ?_) (fun c10 => ?_)
    · refine g_iconst (iI (-1)) dX6_nameOf_22 rfl ?_
      refine g_iret dX6_nameOf_23 rfl (Nat.le_of_ble_eq_true rfl) (Nat.le_of_ble_eq_true rfl) ⟨?_, rfl⟩
      first | rw [if_pos (by omega)] | rw [if_neg (by omega)]
    · refine g_aload_n 0 dX6_nameOf_13 rfl rfl ?_
      refine cg_stk_names hs hk dX6_nameOf_14 flX6_9 ?_
      refine g_iload_n 1 dX6_nameOf_17 rfl rfl ?_
      refine ca_names hs hk (by omega) dX6_nameOf_18 (by omega) (by omega) ?_
      refine g_goto 23 dX6_nameOf_19 (by decide) ?_
      refine g_iret dX6_nameOf_23 rfl (Nat.le_of_ble_eq_true rfl) (Nat.le_of_ble_eq_true rfl) ⟨?_, rfl⟩
      first | rw [if_pos (by omega)] | rw [if_neg (by omega)]
set_option maxHeartbeats 4000000 in
set_option maxRecDepth 100000 in
theorem k_X1_nameOf (Z : LZ) (a : Nat → Nat) (C : Mem) (fS fA : Nat → Option Nat) {D : Mem} (sa sb : Nat → Nat) (N : Nat) (s : Nat) (hs : s < N) (hk : D 2 s = 2) (x : Int) (hx : Rg x) : Tr Z jX1_nameOf [.ref (sa s), .int (iI x)] (cW Z a C fS fA (sW Z D sa sb N)) (fun r w => r = some (.int (iI (if x = 0 then D 4 (12 * s) else D 4 (12 * s + 1)))) ∧ w = cW Z a C fS fA (sW Z D sa sb N)) := by
  refine tr_of pn_X1_nameOf (Nat.le_of_ble_eq_true rfl) (by intro v h; simp only [List.mem_cons, List.not_mem_nil, or_false] at h; rcases h with h | h <;> rw [h] <;> rfl) ?_
  refine g_iload_n 1 dX1_nameOf_0 rfl rfl ?_
  refine gi_if_ne 11 dX1_nameOf_1 (by decide) (by first | exact bI_Rg _ | assumption | exact ⟨by omega, by omega⟩) (fun c1 => ?_) (fun c1 => ?_)
  · refine g_aload_n 0 dX1_nameOf_11 rfl rfl ?_
    refine cg_mrk_last hs hk dX1_nameOf_12 flX1_15 ?_
    refine g_iret dX1_nameOf_15 rfl (Nat.le_of_ble_eq_true rfl) (Nat.le_of_ble_eq_true rfl) ⟨?_, rfl⟩
    first | rw [if_pos (by omega)] | rw [if_neg (by omega)]
  · refine g_aload_n 0 dX1_nameOf_4 rfl rfl ?_
    refine cg_mrk_first hs hk dX1_nameOf_5 flX1_9 ?_
    refine g_goto 15 dX1_nameOf_8 (by decide) ?_
    refine g_iret dX1_nameOf_15 rfl (Nat.le_of_ble_eq_true rfl) (Nat.le_of_ble_eq_true rfl) ⟨?_, rfl⟩
    first | rw [if_pos (by omega)] | rw [if_neg (by omega)]
set_option maxHeartbeats 4000000 in
set_option maxRecDepth 100000 in
theorem k_X7_nameOf (Z : LZ) (a : Nat → Nat) (C : Mem) (fS fA : Nat → Option Nat) {D : Mem} (sa sb : Nat → Nat) (N : Nat) (s : Nat) (x : Int) : Tr Z jX7_nameOf [.ref (sa s), .int (iI x)] (cW Z a C fS fA (sW Z D sa sb N)) (fun r w => r = some (.int (iI (-1))) ∧ w = cW Z a C fS fA (sW Z D sa sb N)) := by
  refine tr_of pn_X7_nameOf (Nat.le_of_ble_eq_true rfl) (by intro v h; simp only [List.mem_cons, List.not_mem_nil, or_false] at h; rcases h with h | h <;> rw [h] <;> rfl) ?_
  refine g_iconst (iI (-1)) dX7_nameOf_0 rfl ?_
  refine g_iret dX7_nameOf_1 rfl (Nat.le_of_ble_eq_true rfl) (Nat.le_of_ble_eq_true rfl) ⟨?_, rfl⟩
  rfl
def ndK (D : Mem) (s k : Int) : Int := if D 2 s = 0 then ptF (D 6 s) else if D 2 s = 1 then ptF (D 4 (12 * s + k)) else if D 2 s = 2 then ptF (if k < 2 then D 4 (12 * s + k) else D 6 s) else D 6 s
set_option maxHeartbeats 4000000 in
set_option maxRecDepth 100000 in
theorem k_X2_need (Z : LZ) (a : Nat → Nat) (C : Mem) (fS fA : Nat → Option Nat) {D : Mem} (sa sb : Nat → Nat) (N : Nat) (hM : RM D) (s : Nat) (hs : s < N) (hk : D 2 s = 0) (x : Int) : Tr Z jX2_need [.ref (sa s), .int (iI x)] (cW Z a C fS fA (sW Z D sa sb N)) (fun r w => r = some (.int (iI (ndK D s x))) ∧ w = cW Z a C fS fA (sW Z D sa sb N)) := by
  refine tr_of pn_X2_need (Nat.le_of_ble_eq_true rfl) (by intro v h; simp only [List.mem_cons, List.not_mem_nil, or_false] at h; rcases h with h | h <;> rw [h] <;> rfl) ?_
  refine g_aload_n 0 dX2_need_0 rfl rfl ?_
  refine cg_put_left hs hk dX2_need_1 flX2_9 ?_
  refine ckN (hM _ _) lknX2_22 dX2_need_4 (And.intro (Nat.le_of_ble_eq_true rfl) (Nat.le_of_ble_eq_true rfl)) (Nat.le_of_ble_eq_true rfl) (Nat.le_of_ble_eq_true rfl) (Nat.le_of_ble_eq_true rfl) ?_
  refine g_iret dX2_need_7 rfl (Nat.le_of_ble_eq_true rfl) (Nat.le_of_ble_eq_true rfl) ⟨?_, rfl⟩
  unfold ndK
  rw [if_pos hk]
set_option maxHeartbeats 4000000 in
set_option maxRecDepth 100000 in
theorem k_X6_need (Z : LZ) (a : Nat → Nat) (C : Mem) (fS fA : Nat → Option Nat) {D : Mem} (sa sb : Nat → Nat) (N : Nat) (hM : RM D) (s : Nat) (hs : s < N) (hk : D 2 s = 1) (h3 : 0 ≤ D 3 s ∧ D 3 s ≤ 100) (x : Int) (hx : Rg x) (hx0 : 0 ≤ x) (hx1 : x < D 3 s) : Tr Z jX6_need [.ref (sa s), .int (iI x)] (cW Z a C fS fA (sW Z D sa sb N)) (fun r w => r = some (.int (iI (ndK D s x))) ∧ w = cW Z a C fS fA (sW Z D sa sb N)) := by
  refine tr_of pn_X6_need (Nat.le_of_ble_eq_true rfl) (by intro v h; simp only [List.mem_cons, List.not_mem_nil, or_false] at h; rcases h with h | h <;> rw [h] <;> rfl) ?_
  refine g_aload_n 0 dX6_need_0 rfl rfl ?_
  refine g_iload_n 1 dX6_need_1 rfl rfl ?_
  refine ckE_stk hs hk lkX6_15 (k_X6_nameOf Z a C fS fA sa sb N s hs hk h3 x hx) dX6_need_2 (And.intro (Nat.le_of_ble_eq_true rfl) (Nat.le_of_ble_eq_true rfl)) rfl (Nat.le_of_ble_eq_true rfl) rfl rfl (Nat.le_of_ble_eq_true rfl) (Nat.le_of_ble_eq_true rfl) rfl ?_
  rw [if_pos ⟨hx0, hx1⟩]
  refine ckN (hM _ _) lknX6_19 dX6_need_5 (And.intro (Nat.le_of_ble_eq_true rfl) (Nat.le_of_ble_eq_true rfl)) (Nat.le_of_ble_eq_true rfl) (Nat.le_of_ble_eq_true rfl) (Nat.le_of_ble_eq_true rfl) ?_
  refine g_iret dX6_need_8 rfl (Nat.le_of_ble_eq_true rfl) (Nat.le_of_ble_eq_true rfl) ⟨?_, rfl⟩
  unfold ndK
  rw [if_neg (by omega), if_pos hk]
set_option maxHeartbeats 4000000 in
set_option maxRecDepth 100000 in
theorem k_X1_need (Z : LZ) (a : Nat → Nat) (C : Mem) (fS fA : Nat → Option Nat) {D : Mem} (sa sb : Nat → Nat) (N : Nat) (hM : RM D) (s : Nat) (hs : s < N) (hk : D 2 s = 2) (x : Int) (hx : Rg x) (hx0 : 0 ≤ x) (hx1 : x < 3) : Tr Z jX1_need [.ref (sa s), .int (iI x)] (cW Z a C fS fA (sW Z D sa sb N)) (fun r w => r = some (.int (iI (ndK D s x))) ∧ w = cW Z a C fS fA (sW Z D sa sb N)) := by
  refine tr_of pn_X1_need (Nat.le_of_ble_eq_true rfl) (by intro v h; simp only [List.mem_cons, List.not_mem_nil, or_false] at h; rcases h with h | h <;> rw [h] <;> rfl) ?_
  refine g_iload_n 1 dX1_need_0 rfl rfl ?_
  refine g_iconst (iI 2) dX1_need_1 rfl ?_
  refine gi_icmp_ge 13 dX1_need_2 (by decide) (by first | exact bI_Rg _ | assumption | exact ⟨by omega, by omega⟩) (by first | exact bI_Rg _ | assumption | exact ⟨by omega, by omega⟩) (fun c2 => ?_) (fun c2 => ?_)
  · refine g_aload_n 0 dX1_need_13 rfl rfl ?_
    refine cg_mrk_bound hs hk dX1_need_14 flX1_18 ?_
    refine ckN (hM _ _) lknX1_32 dX1_need_17 (And.intro (Nat.le_of_ble_eq_true rfl) (Nat.le_of_ble_eq_true rfl)) (Nat.le_of_ble_eq_true rfl) (Nat.le_of_ble_eq_true rfl) (Nat.le_of_ble_eq_true rfl) ?_
    refine g_iret dX1_need_20 rfl (Nat.le_of_ble_eq_true rfl) (Nat.le_of_ble_eq_true rfl) ⟨?_, rfl⟩
    unfold ndK
    rw [if_neg (by omega), if_neg (by omega), if_pos hk, if_neg (by omega)]
  · refine g_aload_n 0 dX1_need_5 rfl rfl ?_
    refine g_iload_n 1 dX1_need_6 rfl rfl ?_
    refine ckE_mrk hs hk lkX1_28 (k_X1_nameOf Z a C fS fA sa sb N s hs hk x hx) dX1_need_7 (And.intro (Nat.le_of_ble_eq_true rfl) (Nat.le_of_ble_eq_true rfl)) rfl (Nat.le_of_ble_eq_true rfl) rfl rfl (Nat.le_of_ble_eq_true rfl) (Nat.le_of_ble_eq_true rfl) rfl ?_
    rw [show (if x = 0 then D 4 (12 * (s : Int)) else D 4 (12 * s + 1)) = D 4 (12 * s + x) by split <;> congr 1 <;> omega]
    refine g_goto 17 dX1_need_10 (by decide) ?_
    refine ckN (hM _ _) lknX1_32 dX1_need_17 (And.intro (Nat.le_of_ble_eq_true rfl) (Nat.le_of_ble_eq_true rfl)) (Nat.le_of_ble_eq_true rfl) (Nat.le_of_ble_eq_true rfl) (Nat.le_of_ble_eq_true rfl) ?_
    refine g_iret dX1_need_20 rfl (Nat.le_of_ble_eq_true rfl) (Nat.le_of_ble_eq_true rfl) ⟨?_, rfl⟩
    unfold ndK
    rw [if_neg (by omega), if_neg (by omega), if_pos hk, if_pos (by omega)]
set_option maxHeartbeats 4000000 in
set_option maxRecDepth 100000 in
theorem k_X7_need (Z : LZ) (a : Nat → Nat) (C : Mem) (fS fA : Nat → Option Nat) {D : Mem} (sa sb : Nat → Nat) (N : Nat) (s : Nat) (hs : s < N) (hk : D 2 s = 3) (x : Int) : Tr Z jX7_need [.ref (sa s), .int (iI x)] (cW Z a C fS fA (sW Z D sa sb N)) (fun r w => r = some (.int (iI (ndK D s x))) ∧ w = cW Z a C fS fA (sW Z D sa sb N)) := by
  refine tr_of pn_X7_need (Nat.le_of_ble_eq_true rfl) (by intro v h; simp only [List.mem_cons, List.not_mem_nil, or_false] at h; rcases h with h | h <;> rw [h] <;> rfl) ?_
  refine g_aload_n 0 dX7_need_0 rfl rfl ?_
  refine cg_und_undone hs hk dX7_need_1 flX7_9 ?_
  refine g_iret dX7_need_4 rfl (Nat.le_of_ble_eq_true rfl) (Nat.le_of_ble_eq_true rfl) ⟨?_, rfl⟩
  unfold ndK
  rw [if_neg (by omega), if_neg (by omega), if_neg (by omega)]
section KNeeds
variable {Z : LZ} {J : MD} {E : State → Array Value → (Nat → Prop) → Prop} {Q : List Frame → Array Value → State → (Nat → Prop) → State → Prop} {pc : Nat} {ls st : List Value} {k n : Nat} {x y : Int} {a : Nat → Nat} {C : Mem} {fS fA : Nat → Option Nat} {i : Nat} {D : Mem} {sa sb : Nat → Nat} {N s : Nat}
theorem cu_need_X4_67 (hJ : J.1.cls = RX4) (hs : s < N) (hM : RM D) (hx : Rg x) (hx0 : 0 ≤ x) (hx1 : x < hmN D s) (h3 : 0 ≤ D 3 s ∧ D 3 s ≤ 100) (hr : 0 ≤ D 2 s ∧ D 2 s ≤ 3) (d : decode J.2.1 pc = .ok (.invokevirtual 67, 3)) (f0 : fitR J jX2_need) (f1 : fitR J jX6_need) (f2 : fitR J jX1_need) (f3 : fitR J jX7_need) (hst : (st.map fun v => v.category).sum ≤ 8) (hk3 : k ≤ J.2.2.2.2.cells) (hk4 : n ≤ J.2.2.2.2.slots) (K : G Z J E Q (pc + 3) ls (.int (iI (ndK D s x)) :: st) (cW Z a C fS fA (sW Z D sa sb N)) k n) : G Z J E Q pc ls (.int (iI x) :: .ref (sa s) :: st) (cW Z a C fS fA (sW Z D sa sb N)) k n := by
  obtain ⟨q, hq⟩ := sl_ex (Z := Z) (a := a) (C := C) (fS := fS) (fA := fA) (D := D) (sa := sa) (sb := sb) hs
  have hh : D 2 s = 0 ∨ D 2 s = 1 ∨ D 2 s = 2 ∨ D 2 s = 3 := by omega
  rcases hh with h | h | h | h
  · rw [slC0 h] at hq
    refine g_callU (post := fun r w => r = some (.int (iI (ndK D s x))) ∧ w = (cW Z a C fS fA (sW Z D sa sb N))) (As := [.int (iI x)]) (by rw [hJ]; exact lkuX4_67_X2) (k_X2_need Z a C fS fA sa sb N hM s hs h x) d f0 (ci := 2) rfl hq hst (by show k + 0 ≤ _; omega) (by show n + 0 ≤ _; omega) (fun r w2 hh => ?_) rfl
    obtain ⟨rfl, rfl⟩ := hh
    exact K
  · rw [slC1 h] at hq
    refine g_callU (post := fun r w => r = some (.int (iI (ndK D s x))) ∧ w = (cW Z a C fS fA (sW Z D sa sb N))) (As := [.int (iI x)]) (by rw [hJ]; exact lkuX4_67_X6) (k_X6_need Z a C fS fA sa sb N hM s hs h h3 x hx hx0 (by unfold hmN at hx1; rw [if_pos h] at hx1; exact hx1)) d f1 (ci := 5) rfl hq hst (by show k + 0 ≤ _; omega) (by show n + 0 ≤ _; omega) (fun r w2 hh => ?_) rfl
    obtain ⟨rfl, rfl⟩ := hh
    exact K
  · rw [slC2 h] at hq
    refine g_callU (post := fun r w => r = some (.int (iI (ndK D s x))) ∧ w = (cW Z a C fS fA (sW Z D sa sb N))) (As := [.int (iI x)]) (by rw [hJ]; exact lkuX4_67_X1) (k_X1_need Z a C fS fA sa sb N hM s hs h x hx hx0 (by unfold hmN at hx1; rw [if_neg (by omega), if_pos h] at hx1; exact hx1)) d f2 (ci := 1) rfl hq hst (by show k + 0 ≤ _; omega) (by show n + 0 ≤ _; omega) (fun r w2 hh => ?_) rfl
    obtain ⟨rfl, rfl⟩ := hh
    exact K
  · rw [slC3 h] at hq
    refine g_callU (post := fun r w => r = some (.int (iI (ndK D s x))) ∧ w = (cW Z a C fS fA (sW Z D sa sb N))) (As := [.int (iI x)]) (by rw [hJ]; exact lkuX4_67_X7) (k_X7_need Z a C fS fA sa sb N s hs h x) d f3 (ci := 6) rfl hq hst (by show k + 0 ≤ _; omega) (by show n + 0 ≤ _; omega) (fun r w2 hh => ?_) rfl
    obtain ⟨rfl, rfl⟩ := hh
    exact K
theorem cu_nameOf_X8_165 (hJ : J.1.cls = RX8) (hs : s < N) (hx : Rg x) (hx0 : 0 ≤ x) (hx1 : x < D 3 s) (h3 : 0 ≤ D 3 s ∧ D 3 s ≤ 100) (h3m : D 2 s = 2 → D 3 s = 2) (h3u : D 2 s = 3 → D 3 s = 0) (hp4 : D 2 s = 0 → D 4 (12 * s + x) = 4 * s + x) (hr : 0 ≤ D 2 s ∧ D 2 s ≤ 3) (d : decode J.2.1 pc = .ok (.invokevirtual 165, 3)) (f0 : fitR J jX2_nameOf) (f1 : fitR J jX6_nameOf) (f2 : fitR J jX1_nameOf) (f3 : fitR J jX7_nameOf) (hst : (st.map fun v => v.category).sum ≤ 8) (hk3 : k ≤ J.2.2.2.2.cells) (hk4 : n ≤ J.2.2.2.2.slots) (K : G Z J E Q (pc + 3) ls (.int (iI (D 4 (12 * s + x))) :: st) (cW Z a C fS fA (sW Z D sa sb N)) k n) : G Z J E Q pc ls (.int (iI x) :: .ref (sa s) :: st) (cW Z a C fS fA (sW Z D sa sb N)) k n := by
  obtain ⟨q, hq⟩ := sl_ex (Z := Z) (a := a) (C := C) (fS := fS) (fA := fA) (D := D) (sa := sa) (sb := sb) hs
  have hh : D 2 s = 0 ∨ D 2 s = 1 ∨ D 2 s = 2 ∨ D 2 s = 3 := by omega
  rcases hh with h | h | h | h
  · rw [slC0 h] at hq
    refine g_callU (post := fun r w => r = some (.int (iI (D 4 (12 * s + x)))) ∧ w = (cW Z a C fS fA (sW Z D sa sb N))) (As := [.int (iI x)]) (by rw [hJ]; exact lkuX8_165_X2) (tr_post (k_X2_nameOf Z a C fS fA sa sb N s hs h x) (fun r w hh => by obtain ⟨e1, e2⟩ := hh; exact ⟨by rw [e1, hp4 h], e2⟩)) d f0 (ci := 2) rfl hq hst (by show k + 0 ≤ _; omega) (by show n + 0 ≤ _; omega) (fun r w2 hh => ?_) rfl
    obtain ⟨rfl, rfl⟩ := hh
    exact K
  · rw [slC1 h] at hq
    refine g_callU (post := fun r w => r = some (.int (iI (D 4 (12 * s + x)))) ∧ w = (cW Z a C fS fA (sW Z D sa sb N))) (As := [.int (iI x)]) (by rw [hJ]; exact lkuX8_165_X6) (tr_post (k_X6_nameOf Z a C fS fA sa sb N s hs h h3 x hx) (fun r w hh => by obtain ⟨e1, e2⟩ := hh; exact ⟨by rw [e1, if_pos ⟨hx0, hx1⟩], e2⟩)) d f1 (ci := 5) rfl hq hst (by show k + 0 ≤ _; omega) (by show n + 0 ≤ _; omega) (fun r w2 hh => ?_) rfl
    obtain ⟨rfl, rfl⟩ := hh
    exact K
  · rw [slC2 h] at hq
    refine g_callU (post := fun r w => r = some (.int (iI (D 4 (12 * s + x)))) ∧ w = (cW Z a C fS fA (sW Z D sa sb N))) (As := [.int (iI x)]) (by rw [hJ]; exact lkuX8_165_X1) (tr_post (k_X1_nameOf Z a C fS fA sa sb N s hs h x hx) (fun r w hh => by obtain ⟨e1, e2⟩ := hh; exact ⟨by have := h3m h; rw [e1, show (if x = 0 then D 4 (12 * (s : Int)) else D 4 (12 * s + 1)) = D 4 (12 * s + x) by split <;> congr 1 <;> omega], e2⟩)) d f2 (ci := 1) rfl hq hst (by show k + 0 ≤ _; omega) (by show n + 0 ≤ _; omega) (fun r w2 hh => ?_) rfl
    obtain ⟨rfl, rfl⟩ := hh
    exact K
  · rw [slC3 h] at hq
    refine g_callU (post := fun r w => r = some (.int (iI (D 4 (12 * s + x)))) ∧ w = (cW Z a C fS fA (sW Z D sa sb N))) (As := [.int (iI x)]) (by rw [hJ]; exact lkuX8_165_X7) (absurd (h3u h) (by omega)) d f3 (ci := 6) rfl hq hst (by show k + 0 ≤ _; omega) (by show n + 0 ≤ _; omega) (fun r w2 hh => ?_) rfl
    obtain ⟨rfl, rfl⟩ := hh
    exact K
end KNeeds
def lmF (h : Int → Int) (l t : Int) : Int := if t = -1 ∨ h t = 2 then l else if l = -1 then t else if t < l then t else l
def lmN (D : Mem) (h : Int → Int) (s : Int) : Nat → Int
  | 0 => lmF h (-1) (pri D s)
  | k + 1 => lmF h (lmN D h s k) (ndK D s k)
theorem lmF_rg {h : Int → Int} {l t : Int} (hl : -1 ≤ l ∧ l < 256) (ht : -1 ≤ t ∧ t < 256) : -1 ≤ lmF h l t ∧ lmF h l t < 256 := by
  unfold lmF
  split
  · exact hl
  · split
    · exact ht
    · split
      · exact ht
      · exact hl
theorem ptF_rg {x s : Int} (h : x = -3 ∨ x = -2 ∨ (0 ≤ x ∧ x / 4 < s)) (hs : 0 ≤ s) : -1 ≤ ptF x ∧ ptF x < s := by
  unfold ptF
  split <;> omega
theorem hmN_rg {D : Mem} {s : Int} (h : okS D s) : 0 ≤ hmN D s ∧ hmN D s ≤ 12 := by
  obtain ⟨h0, h2, hp, hst, hm, hu, hn⟩ := h
  unfold hmN
  split
  · have := hst (by assumption); omega
  · split <;> omega
theorem okS.d3 {D : Mem} {s : Int} (h : okS D s) : 0 ≤ D 3 s ∧ D 3 s ≤ 12 := by
  obtain ⟨h0, h2, hp, hst, hm, hu, hn⟩ := h
  have hh : D 2 s = 0 ∨ D 2 s = 1 ∨ D 2 s = 2 ∨ D 2 s = 3 := by omega
  rcases hh with e | e | e | e
  · have := hp e; omega
  · have := hst e; omega
  · have := hm e; omega
  · have := hu e; omega
theorem ndK_rg {D : Mem} {s k : Int} (h : okS D s) (hs : 0 ≤ s) (h0 : 0 ≤ k) (h1 : k < hmN D s) : -1 ≤ ndK D s k ∧ ndK D s k < s := by
  obtain ⟨h0', h2, hp, hst, hm, hu, hn⟩ := h
  have hh : D 2 s = 0 ∨ D 2 s = 1 ∨ D 2 s = 2 ∨ D 2 s = 3 := by omega
  unfold ndK
  unfold hmN at h1
  rcases hh with e | e | e | e
  · rw [if_pos e]
    have := (hp e).2.2
    exact ptF_rg (by rcases this with q | q <;> omega) hs
  · rw [if_neg (by omega), if_pos e]
    rw [if_pos e] at h1
    have := hn k (Or.inl e) h0 h1
    exact ptF_rg (by omega) hs
  · rw [if_neg (by omega), if_neg (by omega), if_pos e]
    have hb := (hm e).2.1
    split
    · have := hn k (Or.inr e) h0 (by have := (hm e).1; omega)
      exact ptF_rg (by omega) hs
    · exact ptF_rg (by rcases hb with q | q | q <;> omega) hs
  · rw [if_neg (by omega), if_neg (by omega), if_neg (by omega)]
    have := hu e
    omega
theorem pri_rg (D : Mem) {s : Int} (hs : 0 ≤ s) : -1 ≤ pri D s ∧ pri D s < s := by
  unfold pri
  have := latestF_rg D (D 0 s) s.toNat
  omega
theorem lmN_rg {D : Mem} {h : Int → Int} {s : Int} (hS : okS D s) (hs : 0 ≤ s) (hs2 : s < 256) : ∀ k : Nat, (k : Int) ≤ hmN D s → -1 ≤ lmN D h s k ∧ lmN D h s k < 256 := by
  intro k
  induction k with
  | zero => intro _; unfold lmN; have := pri_rg D hs; exact lmF_rg (by omega) (by omega)
  | succ k ih => intro hk; unfold lmN; have := ndK_rg hS hs (k := k) (by omega) (by omega); exact lmF_rg (ih (by omega)) (by omega)
set_option maxHeartbeats 4000000 in
set_option maxRecDepth 100000 in
theorem k_X4_lesserMissing (Z : LZ) (a : Nat → Nat) (C : Mem) (fS fA : Nat → Option Nat) {D : Mem} (sa sb : Nat → Nat) (N : Nat) (p : Nat) (hp : p < 6) (l t : Int) (hl : Rg l) (ht : -1 ≤ t ∧ t < 256) (hr : ¬ t = -1 → Rg (C (20 + p) t)) : Tr Z jX4_lesserMissing [.ref (a (110 + p)), .int (iI l), .int (iI t)] (cW Z a C fS fA (sW Z D sa sb N)) (fun r w => r = some (.int (iI (lmF (C (20 + p)) l t))) ∧ w = cW Z a C fS fA (sW Z D sa sb N)) := by
  refine tr_of pn_X4_lesserMissing (Nat.le_of_ble_eq_true rfl) (by intro v h; simp only [List.mem_cons, List.not_mem_nil, or_false] at h; rcases h with h | h | h <;> rw [h] <;> rfl) ?_
  refine g_iload_n 2 dX4_lesserMissing_0 rfl rfl ?_
  refine g_iconst (iI (-1)) dX4_lesserMissing_1 rfl ?_
  refine gi_icmp_eq 15 dX4_lesserMissing_2 (by decide) (by first | exact bI_Rg _ | assumption | exact ⟨by omega, by omega⟩) (by first | exact bI_Rg _ | assumption | exact ⟨by omega, by omega⟩) (fun c2 => ?_) (fun c2 => ?_)
  · refine g_iload_n 1 dX4_lesserMissing_15 rfl rfl ?_
    refine g_iret dX4_lesserMissing_16 rfl (Nat.le_of_ble_eq_true rfl) (Nat.le_of_ble_eq_true rfl) ⟨?_, rfl⟩
    unfold lmF
    rw [if_pos (Or.inl (by omega))]
  · refine g_aload_n 0 dX4_lesserMissing_5 rfl rfl ?_
    refine cg_sh_held p hp dX4_lesserMissing_6 flX4_9 ?_
    refine g_iload_n 2 dX4_lesserMissing_9 rfl rfl ?_
    refine ca_held p hp rfl dX4_lesserMissing_10 (by omega) (by omega) ?_
    refine g_iconst (iI 2) dX4_lesserMissing_11 rfl ?_
    refine gi_icmp_ne 17 dX4_lesserMissing_12 (by decide) (hr (by omega)) (by first | exact bI_Rg _ | assumption | exact ⟨by omega, by omega⟩) (fun c12 => ?_) (fun c12 => ?_)
    · refine g_iload_n 1 dX4_lesserMissing_17 rfl rfl ?_
      refine g_iconst (iI (-1)) dX4_lesserMissing_18 rfl ?_
      refine gi_icmp_ne 26 dX4_lesserMissing_19 (by decide) (by first | exact bI_Rg _ | assumption | exact ⟨by omega, by omega⟩) (by first | exact bI_Rg _ | assumption | exact ⟨by omega, by omega⟩) (fun c19 => ?_) (fun c19 => ?_)
      · refine g_iload_n 1 dX4_lesserMissing_26 rfl rfl ?_
        refine g_iload_n 2 dX4_lesserMissing_27 rfl rfl ?_
        refine g_mmin dX4_lesserMissing_28 lkmX4_71 mst_min min_ mcd_min (Nat.le_of_ble_eq_true rfl) (Nat.le_of_ble_eq_true rfl) (Nat.le_of_ble_eq_true rfl) (Nat.le_of_ble_eq_true rfl) (by first | exact bI_Rg _ | assumption | exact ⟨by omega, by omega⟩) (by first | exact bI_Rg _ | assumption | exact ⟨by omega, by omega⟩) ?_
        refine g_iret dX4_lesserMissing_31 rfl (Nat.le_of_ble_eq_true rfl) (Nat.le_of_ble_eq_true rfl) ⟨?_, rfl⟩
        rw [show lmF (C (20 + p)) l t = if t < l then t else l by unfold lmF; rw [if_neg (by omega), if_neg (by omega)]]
      · refine g_iload_n 2 dX4_lesserMissing_22 rfl rfl ?_
        refine g_goto 31 dX4_lesserMissing_23 (by decide) ?_
        refine g_iret dX4_lesserMissing_31 rfl (Nat.le_of_ble_eq_true rfl) (Nat.le_of_ble_eq_true rfl) ⟨?_, rfl⟩
        unfold lmF
        rw [if_neg (by omega), if_pos (by omega)]
    · refine g_iload_n 1 dX4_lesserMissing_15 rfl rfl ?_
      refine g_iret dX4_lesserMissing_16 rfl (Nat.le_of_ble_eq_true rfl) (Nat.le_of_ble_eq_true rfl) ⟨?_, rfl⟩
      unfold lmF
      rw [if_pos (Or.inr (by omega))]
set_option maxHeartbeats 4000000 in
set_option maxRecDepth 100000 in
theorem k_X4_leastMissing (Z : LZ) (a : Nat → Nat) (C : Mem) (fS fA : Nat → Option Nat) {D : Mem} (sa sb : Nat → Nat) (N : Nat) (hM : RM D) (p s : Nat) (hp : p < 6) (hs : s < N) (hN : N ≤ 256) (hS : okS D s) (hr : ∀ t : Int, 0 ≤ t → t < 256 → Rg (C (20 + p) t)) : Tr Z jX4_leastMissing [.ref (a (110 + p)), .ref (sa s)] (cW Z a C fS fA (sW Z D sa sb N)) (fun r w => r = some (.int (iI (lmN D (C (20 + p)) s (hmN D s).toNat))) ∧ w = cW Z a C fS fA (sW Z D sa sb N)) := by
  refine tr_of pn_X4_leastMissing (Nat.le_of_ble_eq_true rfl) (by intro v h; simp only [List.mem_cons, List.not_mem_nil, or_false] at h; rcases h with h | h <;> rw [h] <;> rfl) ?_
  have hpri := pri_rg D (s := s) (by omega)
  have hmr := hmN_rg hS
  have hd3 := hS.d3
  have loop : ∀ (fuel : Nat) (l j : Int), hmN D s - j < fuel → 0 ≤ j → j ≤ hmN D s → l = lmN D (C (20 + p)) s j.toNat → G Z jX4_leastMissing E0 (QM Z jX4_leastMissing (fun r w => r = some (.int (iI (lmN D (C (20 + p)) s (hmN D s).toNat))) ∧ w = cW Z a C fS fA (sW Z D sa sb N))) 18 [.ref (a (110 + p)), .ref (sa s), .int (iI l), .int (iI (hmN D s)), .int (iI j)] [] (cW Z a C fS fA (sW Z D sa sb N)) 0 0 := by
    intro fuel
    induction fuel with
    | zero => intros; exfalso; omega
    | succ fuel ih =>
      intro l j hf h0 h1 hl
      have hlr := lmN_rg (h := C (20 + p)) hS (by omega) (by omega) j.toNat (by omega)
      rw [← hl] at hlr
      have hnd : j < hmN D s → -1 ≤ ndK D s j ∧ ndK D s j < s := fun q => ndK_rg hS (by omega) h0 q
      refine g_iload dX4_leastMissing_18 rfl ?_
      refine g_iload_n 3 dX4_leastMissing_20 rfl rfl ?_
      refine gi_icmp_ge 42 dX4_leastMissing_21 (by decide) (by first | exact bI_Rg _ | assumption | exact ⟨by omega, by omega⟩) (by first | exact bI_Rg _ | assumption | exact ⟨by omega, by omega⟩) (fun c21 => ?_) (fun c21 => ?_)
      · refine g_iload_n 2 dX4_leastMissing_42 rfl rfl ?_
        refine g_iret dX4_leastMissing_43 rfl (Nat.le_of_ble_eq_true rfl) (Nat.le_of_ble_eq_true rfl) ⟨?_, rfl⟩
        rw [hl, show j = hmN D s by omega]
      · have hnd2 := hnd (by omega)
        refine g_aload_n 0 dX4_leastMissing_24 rfl rfl ?_
        refine g_iload_n 2 dX4_leastMissing_25 rfl rfl ?_
        refine g_aload_n 1 dX4_leastMissing_26 rfl rfl ?_
        refine g_iload dX4_leastMissing_27 rfl ?_
        refine cu_need_X4_67 rfl hs hM ⟨by omega, by omega⟩ (by omega) (by omega) ⟨by omega, by omega⟩ hS.2.1 dX4_leastMissing_29 (And.intro (Nat.le_of_ble_eq_true rfl) (Nat.le_of_ble_eq_true rfl)) (And.intro (Nat.le_of_ble_eq_true rfl) (Nat.le_of_ble_eq_true rfl)) (And.intro (Nat.le_of_ble_eq_true rfl) (Nat.le_of_ble_eq_true rfl)) (And.intro (Nat.le_of_ble_eq_true rfl) (Nat.le_of_ble_eq_true rfl)) (Nat.le_of_ble_eq_true rfl) (Nat.le_of_ble_eq_true rfl) (Nat.le_of_ble_eq_true rfl) ?_
        refine ckE lkX4_59 (k_X4_lesserMissing Z a C fS fA sa sb N p hp l (ndK D s j) ⟨by omega, by omega⟩ (by omega) (fun q => hr _ (by omega) (by omega))) dX4_leastMissing_32 (And.intro (Nat.le_of_ble_eq_true rfl) (Nat.le_of_ble_eq_true rfl)) (ci := 4) rfl (he_sh p hp) (Nat.le_of_ble_eq_true rfl) rfl rfl (Nat.le_of_ble_eq_true rfl) (Nat.le_of_ble_eq_true rfl) rfl ?_
        refine g_istore_n 2 dX4_leastMissing_35 rfl (Nat.le_of_ble_eq_true rfl) (Nat.le_of_ble_eq_true rfl) rfl ?_
        dsimp only [sto]
        refine gi_inc dX4_leastMissing_36 rfl (Nat.le_of_ble_eq_true rfl) rfl ?_
        dsimp only [sto]
        refine g_goto 18 dX4_leastMissing_39 (by decide) ?_
        refine ih _ _ (by omega) (by omega) (by omega) ?_
        rw [show (j + 1).toNat = j.toNat + 1 by omega]
        unfold lmN
        rw [show ((j.toNat : Nat) : Int) = j by omega, ← hl]
  refine g_aload_n 0 dX4_leastMissing_0 rfl rfl ?_
  refine g_iconst (iI (-1)) dX4_leastMissing_1 rfl ?_
  refine g_aload_n 1 dX4_leastMissing_2 rfl rfl ?_
  refine cg_sl_prior hs dX4_leastMissing_3 flX4_56 ?_
  refine ckE lkX4_59 (k_X4_lesserMissing Z a C fS fA sa sb N p hp (-1) (pri D s) ⟨by omega, by omega⟩ (by omega) (fun q => hr _ (by omega) (by omega))) dX4_leastMissing_6 (And.intro (Nat.le_of_ble_eq_true rfl) (Nat.le_of_ble_eq_true rfl)) (ci := 4) rfl (he_sh p hp) (Nat.le_of_ble_eq_true rfl) rfl rfl (Nat.le_of_ble_eq_true rfl) (Nat.le_of_ble_eq_true rfl) rfl ?_
  refine g_istore_n 2 dX4_leastMissing_9 rfl (Nat.le_of_ble_eq_true rfl) (Nat.le_of_ble_eq_true rfl) rfl ?_
  dsimp only [sto]
  refine g_aload_n 1 dX4_leastMissing_10 rfl rfl ?_
  refine cu_howManyNeeds_X4_63 rfl hs hd3.1 hS.2.1 dX4_leastMissing_11 (And.intro (Nat.le_of_ble_eq_true rfl) (Nat.le_of_ble_eq_true rfl)) (And.intro (Nat.le_of_ble_eq_true rfl) (Nat.le_of_ble_eq_true rfl)) (And.intro (Nat.le_of_ble_eq_true rfl) (Nat.le_of_ble_eq_true rfl)) (And.intro (Nat.le_of_ble_eq_true rfl) (Nat.le_of_ble_eq_true rfl)) (Nat.le_of_ble_eq_true rfl) (Nat.le_of_ble_eq_true rfl) (Nat.le_of_ble_eq_true rfl) ?_
  refine g_istore_n 3 dX4_leastMissing_14 rfl (Nat.le_of_ble_eq_true rfl) (Nat.le_of_ble_eq_true rfl) rfl ?_
  dsimp only [sto]
  refine g_iconst (iI 0) dX4_leastMissing_15 rfl ?_
  refine g_istore dX4_leastMissing_16 (Nat.le_of_ble_eq_true rfl) (Nat.le_of_ble_eq_true rfl) rfl ?_
  dsimp only [sto]
  exact loop ((hmN D s).toNat + 1) _ _ (by omega) (by omega) (by omega) rfl
set_option maxHeartbeats 4000000 in
set_option maxRecDepth 100000 in
theorem k_X4_own (Z : LZ) (a : Nat → Nat) (C : Mem) (fS fA : Nat → Option Nat) {D : Mem} (sa sb : Nat → Nat) (N : Nat) (hM : RM D) (hN : N ≤ 256) (p s : Nat) (hp : p < 6) (hs : s < N) (hr : Rg (C (50 + p) 0)) : Tr Z jX4_own [.ref (a (110 + p)), .ref (sa s)] (cW Z a C fS fA (sW Z D sa sb N)) (fun r w => r = none ∧ w = cW Z a (ms (ms (ms C (60 + p) 0 s) (20 + p) s 2) (50 + p) 0 (if C (50 + p) 0 < D 1 s then D 1 s else C (50 + p) 0)) fS fA (sW Z D sa sb N)) := by
  refine tr_of pn_X4_own (Nat.le_of_ble_eq_true rfl) (by intro v h; simp only [List.mem_cons, List.not_mem_nil, or_false] at h; rcases h with h | h <;> rw [h] <;> rfl) ?_
  refine g_aload_n 0 dX4_own_0 rfl rfl ?_
  refine g_aload_n 1 dX4_own_1 rfl rfl ?_
  refine cg_sl_number hs dX4_own_2 flX4_34 ?_
  refine cp_sh_lastMade p hp dX4_own_5 flX4_21 ?_
  refine g_aload_n 0 dX4_own_8 rfl rfl ?_
  refine g_aload_n 1 dX4_own_9 rfl rfl ?_
  refine ckV lkX4_39 (k_X4_take Z a (ms C (60 + p) 0 s) fS fA hM sa sb N hN p s hp hs (by rw [ms_row (by omega)]; exact hr)) dX4_own_10 (And.intro (Nat.le_of_ble_eq_true rfl) (Nat.le_of_ble_eq_true rfl)) (ci := 4) rfl (he_sh p hp) (Nat.le_of_ble_eq_true rfl) rfl rfl (Nat.le_of_ble_eq_true rfl) (Nat.le_of_ble_eq_true rfl) rfl ?_
  refine g_vret dX4_own_13 rfl (Nat.le_of_ble_eq_true rfl) (Nat.le_of_ble_eq_true rfl) ⟨rfl, ?_⟩
  rw [ms_row (by omega)]
