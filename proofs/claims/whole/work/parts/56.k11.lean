/-! THE CLASS: questions -/
def Rel (D C : Mem) (fS fA : Nat → Option Nat) (sa : Nat → Nat) (N : Nat) : Prop := Bk D C fS fA sa N ∧ SpI D C
theorem Sd_rg {D : Mem} {T : Int → Bool} {N : Nat} {C : Mem} (h : Sd D T N C) {s : Nat} (hs : s < N) : Rg (C 70 s) := by
  rw [h s hs]
  split
  · split <;> exact ⟨by decide, by decide⟩
  · exact ⟨by decide, by decide⟩
theorem need_u {D : Mem} {u : Int} (h2 : D 2 u = 3) (h6 : 0 ≤ D 6 u) : D 6 u ∈ needL D u := by
  unfold needL
  rw [if_pos h2]
  refine List.mem_append_right _ ?_
  unfold ndx
  rw [if_pos h6]
  exact List.mem_cons_self
theorem need_sg {D : Mem} {s : Int} : ∀ (k : Nat) (i : Nat), i < k → 0 ≤ D 4 (12 * s + i) / 4 → D 4 (12 * s + i) / 4 ∈ sgN D s k := by
  intro k
  induction k with
  | zero => intro i h; omega
  | succ k ih =>
    intro i h h0
    unfold sgN
    by_cases e : i = k
    · subst e
      refine List.mem_append_right _ ?_
      unfold ndx
      rw [if_pos h0]
      exact List.mem_cons_self
    · exact List.mem_append_left _ (ih i (by omega) h0)
theorem tk_need {D : Mem} (hD : okP D) {p s t : Int} (h0 : 0 ≤ s) (h1 : s < D 9 0) (h : tkB D p s = true) (ht : t ∈ needL D s) : tkB D p t = true := by
  rw [tkB_eq hD p h0 h1, Bool.and_eq_true] at h
  exact List.all_eq_true.mp h.2 t ht
theorem tk_U {D : Mem} (hG : Good D) {N : Nat} (h9 : D 9 0 = N) (p : Int) : ∀ u : Int, 0 ≤ u → u < N → tkB D p u = true → D 2 u = 3 → tkB D p (D 6 u) = true := by
  intro u h0 h1 h h2
  exact tk_need hG.1 h0 (by omega) h (need_u h2 ((hG.1.2.2.1 u h0 (by omega)).2.2.2.2.2.1 h2).2.1)
theorem tk_M {D : Mem} (hG : Good D) {N : Nat} (h9 : D 9 0 = N) (p : Int) : ∀ m : Int, 0 ≤ m → m < N → tkB D p m = true → D 2 m = 2 → 0 ≤ D 6 m → tkB D p (D 4 (12 * m + 1) / 4) = true ∧ tkB D p (D 6 m / 4) = true := by
  intro m h0 h1 h h2 h6
  have hS := hG.1.2.2.1 m h0 (by omega)
  have h3 := (hS.2.2.2.2.1 h2).1
  have hn := hS.2.2.2.2.2.2 1 (Or.inr h2) (by omega) (by omega)
  constructor
  · refine tk_need hG.1 h0 (by omega) h ?_
    unfold needL needA
    rw [if_pos (Or.inr h2)]
    exact List.mem_append_left _ (List.mem_append_right _ (need_sg _ 1 (by omega) (by show 0 ≤ D 4 (12 * m + 1) / 4; omega)))
  · refine tk_need hG.1 h0 (by omega) h ?_
    unfold needL
    rw [if_neg (by omega), if_pos ⟨h6, by omega⟩]
    refine List.mem_append_right _ ?_
    unfold ndx
    rw [if_pos (by omega)]
    exact List.mem_cons_self
theorem tk_T {D : Mem} (hG : Good D) {N : Nat} (h9 : D 9 0 = N) (hN : N ≤ 256) {p : Int} {P : Nat} (hP : (P : Int) = p) : ∀ s : Nat, s < N → tkB D p s = (tkB D P s && decide (D 1 s ≤ 256)) := by
  intro s hs
  have g := (hG.2.2.1 s (by omega) (by omega)).2
  rw [hP, decide_eq_true (by omega), Bool.and_true]
theorem as_U {D : Mem} (hG : Good D) (hI : iUn D) {N : Nat} (h9 : D 9 0 = N) (p v : Int) : ∀ u : Int, 0 ≤ u → u < N → asT D p v u = true → D 2 u = 3 → asT D p v (D 6 u) = true := by
  intro u h0 h1 h h2
  unfold asT at *
  rw [Bool.and_eq_true, decide_eq_true_eq] at *
  have := hI u h0 (by omega) h2
  exact ⟨tk_U hG h9 p u h0 h1 h.1 h2, by omega⟩
theorem Rel.rd {D C C2 : Mem} {fS fA : Nat → Option Nat} {sa : Nat → Nat} {N : Nat} (h : Rel D C fS fA sa N) (hq : ∀ q : Nat, q < 70 ∨ q = 80 → C2 q = C q) (hs : SpI D C2) : Rel D C2 fS fA sa N := ⟨h.1.keep (fun r hr => hq r (Or.inl hr)), hs⟩
set_option maxHeartbeats 4000000 in
set_option maxRecDepth 100000 in
theorem k_X8_read (Z : LZ) (a : Nat → Nat) (C : Mem) (fS fA : Nat → Option Nat) {D : Mem} (sa sb : Nat → Nat) (N : Nat) (hG : Good D) (hI : Inv D) (hR : Rel D C fS fA sa N) (p : Int) (hp : Rg p) : Tr Z jX8_read [.ref (a 99), .int (iI p)] (cW Z a C fS fA (sW Z D sa sb N)) (fun r w => ∃ C2 : Mem, r = some (.int (iI (bI (decide (0 ≤ p ∧ p < 6))))) ∧ w = cW Z a C2 fS fA (sW Z D sa sb N) ∧ (Rel D C2 fS fA sa N ∧ ((0 ≤ p ∧ p < 6) → Rd D (tkB D p) N C2))) := by
  refine tr_of pn_X8_read (Nat.le_of_ble_eq_true rfl) (by intro v h; simp only [List.mem_cons, List.not_mem_nil, or_false] at h; rcases h with h | h <;> rw [h] <;> rfl) ?_
  have hB := hR.1
  have hn := hB.n
  have h9 := hB.d9
  have hM := hG.1.1
  refine g_aload_n 0 dX8_read_0 rfl rfl ?_
  refine g_iload_n 1 dX8_read_1 rfl rfl ?_
  refine ckE lkX8_42 (k_X8_sheetOf Z a C fS fA _ p hp) dX8_read_2 (And.intro (Nat.le_of_ble_eq_true rfl) (Nat.le_of_ble_eq_true rfl)) (ci := 7) (q0 := 0) rfl rfl (Nat.le_of_ble_eq_true rfl) rfl rfl (Nat.le_of_ble_eq_true rfl) (Nat.le_of_ble_eq_true rfl) rfl ?_
  by_cases hPp : 0 ≤ p ∧ p < 6
  · rw [if_pos hPp]
    have hnp : p.toNat < 6 := by omega
    have hep : ((p.toNat : Nat) : Int) = p := by omega
    refine g_astore_n 2 dX8_read_5 rfl (Nat.le_of_ble_eq_true rfl) (Nat.le_of_ble_eq_true rfl) rfl ?_
    dsimp only [sto]
    refine g_aload_n 2 dX8_read_6 rfl rfl ?_
    refine g_ifnonnull 12 dX8_read_7 (by decide) ?_
    refine g_aload_n 0 dX8_read_12 rfl rfl ?_
    refine cg_mp_reading dX8_read_13 flX8_30 ?_
    refine g_aload_n 2 dX8_read_16 rfl rfl ?_
    refine g_sipush (iI 256) dX8_read_17 (by decide) ?_
    refine ckX lkX8_50 (k_X3_read Z a C fS fA sa sb N hG hI.1 hR.1 hR.2 (tkB D p) (tkB_Cl hG.1 p) (tk_U hG h9 p) p.toNat hnp 256 ⟨by decide, by decide⟩ (tk_T hG h9 hn hep)) dX8_read_20 (And.intro (Nat.le_of_ble_eq_true rfl) (Nat.le_of_ble_eq_true rfl)) (ci := 3) (q0 := 30) rfl rfl (Nat.le_of_ble_eq_true rfl) rfl rfl (Nat.le_of_ble_eq_true rfl) (Nat.le_of_ble_eq_true rfl) rfl (fun C19 h19 => ?_)
    have r19 : Rel D C19 fS fA sa N := hR.rd h19.1 h19.2.1
    have d19 := h19.2.2
    refine g_iconst (iI 1) dX8_read_23 rfl ?_
    refine g_zret dX8_read_24 rfl (narrow_bool (by first | exact Or.inl rfl | exact Or.inr rfl | assumption | omega)) (Nat.le_of_ble_eq_true rfl) (Nat.le_of_ble_eq_true rfl) ⟨_, ?_, rfl, ?_⟩
    rw [decide_eq_true hPp]
    rfl
    exact ⟨r19, fun _ => d19⟩
  · rw [if_neg hPp]
    refine g_astore_nN 2 dX8_read_5 rfl (Nat.le_of_ble_eq_true rfl) (Nat.le_of_ble_eq_true rfl) rfl ?_
    dsimp only [sto]
    refine g_aload_nN 2 dX8_read_6 rfl rfl ?_
    refine g_ifnonnullN dX8_read_7 ?_
    refine g_iconst (iI 0) dX8_read_10 rfl ?_
    refine g_zret dX8_read_11 rfl (narrow_bool (by first | exact Or.inl rfl | exact Or.inr rfl | assumption | omega)) (Nat.le_of_ble_eq_true rfl) (Nat.le_of_ble_eq_true rfl) ⟨_, ?_, rfl, ?_⟩
    rw [decide_eq_false hPp]
    rfl
    exact ⟨hR, fun h => absurd h hPp⟩
set_option maxHeartbeats 4000000 in
set_option maxRecDepth 100000 in
theorem k_X8_slip (Z : LZ) (a : Nat → Nat) (C : Mem) (fS fA : Nat → Option Nat) {D : Mem} (sa sb : Nat → Nat) (N : Nat) (hG : Good D) (hI : Inv D) (hR : Rel D C fS fA sa N) (s x : Int) (hs : Rg s) (hx : Rg x) : Tr Z jX8_slip [.ref (a 99), .int (iI s), .int (iI x)] (cW Z a C fS fA (sW Z D sa sb N)) (fun r w => ∃ C2 : Mem, r = some (.int (iI (A_slip D s x))) ∧ w = cW Z a C2 fS fA (sW Z D sa sb N) ∧ Rel D C2 fS fA sa N) := by
  refine tr_of pn_X8_slip (Nat.le_of_ble_eq_true rfl) (by intro v h; simp only [List.mem_cons, List.not_mem_nil, or_false] at h; rcases h with h | h | h <;> rw [h] <;> rfl) ?_
  have hB := hR.1
  have hn := hB.n
  have h9 := hB.d9
  have hM := hG.1.1
  refine g_aload_n 0 dX8_slip_0 rfl rfl ?_
  refine cg_mp_book dX8_slip_1 flX8_12 ?_
  refine g_iload_n 1 dX8_slip_4 rfl rfl ?_
  refine ckE lkX8_109 (k_X0_find Z a C fS fA sa sb N hn hB.c1 hB.sl s hs) dX8_slip_5 (And.intro (Nat.le_of_ble_eq_true rfl) (Nat.le_of_ble_eq_true rfl)) (ci := 0) (q0 := 1) rfl rfl (Nat.le_of_ble_eq_true rfl) rfl rfl (Nat.le_of_ble_eq_true rfl) (Nat.le_of_ble_eq_true rfl) rfl ?_
  by_cases hFs : 0 ≤ s ∧ s < N
  · rw [if_pos hFs]
    have hss : s.toNat < N := by omega
    have hfs : ((s.toNat : Nat) : Int) = s := by omega
    have hSs := hG.s hB hss
    refine g_astore_n 3 dX8_slip_8 rfl (Nat.le_of_ble_eq_true rfl) (Nat.le_of_ble_eq_true rfl) rfl ?_
    dsimp only [sto]
    refine g_aload_n 3 dX8_slip_9 rfl rfl ?_
    refine g_ifnonnull 15 dX8_slip_10 (by decide) ?_
    refine g_iload_n 2 dX8_slip_15 rfl rfl ?_
    by_cases w16_0 : x = 0
    · rw [w16_0]
      refine g_tableIn 48 dX8_slip_16 (by decide) (by decide) rfl (by decide) ?_
      refine g_aload_n 3 dX8_slip_48 rfl rfl ?_
      refine cg_sl_pen hss dX8_slip_49 flX8_113 ?_
      refine g_iret dX8_slip_52 rfl (Nat.le_of_ble_eq_true rfl) (Nat.le_of_ble_eq_true rfl) ⟨_, ?_, rfl, hR⟩
      rw [hfs]
      unfold A_slip
      rw [if_pos (by omega), if_pos rfl]
    by_cases w16_1 : x = 1
    · rw [w16_1]
      refine g_tableIn 53 dX8_slip_16 (by decide) (by decide) rfl (by decide) ?_
      refine g_aload_n 3 dX8_slip_53 rfl rfl ?_
      refine cg_sl_stamp hss dX8_slip_54 flX8_155 ?_
      refine g_iret dX8_slip_57 rfl (Nat.le_of_ble_eq_true rfl) (Nat.le_of_ble_eq_true rfl) ⟨_, ?_, rfl, hR⟩
      rw [hfs]
      unfold A_slip
      rw [if_pos (by omega), if_neg (by decide), if_pos rfl]
    by_cases w16_2 : x = 2
    · rw [w16_2]
      refine g_tableIn 58 dX8_slip_16 (by decide) (by decide) rfl (by decide) ?_
      refine g_aload_n 3 dX8_slip_58 rfl rfl ?_
      refine cu_kind_X8_158 rfl hss  hSs.2.1 dX8_slip_59 (And.intro (Nat.le_of_ble_eq_true rfl) (Nat.le_of_ble_eq_true rfl)) (And.intro (Nat.le_of_ble_eq_true rfl) (Nat.le_of_ble_eq_true rfl)) (And.intro (Nat.le_of_ble_eq_true rfl) (Nat.le_of_ble_eq_true rfl)) (And.intro (Nat.le_of_ble_eq_true rfl) (Nat.le_of_ble_eq_true rfl)) (Nat.le_of_ble_eq_true rfl) (Nat.le_of_ble_eq_true rfl) (Nat.le_of_ble_eq_true rfl) ?_
      refine g_iret dX8_slip_62 rfl (Nat.le_of_ble_eq_true rfl) (Nat.le_of_ble_eq_true rfl) ⟨_, ?_, rfl, hR⟩
      rw [hfs]
      unfold A_slip
      rw [if_pos (by omega), if_neg (by decide), if_neg (by decide), if_pos rfl]
    by_cases w16_3 : x = 3
    · rw [w16_3]
      refine g_tableIn 63 dX8_slip_16 (by decide) (by decide) rfl (by decide) ?_
      refine g_aload_n 3 dX8_slip_63 rfl rfl ?_
      refine cu_size_X8_162 rfl hss hSs.d3.1 (fun q => (hSs.2.2.2.2.1 q).1) (fun q => (hSs.2.2.2.2.2.1 q).1) hSs.2.1 dX8_slip_64 (And.intro (Nat.le_of_ble_eq_true rfl) (Nat.le_of_ble_eq_true rfl)) (And.intro (Nat.le_of_ble_eq_true rfl) (Nat.le_of_ble_eq_true rfl)) (And.intro (Nat.le_of_ble_eq_true rfl) (Nat.le_of_ble_eq_true rfl)) (And.intro (Nat.le_of_ble_eq_true rfl) (Nat.le_of_ble_eq_true rfl)) (Nat.le_of_ble_eq_true rfl) (Nat.le_of_ble_eq_true rfl) (Nat.le_of_ble_eq_true rfl) ?_
      refine g_iret dX8_slip_67 rfl (Nat.le_of_ble_eq_true rfl) (Nat.le_of_ble_eq_true rfl) ⟨_, ?_, rfl, hR⟩
      rw [hfs]
      unfold A_slip
      rw [if_pos (by omega), if_neg (by decide), if_neg (by decide), if_neg (by decide), if_pos rfl]
    · refine g_tableOut 68 dX8_slip_16 (by rw [iI_toInt hx]; omega) (by decide) ?_
      refine g_iconst (iI (-1)) dX8_slip_68 rfl ?_
      refine g_iret dX8_slip_69 rfl (Nat.le_of_ble_eq_true rfl) (Nat.le_of_ble_eq_true rfl) ⟨_, ?_, rfl, hR⟩
      unfold A_slip
      rw [if_pos (by omega), if_neg w16_0, if_neg w16_1, if_neg w16_2, if_neg w16_3]
  · rw [if_neg hFs]
    refine g_astore_nN 3 dX8_slip_8 rfl (Nat.le_of_ble_eq_true rfl) (Nat.le_of_ble_eq_true rfl) rfl ?_
    dsimp only [sto]
    refine g_aload_nN 3 dX8_slip_9 rfl rfl ?_
    refine g_ifnonnullN dX8_slip_10 ?_
    refine g_iconst (iI (-1)) dX8_slip_13 rfl ?_
    refine g_iret dX8_slip_14 rfl (Nat.le_of_ble_eq_true rfl) (Nat.le_of_ble_eq_true rfl) ⟨_, ?_, rfl, hR⟩
    unfold A_slip
    rw [if_neg (by omega)]
set_option maxHeartbeats 4000000 in
set_option maxRecDepth 100000 in
theorem k_X8_later (Z : LZ) (a : Nat → Nat) (C : Mem) (fS fA : Nat → Option Nat) {D : Mem} (sa sb : Nat → Nat) (N : Nat) (hG : Good D) (hI : Inv D) (hR : Rel D C fS fA sa N) (s t : Int) (hs : Rg s) (ht : Rg t) : Tr Z jX8_later [.ref (a 99), .int (iI s), .int (iI t)] (cW Z a C fS fA (sW Z D sa sb N)) (fun r w => ∃ C2 : Mem, r = some (.int (iI (A_later D s t))) ∧ w = cW Z a C2 fS fA (sW Z D sa sb N) ∧ Rel D C2 fS fA sa N) := by
  refine tr_of pn_X8_later (Nat.le_of_ble_eq_true rfl) (by intro v h; simp only [List.mem_cons, List.not_mem_nil, or_false] at h; rcases h with h | h | h <;> rw [h] <;> rfl) ?_
  have hB := hR.1
  have hn := hB.n
  have h9 := hB.d9
  have hM := hG.1.1
  refine g_aload_n 0 dX8_later_0 rfl rfl ?_
  refine cg_mp_book dX8_later_1 flX8_12 ?_
  refine g_iload_n 1 dX8_later_4 rfl rfl ?_
  refine ckE lkX8_109 (k_X0_find Z a C fS fA sa sb N hn hB.c1 hB.sl s hs) dX8_later_5 (And.intro (Nat.le_of_ble_eq_true rfl) (Nat.le_of_ble_eq_true rfl)) (ci := 0) (q0 := 1) rfl rfl (Nat.le_of_ble_eq_true rfl) rfl rfl (Nat.le_of_ble_eq_true rfl) (Nat.le_of_ble_eq_true rfl) rfl ?_
  by_cases hFs : 0 ≤ s ∧ s < N
  · rw [if_pos hFs]
    have hss : s.toNat < N := by omega
    have hfs : ((s.toNat : Nat) : Int) = s := by omega
    have hSs := hG.s hB hss
    refine g_astore_n 3 dX8_later_8 rfl (Nat.le_of_ble_eq_true rfl) (Nat.le_of_ble_eq_true rfl) rfl ?_
    dsimp only [sto]
    refine g_aload_n 0 dX8_later_9 rfl rfl ?_
    refine cg_mp_book dX8_later_10 flX8_12 ?_
    refine g_iload_n 2 dX8_later_13 rfl rfl ?_
    refine ckE lkX8_109 (k_X0_find Z a C fS fA sa sb N hn hB.c1 hB.sl t ht) dX8_later_14 (And.intro (Nat.le_of_ble_eq_true rfl) (Nat.le_of_ble_eq_true rfl)) (ci := 0) (q0 := 1) rfl rfl (Nat.le_of_ble_eq_true rfl) rfl rfl (Nat.le_of_ble_eq_true rfl) (Nat.le_of_ble_eq_true rfl) rfl ?_
    by_cases hFt : 0 ≤ t ∧ t < N
    · rw [if_pos hFt]
      have hst : t.toNat < N := by omega
      have hft : ((t.toNat : Nat) : Int) = t := by omega
      have hSt := hG.s hB hst
      refine g_astore dX8_later_17 (Nat.le_of_ble_eq_true rfl) (Nat.le_of_ble_eq_true rfl) rfl ?_
      dsimp only [sto]
      refine g_aload_n 3 dX8_later_19 rfl rfl ?_
      refine g_ifnull dX8_later_20 ?_
      refine g_aload dX8_later_23 rfl ?_
      refine g_ifnull dX8_later_25 ?_
      refine g_aload_n 3 dX8_later_28 rfl rfl ?_
      refine g_aload dX8_later_29 rfl ?_
      refine cu_isLaterThan_X8_177 rfl hss hst hM hSs.2.1 dX8_later_31 (And.intro (Nat.le_of_ble_eq_true rfl) (Nat.le_of_ble_eq_true rfl)) (Nat.le_of_ble_eq_true rfl) (Nat.le_of_ble_eq_true rfl) (Nat.le_of_ble_eq_true rfl) ?_
      refine gi_if_eq 41 dX8_later_34 (by decide) (bI_Rg _) (fun c34 => ?_) (fun c34 => ?_)
      · refine g_iconst (iI 0) dX8_later_41 rfl ?_
        refine g_zret dX8_later_42 rfl (narrow_bool (by first | exact Or.inl rfl | exact Or.inr rfl | assumption | omega)) (Nat.le_of_ble_eq_true rfl) (Nat.le_of_ble_eq_true rfl) ⟨_, ?_, rfl, hR⟩
        unfold A_later
        rw [if_pos (by omega)]
        rw [hfs, hft] at c34
        rw [c34]
      · refine g_iconst (iI 1) dX8_later_37 rfl ?_
        refine g_goto 42 dX8_later_38 (by decide) ?_
        refine g_zret dX8_later_42 rfl (narrow_bool (by first | exact Or.inl rfl | exact Or.inr rfl | assumption | omega)) (Nat.le_of_ble_eq_true rfl) (Nat.le_of_ble_eq_true rfl) ⟨_, ?_, rfl, hR⟩
        unfold A_later
        rw [if_pos (by omega)]
        rw [hfs, hft] at c34
        rw [bI_1 c34]
    · rw [if_neg hFt]
      refine g_astoreN dX8_later_17 (Nat.le_of_ble_eq_true rfl) (Nat.le_of_ble_eq_true rfl) rfl ?_
      dsimp only [sto]
      refine g_aload_n 3 dX8_later_19 rfl rfl ?_
      refine g_ifnull dX8_later_20 ?_
      refine g_aloadN dX8_later_23 rfl ?_
      refine g_ifnullN 41 dX8_later_25 (by decide) ?_
      refine g_iconst (iI 0) dX8_later_41 rfl ?_
      refine g_zret dX8_later_42 rfl (narrow_bool (by first | exact Or.inl rfl | exact Or.inr rfl | assumption | omega)) (Nat.le_of_ble_eq_true rfl) (Nat.le_of_ble_eq_true rfl) ⟨_, ?_, rfl, hR⟩
      unfold A_later
      rw [if_neg (by omega)]
  · rw [if_neg hFs]
    refine g_astore_nN 3 dX8_later_8 rfl (Nat.le_of_ble_eq_true rfl) (Nat.le_of_ble_eq_true rfl) rfl ?_
    dsimp only [sto]
    refine g_aload_n 0 dX8_later_9 rfl rfl ?_
    refine cg_mp_book dX8_later_10 flX8_12 ?_
    refine g_iload_n 2 dX8_later_13 rfl rfl ?_
    refine ckE lkX8_109 (k_X0_find Z a C fS fA sa sb N hn hB.c1 hB.sl t ht) dX8_later_14 (And.intro (Nat.le_of_ble_eq_true rfl) (Nat.le_of_ble_eq_true rfl)) (ci := 0) (q0 := 1) rfl rfl (Nat.le_of_ble_eq_true rfl) rfl rfl (Nat.le_of_ble_eq_true rfl) (Nat.le_of_ble_eq_true rfl) rfl ?_
    by_cases hFt : 0 ≤ t ∧ t < N
    · rw [if_pos hFt]
      have hst : t.toNat < N := by omega
      have hft : ((t.toNat : Nat) : Int) = t := by omega
      have hSt := hG.s hB hst
      refine g_astore dX8_later_17 (Nat.le_of_ble_eq_true rfl) (Nat.le_of_ble_eq_true rfl) rfl ?_
      dsimp only [sto]
      refine g_aload_nN 3 dX8_later_19 rfl rfl ?_
      refine g_ifnullN 41 dX8_later_20 (by decide) ?_
      refine g_iconst (iI 0) dX8_later_41 rfl ?_
      refine g_zret dX8_later_42 rfl (narrow_bool (by first | exact Or.inl rfl | exact Or.inr rfl | assumption | omega)) (Nat.le_of_ble_eq_true rfl) (Nat.le_of_ble_eq_true rfl) ⟨_, ?_, rfl, hR⟩
      unfold A_later
      rw [if_neg (by omega)]
    · rw [if_neg hFt]
      refine g_astoreN dX8_later_17 (Nat.le_of_ble_eq_true rfl) (Nat.le_of_ble_eq_true rfl) rfl ?_
      dsimp only [sto]
      refine g_aload_nN 3 dX8_later_19 rfl rfl ?_
      refine g_ifnullN 41 dX8_later_20 (by decide) ?_
      refine g_iconst (iI 0) dX8_later_41 rfl ?_
      refine g_zret dX8_later_42 rfl (narrow_bool (by first | exact Or.inl rfl | exact Or.inr rfl | assumption | omega)) (Nat.le_of_ble_eq_true rfl) (Nat.le_of_ble_eq_true rfl) ⟨_, ?_, rfl, hR⟩
      unfold A_later
      rw [if_neg (by omega)]
set_option maxHeartbeats 4000000 in
set_option maxRecDepth 100000 in
theorem k_X8_length (Z : LZ) (a : Nat → Nat) (C : Mem) (fS fA : Nat → Option Nat) {D : Mem} (sa sb : Nat → Nat) (N : Nat) (hG : Good D) (hI : Inv D) (hR : Rel D C fS fA sa N) (p : Int) (hp : Rg p) : Tr Z jX8_length [.ref (a 99), .int (iI p)] (cW Z a C fS fA (sW Z D sa sb N)) (fun r w => ∃ C2 : Mem, r = some (.int (iI (A_length D p))) ∧ w = cW Z a C2 fS fA (sW Z D sa sb N) ∧ Rel D C2 fS fA sa N) := by
  refine tr_of pn_X8_length (Nat.le_of_ble_eq_true rfl) (by intro v h; simp only [List.mem_cons, List.not_mem_nil, or_false] at h; rcases h with h | h <;> rw [h] <;> rfl) ?_
  have hB := hR.1
  have hn := hB.n
  have h9 := hB.d9
  have hM := hG.1.1
  refine g_aload_n 0 dX8_length_0 rfl rfl ?_
  refine g_iload_n 1 dX8_length_1 rfl rfl ?_
  refine ckY lkX8_180 (k_X8_read Z a C fS fA sa sb N hG hI hR p hp) dX8_length_2 (And.intro (Nat.le_of_ble_eq_true rfl) (Nat.le_of_ble_eq_true rfl)) (ci := 7) (q0 := 0) rfl rfl (Nat.le_of_ble_eq_true rfl) rfl rfl (Nat.le_of_ble_eq_true rfl) (Nat.le_of_ble_eq_true rfl) rfl (fun C2 h2 => ?_)
  by_cases hPp : 0 ≤ p ∧ p < 6
  · rw [decide_eq_true hPp]
    have d2 := h2.2 hPp
    have r2 := h2.1
    have hl := ordF_len hG.1 hG.2.1 (tkB_Cl hG.1 p)
    have htx := txtN_rg hG.1 hG.2.1 (tkB_Cl hG.1 p)
    have h78 := d2.2.2.2.2.1
    have h77 := d2.2.1.1.1
    refine gi_if_eq 18 dX8_length_5 (by decide) ⟨by decide, by decide⟩ (fun cc => absurd cc (by decide)) (fun _ => ?_)
    refine g_aload_n 0 dX8_length_8 rfl rfl ?_
    refine cg_mp_reading dX8_length_9 flX8_30 ?_
    refine cg_rd_textSize h78 dX8_length_12 flX8_58 ?_
    refine g_goto 19 dX8_length_15 (by decide) ?_
    refine g_iret dX8_length_19 rfl (Nat.le_of_ble_eq_true rfl) (Nat.le_of_ble_eq_true rfl) ⟨_, ?_, rfl, r2⟩
    unfold A_length
    first | rw [if_pos (by omega)] | rw [if_neg (by omega)]
  · rw [decide_eq_false hPp]
    have r2 := h2.1
    refine gi_if_eq 18 dX8_length_5 (by decide) ⟨by decide, by decide⟩ (fun _ => ?_) (fun cc => absurd cc (by decide))
    refine g_iconst (iI (-1)) dX8_length_18 rfl ?_
    refine g_iret dX8_length_19 rfl (Nat.le_of_ble_eq_true rfl) (Nat.le_of_ble_eq_true rfl) ⟨_, ?_, rfl, r2⟩
    unfold A_length
    first | rw [if_pos (by omega)] | rw [if_neg (by omega)]
set_option maxHeartbeats 4000000 in
set_option maxRecDepth 100000 in
theorem k_X8_signs (Z : LZ) (a : Nat → Nat) (C : Mem) (fS fA : Nat → Option Nat) {D : Mem} (sa sb : Nat → Nat) (N : Nat) (hG : Good D) (hI : Inv D) (hR : Rel D C fS fA sa N) (p : Int) (hp : Rg p) : Tr Z jX8_signs [.ref (a 99), .int (iI p)] (cW Z a C fS fA (sW Z D sa sb N)) (fun r w => ∃ C2 : Mem, r = some (.int (iI (A_signs D p))) ∧ w = cW Z a C2 fS fA (sW Z D sa sb N) ∧ Rel D C2 fS fA sa N) := by
  refine tr_of pn_X8_signs (Nat.le_of_ble_eq_true rfl) (by intro v h; simp only [List.mem_cons, List.not_mem_nil, or_false] at h; rcases h with h | h <;> rw [h] <;> rfl) ?_
  have hB := hR.1
  have hn := hB.n
  have h9 := hB.d9
  have hM := hG.1.1
  refine g_aload_n 0 dX8_signs_0 rfl rfl ?_
  refine g_iload_n 1 dX8_signs_1 rfl rfl ?_
  refine ckY lkX8_180 (k_X8_read Z a C fS fA sa sb N hG hI hR p hp) dX8_signs_2 (And.intro (Nat.le_of_ble_eq_true rfl) (Nat.le_of_ble_eq_true rfl)) (ci := 7) (q0 := 0) rfl rfl (Nat.le_of_ble_eq_true rfl) rfl rfl (Nat.le_of_ble_eq_true rfl) (Nat.le_of_ble_eq_true rfl) rfl (fun C2 h2 => ?_)
  by_cases hPp : 0 ≤ p ∧ p < 6
  · rw [decide_eq_true hPp]
    have d2 := h2.2 hPp
    have r2 := h2.1
    have hl := ordF_len hG.1 hG.2.1 (tkB_Cl hG.1 p)
    have htx := txtN_rg hG.1 hG.2.1 (tkB_Cl hG.1 p)
    have h78 := d2.2.2.2.2.1
    have h77 := d2.2.1.1.1
    refine gi_if_eq 18 dX8_signs_5 (by decide) ⟨by decide, by decide⟩ (fun cc => absurd cc (by decide)) (fun _ => ?_)
    refine g_aload_n 0 dX8_signs_8 rfl rfl ?_
    refine cg_mp_reading dX8_signs_9 flX8_30 ?_
    refine cg_rd_orderSize h77 dX8_signs_12 flX8_197 ?_
    refine g_goto 19 dX8_signs_15 (by decide) ?_
    refine g_iret dX8_signs_19 rfl (Nat.le_of_ble_eq_true rfl) (Nat.le_of_ble_eq_true rfl) ⟨_, ?_, rfl, r2⟩
    unfold A_signs
    first | rw [if_pos (by omega)] | rw [if_neg (by omega)]
  · rw [decide_eq_false hPp]
    have r2 := h2.1
    refine gi_if_eq 18 dX8_signs_5 (by decide) ⟨by decide, by decide⟩ (fun _ => ?_) (fun cc => absurd cc (by decide))
    refine g_iconst (iI (-1)) dX8_signs_18 rfl ?_
    refine g_iret dX8_signs_19 rfl (Nat.le_of_ble_eq_true rfl) (Nat.le_of_ble_eq_true rfl) ⟨_, ?_, rfl, r2⟩
    unfold A_signs
    first | rw [if_pos (by omega)] | rw [if_neg (by omega)]
set_option maxHeartbeats 4000000 in
set_option maxRecDepth 100000 in
theorem k_X8_order (Z : LZ) (a : Nat → Nat) (C : Mem) (fS fA : Nat → Option Nat) {D : Mem} (sa sb : Nat → Nat) (N : Nat) (hG : Good D) (hI : Inv D) (hR : Rel D C fS fA sa N) (p x : Int) (hp : Rg p) (hx : Rg x) : Tr Z jX8_order [.ref (a 99), .int (iI p), .int (iI x)] (cW Z a C fS fA (sW Z D sa sb N)) (fun r w => ∃ C2 : Mem, r = some (.int (iI (A_order D p x))) ∧ w = cW Z a C2 fS fA (sW Z D sa sb N) ∧ Rel D C2 fS fA sa N) := by
  refine tr_of pn_X8_order (Nat.le_of_ble_eq_true rfl) (by intro v h; simp only [List.mem_cons, List.not_mem_nil, or_false] at h; rcases h with h | h | h <;> rw [h] <;> rfl) ?_
  have hB := hR.1
  have hn := hB.n
  have h9 := hB.d9
  have hM := hG.1.1
  refine g_aload_n 0 dX8_order_0 rfl rfl ?_
  refine g_iload_n 1 dX8_order_1 rfl rfl ?_
  refine ckY lkX8_180 (k_X8_read Z a C fS fA sa sb N hG hI hR p hp) dX8_order_2 (And.intro (Nat.le_of_ble_eq_true rfl) (Nat.le_of_ble_eq_true rfl)) (ci := 7) (q0 := 0) rfl rfl (Nat.le_of_ble_eq_true rfl) rfl rfl (Nat.le_of_ble_eq_true rfl) (Nat.le_of_ble_eq_true rfl) rfl (fun C2 h2 => ?_)
  by_cases hPp : 0 ≤ p ∧ p < 6
  · rw [decide_eq_true hPp]
    have d2 := h2.2 hPp
    have r2 := h2.1
    have hl := ordF_len hG.1 hG.2.1 (tkB_Cl hG.1 p)
    have htx := txtN_rg hG.1 hG.2.1 (tkB_Cl hG.1 p)
    have h78 := d2.2.2.2.2.1
    have h77 := d2.2.1.1.1
    refine gi_if_eq 35 dX8_order_5 (by decide) ⟨by decide, by decide⟩ (fun cc => absurd cc (by decide)) (fun _ => ?_)
    refine g_iload_n 2 dX8_order_8 rfl rfl ?_
    refine gi_if_lt 35 dX8_order_9 (by decide) (by first | exact bI_Rg _ | assumption | exact ⟨by omega, by omega⟩) (fun c9 => ?_) (fun c9 => ?_)
    · refine g_iconst (iI (-1)) dX8_order_35 rfl ?_
      refine g_iret dX8_order_36 rfl (Nat.le_of_ble_eq_true rfl) (Nat.le_of_ble_eq_true rfl) ⟨_, ?_, rfl, r2⟩
      unfold A_order
      first | rw [if_pos (by omega)] | rw [if_neg (by omega)]
    · refine g_iload_n 2 dX8_order_12 rfl rfl ?_
      refine g_aload_n 0 dX8_order_13 rfl rfl ?_
      refine cg_mp_reading dX8_order_14 flX8_30 ?_
      refine cg_rd_orderSize h77 dX8_order_17 flX8_197 ?_
      refine gi_icmp_ge 35 dX8_order_20 (by decide) (by first | exact bI_Rg _ | assumption | exact ⟨by omega, by omega⟩) (by first | exact bI_Rg _ | assumption | exact ⟨by omega, by omega⟩) (fun c20 => ?_) (fun c20 => ?_)
      · refine g_iconst (iI (-1)) dX8_order_35 rfl ?_
        refine g_iret dX8_order_36 rfl (Nat.le_of_ble_eq_true rfl) (Nat.le_of_ble_eq_true rfl) ⟨_, ?_, rfl, r2⟩
        unfold A_order
        first | rw [if_pos (by omega)] | rw [if_neg (by omega)]
      · refine g_aload_n 0 dX8_order_23 rfl rfl ?_
        refine cg_mp_reading dX8_order_24 flX8_30 ?_
        refine cg_rd_order dX8_order_27 flX8_200 ?_
        refine g_iload_n 2 dX8_order_30 rfl rfl ?_
        refine ca_71 (d2.2.1.1.2 x (by omega) (by omega)) dX8_order_31 (by omega) (by omega) ?_
        refine g_goto 36 dX8_order_32 (by decide) ?_
        refine g_iret dX8_order_36 rfl (Nat.le_of_ble_eq_true rfl) (Nat.le_of_ble_eq_true rfl) ⟨_, ?_, rfl, r2⟩
        unfold A_order
        first | rw [if_pos (by omega)] | rw [if_neg (by omega)]
  · rw [decide_eq_false hPp]
    have r2 := h2.1
    refine gi_if_eq 35 dX8_order_5 (by decide) ⟨by decide, by decide⟩ (fun _ => ?_) (fun cc => absurd cc (by decide))
    refine g_iconst (iI (-1)) dX8_order_35 rfl ?_
    refine g_iret dX8_order_36 rfl (Nat.le_of_ble_eq_true rfl) (Nat.le_of_ble_eq_true rfl) ⟨_, ?_, rfl, r2⟩
    unfold A_order
    first | rw [if_pos (by omega)] | rw [if_neg (by omega)]
set_option maxHeartbeats 4000000 in
set_option maxRecDepth 100000 in
theorem k_X8_place (Z : LZ) (a : Nat → Nat) (C : Mem) (fS fA : Nat → Option Nat) {D : Mem} (sa sb : Nat → Nat) (N : Nat) (hG : Good D) (hI : Inv D) (hR : Rel D C fS fA sa N) (p x : Int) (hp : Rg p) (hx : Rg x) : Tr Z jX8_place [.ref (a 99), .int (iI p), .int (iI x)] (cW Z a C fS fA (sW Z D sa sb N)) (fun r w => ∃ C2 : Mem, r = some (.int (iI (A_place D p x))) ∧ w = cW Z a C2 fS fA (sW Z D sa sb N) ∧ Rel D C2 fS fA sa N) := by
  refine tr_of pn_X8_place (Nat.le_of_ble_eq_true rfl) (by intro v h; simp only [List.mem_cons, List.not_mem_nil, or_false] at h; rcases h with h | h | h <;> rw [h] <;> rfl) ?_
  have hB := hR.1
  have hn := hB.n
  have h9 := hB.d9
  have hM := hG.1.1
  refine g_aload_n 0 dX8_place_0 rfl rfl ?_
  refine g_iload_n 1 dX8_place_1 rfl rfl ?_
  refine ckY lkX8_180 (k_X8_read Z a C fS fA sa sb N hG hI hR p hp) dX8_place_2 (And.intro (Nat.le_of_ble_eq_true rfl) (Nat.le_of_ble_eq_true rfl)) (ci := 7) (q0 := 0) rfl rfl (Nat.le_of_ble_eq_true rfl) rfl rfl (Nat.le_of_ble_eq_true rfl) (Nat.le_of_ble_eq_true rfl) rfl (fun C2 h2 => ?_)
  by_cases hPp : 0 ≤ p ∧ p < 6
  · rw [decide_eq_true hPp]
    have d2 := h2.2 hPp
    have r2 := h2.1
    have hl := ordF_len hG.1 hG.2.1 (tkB_Cl hG.1 p)
    have htx := txtN_rg hG.1 hG.2.1 (tkB_Cl hG.1 p)
    have h78 := d2.2.2.2.2.1
    have h77 := d2.2.1.1.1
    refine gi_if_eq 19 dX8_place_5 (by decide) ⟨by decide, by decide⟩ (fun cc => absurd cc (by decide)) (fun _ => ?_)
    refine g_aload_n 0 dX8_place_8 rfl rfl ?_
    refine cg_mp_reading dX8_place_9 flX8_30 ?_
    refine g_iload_n 2 dX8_place_12 rfl rfl ?_
    refine ckE lkX8_203 (k_X3_spotOf Z a C2 fS fA sa sb N hG d2.2.1 x hx) dX8_place_13 (And.intro (Nat.le_of_ble_eq_true rfl) (Nat.le_of_ble_eq_true rfl)) (ci := 3) (q0 := 30) rfl rfl (Nat.le_of_ble_eq_true rfl) rfl rfl (Nat.le_of_ble_eq_true rfl) (Nat.le_of_ble_eq_true rfl) rfl ?_
    have hix := inIx_rg (ordF D (tkB D p)) x
    refine g_goto 20 dX8_place_16 (by decide) ?_
    refine g_istore_n 3 dX8_place_20 rfl (Nat.le_of_ble_eq_true rfl) (Nat.le_of_ble_eq_true rfl) rfl ?_
    dsimp only [sto]
    refine g_iload_n 3 dX8_place_21 rfl rfl ?_
    refine g_iconst (iI (-1)) dX8_place_22 rfl ?_
    refine gi_icmp_ne 29 dX8_place_23 (by decide) (by first | exact bI_Rg _ | assumption | exact ⟨by omega, by omega⟩) (by first | exact bI_Rg _ | assumption | exact ⟨by omega, by omega⟩) (fun c23 => ?_) (fun c23 => ?_)
    · refine g_aload_n 0 dX8_place_29 rfl rfl ?_
      refine cg_mp_reading dX8_place_30 flX8_30 ?_
      refine g_iload_n 3 dX8_place_33 rfl rfl ?_
      refine ckE lkX8_206 (k_X3_isSeen Z a C2 fS fA sa sb N hG (tkB_Cl hG.1 p) d2 (inIx (ordF D (tkB D p)) x) (by omega) (by omega)) dX8_place_34 (And.intro (Nat.le_of_ble_eq_true rfl) (Nat.le_of_ble_eq_true rfl)) (ci := 3) (q0 := 30) rfl rfl (Nat.le_of_ble_eq_true rfl) rfl rfl (Nat.le_of_ble_eq_true rfl) (Nat.le_of_ble_eq_true rfl) rfl ?_
      refine gi_if_eq 52 dX8_place_37 (by decide) (bI_Rg _) (fun c37 => ?_) (fun c37 => ?_)
      · refine g_bipush (iI (-2)) dX8_place_52 (by decide) ?_
        refine g_iret dX8_place_54 rfl (Nat.le_of_ble_eq_true rfl) (Nat.le_of_ble_eq_true rfl) ⟨_, ?_, rfl, r2⟩
        unfold A_place
        rw [if_pos ⟨hPp, by omega⟩, if_neg (by rw [bI_eq0.mp c37]; decide)]
      · have hah : C2 74 (inIx (ordF D (tkB D p)) x) = cntB (Vi D (tkB D p)) (inIx (ordF D (tkB D p)) x).toNat := by
          have := d2.2.2.2.1 (inIx (ordF D (tkB D p)) x).toNat (by omega)
          rwa [show (((inIx (ordF D (tkB D p)) x).toNat : Nat) : Int) = inIx (ordF D (tkB D p)) x by omega] at this
        refine g_aload_n 0 dX8_place_40 rfl rfl ?_
        refine cg_mp_reading dX8_place_41 flX8_30 ?_
        refine cg_rd_ahead dX8_place_44 flX8_209 ?_
        refine g_iload_n 3 dX8_place_47 rfl rfl ?_
        refine ca_74 hah dX8_place_48 (by omega) (by omega) ?_
        refine g_goto 54 dX8_place_49 (by decide) ?_
        refine g_iret dX8_place_54 rfl (Nat.le_of_ble_eq_true rfl) (Nat.le_of_ble_eq_true rfl) ⟨_, ?_, rfl, r2⟩
        unfold A_place
        rw [if_pos ⟨hPp, by omega⟩, if_pos (bI_true c37)]
    · refine g_bipush (iI (-3)) dX8_place_26 (by decide) ?_
      refine g_iret dX8_place_28 rfl (Nat.le_of_ble_eq_true rfl) (Nat.le_of_ble_eq_true rfl) ⟨_, ?_, rfl, r2⟩
      unfold A_place
      rw [if_neg (by omega)]
  · rw [decide_eq_false hPp]
    have r2 := h2.1
    refine gi_if_eq 19 dX8_place_5 (by decide) ⟨by decide, by decide⟩ (fun _ => ?_) (fun cc => absurd cc (by decide))
    refine g_iconst (iI (-1)) dX8_place_19 rfl ?_
    refine g_istore_n 3 dX8_place_20 rfl (Nat.le_of_ble_eq_true rfl) (Nat.le_of_ble_eq_true rfl) rfl ?_
    dsimp only [sto]
    refine g_iload_n 3 dX8_place_21 rfl rfl ?_
    refine g_iconst (iI (-1)) dX8_place_22 rfl ?_
    refine gi_icmp_ne 29 dX8_place_23 (by decide) ⟨by decide, by decide⟩ ⟨by decide, by decide⟩ (fun cc => absurd cc (by decide)) (fun _ => ?_)
    refine g_bipush (iI (-3)) dX8_place_26 (by decide) ?_
    refine g_iret dX8_place_28 rfl (Nat.le_of_ble_eq_true rfl) (Nat.le_of_ble_eq_true rfl) ⟨_, ?_, rfl, r2⟩
    unfold A_place
    rw [if_neg (by omega)]
set_option maxHeartbeats 4000000 in
set_option maxRecDepth 100000 in
theorem k_X8_strikers (Z : LZ) (a : Nat → Nat) (C : Mem) (fS fA : Nat → Option Nat) {D : Mem} (sa sb : Nat → Nat) (N : Nat) (hG : Good D) (hI : Inv D) (hR : Rel D C fS fA sa N) (p x : Int) (hp : Rg p) (hx : Rg x) : Tr Z jX8_strikers [.ref (a 99), .int (iI p), .int (iI x)] (cW Z a C fS fA (sW Z D sa sb N)) (fun r w => ∃ C2 : Mem, r = some (.int (iI (A_strikers D p x))) ∧ w = cW Z a C2 fS fA (sW Z D sa sb N) ∧ Rel D C2 fS fA sa N) := by
  refine tr_of pn_X8_strikers (Nat.le_of_ble_eq_true rfl) (by intro v h; simp only [List.mem_cons, List.not_mem_nil, or_false] at h; rcases h with h | h | h <;> rw [h] <;> rfl) ?_
  have hB := hR.1
  have hn := hB.n
  have h9 := hB.d9
  have hM := hG.1.1
  refine g_aload_n 0 dX8_strikers_0 rfl rfl ?_
  refine g_iload_n 1 dX8_strikers_1 rfl rfl ?_
  refine ckY lkX8_180 (k_X8_read Z a C fS fA sa sb N hG hI hR p hp) dX8_strikers_2 (And.intro (Nat.le_of_ble_eq_true rfl) (Nat.le_of_ble_eq_true rfl)) (ci := 7) (q0 := 0) rfl rfl (Nat.le_of_ble_eq_true rfl) rfl rfl (Nat.le_of_ble_eq_true rfl) (Nat.le_of_ble_eq_true rfl) rfl (fun C2 h2 => ?_)
  by_cases hPp : 0 ≤ p ∧ p < 6
  · rw [decide_eq_true hPp]
    have d2 := h2.2 hPp
    have r2 := h2.1
    have hl := ordF_len hG.1 hG.2.1 (tkB_Cl hG.1 p)
    have htx := txtN_rg hG.1 hG.2.1 (tkB_Cl hG.1 p)
    have h78 := d2.2.2.2.2.1
    have h77 := d2.2.1.1.1
    refine gi_if_eq 19 dX8_strikers_5 (by decide) ⟨by decide, by decide⟩ (fun cc => absurd cc (by decide)) (fun _ => ?_)
    refine g_aload_n 0 dX8_strikers_8 rfl rfl ?_
    refine cg_mp_reading dX8_strikers_9 flX8_30 ?_
    refine g_iload_n 2 dX8_strikers_12 rfl rfl ?_
    refine ckE lkX8_203 (k_X3_spotOf Z a C2 fS fA sa sb N hG d2.2.1 x hx) dX8_strikers_13 (And.intro (Nat.le_of_ble_eq_true rfl) (Nat.le_of_ble_eq_true rfl)) (ci := 3) (q0 := 30) rfl rfl (Nat.le_of_ble_eq_true rfl) rfl rfl (Nat.le_of_ble_eq_true rfl) (Nat.le_of_ble_eq_true rfl) rfl ?_
    have hix := inIx_rg (ordF D (tkB D p)) x
    refine g_goto 20 dX8_strikers_16 (by decide) ?_
    refine g_istore_n 3 dX8_strikers_20 rfl (Nat.le_of_ble_eq_true rfl) (Nat.le_of_ble_eq_true rfl) rfl ?_
    dsimp only [sto]
    refine g_iload_n 3 dX8_strikers_21 rfl rfl ?_
    refine g_iconst (iI (-1)) dX8_strikers_22 rfl ?_
    refine gi_icmp_ne 30 dX8_strikers_23 (by decide) (by first | exact bI_Rg _ | assumption | exact ⟨by omega, by omega⟩) (by first | exact bI_Rg _ | assumption | exact ⟨by omega, by omega⟩) (fun c23 => ?_) (fun c23 => ?_)
    · have hkd : C2 73 (inIx (ordF D (tkB D p)) x) = strikesF D (wkB D (tkB D p)) x := by
        rw [d2.2.2.1 _ (by omega) (by omega), inIx_fF (by omega)]
      refine g_aload_n 0 dX8_strikers_30 rfl rfl ?_
      refine cg_mp_reading dX8_strikers_31 flX8_30 ?_
      refine cg_rd_struck dX8_strikers_34 flX8_212 ?_
      refine g_iload_n 3 dX8_strikers_37 rfl rfl ?_
      refine ca_73 hkd dX8_strikers_38 (by omega) (by omega) ?_
      refine g_iret dX8_strikers_39 rfl (Nat.le_of_ble_eq_true rfl) (Nat.le_of_ble_eq_true rfl) ⟨_, ?_, rfl, r2⟩
      unfold A_strikers
      rw [if_pos ⟨hPp, by omega⟩]
    · refine g_iconst (iI (-1)) dX8_strikers_26 rfl ?_
      refine g_goto 39 dX8_strikers_27 (by decide) ?_
      refine g_iret dX8_strikers_39 rfl (Nat.le_of_ble_eq_true rfl) (Nat.le_of_ble_eq_true rfl) ⟨_, ?_, rfl, r2⟩
      unfold A_strikers
      rw [if_neg (by omega)]
  · rw [decide_eq_false hPp]
    have r2 := h2.1
    refine gi_if_eq 19 dX8_strikers_5 (by decide) ⟨by decide, by decide⟩ (fun _ => ?_) (fun cc => absurd cc (by decide))
    refine g_iconst (iI (-1)) dX8_strikers_19 rfl ?_
    refine g_istore_n 3 dX8_strikers_20 rfl (Nat.le_of_ble_eq_true rfl) (Nat.le_of_ble_eq_true rfl) rfl ?_
    dsimp only [sto]
    refine g_iload_n 3 dX8_strikers_21 rfl rfl ?_
    refine g_iconst (iI (-1)) dX8_strikers_22 rfl ?_
    refine gi_icmp_ne 30 dX8_strikers_23 (by decide) ⟨by decide, by decide⟩ ⟨by decide, by decide⟩ (fun cc => absurd cc (by decide)) (fun _ => ?_)
    refine g_iconst (iI (-1)) dX8_strikers_26 rfl ?_
    refine g_goto 39 dX8_strikers_27 (by decide) ?_
    refine g_iret dX8_strikers_39 rfl (Nat.le_of_ble_eq_true rfl) (Nat.le_of_ble_eq_true rfl) ⟨_, ?_, rfl, r2⟩
    unfold A_strikers
    rw [if_neg (by omega)]
