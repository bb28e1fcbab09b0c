/-! THE CLASS: what it holds of the data, what a reading shows -/
def hdF (D : Mem) (p s : Int) : Int := if D 10 (256 * p + s) = 0 then 0 else if tkB D p s = true then 2 else 1
def Age (D : Mem) (fA : Nat → Option Nat) (sa : Nat → Nat) (N : Nat) : Prop := ∃ L : List Nat, L.length = N ∧ (∀ k s : Nat, L[k]? = some s → s < N ∧ fA k = some (sa s)) ∧ L.Pairwise (fun s t : Nat => Lat D t s) ∧ (∀ s : Nat, s < N → s ∈ L)
def Bk (D C : Mem) (fS fA : Nat → Option Nat) (sa : Nat → Nat) (N : Nat) : Prop := (D 9 0 = N ∧ N ≤ 256) ∧ C 1 0 = N ∧ C 0 0 = D 13 0 ∧ (∀ s : Nat, s < N → fS s = some (sa s)) ∧ Age D fA sa N ∧ (C 2 0 = (ordF D tT).length ∧ ∀ k : Int, 0 ≤ k → k < (ordF D tT).length → C 3 k = fF (ordF D tT) k) ∧ (∀ p s : Nat, p < 6 → s < 256 → C (20 + p) s = if s < N then hdF D p s else 0) ∧ (∀ p c : Nat, p < 6 → c < 3 → C (40 + p) c = D 12 (3 * p + c) ∧ (0 ≤ D 12 (3 * p + c) → C (30 + p) c = D 11 (3 * p + c))) ∧ (∀ p : Nat, p < 6 → C (50 + p) 0 = mxF D (tkB D p) N) ∧ ∀ p : Nat, p < 6 → C (60 + p) 0 = latestF D p N
def SpI (D C : Mem) : Prop := ∀ x : Int, 0 ≤ x → x < 1024 → x ∉ ordF D tT → C 72 x = -1
def PsC (C C2 : Mem) : Prop := ∀ r : Nat, r < 70 → C2 r = C r
theorem PsC.refl (C : Mem) : PsC C C := fun _ _ => rfl
theorem PsC.trans {A B C : Mem} (h : PsC A B) (g : PsC B C) : PsC A C := fun r hr => (g r hr).trans (h r hr)
theorem PsC.ms {A B : Mem} (h : PsC A B) {r : Nat} {z v : Int} (hr : 70 ≤ r) : PsC A (ms B r z v) := fun q hq => (ms_ne (by omega)).trans (h q hq)
section BkP
variable {D C : Mem} {fS fA : Nat → Option Nat} {sa : Nat → Nat} {N : Nat}
theorem Bk.d9 (h : Bk D C fS fA sa N) : D 9 0 = N := h.1.1
theorem Bk.n (h : Bk D C fS fA sa N) : N ≤ 256 := h.1.2
theorem Bk.c1 (h : Bk D C fS fA sa N) : C 1 0 = N := h.2.1
theorem Bk.fi (h : Bk D C fS fA sa N) : C 0 0 = D 13 0 := h.2.2.1
theorem Bk.sl (h : Bk D C fS fA sa N) : ∀ s : Nat, s < N → fS s = some (sa s) := h.2.2.2.1
theorem Bk.age (h : Bk D C fS fA sa N) : Age D fA sa N := h.2.2.2.2.1
theorem Bk.ord (h : Bk D C fS fA sa N) : C 2 0 = (ordF D tT).length ∧ ∀ k : Int, 0 ≤ k → k < (ordF D tT).length → C 3 k = fF (ordF D tT) k := h.2.2.2.2.2.1
theorem Bk.held (h : Bk D C fS fA sa N) : ∀ p s : Nat, p < 6 → s < 256 → C (20 + p) s = if s < N then hdF D p s else 0 := h.2.2.2.2.2.2.1
theorem Bk.cur (h : Bk D C fS fA sa N) : ∀ p c : Nat, p < 6 → c < 3 → C (40 + p) c = D 12 (3 * p + c) ∧ (0 ≤ D 12 (3 * p + c) → C (30 + p) c = D 11 (3 * p + c)) := h.2.2.2.2.2.2.2.1
theorem Bk.mx (h : Bk D C fS fA sa N) : ∀ p : Nat, p < 6 → C (50 + p) 0 = mxF D (tkB D p) N := h.2.2.2.2.2.2.2.2.1
theorem Bk.lt (h : Bk D C fS fA sa N) : ∀ p : Nat, p < 6 → C (60 + p) 0 = latestF D p N := h.2.2.2.2.2.2.2.2.2
theorem Bk.keep (h : Bk D C fS fA sa N) {C2 : Mem} (hp : PsC C C2) : Bk D C2 fS fA sa N := by
  refine ⟨h.1, by rw [hp 1 (by decide)]; exact h.c1, by rw [hp 0 (by decide)]; exact h.fi, h.sl, h.age, by rw [hp 2 (by decide), hp 3 (by decide)]; exact h.ord, fun p s a b => by rw [hp _ (by omega)]; exact h.held p s a b, fun p c a b => by rw [hp _ (by omega), hp (30 + p) (by omega)]; exact h.cur p c a b, fun p a => by rw [hp _ (by omega)]; exact h.mx p a, fun p a => by rw [hp _ (by omega)]; exact h.lt p a⟩
theorem hdF_rg (D : Mem) (p s : Int) : 0 ≤ hdF D p s ∧ hdF D p s ≤ 2 := by
  unfold hdF
  split
  · omega
  · split <;> omega
theorem Bk.hrg (h : Bk D C fS fA sa N) {p : Nat} (hp : p < 6) : ∀ t : Int, 0 ≤ t → t < 256 → 0 ≤ C (20 + p) t ∧ C (20 + p) t ≤ 2 := by
  intro t h0 h1
  have e := h.held p t.toNat hp (by omega)
  rw [show ((t.toNat : Nat) : Int) = t by omega] at e
  rw [e]
  split
  · exact hdF_rg _ _ _
  · omega
theorem hd_tk (hD : okP D) {p s : Int} (h0 : 0 ≤ s) (h1 : s < D 9 0) : hdF D p s = 2 ↔ tkB D p s = true := by
  unfold hdF
  constructor
  · intro h
    split at h
    · omega
    · split at h
      · assumption
      · omega
  · intro h
    have := tkB_eq hD p h0 h1
    rw [h] at this
    have g := (Bool.and_eq_true _ _ ▸ this.symm : _)
    simp only [Bool.and_eq_true, decide_eq_true_eq] at g
    rw [if_neg (by omega), if_pos h]
theorem Bk.tk (hD : okP D) (h : Bk D C fS fA sa N) {p s : Nat} (hp : p < 6) (hs : s < N) : C (20 + p) s = 2 ↔ tkB D p s = true := by
  rw [h.held p s hp (by have := h.n; omega), if_pos hs]
  exact hd_tk hD (by omega) (by have := h.d9; omega)
theorem Good.s (hG : Good D) (h : Bk D C fS fA sa N) {s : Nat} (hs : s < N) : okS D s := hG.1.2.2.1 s (by omega) (by have := h.d9; omega)
end BkP
def Sd (D : Mem) (T : Int → Bool) (N : Nat) (C : Mem) : Prop := ∀ s : Nat, s < N → C 70 s = if T s = true then (if wkB D T s = true then 3 else 2) else 0
def Od (D : Mem) (T : Int → Bool) (C : Mem) : Prop := (C 77 0 = (ordF D T).length ∧ ∀ k : Int, 0 ≤ k → k < (ordF D T).length → C 71 k = fF (ordF D T) k) ∧ ∀ x : Int, 0 ≤ x → x < 1024 → C 72 x = inIx (ordF D T) x
def Kd (D : Mem) (T : Int → Bool) (C : Mem) : Prop := ∀ k : Int, 0 ≤ k → k < (ordF D T).length → C 73 k = strikesF D (wkB D T) (fF (ordF D T) k)
def Vd (D : Mem) (T : Int → Bool) (C : Mem) : Prop := (∀ k : Nat, k ≤ (ordF D T).length → C 74 k = cntB (Vi D T) k) ∧ C 78 0 = txtN D T ∧ ∀ i : Int, 0 ≤ i → i < txtN D T → C 75 i = atF D T i
def Rd (D : Mem) (T : Int → Bool) (N : Nat) (C : Mem) : Prop := Sd D T N C ∧ Od D T C ∧ Kd D T C ∧ Vd D T C
def Pt (D : Mem) (T : Int → Bool) (C : Mem) : Prop := ∀ k : Int, 0 ≤ k → k < (ordF D T).length → C 76 k = tinF D T k 4
theorem inIx_out {F : List Int} {x : Int} (h : x ∉ F) : inIx F x = -1 := by
  have h1 := inIx_rg F x
  have h2 := (lastIx_rg (fF F) x F.length).2.2
  by_cases h0 : 0 ≤ inIx F x
  · exact absurd (h2 h0 ▸ fF_mem (F := F) h0 h1.2) h
  · omega
theorem inIx_fF {F : List Int} {x : Int} (h : 0 ≤ inIx F x) : fF F (inIx F x) = x := (lastIx_rg (fF F) x F.length).2.2 h
theorem ord_lt {D : Mem} (hG : Good D) {T : Int → Bool} {x : Int} (h : x ∈ ordF D T) : 0 ≤ x ∧ x < 1024 := by
  have := ordF_mem hG.1 hG.2.1 h
  have := hG.1.2.1
  omega
theorem ord_tT {D : Mem} (hG : Good D) {T : Int → Bool} (hC : Cl D T) {x : Int} (h : x ∈ ordF D T) : x ∈ ordF D tT := by
  rw [ordF_eq hG.1 hG.2.1 hC] at h
  exact (List.mem_filter.mp h).1
set_option maxHeartbeats 4000000 in
set_option maxRecDepth 100000 in
theorem k_X3_spotOf (Z : LZ) (a : Nat → Nat) (C : Mem) (fS fA : Nat → Option Nat) {D : Mem} (sa sb : Nat → Nat) (N : Nat) (hG : Good D) {T : Int → Bool} (hO : Od D T C) (x : Int) (hx : Rg x) : Tr Z jX3_spotOf [.ref (a 102), .int (iI x)] (cW Z a C fS fA (sW Z D sa sb N)) (fun r w => r = some (.int (iI (inIx (ordF D T) x))) ∧ w = cW Z a C fS fA (sW Z D sa sb N)) := by
  refine tr_of pn_X3_spotOf (Nat.le_of_ble_eq_true rfl) (by intro v h; simp only [List.mem_cons, List.not_mem_nil, or_false] at h; rcases h with h | h <;> rw [h] <;> rfl) ?_
  refine g_iload_n 1 dX3_spotOf_0 rfl rfl ?_
  refine gi_if_lt 20 dX3_spotOf_1 (by decide) (by first | exact bI_Rg _ | assumption | exact ⟨by omega, by omega⟩) (fun c1 => ?_) (fun c1 => ?_)
  · refine g_iconst (iI (-1)) dX3_spotOf_20 rfl ?_
    refine g_iret dX3_spotOf_21 rfl (Nat.le_of_ble_eq_true rfl) (Nat.le_of_ble_eq_true rfl) ⟨?_, rfl⟩
    rw [inIx_out (fun q => by have := ord_lt hG q; omega)]
  · refine g_iload_n 1 dX3_spotOf_4 rfl rfl ?_
    refine g_sipush (iI 1024) dX3_spotOf_5 (by decide) ?_
    refine gi_icmp_ge 20 dX3_spotOf_8 (by decide) (by first | exact bI_Rg _ | assumption | exact ⟨by omega, by omega⟩) (by first | exact bI_Rg _ | assumption | exact ⟨by omega, by omega⟩) (fun c8 => ?_) (fun c8 => ?_)
    · refine g_iconst (iI (-1)) dX3_spotOf_20 rfl ?_
      refine g_iret dX3_spotOf_21 rfl (Nat.le_of_ble_eq_true rfl) (Nat.le_of_ble_eq_true rfl) ⟨?_, rfl⟩
      rw [inIx_out (fun q => by have := ord_lt hG q; omega)]
    · refine g_aload_n 0 dX3_spotOf_11 rfl rfl ?_
      refine cg_rd_spots dX3_spotOf_12 flX3_18 ?_
      refine g_iload_n 1 dX3_spotOf_15 rfl rfl ?_
      refine ca_72 (hO.2 x (by omega) (by omega)) dX3_spotOf_16 (by omega) (by omega) ?_
      refine g_goto 21 dX3_spotOf_17 (by decide) ?_
      refine g_iret dX3_spotOf_21 rfl (Nat.le_of_ble_eq_true rfl) (Nat.le_of_ble_eq_true rfl) ⟨?_, rfl⟩
      rfl
set_option maxHeartbeats 4000000 in
set_option maxRecDepth 100000 in
theorem k_X3_nameAt (Z : LZ) (a : Nat → Nat) (C : Mem) (fS fA : Nat → Option Nat) {D : Mem} (sa sb : Nat → Nat) (N : Nat) (hG : Good D) {T : Int → Bool} (hC : Cl D T) (hR : Rd D T N C) (x : Int) (hx : Rg x) : Tr Z jX3_nameAt [.ref (a 102), .int (iI x)] (cW Z a C fS fA (sW Z D sa sb N)) (fun r w => r = some (.int (iI (if 0 ≤ x ∧ x < txtN D T then nmX D T x else -1))) ∧ w = cW Z a C fS fA (sW Z D sa sb N)) := by
  refine tr_of pn_X3_nameAt (Nat.le_of_ble_eq_true rfl) (by intro v h; simp only [List.mem_cons, List.not_mem_nil, or_false] at h; rcases h with h | h <;> rw [h] <;> rfl) ?_
  have hl := ordF_len hG.1 hG.2.1 hC
  have ht := txtN_rg hG.1 hG.2.1 hC
  have h78 := hR.2.2.2.2.1
  have h77 := hR.2.1.1.1
  refine g_aload_n 0 dX3_nameAt_0 rfl rfl ?_
  refine g_iload_n 1 dX3_nameAt_1 rfl rfl ?_
  refine ckE lkX3_68 (k_X3_isPlace Z a C fS fA _ (x) (by first | assumption | exact ⟨by omega, by omega⟩) (by rw [h78]; exact ⟨by omega, by omega⟩)) dX3_nameAt_2 (And.intro (Nat.le_of_ble_eq_true rfl) (Nat.le_of_ble_eq_true rfl)) (ci := 3) (q0 := 30) rfl rfl (Nat.le_of_ble_eq_true rfl) rfl rfl (Nat.le_of_ble_eq_true rfl) (Nat.le_of_ble_eq_true rfl) rfl ?_
  by_cases hq2 : 0 ≤ x ∧ x < C 78 0
  · rw [decide_eq_true hq2]
    rw [h78] at hq2
    have hat := atF_in (D := D) (T := T) hq2.1 hq2.2
    refine gi_if_eq 22 dX3_nameAt_5 (by decide) ⟨by decide, by decide⟩ (fun cc => absurd cc (by decide)) (fun _ => ?_)
    refine g_aload_n 0 dX3_nameAt_8 rfl rfl ?_
    refine cg_rd_order dX3_nameAt_9 flX3_15 ?_
    refine g_aload_n 0 dX3_nameAt_12 rfl rfl ?_
    refine cg_rd_seen dX3_nameAt_13 flX3_27 ?_
    refine g_iload_n 1 dX3_nameAt_16 rfl rfl ?_
    refine ca_75 (hR.2.2.2.2.2 x (by omega) (by omega)) dX3_nameAt_17 (by omega) (by omega) ?_
    refine ca_71 (hR.2.1.1.2 _ hat.1 hat.2.1) dX3_nameAt_18 (by omega) (by omega) ?_
    refine g_goto 23 dX3_nameAt_19 (by decide) ?_
    refine g_iret dX3_nameAt_23 rfl (Nat.le_of_ble_eq_true rfl) (Nat.le_of_ble_eq_true rfl) ⟨?_, rfl⟩
    rw [if_pos hq2]
    rfl
  · rw [decide_eq_false hq2]
    refine gi_if_eq 22 dX3_nameAt_5 (by decide) ⟨by decide, by decide⟩ (fun _ => ?_) (fun cc => absurd cc (by decide))
    refine g_iconst (iI (-1)) dX3_nameAt_22 rfl ?_
    refine g_iret dX3_nameAt_23 rfl (Nat.le_of_ble_eq_true rfl) (Nat.le_of_ble_eq_true rfl) ⟨?_, rfl⟩
    rw [if_neg (by omega)]
set_option maxHeartbeats 4000000 in
set_option maxRecDepth 100000 in
theorem k_X3_tintsAt (Z : LZ) (a : Nat → Nat) (C : Mem) (fS fA : Nat → Option Nat) {D : Mem} (sa sb : Nat → Nat) (N : Nat) (hG : Good D) {T : Int → Bool} (hC : Cl D T) (hR : Rd D T N C) (hP : Pt D T C) (x : Int) (hx : Rg x) : Tr Z jX3_tintsAt [.ref (a 102), .int (iI x)] (cW Z a C fS fA (sW Z D sa sb N)) (fun r w => r = some (.int (iI (if 0 ≤ x ∧ x < txtN D T then tnX D T x else 0))) ∧ w = cW Z a C fS fA (sW Z D sa sb N)) := by
  refine tr_of pn_X3_tintsAt (Nat.le_of_ble_eq_true rfl) (by intro v h; simp only [List.mem_cons, List.not_mem_nil, or_false] at h; rcases h with h | h <;> rw [h] <;> rfl) ?_
  have hl := ordF_len hG.1 hG.2.1 hC
  have ht := txtN_rg hG.1 hG.2.1 hC
  have h78 := hR.2.2.2.2.1
  have h77 := hR.2.1.1.1
  refine g_aload_n 0 dX3_tintsAt_0 rfl rfl ?_
  refine g_iload_n 1 dX3_tintsAt_1 rfl rfl ?_
  refine ckE lkX3_68 (k_X3_isPlace Z a C fS fA _ (x) (by first | assumption | exact ⟨by omega, by omega⟩) (by rw [h78]; exact ⟨by omega, by omega⟩)) dX3_tintsAt_2 (And.intro (Nat.le_of_ble_eq_true rfl) (Nat.le_of_ble_eq_true rfl)) (ci := 3) (q0 := 30) rfl rfl (Nat.le_of_ble_eq_true rfl) rfl rfl (Nat.le_of_ble_eq_true rfl) (Nat.le_of_ble_eq_true rfl) rfl ?_
  by_cases hq2 : 0 ≤ x ∧ x < C 78 0
  · rw [decide_eq_true hq2]
    rw [h78] at hq2
    have hat := atF_in (D := D) (T := T) hq2.1 hq2.2
    refine gi_if_eq 22 dX3_tintsAt_5 (by decide) ⟨by decide, by decide⟩ (fun cc => absurd cc (by decide)) (fun _ => ?_)
    refine g_aload_n 0 dX3_tintsAt_8 rfl rfl ?_
    refine cg_rd_tints dX3_tintsAt_9 flX3_30 ?_
    refine g_aload_n 0 dX3_tintsAt_12 rfl rfl ?_
    refine cg_rd_seen dX3_tintsAt_13 flX3_27 ?_
    refine g_iload_n 1 dX3_tintsAt_16 rfl rfl ?_
    refine ca_75 (hR.2.2.2.2.2 x (by omega) (by omega)) dX3_tintsAt_17 (by omega) (by omega) ?_
    refine ca_76 (hP _ hat.1 hat.2.1) dX3_tintsAt_18 (by omega) (by omega) ?_
    refine g_goto 23 dX3_tintsAt_19 (by decide) ?_
    refine g_iret dX3_tintsAt_23 rfl (Nat.le_of_ble_eq_true rfl) (Nat.le_of_ble_eq_true rfl) ⟨?_, rfl⟩
    rw [if_pos hq2]
    rfl
  · rw [decide_eq_false hq2]
    refine gi_if_eq 22 dX3_tintsAt_5 (by decide) ⟨by decide, by decide⟩ (fun _ => ?_) (fun cc => absurd cc (by decide))
    refine g_iconst (iI 0) dX3_tintsAt_22 rfl ?_
    refine g_iret dX3_tintsAt_23 rfl (Nat.le_of_ble_eq_true rfl) (Nat.le_of_ble_eq_true rfl) ⟨?_, rfl⟩
    rw [if_neg (by omega)]
set_option maxHeartbeats 4000000 in
set_option maxRecDepth 100000 in
theorem k_X3_lookAt (Z : LZ) (a : Nat → Nat) (C : Mem) (fS fA : Nat → Option Nat) {D : Mem} (sa sb : Nat → Nat) (N : Nat) (hG : Good D) {T : Int → Bool} (hC : Cl D T) (hR : Rd D T N C) (hP : Pt D T C) (x : Int) (h0 : 0 ≤ x) (h1 : x < txtN D T) : Tr Z jX3_lookAt [.ref (a 102), .int (iI x)] (cW Z a C fS fA (sW Z D sa sb N)) (fun r w => r = some (.int (iI (nmX D T x * 16 + tnX D T x))) ∧ w = cW Z a C fS fA (sW Z D sa sb N)) := by
  refine tr_of pn_X3_lookAt (Nat.le_of_ble_eq_true rfl) (by intro v h; simp only [List.mem_cons, List.not_mem_nil, or_false] at h; rcases h with h | h <;> rw [h] <;> rfl) ?_
  have hl := ordF_len hG.1 hG.2.1 hC
  have ht := txtN_rg hG.1 hG.2.1 hC
  have h78 := hR.2.2.2.2.1
  have h77 := hR.2.1.1.1
  refine g_aload_n 0 dX3_lookAt_0 rfl rfl ?_
  refine g_iload_n 1 dX3_lookAt_1 rfl rfl ?_
  refine ckE lkX3_72 (k_X3_nameAt Z a C fS fA sa sb N hG hC hR x ⟨by omega, by omega⟩) dX3_lookAt_2 (And.intro (Nat.le_of_ble_eq_true rfl) (Nat.le_of_ble_eq_true rfl)) (ci := 3) (q0 := 30) rfl rfl (Nat.le_of_ble_eq_true rfl) rfl rfl (Nat.le_of_ble_eq_true rfl) (Nat.le_of_ble_eq_true rfl) rfl ?_
  rw [if_pos ⟨h0, h1⟩]
  refine g_bipush (iI 16) dX3_lookAt_5 (by decide) ?_
  refine gi_mul dX3_lookAt_7 ?_
  refine g_aload_n 0 dX3_lookAt_8 rfl rfl ?_
  refine g_iload_n 1 dX3_lookAt_9 rfl rfl ?_
  refine ckE lkX3_76 (k_X3_tintsAt Z a C fS fA sa sb N hG hC hR hP x ⟨by omega, by omega⟩) dX3_lookAt_10 (And.intro (Nat.le_of_ble_eq_true rfl) (Nat.le_of_ble_eq_true rfl)) (ci := 3) (q0 := 30) rfl rfl (Nat.le_of_ble_eq_true rfl) rfl rfl (Nat.le_of_ble_eq_true rfl) (Nat.le_of_ble_eq_true rfl) rfl ?_
  rw [if_pos ⟨h0, h1⟩]
  refine gi_add dX3_lookAt_13 ?_
  refine g_iret dX3_lookAt_14 rfl (Nat.le_of_ble_eq_true rfl) (Nat.le_of_ble_eq_true rfl) ⟨?_, rfl⟩
  rfl
set_option maxHeartbeats 4000000 in
set_option maxRecDepth 100000 in
theorem k_X3_hasStretch (Z : LZ) (a : Nat → Nat) (C : Mem) (fS fA : Nat → Option Nat) {D : Mem} (sa sb : Nat → Nat) (N : Nat) (hG : Good D) {T : Int → Bool} (hC : Cl D T) (hR : Rd D T N C) (x y : Int) (hx : Rg x) (hy : Rg y) : Tr Z jX3_hasStretch [.ref (a 102), .int (iI x), .int (iI y)] (cW Z a C fS fA (sW Z D sa sb N)) (fun r w => r = some (.int (iI (bI (decide (0 < y ∧ 0 ≤ x ∧ x ≤ txtN D T - y))))) ∧ w = cW Z a C fS fA (sW Z D sa sb N)) := by
  refine tr_of pn_X3_hasStretch (Nat.le_of_ble_eq_true rfl) (by intro v h; simp only [List.mem_cons, List.not_mem_nil, or_false] at h; rcases h with h | h | h <;> rw [h] <;> rfl) ?_
  have hl := ordF_len hG.1 hG.2.1 hC
  have ht := txtN_rg hG.1 hG.2.1 hC
  have h78 := hR.2.2.2.2.1
  have h77 := hR.2.1.1.1
  refine g_iload_n 2 dX3_hasStretch_0 rfl rfl ?_
  refine gi_if_le 22 dX3_hasStretch_1 (by decide) (by first | exact bI_Rg _ | assumption | exact ⟨by omega, by omega⟩) (fun c1 => ?_) (fun c1 => ?_)
  · refine g_iconst (iI 0) dX3_hasStretch_22 rfl ?_
    refine g_zret dX3_hasStretch_23 rfl (narrow_bool (by first | exact Or.inl rfl | exact Or.inr rfl | assumption | omega)) (Nat.le_of_ble_eq_true rfl) (Nat.le_of_ble_eq_true rfl) ⟨?_, rfl⟩
    first | (rw [decide_eq_true (by omega)]; rfl) | (rw [decide_eq_false (by omega)]; rfl)
  · refine g_iload_n 1 dX3_hasStretch_4 rfl rfl ?_
    refine gi_if_lt 22 dX3_hasStretch_5 (by decide) (by first | exact bI_Rg _ | assumption | exact ⟨by omega, by omega⟩) (fun c5 => ?_) (fun c5 => ?_)
    · refine g_iconst (iI 0) dX3_hasStretch_22 rfl ?_
      refine g_zret dX3_hasStretch_23 rfl (narrow_bool (by first | exact Or.inl rfl | exact Or.inr rfl | assumption | omega)) (Nat.le_of_ble_eq_true rfl) (Nat.le_of_ble_eq_true rfl) ⟨?_, rfl⟩
      first | (rw [decide_eq_true (by omega)]; rfl) | (rw [decide_eq_false (by omega)]; rfl)
    · refine g_iload_n 1 dX3_hasStretch_8 rfl rfl ?_
      refine g_aload_n 0 dX3_hasStretch_9 rfl rfl ?_
      refine cg_rd_textSize h78 dX3_hasStretch_10 flX3_65 ?_
      refine g_iload_n 2 dX3_hasStretch_13 rfl rfl ?_
      refine gi_sub dX3_hasStretch_14 ?_
      refine gi_icmp_gt 22 dX3_hasStretch_15 (by decide) (by first | exact bI_Rg _ | assumption | exact ⟨by omega, by omega⟩) (by first | exact bI_Rg _ | assumption | exact ⟨by omega, by omega⟩) (fun c15 => ?_) (fun c15 => ?_)
      · refine g_iconst (iI 0) dX3_hasStretch_22 rfl ?_
        refine g_zret dX3_hasStretch_23 rfl (narrow_bool (by first | exact Or.inl rfl | exact Or.inr rfl | assumption | omega)) (Nat.le_of_ble_eq_true rfl) (Nat.le_of_ble_eq_true rfl) ⟨?_, rfl⟩
        first | (rw [decide_eq_true (by omega)]; rfl) | (rw [decide_eq_false (by omega)]; rfl)
      · refine g_iconst (iI 1) dX3_hasStretch_18 rfl ?_
        refine g_goto 23 dX3_hasStretch_19 (by decide) ?_
        refine g_zret dX3_hasStretch_23 rfl (narrow_bool (by first | exact Or.inl rfl | exact Or.inr rfl | assumption | omega)) (Nat.le_of_ble_eq_true rfl) (Nat.le_of_ble_eq_true rfl) ⟨?_, rfl⟩
        first | (rw [decide_eq_true (by omega)]; rfl) | (rw [decide_eq_false (by omega)]; rfl)
set_option maxHeartbeats 4000000 in
set_option maxRecDepth 100000 in
theorem k_X3_isSeen (Z : LZ) (a : Nat → Nat) (C : Mem) (fS fA : Nat → Option Nat) {D : Mem} (sa sb : Nat → Nat) (N : Nat) (hG : Good D) {T : Int → Bool} (hC : Cl D T) (hR : Rd D T N C) (x : Int) (h0 : 0 ≤ x) (h1 : x < (ordF D T).length) : Tr Z jX3_isSeen [.ref (a 102), .int (iI x)] (cW Z a C fS fA (sW Z D sa sb N)) (fun r w => r = some (.int (iI (bI (Vi D T x)))) ∧ w = cW Z a C fS fA (sW Z D sa sb N)) := by
  refine tr_of pn_X3_isSeen (Nat.le_of_ble_eq_true rfl) (by intro v h; simp only [List.mem_cons, List.not_mem_nil, or_false] at h; rcases h with h | h <;> rw [h] <;> rfl) ?_
  have hl := ordF_len hG.1 hG.2.1 hC
  have ht := txtN_rg hG.1 hG.2.1 hC
  have h78 := hR.2.2.2.2.1
  have h77 := hR.2.1.1.1
  have e1 := hR.2.2.2.1 x.toNat (by omega)
  have e2 := hR.2.2.2.1 (x.toNat + 1) (by omega)
  rw [show ((x.toNat : Nat) : Int) = x by omega] at e1
  rw [show ((x.toNat + 1 : Nat) : Int) = x + 1 by omega] at e2
  have e3 : cntB (Vi D T) (x.toNat + 1) = cntB (Vi D T) x.toNat + bI (Vi D T x) := by
    conv => lhs; unfold cntB
    rw [show ((x.toNat : Nat) : Int) = x by omega]
  have e4 := cntB_rg (Vi D T) x.toNat
  have e5 := cntB_rg (Vi D T) (x.toNat + 1)
  have e6 := bI_01 (Vi D T x)
  refine g_aload_n 0 dX3_isSeen_0 rfl rfl ?_
  refine cg_rd_ahead dX3_isSeen_1 flX3_24 ?_
  refine g_iload_n 1 dX3_isSeen_4 rfl rfl ?_
  refine g_iconst (iI 1) dX3_isSeen_5 rfl ?_
  refine gi_add dX3_isSeen_6 ?_
  refine ca_74 e2 dX3_isSeen_7 (by omega) (by omega) ?_
  refine g_aload_n 0 dX3_isSeen_8 rfl rfl ?_
  refine cg_rd_ahead dX3_isSeen_9 flX3_24 ?_
  refine g_iload_n 1 dX3_isSeen_12 rfl rfl ?_
  refine ca_74 e1 dX3_isSeen_13 (by omega) (by omega) ?_
  refine gi_icmp_le 21 dX3_isSeen_14 (by decide) (by first | exact bI_Rg _ | assumption | exact ⟨by omega, by omega⟩) (by first | exact bI_Rg _ | assumption | exact ⟨by omega, by omega⟩) (fun c14 => ?_) (fun c14 => ?_)
  · refine g_iconst (iI 0) dX3_isSeen_21 rfl ?_
    refine g_zret dX3_isSeen_22 rfl (narrow_bool (by first | exact Or.inl rfl | exact Or.inr rfl | assumption | omega)) (Nat.le_of_ble_eq_true rfl) (Nat.le_of_ble_eq_true rfl) ⟨?_, rfl⟩
    first | (rw [show bI (Vi D T x) = 1 by omega]) | (rw [show bI (Vi D T x) = 0 by omega])
  · refine g_iconst (iI 1) dX3_isSeen_17 rfl ?_
    refine g_goto 22 dX3_isSeen_18 (by decide) ?_
    refine g_zret dX3_isSeen_22 rfl (narrow_bool (by first | exact Or.inl rfl | exact Or.inr rfl | assumption | omega)) (Nat.le_of_ble_eq_true rfl) (Nat.le_of_ble_eq_true rfl) ⟨?_, rfl⟩
    first | (rw [show bI (Vi D T x) = 1 by omega]) | (rw [show bI (Vi D T x) = 0 by omega])
set_option maxHeartbeats 4000000 in
set_option maxRecDepth 100000 in
theorem k_X3_nextBehind (Z : LZ) (a : Nat → Nat) (C : Mem) (fS fA : Nat → Option Nat) {D : Mem} (sa sb : Nat → Nat) (N : Nat) (hG : Good D) {T : Int → Bool} (hC : Cl D T) (hR : Rd D T N C) (x : Int) (hx : Rg x) (hin : x ∈ ordF D T) : Tr Z jX3_nextBehind [.ref (a 102), .int (iI x)] (cW Z a C fS fA (sW Z D sa sb N)) (fun r w => r = some (.int (iI (if inIx (ordF D T) x + 1 < (ordF D T).length then fF (ordF D T) (inIx (ordF D T) x + 1) else -2))) ∧ w = cW Z a C fS fA (sW Z D sa sb N)) := by
  refine tr_of pn_X3_nextBehind (Nat.le_of_ble_eq_true rfl) (by intro v h; simp only [List.mem_cons, List.not_mem_nil, or_false] at h; rcases h with h | h <;> rw [h] <;> rfl) ?_
  have hl := ordF_len hG.1 hG.2.1 hC
  have ht := txtN_rg hG.1 hG.2.1 hC
  have h78 := hR.2.2.2.2.1
  have h77 := hR.2.1.1.1
  have hi0 := inIx_mem hin
  have hi1 := inIx_rg (ordF D T) x
  refine g_aload_n 0 dX3_nextBehind_0 rfl rfl ?_
  refine g_iload_n 1 dX3_nextBehind_1 rfl rfl ?_
  refine ckE lkX3_85 (k_X3_spotOf Z a C fS fA sa sb N hG hR.2.1 x hx) dX3_nextBehind_2 (And.intro (Nat.le_of_ble_eq_true rfl) (Nat.le_of_ble_eq_true rfl)) (ci := 3) (q0 := 30) rfl rfl (Nat.le_of_ble_eq_true rfl) rfl rfl (Nat.le_of_ble_eq_true rfl) (Nat.le_of_ble_eq_true rfl) rfl ?_
  refine g_iconst (iI 1) dX3_nextBehind_5 rfl ?_
  refine gi_add dX3_nextBehind_6 ?_
  refine g_istore_n 2 dX3_nextBehind_7 rfl (Nat.le_of_ble_eq_true rfl) (Nat.le_of_ble_eq_true rfl) rfl ?_
  dsimp only [sto]
  refine g_iload_n 2 dX3_nextBehind_8 rfl rfl ?_
  refine g_aload_n 0 dX3_nextBehind_9 rfl rfl ?_
  refine cg_rd_orderSize h77 dX3_nextBehind_10 flX3_88 ?_
  refine gi_icmp_ge 25 dX3_nextBehind_13 (by decide) (by first | exact bI_Rg _ | assumption | exact ⟨by omega, by omega⟩) (by first | exact bI_Rg _ | assumption | exact ⟨by omega, by omega⟩) (fun c13 => ?_) (fun c13 => ?_)
  · refine g_bipush (iI (-2)) dX3_nextBehind_25 (by decide) ?_
    refine g_iret dX3_nextBehind_27 rfl (Nat.le_of_ble_eq_true rfl) (Nat.le_of_ble_eq_true rfl) ⟨?_, rfl⟩
    first | rw [if_pos (by omega)] | rw [if_neg (by omega)]
  · refine g_aload_n 0 dX3_nextBehind_16 rfl rfl ?_
    refine cg_rd_order dX3_nextBehind_17 flX3_15 ?_
    refine g_iload_n 2 dX3_nextBehind_20 rfl rfl ?_
    refine ca_71 (hR.2.1.1.2 _ (by omega) (by omega)) dX3_nextBehind_21 (by omega) (by omega) ?_
    refine g_goto 27 dX3_nextBehind_22 (by decide) ?_
    refine g_iret dX3_nextBehind_27 rfl (Nat.le_of_ble_eq_true rfl) (Nat.le_of_ble_eq_true rfl) ⟨?_, rfl⟩
    first | rw [if_pos (by omega)] | rw [if_neg (by omega)]
set_option maxHeartbeats 4000000 in
set_option maxRecDepth 100000 in
theorem k_X0_penOf (Z : LZ) (a : Nat → Nat) (C : Mem) (fS fA : Nat → Option Nat) {D : Mem} (sa sb : Nat → Nat) (N : Nat) (hG : Good D) (hB : Bk D C fS fA sa N) (x : Int) (hx : 0 ≤ x ∧ x / 4 < D 9 0 ∧ D 2 (x / 4) = 0 ∧ x % 4 < D 3 (x / 4)) : Tr Z jX0_penOf [.ref (a 100), .int (iI x)] (cW Z a C fS fA (sW Z D sa sb N)) (fun r w => r = some (.int (iI (D 0 (x / 4)))) ∧ w = cW Z a C fS fA (sW Z D sa sb N)) := by
  refine tr_of pn_X0_penOf (Nat.le_of_ble_eq_true rfl) (by intro v h; simp only [List.mem_cons, List.not_mem_nil, or_false] at h; rcases h with h | h <;> rw [h] <;> rfl) ?_
  have h9 := hB.d9
  have hn := hB.n
  have hpt : ptF x = x / 4 := by unfold ptF; rw [if_neg (by omega)]
  have hs : (x / 4).toNat < N := by omega
  have he : (((x / 4).toNat : Nat) : Int) = x / 4 := by omega
  have hS := hG.s hB hs
  have hd3 := hS.d3
  rw [he] at hd3
  have hk : D 2 ((x / 4).toNat : Nat) = 0 := by rw [he]; exact hx.2.2.1
  refine g_aload_n 0 dX0_penOf_0 rfl rfl ?_
  refine g_iload_n 1 dX0_penOf_1 rfl rfl ?_
  refine ckN (by first | exact bI_Rg _ | assumption | exact ⟨by omega, by omega⟩) lknX0_42 dX0_penOf_2 (And.intro (Nat.le_of_ble_eq_true rfl) (Nat.le_of_ble_eq_true rfl)) (Nat.le_of_ble_eq_true rfl) (Nat.le_of_ble_eq_true rfl) (Nat.le_of_ble_eq_true rfl) ?_
  rw [hpt]
  refine ckE lkX0_46 (k_X0_find Z a C fS fA sa sb N hB.n hB.c1 hB.sl (x / 4) ⟨by omega, by omega⟩) dX0_penOf_5 (And.intro (Nat.le_of_ble_eq_true rfl) (Nat.le_of_ble_eq_true rfl)) (ci := 0) (q0 := 1) rfl rfl (Nat.le_of_ble_eq_true rfl) rfl rfl (Nat.le_of_ble_eq_true rfl) (Nat.le_of_ble_eq_true rfl) rfl ?_
  rw [if_pos (by omega)]
  refine g_astore_n 2 dX0_penOf_8 rfl (Nat.le_of_ble_eq_true rfl) (Nat.le_of_ble_eq_true rfl) rfl ?_
  dsimp only [sto]
  refine g_aload_n 2 dX0_penOf_9 rfl rfl ?_
  refine g_ifnonnull 17 dX0_penOf_10 (by decide) ?_
  refine g_aload_n 2 dX0_penOf_17 rfl rfl ?_
  refine cg_sl_pen hs dX0_penOf_18 flX0_53 ?_
  refine g_iret dX0_penOf_21 rfl (Nat.le_of_ble_eq_true rfl) (Nat.le_of_ble_eq_true rfl) ⟨?_, rfl⟩
  rw [he]
set_option maxHeartbeats 4000000 in
set_option maxRecDepth 100000 in
theorem k_X0_codeOf (Z : LZ) (a : Nat → Nat) (C : Mem) (fS fA : Nat → Option Nat) {D : Mem} (sa sb : Nat → Nat) (N : Nat) (hG : Good D) (hB : Bk D C fS fA sa N) (x : Int) (hx : 0 ≤ x ∧ x / 4 < D 9 0 ∧ D 2 (x / 4) = 0 ∧ x % 4 < D 3 (x / 4)) : Tr Z jX0_codeOf [.ref (a 100), .int (iI x)] (cW Z a C fS fA (sW Z D sa sb N)) (fun r w => r = some (.int (iI (D 5 x))) ∧ w = cW Z a C fS fA (sW Z D sa sb N)) := by
  refine tr_of pn_X0_codeOf (Nat.le_of_ble_eq_true rfl) (by intro v h; simp only [List.mem_cons, List.not_mem_nil, or_false] at h; rcases h with h | h <;> rw [h] <;> rfl) ?_
  have h9 := hB.d9
  have hn := hB.n
  have hpt : ptF x = x / 4 := by unfold ptF; rw [if_neg (by omega)]
  have hs : (x / 4).toNat < N := by omega
  have he : (((x / 4).toNat : Nat) : Int) = x / 4 := by omega
  have hS := hG.s hB hs
  have hd3 := hS.d3
  rw [he] at hd3
  have hk : D 2 ((x / 4).toNat : Nat) = 0 := by rw [he]; exact hx.2.2.1
  refine g_aload_n 0 dX0_codeOf_0 rfl rfl ?_
  refine g_iload_n 1 dX0_codeOf_1 rfl rfl ?_
  refine ckN (by first | exact bI_Rg _ | assumption | exact ⟨by omega, by omega⟩) lknX0_42 dX0_codeOf_2 (And.intro (Nat.le_of_ble_eq_true rfl) (Nat.le_of_ble_eq_true rfl)) (Nat.le_of_ble_eq_true rfl) (Nat.le_of_ble_eq_true rfl) (Nat.le_of_ble_eq_true rfl) ?_
  rw [hpt]
  refine ckE lkX0_46 (k_X0_find Z a C fS fA sa sb N hB.n hB.c1 hB.sl (x / 4) ⟨by omega, by omega⟩) dX0_codeOf_5 (And.intro (Nat.le_of_ble_eq_true rfl) (Nat.le_of_ble_eq_true rfl)) (ci := 0) (q0 := 1) rfl rfl (Nat.le_of_ble_eq_true rfl) rfl rfl (Nat.le_of_ble_eq_true rfl) (Nat.le_of_ble_eq_true rfl) rfl ?_
  rw [if_pos (by omega)]
  refine py_put hs hk dX0_codeOf_8 dX0_codeOf_9 dX0_codeOf_10 clX0_36 45 dX0_codeOf_13 (by decide) dX0_codeOf_16 dX0_codeOf_17 clX0_36 dX0_codeOf_20 (Nat.le_of_ble_eq_true rfl) rfl ?_
  dsimp only [List.cons_append, List.nil_append]
  refine g_iload_n 1 dX0_codeOf_21 rfl rfl ?_
  refine g_iconst (iI 4) dX0_codeOf_22 rfl ?_
  refine gi_rem dX0_codeOf_23 (by omega) (by omega) (by decide) (by decide) ?_
  refine g_istore_n 3 dX0_codeOf_24 rfl (Nat.le_of_ble_eq_true rfl) (Nat.le_of_ble_eq_true rfl) rfl ?_
  dsimp only [sto]
  refine g_iload_n 3 dX0_codeOf_25 rfl rfl ?_
  refine g_aload_n 2 dX0_codeOf_26 rfl rfl ?_
  refine cg_put_codes hs hk dX0_codeOf_27 flX0_50 ?_
  refine cl_codes hs hk (by rw [he]; omega) dX0_codeOf_30 ?_
  refine gi_icmp_ge 43 dX0_codeOf_31 (by decide) ⟨by omega, by omega⟩ (by rw [he]; exact ⟨by omega, by omega⟩) (fun c31 => ?_) (fun c31 => ?_)
  · exfalso; rw [he] at c31; omega
  · refine g_aload_n 2 dX0_codeOf_34 rfl rfl ?_
    refine cg_put_codes hs hk dX0_codeOf_35 flX0_50 ?_
    refine g_iload_n 3 dX0_codeOf_38 rfl rfl ?_
    refine ca_codes hs hk (by rw [he]; omega) dX0_codeOf_39 (by omega) (by rw [he]; omega) ?_
    refine g_goto 44 dX0_codeOf_40 (by decide) ?_
    refine g_iret dX0_codeOf_44 rfl (Nat.le_of_ble_eq_true rfl) (Nat.le_of_ble_eq_true rfl) ⟨?_, rfl⟩
    rw [he, show 4 * (x / 4) + x % 4 = x by omega]
