/-! THE CLASS: paint -/
def tw (f : Int → Bool) : Int := bI (f 0) + 2 * bI (f 1) + 4 * bI (f 2) + 8 * bI (f 3)
theorem tw_rg (f : Int → Bool) : 0 ≤ tw f ∧ tw f ≤ 15 := by
  have := bI_01 (f 0)
  have := bI_01 (f 1)
  have := bI_01 (f 2)
  have := bI_01 (f 3)
  unfold tw
  omega
theorem tw_congr {f g : Int → Bool} (h : ∀ t : Int, 0 ≤ t → t < 4 → f t = g t) : tw f = tw g := by
  unfold tw
  rw [h 0 (by decide) (by decide), h 1 (by decide) (by decide), h 2 (by decide) (by decide), h 3 (by decide) (by decide)]
theorem tb_or0 : ∀ b0 b1 b2 b3 : Bool, iI (bI b0 + 2 * bI b1 + 4 * bI b2 + 8 * bI b3) ||| iI (p2 0) = iI (bI true + 2 * bI b1 + 4 * bI b2 + 8 * bI b3) := by decide
theorem tb_or1 : ∀ b0 b1 b2 b3 : Bool, iI (bI b0 + 2 * bI b1 + 4 * bI b2 + 8 * bI b3) ||| iI (p2 1) = iI (bI b0 + 2 * bI true + 4 * bI b2 + 8 * bI b3) := by decide
theorem tb_or2 : ∀ b0 b1 b2 b3 : Bool, iI (bI b0 + 2 * bI b1 + 4 * bI b2 + 8 * bI b3) ||| iI (p2 2) = iI (bI b0 + 2 * bI b1 + 4 * bI true + 8 * bI b3) := by decide
theorem tb_or3 : ∀ b0 b1 b2 b3 : Bool, iI (bI b0 + 2 * bI b1 + 4 * bI b2 + 8 * bI b3) ||| iI (p2 3) = iI (bI b0 + 2 * bI b1 + 4 * bI b2 + 8 * bI true) := by decide
theorem tw_or (f : Int → Bool) {t : Int} (h0 : 0 ≤ t) (h1 : t < 4) : iI (tw f) ||| iI (p2 t.toNat) = iI (tw (fun u => if u = t then true else f u)) := by
  have h : t = 0 ∨ t = 1 ∨ t = 2 ∨ t = 3 := by omega
  rcases h with rfl | rfl | rfl | rfl
  · exact tb_or0 (f 0) (f 1) (f 2) (f 3)
  · exact tb_or1 (f 0) (f 1) (f 2) (f 3)
  · exact tb_or2 (f 0) (f 1) (f 2) (f 3)
  · exact tb_or3 (f 0) (f 1) (f 2) (f 3)
theorem tb_off0 : ∀ b0 b1 b2 b3 : Bool, iI (bI b0 + 2 * bI b1 + 4 * bI b2 + 8 * bI b3) &&& (iI (p2 0) ^^^ iI (-1)) = iI (bI false + 2 * bI b1 + 4 * bI b2 + 8 * bI b3) := by decide
theorem tb_off1 : ∀ b0 b1 b2 b3 : Bool, iI (bI b0 + 2 * bI b1 + 4 * bI b2 + 8 * bI b3) &&& (iI (p2 1) ^^^ iI (-1)) = iI (bI b0 + 2 * bI false + 4 * bI b2 + 8 * bI b3) := by decide
theorem tb_off2 : ∀ b0 b1 b2 b3 : Bool, iI (bI b0 + 2 * bI b1 + 4 * bI b2 + 8 * bI b3) &&& (iI (p2 2) ^^^ iI (-1)) = iI (bI b0 + 2 * bI b1 + 4 * bI false + 8 * bI b3) := by decide
theorem tb_off3 : ∀ b0 b1 b2 b3 : Bool, iI (bI b0 + 2 * bI b1 + 4 * bI b2 + 8 * bI b3) &&& (iI (p2 3) ^^^ iI (-1)) = iI (bI b0 + 2 * bI b1 + 4 * bI b2 + 8 * bI false) := by decide
theorem tw_off (f : Int → Bool) {t : Int} (h0 : 0 ≤ t) (h1 : t < 4) : iI (tw f) &&& (iI (p2 t.toNat) ^^^ iI (-1)) = iI (tw (fun u => if u = t then false else f u)) := by
  have h : t = 0 ∨ t = 1 ∨ t = 2 ∨ t = 3 := by omega
  rcases h with rfl | rfl | rfl | rfl
  · exact tb_off0 (f 0) (f 1) (f 2) (f 3)
  · exact tb_off1 (f 0) (f 1) (f 2) (f 3)
  · exact tb_off2 (f 0) (f 1) (f 2) (f 3)
  · exact tb_off3 (f 0) (f 1) (f 2) (f 3)
theorem tb_and0 : ∀ b0 b1 b2 b3 : Bool, iI (bI b0 + 2 * bI b1 + 4 * bI b2 + 8 * bI b3) &&& iI (p2 0) = iI (if b0 = true then p2 0 else 0) := by decide
theorem tb_and1 : ∀ b0 b1 b2 b3 : Bool, iI (bI b0 + 2 * bI b1 + 4 * bI b2 + 8 * bI b3) &&& iI (p2 1) = iI (if b1 = true then p2 1 else 0) := by decide
theorem tb_and2 : ∀ b0 b1 b2 b3 : Bool, iI (bI b0 + 2 * bI b1 + 4 * bI b2 + 8 * bI b3) &&& iI (p2 2) = iI (if b2 = true then p2 2 else 0) := by decide
theorem tb_and3 : ∀ b0 b1 b2 b3 : Bool, iI (bI b0 + 2 * bI b1 + 4 * bI b2 + 8 * bI b3) &&& iI (p2 3) = iI (if b3 = true then p2 3 else 0) := by decide
theorem tw_and (f : Int → Bool) {t : Int} (h0 : 0 ≤ t) (h1 : t < 4) : iI (tw f) &&& iI (p2 t.toNat) = iI (if f t = true then p2 t.toNat else 0) := by
  have h : t = 0 ∨ t = 1 ∨ t = 2 ∨ t = 3 := by omega
  rcases h with rfl | rfl | rfl | rfl
  · exact tb_and0 (f 0) (f 1) (f 2) (f 3)
  · exact tb_and1 (f 0) (f 1) (f 2) (f 3)
  · exact tb_and2 (f 0) (f 1) (f 2) (f 3)
  · exact tb_and3 (f 0) (f 1) (f 2) (f 3)
theorem tin_tw (D : Mem) (T : Int → Bool) (i : Int) : tinF D T i 4 = tw (hasT D T i) := by
  have h0 : hasT D T i ((0 : Nat) : Int) = hasT D T i 0 := rfl
  have h1 : hasT D T i ((1 : Nat) : Int) = hasT D T i 1 := rfl
  have h2 : hasT D T i ((2 : Nat) : Int) = hasT D T i 2 := rfl
  have h3 : hasT D T i ((3 : Nat) : Int) = hasT D T i 3 := rfl
  simp only [tinF, tw, h0, h1, h2, h3]
  cases hasT D T i 0 <;> cases hasT D T i 1 <;> cases hasT D T i 2 <;> cases hasT D T i 3 <;> decide
theorem Lat_tr {D : Mem} {a b c : Int} (h : Lat D a b) (g : Lat D b c) : Lat D a c := by
  unfold Lat at *
  omega
theorem Lat_ir {D : Mem} {a : Int} (h : Lat D a a) : False := by
  unfold Lat at h
  omega
theorem ltF_max {D : Mem} {N : Nat} (hO : okO D N) (P : Int → Bool) : ∀ k : Nat, k ≤ N → (ltF D P k = -1 ∧ ∀ s : Nat, s < k → P s = false) ∨ (0 ≤ ltF D P k ∧ ltF D P k < k ∧ P (ltF D P k) = true ∧ ∀ s : Nat, s < k → P s = true → (s : Int) = ltF D P k ∨ Lat D (ltF D P k) s) := by
  intro k
  induction k with
  | zero => intro _; exact Or.inl ⟨rfl, fun s h => by omega⟩
  | succ k ih =>
    intro hk
    have ih2 := ih (by omega)
    by_cases hc : P k = true ∧ (ltF D P k < 0 ∨ laterB D k (ltF D P k) = true)
    · have e : ltF D P (k + 1) = k := by conv => lhs; unfold ltF
                                         rw [if_pos hc]
      rw [e]
      refine Or.inr ⟨by omega, by omega, hc.1, fun s hs hp => ?_⟩
      by_cases q : s = k
      · exact Or.inl (by omega)
      · right
        rcases ih2 with ⟨a, b⟩ | ⟨a, b, c, d⟩
        · have := b s (by omega); rw [this] at hp; cases hp
        · rcases hc.2 with g | g
          · omega
          · rcases d s (by omega) hp with d1 | d1
            · rw [d1]; exact laterB_iff.mp g
            · exact Lat_tr (laterB_iff.mp g) d1
    · have e : ltF D P (k + 1) = ltF D P k := by conv => lhs; unfold ltF
                                                 rw [if_neg hc]
      rw [e]
      rcases ih2 with ⟨a, b⟩ | ⟨a, b, c, d⟩
      · refine Or.inl ⟨a, fun s hs => ?_⟩
        by_cases q : s = k
        · subst q
          cases g : P s
          · rfl
          · exact absurd ⟨g, Or.inl (by omega)⟩ hc
        · exact b s (by omega)
      · refine Or.inr ⟨a, by omega, c, fun s hs hp => ?_⟩
        by_cases q : s = k
        · subst q
          by_cases e2 : (s : Int) = ltF D P s
          · exact Or.inl e2
          · right
            rcases hO.2 s (ltF D P s) (by omega) (by omega) a (by omega) e2 with g | g
            · exact absurd ⟨hp, Or.inr (laterB_iff.mpr g)⟩ hc
            · exact g
        · exact d s (by omega) hp
def laP (P : Int → Bool) (l : List Nat) : Int := l.foldl (fun (b : Int) (m : Nat) => if P m = true then (m : Int) else b) (-1)
theorem laP_snoc (P : Int → Bool) (l : List Nat) (m : Nat) : laP P (l ++ [m]) = if P m = true then (m : Int) else laP P l := by
  unfold laP
  rw [List.foldl_append]
  rfl
theorem laP_spec {D : Mem} (P : Int → Bool) {L : List Nat} (hL : L.Pairwise (fun s t : Nat => Lat D t s)) : ∀ k : Nat, k ≤ L.length → (laP P (L.take k) = -1 ∧ ∀ s ∈ L.take k, P (s : Int) = false) ∨ ∃ m ∈ L.take k, laP P (L.take k) = (m : Int) ∧ P m = true ∧ ∀ s ∈ L.take k, P (s : Int) = true → s = m ∨ Lat D m s := by
  intro k
  induction k with
  | zero => intro _; left; exact ⟨by simp [laP], fun s hs => by simp at hs⟩
  | succ k ih =>
    intro hk
    have e : L.take (k + 1) = L.take k ++ [L[k]] := (List.take_append_getElem (by omega)).symm
    have hp : (L.take (k + 1)).Pairwise (fun s t : Nat => Lat D t s) := hL.sublist (List.take_sublist _ _)
    rw [e] at hp
    rw [List.pairwise_append] at hp
    have ih2 := ih (by omega)
    rw [e, laP_snoc]
    by_cases hq : P (L[k] : Nat) = true
    · rw [if_pos hq]
      right
      refine ⟨L[k], List.mem_append_right _ List.mem_cons_self, rfl, hq, fun s hs _ => ?_⟩
      rcases List.mem_append.mp hs with g | g
      · exact Or.inr (hp.2.2 s g _ List.mem_cons_self)
      · exact Or.inl (List.mem_singleton.mp g)
    · rw [if_neg hq]
      rcases ih2 with ⟨a, b⟩ | ⟨m, a, b, c, d⟩
      · left
        refine ⟨a, fun s hs => ?_⟩
        rcases List.mem_append.mp hs with g | g
        · exact b s g
        · rw [List.mem_singleton.mp g]
          cases z : P (L[k] : Nat)
          · rfl
          · exact absurd z hq
      · right
        refine ⟨m, List.mem_append_left _ a, b, c, fun s hs hs2 => ?_⟩
        rcases List.mem_append.mp hs with g | g
        · exact d s g hs2
        · rw [List.mem_singleton.mp g] at hs2
          exact absurd hs2 hq
theorem laP_ltF {D : Mem} {N : Nat} (hO : okO D N) (P : Int → Bool) {L : List Nat} (hL : L.Pairwise (fun s t : Nat => Lat D t s)) (h1 : ∀ s ∈ L, s < N) (h2 : ∀ s : Nat, s < N → s ∈ L) : laP P L = ltF D P N := by
  have g := laP_spec P hL L.length (Nat.le_refl _)
  rw [List.take_length] at g
  have q := ltF_max hO P N (Nat.le_refl _)
  rcases g with ⟨a, b⟩ | ⟨m, a, b, c, d⟩
  · rcases q with ⟨a2, b2⟩ | ⟨a2, b2, c2, d2⟩
    · rw [a, a2]
    · exfalso
      have := b (ltF D P N).toNat (h2 _ (by omega))
      rw [show (((ltF D P N).toNat : Nat) : Int) = ltF D P N by omega, c2] at this
      cases this
  · rcases q with ⟨a2, b2⟩ | ⟨a2, b2, c2, d2⟩
    · have := b2 m (h1 m a)
      rw [c] at this
      cases this
    · rw [b]
      rcases d2 m (h1 m a) c with g | g
      · exact g
      · rcases d (ltF D P N).toNat (h2 _ (by omega)) (by rw [show (((ltF D P N).toNat : Nat) : Int) = ltF D P N by omega]; exact c2) with g2 | g2
        · omega
        · rw [show (((ltF D P N).toNat : Nat) : Int) = ltF D P N by omega] at g2
          exact absurd (Lat_tr g g2) Lat_ir
theorem sub2 {x y : Int} : ∀ {F : List Int}, List.Sublist [x, y] F → ∃ i j : Nat, i < j ∧ F[i]? = some x ∧ F[j]? = some y := by
  intro F
  induction F with
  | nil => intro h; cases h
  | cons z t ih =>
    intro h
    cases h with
    | cons _ h2 =>
      obtain ⟨i, j, a, b, c⟩ := ih h2
      exact ⟨i + 1, j + 1, by omega, by simpa using b, by simpa using c⟩
    | cons_cons _ h2 =>
      have := List.singleton_sublist.mp h2
      obtain ⟨j, hj, e⟩ := List.getElem_of_mem this
      exact ⟨0, j + 1, by omega, by simp, by simp [List.getElem?_eq_getElem hj, e]⟩
theorem sub2_ix {x y : Int} {F : List Int} (hnd : F.Nodup) (h : List.Sublist [x, y] F) : 0 ≤ inIx F x ∧ inIx F x < inIx F y := by
  obtain ⟨i, j, a, b, c⟩ := sub2 h
  obtain ⟨hi, ei⟩ := List.getElem?_eq_some_iff.mp b
  obtain ⟨hj, ej⟩ := List.getElem?_eq_some_iff.mp c
  rw [fF_get hi] at ei
  rw [fF_get hj] at ej
  have g1 := inIx_at hnd (k := i) (by omega) (by omega)
  have g2 := inIx_at hnd (k := j) (by omega) (by omega)
  rw [ei] at g1
  rw [ej] at g2
  omega
def enF (D : Mem) (F : List Int) (m : Int) : Int := if D 6 m = -3 then inIx F (D 4 (12 * m + 1)) + 1 else if D 6 m = -2 then (F.length : Int) else inIx F (D 6 m)
def frF (D : Mem) (F : List Int) (m : Int) : Int := if 0 < inIx F (D 4 (12 * m)) then inIx F (D 4 (12 * m)) else 0
theorem co_rng {D : Mem} {F : List Int} {m i : Int} (h0 : 0 ≤ i) (h1 : i < F.length) (h6 : 0 ≤ D 6 m → inIx F (D 4 (12 * m + 1)) < inIx F (D 6 m)) (h6r : -3 ≤ D 6 m ∧ D 6 m ≠ -1) : coB D F m i = true ↔ frF D F m ≤ i ∧ i < enF D F m := by
  have g1 := inIx_rg F (D 4 (12 * m))
  have g2 := inIx_rg F (D 4 (12 * m + 1))
  have g3 := inIx_rg F (D 6 m)
  have hfr : frF D F m ≤ i ↔ inIx F (D 4 (12 * m)) ≤ i := by
    unfold frF
    split <;> omega
  rw [hfr]
  unfold coB enF
  simp only [Bool.or_eq_true, Bool.and_eq_true, decide_eq_true_eq]
  by_cases e3 : D 6 m = -3
  · rw [if_pos e3]
    constructor
    · rintro (h | h)
      · omega
      · exact absurd e3 h.1.2
    · intro h; left; omega
  · rw [if_neg e3]
    by_cases e2 : D 6 m = -2
    · rw [if_pos e2]
      constructor
      · rintro (h | h) <;> omega
      · intro h; right; exact ⟨⟨h.1, e3⟩, Or.inl e2⟩
    · rw [if_neg e2]
      have := h6 (by omega)
      constructor
      · rintro (h | h)
        · omega
        · rcases h.2 with q | q
          · exact absurd q e2
          · omega
      · intro h; right; exact ⟨⟨h.1, e3⟩, Or.inr h.2⟩
def mkT (D : Mem) (F : List Int) (m i : Int) (f : Int → Bool) (t : Int) : Bool := if coB D F m i = true ∧ t = D 7 m then decide (D 8 m = 1) else f t
set_option maxHeartbeats 4000000 in
set_option maxRecDepth 100000 in
theorem k_X3_endOf (Z : LZ) (a : Nat → Nat) (C : Mem) (fS fA : Nat → Option Nat) {D : Mem} (sa sb : Nat → Nat) (N : Nat) (hG : Good D) (h9 : D 9 0 = N) {T : Int → Bool} (hC : Cl D T) (hO : Od D T C) (m : Nat) (hs : m < N) (hk : D 2 m = 2) : Tr Z jX3_endOf [.ref (a 102), .ref (sa m)] (cW Z a C fS fA (sW Z D sa sb N)) (fun r w => r = some (.int (iI (enF D (ordF D T) m))) ∧ w = cW Z a C fS fA (sW Z D sa sb N)) := by
  refine tr_of pn_X3_endOf (Nat.le_of_ble_eq_true rfl) (by intro v h; simp only [List.mem_cons, List.not_mem_nil, or_false] at h; rcases h with h | h <;> rw [h] <;> rfl) ?_
  have hl := ordF_len hG.1 hG.2.1 hC
  have hM := hG.1.1
  have hSm : okS D m := hG.1.2.2.1 m (by omega) (by omega)
  have hmm := hSm.2.2.2.2.1 hk
  have i1 := inIx_rg (ordF D T) (D 4 (12 * m))
  have i2 := inIx_rg (ordF D T) (D 4 (12 * m + 1))
  have i3 := inIx_rg (ordF D T) (D 6 m)
  refine g_aload_n 1 dX3_endOf_0 rfl rfl ?_
  refine cg_mrk_bound hs hk dX3_endOf_1 flX3_124 ?_
  refine g_bipush (iI (-3)) dX3_endOf_4 (by decide) ?_
  refine gi_icmp_ne 20 dX3_endOf_6 (by decide) (hM _ _) ⟨by decide, by decide⟩ (fun c6 => ?_) (fun c6 => ?_)
  · refine g_aload_n 1 dX3_endOf_20 rfl rfl ?_
    refine cg_mrk_bound hs hk dX3_endOf_21 flX3_124 ?_
    refine g_bipush (iI (-2)) dX3_endOf_24 (by decide) ?_
    refine gi_icmp_ne 36 dX3_endOf_26 (by decide) (hM _ _) ⟨by decide, by decide⟩ (fun c26 => ?_) (fun c26 => ?_)
    · refine g_aload_n 0 dX3_endOf_36 rfl rfl ?_
      refine g_aload_n 1 dX3_endOf_37 rfl rfl ?_
      refine cg_mrk_bound hs hk dX3_endOf_38 flX3_124 ?_
      refine ckE lkX3_85 (k_X3_spotOf Z a C fS fA sa sb N hG hO (D 6 m) (hM _ _)) dX3_endOf_41 (And.intro (Nat.le_of_ble_eq_true rfl) (Nat.le_of_ble_eq_true rfl)) (ci := 3) (q0 := 30) rfl rfl (Nat.le_of_ble_eq_true rfl) rfl rfl (Nat.le_of_ble_eq_true rfl) (Nat.le_of_ble_eq_true rfl) rfl ?_
      refine g_iret dX3_endOf_44 rfl (Nat.le_of_ble_eq_true rfl) (Nat.le_of_ble_eq_true rfl) ⟨?_, rfl⟩
      unfold enF
      rw [if_neg (by omega), if_neg (by omega)]
    · refine g_aload_n 0 dX3_endOf_29 rfl rfl ?_
      refine cg_rd_orderSize hO.1.1 dX3_endOf_30 flX3_88 ?_
      refine g_goto 44 dX3_endOf_33 (by decide) ?_
      refine g_iret dX3_endOf_44 rfl (Nat.le_of_ble_eq_true rfl) (Nat.le_of_ble_eq_true rfl) ⟨?_, rfl⟩
      unfold enF
      rw [if_neg (by omega), if_pos (by omega)]
  · refine g_aload_n 0 dX3_endOf_9 rfl rfl ?_
    refine g_aload_n 1 dX3_endOf_10 rfl rfl ?_
    refine cg_mrk_last hs hk dX3_endOf_11 flX3_127 ?_
    refine ckE lkX3_85 (k_X3_spotOf Z a C fS fA sa sb N hG hO (D 4 (12 * m + 1)) (hM _ _)) dX3_endOf_14 (And.intro (Nat.le_of_ble_eq_true rfl) (Nat.le_of_ble_eq_true rfl)) (ci := 3) (q0 := 30) rfl rfl (Nat.le_of_ble_eq_true rfl) rfl rfl (Nat.le_of_ble_eq_true rfl) (Nat.le_of_ble_eq_true rfl) rfl ?_
    refine g_iconst (iI 1) dX3_endOf_17 rfl ?_
    refine gi_add dX3_endOf_18 ?_
    refine g_iret dX3_endOf_19 rfl (Nat.le_of_ble_eq_true rfl) (Nat.le_of_ble_eq_true rfl) ⟨?_, rfl⟩
    unfold enF
    rw [if_pos (by omega)]
set_option maxHeartbeats 4000000 in
set_option maxRecDepth 100000 in
theorem k_X3_lay (Z : LZ) (a : Nat → Nat) (C : Mem) (fS fA : Nat → Option Nat) {D : Mem} (sa sb : Nat → Nat) (N : Nat) (hG : Good D) (h9 : D 9 0 = N) {T : Int → Bool} (hC : Cl D T) (hO : Od D T C) (m : Nat) (hs : m < N) (hk : D 2 m = 2) (h6 : 0 ≤ D 6 m → inIx (ordF D T) (D 4 (12 * m + 1)) < inIx (ordF D T) (D 6 m)) (f : Int → Int → Bool) (hf : ∀ i : Int, 0 ≤ i → i < (ordF D T).length → C 76 i = tw (f i)) : Tr Z jX3_lay [.ref (a 102), .ref (sa m)] (cW Z a C fS fA (sW Z D sa sb N)) (fun r w => ∃ C3 : Mem, r = none ∧ w = cW Z a C3 fS fA (sW Z D sa sb N) ∧ ((∀ q : Nat, q ≠ 76 → C3 q = C q) ∧ ∀ i : Int, 0 ≤ i → i < (ordF D T).length → C3 76 i = tw (mkT D (ordF D T) m i (f i)))) := by
  refine tr_of pn_X3_lay (Nat.le_of_ble_eq_true rfl) (by intro v h; simp only [List.mem_cons, List.not_mem_nil, or_false] at h; rcases h with h | h <;> rw [h] <;> rfl) ?_
  have hl := ordF_len hG.1 hG.2.1 hC
  have hM := hG.1.1
  have hSm : okS D m := hG.1.2.2.1 m (by omega) (by omega)
  have hmm := hSm.2.2.2.2.1 hk
  have i1 := inIx_rg (ordF D T) (D 4 (12 * m))
  have i2 := inIx_rg (ordF D T) (D 4 (12 * m + 1))
  have i3 := inIx_rg (ordF D T) (D 6 m)
  have h8 := hG.1.2.2.2.1 m
  have h6r : -3 ≤ D 6 m ∧ D 6 m ≠ -1 := by
    rcases hmm.2.1 with q | q | q <;> omega
  have hen : -1 ≤ enF D (ordF D T) m ∧ enF D (ordF D T) m ≤ (ordF D T).length := by
    unfold enF
    split
    · omega
    · split <;> omega
  have hfr : 0 ≤ frF D (ordF D T) m ∧ frF D (ordF D T) m < 768 := by
    unfold frF
    split <;> omega
  have loop : ∀ (fuel : Nat) (C2 : Mem) (j : Int), (enF D (ordF D T) m - j).toNat < fuel → j ≤ 768 → frF D (ordF D T) m ≤ j → (∀ q : Nat, q ≠ 76 → C2 q = C q) → (∀ i : Int, 0 ≤ i → i < (ordF D T).length → C2 76 i = if frF D (ordF D T) m ≤ i ∧ i < j then tw (mkT D (ordF D T) m i (f i)) else tw (f i)) → G Z jX3_lay E0 (QM Z jX3_lay (fun r w => ∃ C3 : Mem, r = none ∧ w = cW Z a C3 fS fA (sW Z D sa sb N) ∧ ((∀ q : Nat, q ≠ 76 → C3 q = C q) ∧ ∀ i : Int, 0 ≤ i → i < (ordF D T).length → C3 76 i = tw (mkT D (ordF D T) m i (f i))))) 30 [.ref (a 102), .ref (sa m), .int (iI (p2 (D 7 m).toNat)), .int (iI (frF D (ordF D T) m)), .int (iI (enF D (ordF D T) m)), .int (iI j)] [] (cW Z a C2 fS fA (sW Z D sa sb N)) 0 0 := by
    intro fuel
    induction fuel with
    | zero => intros; exfalso; omega
    | succ fuel ih =>
      intro C2 j hfu h1 h0 hq hv
      refine g_iload dX3_lay_30 rfl ?_
      refine g_iload dX3_lay_32 rfl ?_
      refine gi_icmp_ge 80 dX3_lay_34 (by decide) (by first | exact bI_Rg _ | assumption | exact ⟨by omega, by omega⟩) (by first | exact bI_Rg _ | assumption | exact ⟨by omega, by omega⟩) (fun c34 => ?_) (fun c34 => ?_)
      · refine g_vret dX3_lay_80 rfl (Nat.le_of_ble_eq_true rfl) (Nat.le_of_ble_eq_true rfl) ⟨C2, rfl, rfl, hq, fun i a b => ?_⟩
        rw [hv i a b]
        by_cases g : frF D (ordF D T) m ≤ i ∧ i < j
        · rw [if_pos g]
        · rw [if_neg g]
          refine tw_congr (fun u _ _ => ?_)
          unfold mkT
          rw [if_neg (fun q => ?_)]
          have := (co_rng (m := m) a b h6 h6r).mp q.1
          omega
      · refine g_aload_n 0 dX3_lay_37 rfl rfl ?_
        refine cg_rd_tints dX3_lay_38 flX3_30 ?_
        refine g_iload dX3_lay_41 rfl ?_
        refine g_aload_n 1 dX3_lay_43 rfl rfl ?_
        refine cg_mrk_on hs hk dX3_lay_44 flX3_120 ?_
        refine gi_if_eq 62 dX3_lay_47 (by decide) (hM _ _) (fun c47 => ?_) (fun c47 => ?_)
        · refine g_aload_n 0 dX3_lay_62 rfl rfl ?_
          refine cg_rd_tints dX3_lay_63 flX3_30 ?_
          refine g_iload dX3_lay_66 rfl ?_
          refine ca_76 ((hv j (by omega) (by omega)).trans (if_neg (by omega))) dX3_lay_68 (by omega) (by omega) ?_
          refine g_iload_n 2 dX3_lay_69 rfl rfl ?_
          refine g_iconst (iI (-1)) dX3_lay_70 rfl ?_
          refine g_ixor dX3_lay_71 ?_
          refine g_iand dX3_lay_72 ?_
          rw [tw_off (f j) (by omega) (by omega)]
          refine ct_76 dX3_lay_73 (by omega) (by omega) ?_
          refine gi_inc dX3_lay_74 rfl (Nat.le_of_ble_eq_true rfl) rfl ?_
          dsimp only [sto]
          refine g_goto 30 dX3_lay_77 (by decide) ?_
          refine ih _ (j + 1) (by omega) (by omega) (by omega) (fun q h => (ms_ne h).trans (hq q h)) (fun i a b => ?_)
          by_cases e : i = j
          · rw [e, ms_at, if_pos (by omega)]
            refine tw_congr (fun u hu0 hu1 => ?_)
            unfold mkT
            have hco := (co_rng (m := m) (i := j) (by omega) (by omega) h6 h6r).mpr ⟨h0, by omega⟩
            by_cases eu : u = D 7 m
            · rw [if_pos eu, if_pos ⟨hco, eu⟩]
              rw [decide_eq_false (by omega)]
            · rw [if_neg eu, if_neg (fun g => eu g.2)]
          · rw [ms_off e, hv i a b]
            by_cases g : frF D (ordF D T) m ≤ i ∧ i < j
            · rw [if_pos g, if_pos (by omega)]
            · rw [if_neg g, if_neg (by omega)]
        · refine g_aload_n 0 dX3_lay_50 rfl rfl ?_
          refine cg_rd_tints dX3_lay_51 flX3_30 ?_
          refine g_iload dX3_lay_54 rfl ?_
          refine ca_76 ((hv j (by omega) (by omega)).trans (if_neg (by omega))) dX3_lay_56 (by omega) (by omega) ?_
          refine g_iload_n 2 dX3_lay_57 rfl rfl ?_
          refine g_ior dX3_lay_58 ?_
          rw [tw_or (f j) (by omega) (by omega)]
          refine g_goto 73 dX3_lay_59 (by decide) ?_
          refine ct_76 dX3_lay_73 (by omega) (by omega) ?_
          refine gi_inc dX3_lay_74 rfl (Nat.le_of_ble_eq_true rfl) rfl ?_
          dsimp only [sto]
          refine g_goto 30 dX3_lay_77 (by decide) ?_
          refine ih _ (j + 1) (by omega) (by omega) (by omega) (fun q h => (ms_ne h).trans (hq q h)) (fun i a b => ?_)
          by_cases e : i = j
          · rw [e, ms_at, if_pos (by omega)]
            refine tw_congr (fun u hu0 hu1 => ?_)
            unfold mkT
            have hco := (co_rng (m := m) (i := j) (by omega) (by omega) h6 h6r).mpr ⟨h0, by omega⟩
            by_cases eu : u = D 7 m
            · rw [if_pos eu, if_pos ⟨hco, eu⟩]
              rw [decide_eq_true (by omega)]
            · rw [if_neg eu, if_neg (fun g => eu g.2)]
          · rw [ms_off e, hv i a b]
            by_cases g : frF D (ordF D T) m ≤ i ∧ i < j
            · rw [if_pos g, if_pos (by omega)]
            · rw [if_neg g, if_neg (by omega)]
  refine g_iconst (iI 1) dX3_lay_0 rfl ?_
  refine g_aload_n 1 dX3_lay_1 rfl rfl ?_
  refine cg_mrk_tint hs hk dX3_lay_2 flX3_110 ?_
  refine g_ishl dX3_lay_5 ?_
  rw [shl_t (by omega) (by omega)]
  refine g_istore_n 2 dX3_lay_6 rfl (Nat.le_of_ble_eq_true rfl) (Nat.le_of_ble_eq_true rfl) rfl ?_
  dsimp only [sto]
  refine g_iconst (iI 0) dX3_lay_7 rfl ?_
  refine g_aload_n 0 dX3_lay_8 rfl rfl ?_
  refine g_aload_n 1 dX3_lay_9 rfl rfl ?_
  refine cg_mrk_first hs hk dX3_lay_10 flX3_113 ?_
  refine ckE lkX3_85 (k_X3_spotOf Z a C fS fA sa sb N hG hO (D 4 (12 * m)) (hM _ _)) dX3_lay_13 (And.intro (Nat.le_of_ble_eq_true rfl) (Nat.le_of_ble_eq_true rfl)) (ci := 3) (q0 := 30) rfl rfl (Nat.le_of_ble_eq_true rfl) rfl rfl (Nat.le_of_ble_eq_true rfl) (Nat.le_of_ble_eq_true rfl) rfl ?_
  refine g_mmax dX3_lay_16 lkmX3_79 mst_max min_ mcd_max (Nat.le_of_ble_eq_true rfl) (Nat.le_of_ble_eq_true rfl) (Nat.le_of_ble_eq_true rfl) (Nat.le_of_ble_eq_true rfl) ⟨by decide, by decide⟩ ⟨by omega, by omega⟩ ?_
  rw [show (if 0 < inIx (ordF D T) (D 4 (12 * (m : Int))) then inIx (ordF D T) (D 4 (12 * (m : Int))) else 0) = frF D (ordF D T) m from rfl]
  refine g_istore_n 3 dX3_lay_19 rfl (Nat.le_of_ble_eq_true rfl) (Nat.le_of_ble_eq_true rfl) rfl ?_
  dsimp only [sto]
  refine g_aload_n 0 dX3_lay_20 rfl rfl ?_
  refine g_aload_n 1 dX3_lay_21 rfl rfl ?_
  refine ckE lkX3_116 (k_X3_endOf Z a C fS fA sa sb N hG h9 hC hO m hs hk) dX3_lay_22 (And.intro (Nat.le_of_ble_eq_true rfl) (Nat.le_of_ble_eq_true rfl)) (ci := 3) (q0 := 30) rfl rfl (Nat.le_of_ble_eq_true rfl) rfl rfl (Nat.le_of_ble_eq_true rfl) (Nat.le_of_ble_eq_true rfl) rfl ?_
  refine g_istore dX3_lay_25 (Nat.le_of_ble_eq_true rfl) (Nat.le_of_ble_eq_true rfl) rfl ?_
  dsimp only [sto]
  refine g_iload_n 3 dX3_lay_27 rfl rfl ?_
  refine g_istore dX3_lay_28 (Nat.le_of_ble_eq_true rfl) (Nat.le_of_ble_eq_true rfl) rfl ?_
  dsimp only [sto]
  exact loop (1000 + (enF D (ordF D T) m).toNat) C _ (by omega) (by omega) (by omega) (fun _ _ => rfl) (fun i a b => by rw [if_neg (by omega)]; exact hf i a b)
def onA (D : Mem) (T : Int → Bool) (L : List Nat) (i t : Int) : Bool := decide (0 ≤ laP (tcB D T t i) L) && decide (D 8 (laP (tcB D T t i) L) = 1)
theorem onA_no {D : Mem} {T : Int → Bool} {L : List Nat} {m : Nat} (h : ¬ (D 2 m = 2 ∧ wkB D T m = true)) (i t : Int) : onA D T (L ++ [m]) i t = onA D T L i t := by
  have e : tcB D T t i m = false := by
    unfold tcB
    cases q : wkB D T m
    · rfl
    · rw [decide_eq_false (fun g => h ⟨g, q⟩)]; rfl
  unfold onA
  rw [laP_snoc, e, if_neg (by decide)]
theorem onA_yes {D : Mem} {T : Int → Bool} {L : List Nat} {m : Nat} (h2 : D 2 m = 2) (hw : wkB D T m = true) (i : Int) : onA D T (L ++ [m]) i = mkT D (ordF D T) m i (onA D T L i) := by
  funext t
  have e : tcB D T t i m = (decide (D 7 m = t) && coB D (ordF D T) m i) := by
    unfold tcB
    rw [hw, decide_eq_true h2]; rfl
  unfold mkT
  by_cases g : coB D (ordF D T) m i = true ∧ t = D 7 m
  · rw [if_pos g]
    unfold onA
    rw [laP_snoc, e, decide_eq_true g.2.symm, g.1, show (true && true) = true from rfl, if_pos rfl, decide_eq_true (by omega)]
    rfl
  · rw [if_neg g]
    unfold onA
    rw [laP_snoc, e, if_neg (fun q => ?_)]
    simp only [Bool.and_eq_true, decide_eq_true_eq] at q
    exact g ⟨q.2, q.1.symm⟩
set_option maxHeartbeats 4000000 in
set_option maxRecDepth 100000 in
theorem k_X3_paint (Z : LZ) (a : Nat → Nat) (C : Mem) (fS fA : Nat → Option Nat) {D : Mem} (sa sb : Nat → Nat) (N : Nat) (hG : Good D) (hI : iMk D) (hB : Bk D C fS fA sa N) {T : Int → Bool} (hC : Cl D T) (hTm : ∀ m : Int, 0 ≤ m → m < N → T m = true → D 2 m = 2 → 0 ≤ D 6 m → T (D 4 (12 * m + 1) / 4) = true ∧ T (D 6 m / 4) = true) (hR : Rd D T N C) : Tr Z jX3_paint [.ref (a 102)] (cW Z a C fS fA (sW Z D sa sb N)) (fun r w => ∃ C3 : Mem, r = none ∧ w = cW Z a C3 fS fA (sW Z D sa sb N) ∧ ((∀ q : Nat, q ≠ 76 → C3 q = C q) ∧ Pt D T C3)) := by
  refine tr_of pn_X3_paint (Nat.le_of_ble_eq_true rfl) (by intro v h; simp only [List.mem_cons, List.not_mem_nil, or_false] at h; rw [h]; rfl) ?_
  have hn := hB.n
  have h9 := hB.d9
  have hl := ordF_len hG.1 hG.2.1 hC
  have hnd := ordF_nd hG hC
  have hO := hR.2.1
  obtain ⟨A, hA1, hA2, hA3, hA4⟩ := hB.age
  have hA5 : ∀ s ∈ A, s < N := fun s hs => by
    obtain ⟨k, hk, e⟩ := List.getElem_of_mem hs
    exact (hA2 k s (by rw [List.getElem?_eq_getElem hk, e])).1
  have loop2 : ∀ (fuel : Nat) (C2 : Mem) (i : Nat), N - i < fuel → i ≤ N → (∀ q : Nat, q ≠ 76 → C2 q = C q) → (∀ k : Int, 0 ≤ k → k < (ordF D T).length → C2 76 k = tw (onA D T (A.take i) k)) → G Z jX3_paint E0 (QM Z jX3_paint (fun r w => ∃ C3 : Mem, r = none ∧ w = cW Z a C3 fS fA (sW Z D sa sb N) ∧ ((∀ q : Nat, q ≠ 76 → C3 q = C q) ∧ Pt D T C3))) 25 [.ref (a 102), .int (iI (i : Int))] [] (cW Z a C2 fS fA (sW Z D sa sb N)) 0 0 := by
    intro fuel
    induction fuel with
    | zero => intros; exfalso; omega
    | succ fuel ih =>
      intro C2 i hf h1 hq hv
      refine g_iload_n 1 dX3_paint_25 rfl rfl ?_
      refine g_aload_n 0 dX3_paint_26 rfl rfl ?_
      refine cg_rd_book dX3_paint_27 flX3_33 ?_
      refine cg_bk_count ((congrFun (hq 1 (by decide)) _).trans (hB.c1)) dX3_paint_30 flX3_91 ?_
      refine gi_icmp_ge 77 dX3_paint_33 (by decide) (by first | exact bI_Rg _ | assumption | exact ⟨by omega, by omega⟩) (by first | exact bI_Rg _ | assumption | exact ⟨by omega, by omega⟩) (fun c33 => ?_) (fun c33 => ?_)
      · refine g_vret dX3_paint_77 rfl (Nat.le_of_ble_eq_true rfl) (Nat.le_of_ble_eq_true rfl) ⟨C2, rfl, rfl, hq, fun k a b => ?_⟩
        rw [hv k a b, tin_tw, List.take_of_length_le (by omega)]
        refine tw_congr (fun t _ _ => ?_)
        unfold onA hasT
        rw [laP_ltF (N := (D 9 0).toNat) hG.2.1 (tcB D T t k) hA3 (fun s hs => by have := hA5 s hs; omega) (fun s hs => hA4 s (by omega))]
      · have hi : i < A.length := by omega
        have hAi := hA2 i A[i] (List.getElem?_eq_getElem hi)
        have hs := hAi.1
        have htk : A.take (i + 1) = A.take i ++ [A[i]] := (List.take_append_getElem hi).symm
        have hSi := hG.s hB hs
        have hst := hR.1 _ hs
        have hO2 : Od D T C2 := by
          unfold Od at hO ⊢
          rw [hq 77 (by decide), hq 71 (by decide), hq 72 (by decide)]
          exact hO
        have hw3 : C 70 (A[i] : Nat) = 3 ↔ wkB D T (A[i] : Nat) = true := by
          rw [hst]
          cases e : T (A[i] : Nat)
          · cases e2 : wkB D T (A[i] : Nat)
            · simp
            · have := wk_tk hG.1 (by omega) (by omega) e2
              rw [e] at this
              cases this
          · cases e2 : wkB D T (A[i] : Nat) <;> simp
        have hrg : Rg (C 70 (A[i] : Nat)) := by
          rw [hst]
          split
          · split <;> exact ⟨by decide, by decide⟩
          · exact ⟨by decide, by decide⟩
        refine g_aload_n 0 dX3_paint_36 rfl rfl ?_
        refine cg_rd_book dX3_paint_37 flX3_33 ?_
        refine cg_bk_byAge dX3_paint_40 flX3_96 ?_
        refine g_iload_n 1 dX3_paint_43 rfl rfl ?_
        refine ca_byAge (s := A[i]) hAi.2 dX3_paint_44 (by omega) (by omega) ?_
        by_cases hk47 : D 2 A[i] = 2
        · refine py_mrk hs hk47 dX3_paint_45 dX3_paint_46 dX3_paint_47 clX3_100 71 dX3_paint_50 (by decide) dX3_paint_53 dX3_paint_54 clX3_100 dX3_paint_57 (Nat.le_of_ble_eq_true rfl) rfl ?_
          dsimp only [List.cons_append, List.nil_append]
          refine g_aload_n 0 dX3_paint_58 rfl rfl ?_
          refine g_aload_n 2 dX3_paint_59 rfl rfl ?_
          refine ckE lkX3_102 (k_X3_isWorking Z a C2 fS fA sa sb N hn (A[i]) hs (by rw [hq 70 (by decide)]; exact hrg)) dX3_paint_60 (And.intro (Nat.le_of_ble_eq_true rfl) (Nat.le_of_ble_eq_true rfl)) (ci := 3) (q0 := 30) rfl rfl (Nat.le_of_ble_eq_true rfl) rfl rfl (Nat.le_of_ble_eq_true rfl) (Nat.le_of_ble_eq_true rfl) rfl ?_
          rw [hq 70 (by decide)]
          refine gi_if_eq 71 dX3_paint_63 (by decide) (by first | exact bI_Rg _ | assumption | exact ⟨by omega, by omega⟩) (fun c63 => ?_) (fun c63 => ?_)
          · refine gi_inc dX3_paint_71 rfl (Nat.le_of_ble_eq_true rfl) rfl ?_
            dsimp only [sto]
            refine g_goto 25 dX3_paint_74 (by decide) ?_
            refine g_cut 2 ?_
            refine ih C2 (i + 1) (by omega) (by omega) hq (fun k a b => ?_)
            rw [hv k a b, htk]
            exact tw_congr (fun t _ _ => (onA_no (fun g => (by have := hw3.mpr g.2; rw [decide_eq_true this] at c63; exact absurd c63 (by decide))) k t).symm)
          · have hww : wkB D T (A[i] : Nat) = true := by
              refine hw3.mp (Classical.byContradiction (fun g => ?_))
              rw [decide_eq_false g] at c63
              exact c63 rfl
            have h6 : 0 ≤ D 6 (A[i] : Nat) → inIx (ordF D T) (D 4 (12 * (A[i] : Nat) + 1)) < inIx (ordF D T) (D 6 (A[i] : Nat)) := by
              intro h60
              have g := hTm (A[i] : Nat) (by omega) (by omega) (wk_tk hG.1 (by omega) (by omega) hww) hk47 h60
              have g2 := (hI (A[i] : Nat) (by omega) (by omega) hk47 h60).filter (fun x => T (x / 4))
              rw [← ordF_eq hG.1 hG.2.1 hC] at g2
              have g3 : List.filter (fun x => T (x / 4)) [D 4 (12 * (A[i] : Nat) + 1), D 6 (A[i] : Nat)] = [D 4 (12 * (A[i] : Nat) + 1), D 6 (A[i] : Nat)] := by
                simp [g.1, g.2]
              rw [g3] at g2
              exact (sub2_ix hnd g2).2
            refine g_aload_n 0 dX3_paint_66 rfl rfl ?_
            refine g_aload_n 2 dX3_paint_67 rfl rfl ?_
            refine ckX lkX3_106 (k_X3_lay Z a C2 fS fA sa sb N hG h9 hC hO2 (A[i]) hs hk47 h6 (onA D T (A.take i)) hv) dX3_paint_68 (And.intro (Nat.le_of_ble_eq_true rfl) (Nat.le_of_ble_eq_true rfl)) (ci := 3) (q0 := 30) rfl rfl (Nat.le_of_ble_eq_true rfl) rfl rfl (Nat.le_of_ble_eq_true rfl) (Nat.le_of_ble_eq_true rfl) rfl (fun C68 h68 => ?_)
            refine gi_inc dX3_paint_71 rfl (Nat.le_of_ble_eq_true rfl) rfl ?_
            dsimp only [sto]
            refine g_goto 25 dX3_paint_74 (by decide) ?_
            refine g_cut 2 ?_
            refine ih C68 (i + 1) (by omega) (by omega) (fun q h => (h68.1 q h).trans (hq q h)) (fun k a b => ?_)
            rw [h68.2 k a b, htk, onA_yes hk47 hww]
        · refine pn_mrk hs hk47 hSi.2.1 dX3_paint_45 dX3_paint_46 dX3_paint_47 clX3_100 71 dX3_paint_50 (by decide) (Nat.le_of_ble_eq_true rfl) rfl ?_
          refine gi_inc dX3_paint_71 rfl (Nat.le_of_ble_eq_true rfl) rfl ?_
          dsimp only [sto]
          refine g_goto 25 dX3_paint_74 (by decide) ?_
          refine g_cut 2 ?_
          refine ih C2 (i + 1) (by omega) (by omega) hq (fun k a b => ?_)
          rw [hv k a b, htk]
          exact tw_congr (fun t _ _ => (onA_no (fun g => hk47 g.1) k t).symm)
  have loop : ∀ (fuel : Nat) (C2 : Mem) (i : Nat), (ordF D T).length - i < fuel → i ≤ (ordF D T).length → (∀ q : Nat, q ≠ 76 → C2 q = C q) → (∀ k : Int, 0 ≤ k → k < i → C2 76 k = 0) → G Z jX3_paint E0 (QM Z jX3_paint (fun r w => ∃ C3 : Mem, r = none ∧ w = cW Z a C3 fS fA (sW Z D sa sb N) ∧ ((∀ q : Nat, q ≠ 76 → C3 q = C q) ∧ Pt D T C3))) 2 [.ref (a 102), .int (iI (i : Int))] [] (cW Z a C2 fS fA (sW Z D sa sb N)) 0 0 := by
    intro fuel
    induction fuel with
    | zero => intros; exfalso; omega
    | succ fuel ih =>
      intro C2 i hf h1 hq hv
      refine g_iload_n 1 dX3_paint_2 rfl rfl ?_
      refine g_aload_n 0 dX3_paint_3 rfl rfl ?_
      refine cg_rd_orderSize ((congrFun (hq 77 (by decide)) _).trans (hO.1.1)) dX3_paint_4 flX3_88 ?_
      refine gi_icmp_ge 23 dX3_paint_7 (by decide) (by first | exact bI_Rg _ | assumption | exact ⟨by omega, by omega⟩) (by first | exact bI_Rg _ | assumption | exact ⟨by omega, by omega⟩) (fun c7 => ?_) (fun c7 => ?_)
      · refine g_iconst (iI 0) dX3_paint_23 rfl ?_
        refine g_istore_n 1 dX3_paint_24 rfl (Nat.le_of_ble_eq_true rfl) (Nat.le_of_ble_eq_true rfl) rfl ?_
        dsimp only [sto]
        exact loop2 (N + 1) C2 0 (by omega) (by omega) hq (fun k a b => by rw [hv k a (by omega)]; simp [onA, laP, tw, bI])
      · refine g_aload_n 0 dX3_paint_10 rfl rfl ?_
        refine cg_rd_tints dX3_paint_11 flX3_30 ?_
        refine g_iload_n 1 dX3_paint_14 rfl rfl ?_
        refine g_iconst (iI 0) dX3_paint_15 rfl ?_
        refine ct_76 dX3_paint_16 (by omega) (by omega) ?_
        refine gi_inc dX3_paint_17 rfl (Nat.le_of_ble_eq_true rfl) rfl ?_
        dsimp only [sto]
        refine g_goto 2 dX3_paint_20 (by decide) ?_
        refine ih (ms C2 76 i 0) (i + 1) (by omega) (by omega) (fun q h => (ms_ne h).trans (hq q h)) (fun k a b => ?_)
        by_cases e : k = i
        · rw [e, ms_at]
        · rw [ms_off e]; exact hv k a (by omega)
  refine g_iconst (iI 0) dX3_paint_0 rfl ?_
  refine g_istore_n 1 dX3_paint_1 rfl (Nat.le_of_ble_eq_true rfl) (Nat.le_of_ble_eq_true rfl) rfl ?_
  dsimp only [sto]
  exact loop ((ordF D T).length + 1) C 0 (by omega) (by omega) (fun _ _ => rfl) (fun k a b => by omega)
def spG (D : Mem) (T : Int → Bool) (t : Int) : Nat → Int × Bool
  | 0 => (0, false)
  | i + 1 => ((spG D T t i).1 + bI (hasT D T (atF D T i) t && !(spG D T t i).2), hasT D T (atF D T i) t)
theorem spF_spG (D : Mem) (T : Int → Bool) (t : Int) : ∀ k : Nat, k ≤ (ordF D T).length → spF D T t k = spG D T t (cntB (Vi D T) k).toNat := by
  intro k
  induction k with
  | zero => intro _; rfl
  | succ k ih =>
    intro hk
    have e := cntB_rg (Vi D T) k
    have e2 : cntB (Vi D T) (k + 1) = cntB (Vi D T) k + bI (Vi D T k) := rfl
    unfold spF
    cases h : Vi D T k
    · rw [if_neg (by decide), e2, h, ih (by omega)]
      simp [bI]
    · rw [if_pos rfl, e2, h, show bI true = 1 from rfl, show (cntB (Vi D T) k + 1).toNat = (cntB (Vi D T) k).toNat + 1 by omega]
      have hat : atF D T (cntB (Vi D T) k) = k := fvV_at (z := k) (by omega) h (by rw [show ((k : Int)).toNat = k by omega]) _ (by omega)
      unfold spG
      rw [show (((cntB (Vi D T) k).toNat : Nat) : Int) = cntB (Vi D T) k by omega, hat, ih (by omega)]
theorem spG_rg (D : Mem) (T : Int → Bool) (t : Int) : ∀ k : Nat, 0 ≤ (spG D T t k).1 ∧ (spG D T t k).1 ≤ k := by
  intro k
  induction k with
  | zero => simp [spG]
  | succ k ih => unfold spG; have := bI_01 (hasT D T (atF D T k) t && !(spG D T t k).2); simp only; omega
set_option maxHeartbeats 4000000 in
set_option maxRecDepth 100000 in
theorem k_X3_stretchesOf (Z : LZ) (a : Nat → Nat) (C : Mem) (fS fA : Nat → Option Nat) {D : Mem} (sa sb : Nat → Nat) (N : Nat) (hG : Good D) {T : Int → Bool} (hC : Cl D T) (hR : Rd D T N C) (hP : Pt D T C) (t : Int) (h0t : 0 ≤ t) (h1t : t < 4) : Tr Z jX3_stretchesOf [.ref (a 102), .int (iI t)] (cW Z a C fS fA (sW Z D sa sb N)) (fun r w => r = some (.int (iI ((spF D T t (ordF D T).length).1))) ∧ w = cW Z a C fS fA (sW Z D sa sb N)) := by
  refine tr_of pn_X3_stretchesOf (Nat.le_of_ble_eq_true rfl) (by intro v h; simp only [List.mem_cons, List.not_mem_nil, or_false] at h; rcases h with h | h <;> rw [h] <;> rfl) ?_
  have hl := ordF_len hG.1 hG.2.1 hC
  have htx := txtN_rg hG.1 hG.2.1 hC
  have h78 := hR.2.2.2.2.1
  have hpp : 0 < p2 t.toNat ∧ p2 t.toNat < 100 := by
    have h : t = 0 ∨ t = 1 ∨ t = 2 ∨ t = 3 := by omega
    rcases h with rfl | rfl | rfl | rfl <;> decide
  have loop : ∀ (fuel : Nat) (i : Nat), txtN D T - i < fuel → (i : Int) ≤ txtN D T → G Z jX3_stretchesOf E0 (QM Z jX3_stretchesOf (fun r w => r = some (.int (iI ((spF D T t (ordF D T).length).1))) ∧ w = cW Z a C fS fA (sW Z D sa sb N))) 12 [.ref (a 102), .int (iI t), .int (iI (p2 t.toNat)), .int (iI (spG D T t i).1), .int (iI (bI (spG D T t i).2)), .int (iI (i : Int))] [] (cW Z a C fS fA (sW Z D sa sb N)) 0 0 := by
    intro fuel
    induction fuel with
    | zero => intros; exfalso; omega
    | succ fuel ih =>
      intro i hf h1
      refine g_iload dX3_stretchesOf_12 rfl ?_
      refine g_aload_n 0 dX3_stretchesOf_14 rfl rfl ?_
      refine cg_rd_textSize h78 dX3_stretchesOf_15 flX3_65 ?_
      refine gi_icmp_ge 68 dX3_stretchesOf_18 (by decide) (by first | exact bI_Rg _ | assumption | exact ⟨by omega, by omega⟩) (by first | exact bI_Rg _ | assumption | exact ⟨by omega, by omega⟩) (fun c18 => ?_) (fun c18 => ?_)
      · refine g_iload_n 3 dX3_stretchesOf_68 rfl rfl ?_
        refine g_iret dX3_stretchesOf_69 rfl (Nat.le_of_ble_eq_true rfl) (Nat.le_of_ble_eq_true rfl) ⟨?_, rfl⟩
        rw [spF_spG D T t _ (Nat.le_refl _), show (cntB (Vi D T) (ordF D T).length).toNat = i by show (txtN D T).toNat = i; omega]
      · have hat := atF_in (D := D) (T := T) (x := i) (by omega) (by omega)
        have hti := hP _ hat.1 hat.2.1
        rw [tin_tw] at hti
        have hsg := spG_rg D T t i
        refine g_aload_n 0 dX3_stretchesOf_21 rfl rfl ?_
        refine cg_rd_tints dX3_stretchesOf_22 flX3_30 ?_
        refine g_aload_n 0 dX3_stretchesOf_25 rfl rfl ?_
        refine cg_rd_seen dX3_stretchesOf_26 flX3_27 ?_
        refine g_iload dX3_stretchesOf_29 rfl ?_
        refine ca_75 (hR.2.2.2.2.2 i (by omega) (by omega)) dX3_stretchesOf_31 (by omega) (by omega) ?_
        refine ca_76 hti dX3_stretchesOf_32 (by omega) (by omega) ?_
        refine g_iload_n 2 dX3_stretchesOf_33 rfl rfl ?_
        refine g_iand dX3_stretchesOf_34 ?_
        rw [tw_and _ h0t h1t]
        refine gi_if_eq 42 dX3_stretchesOf_35 (by decide) (by split <;> exact ⟨by omega, by omega⟩) (fun c35 => ?_) (fun c35 => ?_)
        · refine g_iconst (iI 0) dX3_stretchesOf_42 rfl ?_
          refine g_istore dX3_stretchesOf_43 (Nat.le_of_ble_eq_true rfl) (Nat.le_of_ble_eq_true rfl) rfl ?_
          dsimp only [sto]
          refine g_iload dX3_stretchesOf_45 rfl ?_
          refine gi_if_eq 58 dX3_stretchesOf_47 (by decide) ⟨by decide, by decide⟩ (fun _ => ?_) (fun cc => absurd cc (by decide))
          refine g_iload dX3_stretchesOf_58 rfl ?_
          refine g_istore dX3_stretchesOf_60 (Nat.le_of_ble_eq_true rfl) (Nat.le_of_ble_eq_true rfl) rfl ?_
          dsimp only [sto]
          refine gi_inc dX3_stretchesOf_62 rfl (Nat.le_of_ble_eq_true rfl) rfl ?_
          dsimp only [sto]
          refine g_goto 12 dX3_stretchesOf_65 (by decide) ?_
          have hh : hasT D T (atF D T i) t = false := by
            cases e : hasT D T (atF D T i) t
            · rfl
            · rw [e, if_pos rfl] at c35; omega
          have e1 : (spG D T t (i + 1)).1 = (spG D T t i).1 := by
            conv => lhs; unfold spG
            rw [hh]; simp [bI]
          have e2 : (spG D T t (i + 1)).2 = false := by
            conv => lhs; unfold spG
            exact hh
          refine g_cut 6 ?_
          have g := ih (i + 1) (by omega) (by omega)
          rw [e1, e2] at g
          exact g
        · refine g_iconst (iI 1) dX3_stretchesOf_38 rfl ?_
          refine g_goto 43 dX3_stretchesOf_39 (by decide) ?_
          refine g_istore dX3_stretchesOf_43 (Nat.le_of_ble_eq_true rfl) (Nat.le_of_ble_eq_true rfl) rfl ?_
          dsimp only [sto]
          refine g_iload dX3_stretchesOf_45 rfl ?_
          refine gi_if_eq 58 dX3_stretchesOf_47 (by decide) ⟨by decide, by decide⟩ (fun cc => absurd cc (by decide)) (fun _ => ?_)
          refine g_iload dX3_stretchesOf_50 rfl ?_
          refine gi_if_ne 58 dX3_stretchesOf_52 (by decide) (bI_Rg _) (fun c52 => ?_) (fun c52 => ?_)
          · refine g_iload dX3_stretchesOf_58 rfl ?_
            refine g_istore dX3_stretchesOf_60 (Nat.le_of_ble_eq_true rfl) (Nat.le_of_ble_eq_true rfl) rfl ?_
            dsimp only [sto]
            refine gi_inc dX3_stretchesOf_62 rfl (Nat.le_of_ble_eq_true rfl) rfl ?_
            dsimp only [sto]
            refine g_goto 12 dX3_stretchesOf_65 (by decide) ?_
            have hh : hasT D T (atF D T i) t = true := by
              cases e : hasT D T (atF D T i) t
              · rw [e, if_neg (by decide)] at c35; exact absurd rfl c35
              · rfl
            have hg : (spG D T t i).2 = true := by
              cases e : (spG D T t i).2
              · rw [e] at c52; exact absurd rfl c52
              · rfl
            have e1 : (spG D T t (i + 1)).1 = (spG D T t i).1 := by
              conv => lhs; unfold spG
              rw [hh, hg]; simp [bI]
            have e2 : (spG D T t (i + 1)).2 = true := by
              conv => lhs; unfold spG
              exact hh
            refine g_cut 6 ?_
            have g := ih (i + 1) (by omega) (by omega)
            rw [e1, e2] at g
            exact g
          · refine gi_inc dX3_stretchesOf_55 rfl (Nat.le_of_ble_eq_true rfl) rfl ?_
            dsimp only [sto]
            refine g_iload dX3_stretchesOf_58 rfl ?_
            refine g_istore dX3_stretchesOf_60 (Nat.le_of_ble_eq_true rfl) (Nat.le_of_ble_eq_true rfl) rfl ?_
            dsimp only [sto]
            refine gi_inc dX3_stretchesOf_62 rfl (Nat.le_of_ble_eq_true rfl) rfl ?_
            dsimp only [sto]
            refine g_goto 12 dX3_stretchesOf_65 (by decide) ?_
            have hh : hasT D T (atF D T i) t = true := by
              cases e : hasT D T (atF D T i) t
              · rw [e, if_neg (by decide)] at c35; exact absurd rfl c35
              · rfl
            have hg : (spG D T t i).2 = false := by
              cases e : (spG D T t i).2
              · rfl
              · rw [e] at c52; exact absurd c52 (by decide)
            have e1 : (spG D T t (i + 1)).1 = (spG D T t i).1 + 1 := by
              conv => lhs; unfold spG
              rw [hh, hg]; simp [bI]
            have e2 : (spG D T t (i + 1)).2 = true := by
              conv => lhs; unfold spG
              exact hh
            refine g_cut 6 ?_
            have g := ih (i + 1) (by omega) (by omega)
            rw [e1, e2] at g
            exact g
  refine g_iconst (iI 1) dX3_stretchesOf_0 rfl ?_
  refine g_iload_n 1 dX3_stretchesOf_1 rfl rfl ?_
  refine g_ishl dX3_stretchesOf_2 ?_
  rw [shl_t h0t h1t]
  refine g_istore_n 2 dX3_stretchesOf_3 rfl (Nat.le_of_ble_eq_true rfl) (Nat.le_of_ble_eq_true rfl) rfl ?_
  dsimp only [sto]
  refine g_iconst (iI 0) dX3_stretchesOf_4 rfl ?_
  refine g_istore_n 3 dX3_stretchesOf_5 rfl (Nat.le_of_ble_eq_true rfl) (Nat.le_of_ble_eq_true rfl) rfl ?_
  dsimp only [sto]
  refine g_iconst (iI 0) dX3_stretchesOf_6 rfl ?_
  refine g_istore dX3_stretchesOf_7 (Nat.le_of_ble_eq_true rfl) (Nat.le_of_ble_eq_true rfl) rfl ?_
  dsimp only [sto]
  refine g_iconst (iI 0) dX3_stretchesOf_9 rfl ?_
  refine g_istore dX3_stretchesOf_10 (Nat.le_of_ble_eq_true rfl) (Nat.le_of_ble_eq_true rfl) rfl ?_
  dsimp only [sto]
  exact loop ((txtN D T).toNat + 1) 0 (by omega) (by omega)
