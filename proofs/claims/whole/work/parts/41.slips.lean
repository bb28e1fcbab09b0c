/-! THE CLASS: its slips, cells of the data D at sa s, their arrays at sb s -/
def pri (D : Mem) (s : Int) : Int := latestF D (D 0 s) s.toNat
def slC (D : Mem) (sb : Nat → Nat) (s : Nat) : va_E :=
  if D 2 s = 0 then .inr (2, [.int (iI s), .int (iI (D 0 s)), .int (iI (D 1 s)), .int (iI (pri D s)), .int (iI (D 6 s)), .ref (sb s)])
  else if D 2 s = 1 then .inr (5, [.int (iI s), .int (iI (D 0 s)), .int (iI (D 1 s)), .int (iI (pri D s)), .ref (sb s)])
  else if D 2 s = 2 then .inr (1, [.int (iI s), .int (iI (D 0 s)), .int (iI (D 1 s)), .int (iI (pri D s)), .int (iI (D 4 (12 * s))), .int (iI (D 4 (12 * s + 1))), .int (iI (D 6 s)), .int (iI (D 7 s)), .int (iI (D 8 s))])
  else .inr (6, [.int (iI s), .int (iI (D 0 s)), .int (iI (D 1 s)), .int (iI (pri D s)), .int (iI (D 6 s))])
def slA (Z : LZ) (D : Mem) (s : Nat) : va_E := .inl (Z.2 0, (D 3 s).toNat, .inl (rowI (if D 2 s = 0 then fun i => D 5 (4 * s + i) else fun i => D 4 (12 * s + i))))
def sW (Z : LZ) (D : Mem) (sa sb : Nat → Nat) : Nat → va_W
  | 0 => []
  | s + 1 => sW Z D sa sb s ++ ((sa s, slC D sb s) :: (if D 2 s = 0 ∨ D 2 s = 1 then [(sb s, slA Z D s)] else []))
theorem sW_succ (Z : LZ) (D : Mem) (sa sb : Nat → Nat) (s : Nat) : sW Z D sa sb (s + 1) = sW Z D sa sb s ++ ((sa s, slC D sb s) :: (if D 2 s = 0 ∨ D 2 s = 1 then [(sb s, slA Z D s)] else [])) := rfl
theorem sW_sl {Z : LZ} {D : Mem} {sa sb : Nat → Nat} : ∀ (n s : Nat), s < n → ∃ q : Nat, (sW Z D sa sb n)[q]? = some (sa s, slC D sb s) := by
  intro n
  induction n with
  | zero => intro s h; omega
  | succ n ih =>
    intro s h
    by_cases e : s = n
    · subst e
      refine ⟨(sW Z D sa sb s).length, ?_⟩
      rw [sW_succ]
      rw [List.getElem?_append_right (Nat.le_refl _), Nat.sub_self]
      rfl
    · obtain ⟨q, hq⟩ := ih s (by omega)
      refine ⟨q, ?_⟩
      rw [sW_succ]
      rw [List.getElem?_append_left (List.getElem?_eq_some_iff.mp hq).1]
      exact hq
theorem sW_ar {Z : LZ} {D : Mem} {sa sb : Nat → Nat} : ∀ (n s : Nat), s < n → (D 2 s = 0 ∨ D 2 s = 1) → ∃ q : Nat, (sW Z D sa sb n)[q]? = some (sb s, slA Z D s) := by
  intro n
  induction n with
  | zero => intro s h; omega
  | succ n ih =>
    intro s h hk
    by_cases e : s = n
    · subst e
      refine ⟨(sW Z D sa sb s).length + 1, ?_⟩
      rw [sW_succ]
      rw [List.getElem?_append_right (by omega), if_pos hk, show (sW Z D sa sb s).length + 1 - (sW Z D sa sb s).length = 1 by omega]
      rfl
    · obtain ⟨q, hq⟩ := ih s (by omega) hk
      refine ⟨q, ?_⟩
      rw [sW_succ]
      rw [List.getElem?_append_left (List.getElem?_eq_some_iff.mp hq).1]
      exact hq
theorem cW_off {Z : LZ} {a : Nat → Nat} {C : Mem} {fS fA : Nat → Option Nat} {W : va_W} (q : Nat) : (cW Z a C fS fA W)[q + 39]? = W[q]? := by
  unfold cW
  simp only [List.getElem?_cons_succ]
section SRows
variable {Z : LZ} {J : MD} {E : State → Array Value → (Nat → Prop) → Prop} {Q : List Frame → Array Value → State → (Nat → Prop) → State → Prop} {pc : Nat} {ls st : List Value} {k n : Nat} {x y : Int} {a : Nat → Nat} {C : Mem} {fS fA : Nat → Option Nat} {i : Nat} {D : Mem} {sa sb : Nat → Nat} {N s : Nat}
theorem cg_sl_number (hs : s < N) (d : decode J.2.1 pc = .ok (.getfield i, 3)) (hl : Cond.fieldLink J.1.cls i "ManyPens$Slip" "number" "I" ∈ WT) (K : G Z J E Q (pc + 3) ls (.int (iI (s : Int)) :: st) (cW Z a C fS fA (sW Z D sa sb N)) k n) : G Z J E Q pc ls (.ref (sa s) :: st) (cW Z a C fS fA (sW Z D sa sb N)) k n := by
  obtain ⟨q, hq⟩ := sW_sl (Z := Z) (D := D) (sa := sa) (sb := sb) N s hs
  have hw : (cW Z a C fS fA (sW Z D sa sb N))[q + 39]? = some (sa s, slC D sb s) := (cW_off q).trans hq
  unfold slC at hw
  split at hw
  · exact g_get 2 (q + 39) 0 d rfl fwX2 (by decide) hl hw rfl K
  · split at hw
    · exact g_get 5 (q + 39) 0 d rfl fwX6 (by decide) hl hw rfl K
    · split at hw
      · exact g_get 1 (q + 39) 0 d rfl fwX1 (by decide) hl hw rfl K
      · exact g_get 6 (q + 39) 0 d rfl fwX7 (by decide) hl hw rfl K
theorem cg_sl_pen (hs : s < N) (d : decode J.2.1 pc = .ok (.getfield i, 3)) (hl : Cond.fieldLink J.1.cls i "ManyPens$Slip" "pen" "I" ∈ WT) (K : G Z J E Q (pc + 3) ls (.int (iI (D 0 s)) :: st) (cW Z a C fS fA (sW Z D sa sb N)) k n) : G Z J E Q pc ls (.ref (sa s) :: st) (cW Z a C fS fA (sW Z D sa sb N)) k n := by
  obtain ⟨q, hq⟩ := sW_sl (Z := Z) (D := D) (sa := sa) (sb := sb) N s hs
  have hw : (cW Z a C fS fA (sW Z D sa sb N))[q + 39]? = some (sa s, slC D sb s) := (cW_off q).trans hq
  unfold slC at hw
  split at hw
  · exact g_get 2 (q + 39) 1 d rfl fwX2 (by decide) hl hw rfl K
  · split at hw
    · exact g_get 5 (q + 39) 1 d rfl fwX6 (by decide) hl hw rfl K
    · split at hw
      · exact g_get 1 (q + 39) 1 d rfl fwX1 (by decide) hl hw rfl K
      · exact g_get 6 (q + 39) 1 d rfl fwX7 (by decide) hl hw rfl K
theorem cg_sl_stamp (hs : s < N) (d : decode J.2.1 pc = .ok (.getfield i, 3)) (hl : Cond.fieldLink J.1.cls i "ManyPens$Slip" "stamp" "I" ∈ WT) (K : G Z J E Q (pc + 3) ls (.int (iI (D 1 s)) :: st) (cW Z a C fS fA (sW Z D sa sb N)) k n) : G Z J E Q pc ls (.ref (sa s) :: st) (cW Z a C fS fA (sW Z D sa sb N)) k n := by
  obtain ⟨q, hq⟩ := sW_sl (Z := Z) (D := D) (sa := sa) (sb := sb) N s hs
  have hw : (cW Z a C fS fA (sW Z D sa sb N))[q + 39]? = some (sa s, slC D sb s) := (cW_off q).trans hq
  unfold slC at hw
  split at hw
  · exact g_get 2 (q + 39) 2 d rfl fwX2 (by decide) hl hw rfl K
  · split at hw
    · exact g_get 5 (q + 39) 2 d rfl fwX6 (by decide) hl hw rfl K
    · split at hw
      · exact g_get 1 (q + 39) 2 d rfl fwX1 (by decide) hl hw rfl K
      · exact g_get 6 (q + 39) 2 d rfl fwX7 (by decide) hl hw rfl K
theorem cg_sl_prior (hs : s < N) (d : decode J.2.1 pc = .ok (.getfield i, 3)) (hl : Cond.fieldLink J.1.cls i "ManyPens$Slip" "prior" "I" ∈ WT) (K : G Z J E Q (pc + 3) ls (.int (iI (pri D s)) :: st) (cW Z a C fS fA (sW Z D sa sb N)) k n) : G Z J E Q pc ls (.ref (sa s) :: st) (cW Z a C fS fA (sW Z D sa sb N)) k n := by
  obtain ⟨q, hq⟩ := sW_sl (Z := Z) (D := D) (sa := sa) (sb := sb) N s hs
  have hw : (cW Z a C fS fA (sW Z D sa sb N))[q + 39]? = some (sa s, slC D sb s) := (cW_off q).trans hq
  unfold slC at hw
  split at hw
  · exact g_get 2 (q + 39) 3 d rfl fwX2 (by decide) hl hw rfl K
  · split at hw
    · exact g_get 5 (q + 39) 3 d rfl fwX6 (by decide) hl hw rfl K
    · split at hw
      · exact g_get 1 (q + 39) 3 d rfl fwX1 (by decide) hl hw rfl K
      · exact g_get 6 (q + 39) 3 d rfl fwX7 (by decide) hl hw rfl K
theorem cg_put_left (hs : s < N) (hk : D 2 s = 0) (d : decode J.2.1 pc = .ok (.getfield i, 3)) (hl : Cond.fieldLink J.1.cls i "ManyPens$Put" "left" "I" ∈ WT) (K : G Z J E Q (pc + 3) ls (.int (iI (D 6 s)) :: st) (cW Z a C fS fA (sW Z D sa sb N)) k n) : G Z J E Q pc ls (.ref (sa s) :: st) (cW Z a C fS fA (sW Z D sa sb N)) k n := by
  obtain ⟨q, hq⟩ := sW_sl (Z := Z) (D := D) (sa := sa) (sb := sb) N s hs
  have hw : (cW Z a C fS fA (sW Z D sa sb N))[q + 39]? = some (sa s, slC D sb s) := (cW_off q).trans hq
  unfold slC at hw
  rw [if_pos hk] at hw
  exact g_get 2 (q + 39) 4 d rfl fwX2 (by decide) hl hw rfl K
theorem cg_put_codes (hs : s < N) (hk : D 2 s = 0) (d : decode J.2.1 pc = .ok (.getfield i, 3)) (hl : Cond.fieldLink J.1.cls i "ManyPens$Put" "codes" "[I" ∈ WT) (K : G Z J E Q (pc + 3) ls (.ref (sb s) :: st) (cW Z a C fS fA (sW Z D sa sb N)) k n) : G Z J E Q pc ls (.ref (sa s) :: st) (cW Z a C fS fA (sW Z D sa sb N)) k n := by
  obtain ⟨q, hq⟩ := sW_sl (Z := Z) (D := D) (sa := sa) (sb := sb) N s hs
  have hw : (cW Z a C fS fA (sW Z D sa sb N))[q + 39]? = some (sa s, slC D sb s) := (cW_off q).trans hq
  unfold slC at hw
  rw [if_pos hk] at hw
  exact g_get 2 (q + 39) 5 d rfl fwX2 (by decide) hl hw rfl K
theorem cg_stk_names (hs : s < N) (hk : D 2 s = 1) (d : decode J.2.1 pc = .ok (.getfield i, 3)) (hl : Cond.fieldLink J.1.cls i "ManyPens$Strike" "names" "[I" ∈ WT) (K : G Z J E Q (pc + 3) ls (.ref (sb s) :: st) (cW Z a C fS fA (sW Z D sa sb N)) k n) : G Z J E Q pc ls (.ref (sa s) :: st) (cW Z a C fS fA (sW Z D sa sb N)) k n := by
  obtain ⟨q, hq⟩ := sW_sl (Z := Z) (D := D) (sa := sa) (sb := sb) N s hs
  have hw : (cW Z a C fS fA (sW Z D sa sb N))[q + 39]? = some (sa s, slC D sb s) := (cW_off q).trans hq
  unfold slC at hw
  rw [if_neg (by omega), if_pos hk] at hw
  exact g_get 5 (q + 39) 4 d rfl fwX6 (by decide) hl hw rfl K
theorem cg_mrk_first (hs : s < N) (hk : D 2 s = 2) (d : decode J.2.1 pc = .ok (.getfield i, 3)) (hl : Cond.fieldLink J.1.cls i "ManyPens$Mark" "first" "I" ∈ WT) (K : G Z J E Q (pc + 3) ls (.int (iI (D 4 (12 * s))) :: st) (cW Z a C fS fA (sW Z D sa sb N)) k n) : G Z J E Q pc ls (.ref (sa s) :: st) (cW Z a C fS fA (sW Z D sa sb N)) k n := by
  obtain ⟨q, hq⟩ := sW_sl (Z := Z) (D := D) (sa := sa) (sb := sb) N s hs
  have hw : (cW Z a C fS fA (sW Z D sa sb N))[q + 39]? = some (sa s, slC D sb s) := (cW_off q).trans hq
  unfold slC at hw
  rw [if_neg (by omega), if_neg (by omega), if_pos hk] at hw
  exact g_get 1 (q + 39) 4 d rfl fwX1 (by decide) hl hw rfl K
theorem cg_mrk_last (hs : s < N) (hk : D 2 s = 2) (d : decode J.2.1 pc = .ok (.getfield i, 3)) (hl : Cond.fieldLink J.1.cls i "ManyPens$Mark" "last" "I" ∈ WT) (K : G Z J E Q (pc + 3) ls (.int (iI (D 4 (12 * s + 1))) :: st) (cW Z a C fS fA (sW Z D sa sb N)) k n) : G Z J E Q pc ls (.ref (sa s) :: st) (cW Z a C fS fA (sW Z D sa sb N)) k n := by
  obtain ⟨q, hq⟩ := sW_sl (Z := Z) (D := D) (sa := sa) (sb := sb) N s hs
  have hw : (cW Z a C fS fA (sW Z D sa sb N))[q + 39]? = some (sa s, slC D sb s) := (cW_off q).trans hq
  unfold slC at hw
  rw [if_neg (by omega), if_neg (by omega), if_pos hk] at hw
  exact g_get 1 (q + 39) 5 d rfl fwX1 (by decide) hl hw rfl K
theorem cg_mrk_bound (hs : s < N) (hk : D 2 s = 2) (d : decode J.2.1 pc = .ok (.getfield i, 3)) (hl : Cond.fieldLink J.1.cls i "ManyPens$Mark" "bound" "I" ∈ WT) (K : G Z J E Q (pc + 3) ls (.int (iI (D 6 s)) :: st) (cW Z a C fS fA (sW Z D sa sb N)) k n) : G Z J E Q pc ls (.ref (sa s) :: st) (cW Z a C fS fA (sW Z D sa sb N)) k n := by
  obtain ⟨q, hq⟩ := sW_sl (Z := Z) (D := D) (sa := sa) (sb := sb) N s hs
  have hw : (cW Z a C fS fA (sW Z D sa sb N))[q + 39]? = some (sa s, slC D sb s) := (cW_off q).trans hq
  unfold slC at hw
  rw [if_neg (by omega), if_neg (by omega), if_pos hk] at hw
  exact g_get 1 (q + 39) 6 d rfl fwX1 (by decide) hl hw rfl K
theorem cg_mrk_tint (hs : s < N) (hk : D 2 s = 2) (d : decode J.2.1 pc = .ok (.getfield i, 3)) (hl : Cond.fieldLink J.1.cls i "ManyPens$Mark" "tint" "I" ∈ WT) (K : G Z J E Q (pc + 3) ls (.int (iI (D 7 s)) :: st) (cW Z a C fS fA (sW Z D sa sb N)) k n) : G Z J E Q pc ls (.ref (sa s) :: st) (cW Z a C fS fA (sW Z D sa sb N)) k n := by
  obtain ⟨q, hq⟩ := sW_sl (Z := Z) (D := D) (sa := sa) (sb := sb) N s hs
  have hw : (cW Z a C fS fA (sW Z D sa sb N))[q + 39]? = some (sa s, slC D sb s) := (cW_off q).trans hq
  unfold slC at hw
  rw [if_neg (by omega), if_neg (by omega), if_pos hk] at hw
  exact g_get 1 (q + 39) 7 d rfl fwX1 (by decide) hl hw rfl K
theorem cg_mrk_on (hs : s < N) (hk : D 2 s = 2) (d : decode J.2.1 pc = .ok (.getfield i, 3)) (hl : Cond.fieldLink J.1.cls i "ManyPens$Mark" "on" "Z" ∈ WT) (K : G Z J E Q (pc + 3) ls (.int (iI (D 8 s)) :: st) (cW Z a C fS fA (sW Z D sa sb N)) k n) : G Z J E Q pc ls (.ref (sa s) :: st) (cW Z a C fS fA (sW Z D sa sb N)) k n := by
  obtain ⟨q, hq⟩ := sW_sl (Z := Z) (D := D) (sa := sa) (sb := sb) N s hs
  have hw : (cW Z a C fS fA (sW Z D sa sb N))[q + 39]? = some (sa s, slC D sb s) := (cW_off q).trans hq
  unfold slC at hw
  rw [if_neg (by omega), if_neg (by omega), if_pos hk] at hw
  exact g_get 1 (q + 39) 8 d rfl fwX1 (by decide) hl hw rfl K
theorem cg_und_undone (hs : s < N) (hk : D 2 s = 3) (d : decode J.2.1 pc = .ok (.getfield i, 3)) (hl : Cond.fieldLink J.1.cls i "ManyPens$Undo" "undone" "I" ∈ WT) (K : G Z J E Q (pc + 3) ls (.int (iI (D 6 s)) :: st) (cW Z a C fS fA (sW Z D sa sb N)) k n) : G Z J E Q pc ls (.ref (sa s) :: st) (cW Z a C fS fA (sW Z D sa sb N)) k n := by
  obtain ⟨q, hq⟩ := sW_sl (Z := Z) (D := D) (sa := sa) (sb := sb) N s hs
  have hw : (cW Z a C fS fA (sW Z D sa sb N))[q + 39]? = some (sa s, slC D sb s) := (cW_off q).trans hq
  unfold slC at hw
  rw [if_neg (by omega), if_neg (by omega), if_neg (by omega)] at hw
  exact g_get 6 (q + 39) 4 d rfl fwX7 (by decide) hl hw rfl K
theorem ca_codes (hs : s < N) (hk : D 2 s = 0) (h3 : D 3 s ≤ 100) (d : decode J.2.1 pc = .ok (.iaload, 1)) (h0 : 0 ≤ x) (h1 : x < D 3 s) (K : G Z J E Q (pc + 1) ls (.int (iI (D 5 (4 * s + x))) :: st) (cW Z a C fS fA (sW Z D sa sb N)) k n) : G Z J E Q pc ls (.int (iI x) :: .ref (sb s) :: st) (cW Z a C fS fA (sW Z D sa sb N)) k n := by
  obtain ⟨q, hq⟩ := sW_ar (Z := Z) (D := D) (sa := sa) (sb := sb) N s hs (Or.inl hk)
  have hw : (cW Z a C fS fA (sW Z D sa sb N))[q + 39]? = some (sb s, slA Z D s) := (cW_off q).trans hq
  unfold slA at hw
  rw [if_pos hk] at hw
  exact gi_iald (q + 39) d hw (by omega) h0 (by omega) K
theorem cl_codes (hs : s < N) (hk : D 2 s = 0) (h3 : 0 ≤ D 3 s) (d : decode J.2.1 pc = .ok (.arraylength, 1)) (K : G Z J E Q (pc + 1) ls (.int (iI (D 3 s)) :: st) (cW Z a C fS fA (sW Z D sa sb N)) k n) : G Z J E Q pc ls (.ref (sb s) :: st) (cW Z a C fS fA (sW Z D sa sb N)) k n := by
  obtain ⟨q, hq⟩ := sW_ar (Z := Z) (D := D) (sa := sa) (sb := sb) N s hs (Or.inl hk)
  have hw : (cW Z a C fS fA (sW Z D sa sb N))[q + 39]? = some (sb s, slA Z D s) := (cW_off q).trans hq
  unfold slA at hw
  refine g_alen (q + 39) 0 (iI (D 3 s)) d hw rfl ?_ K
  show nI (D 3 s).toNat = _
  rw [← iI_nat, show (((D 3 s).toNat : Nat) : Int) = D 3 s by omega]
theorem ca_names (hs : s < N) (hk : D 2 s = 1) (h3 : D 3 s ≤ 100) (d : decode J.2.1 pc = .ok (.iaload, 1)) (h0 : 0 ≤ x) (h1 : x < D 3 s) (K : G Z J E Q (pc + 1) ls (.int (iI (D 4 (12 * s + x))) :: st) (cW Z a C fS fA (sW Z D sa sb N)) k n) : G Z J E Q pc ls (.int (iI x) :: .ref (sb s) :: st) (cW Z a C fS fA (sW Z D sa sb N)) k n := by
  obtain ⟨q, hq⟩ := sW_ar (Z := Z) (D := D) (sa := sa) (sb := sb) N s hs (Or.inr hk)
  have hw : (cW Z a C fS fA (sW Z D sa sb N))[q + 39]? = some (sb s, slA Z D s) := (cW_off q).trans hq
  unfold slA at hw
  rw [if_neg (by omega)] at hw
  exact gi_iald (q + 39) d hw (by omega) h0 (by omega) K
theorem cl_names (hs : s < N) (hk : D 2 s = 1) (h3 : 0 ≤ D 3 s) (d : decode J.2.1 pc = .ok (.arraylength, 1)) (K : G Z J E Q (pc + 1) ls (.int (iI (D 3 s)) :: st) (cW Z a C fS fA (sW Z D sa sb N)) k n) : G Z J E Q pc ls (.ref (sb s) :: st) (cW Z a C fS fA (sW Z D sa sb N)) k n := by
  obtain ⟨q, hq⟩ := sW_ar (Z := Z) (D := D) (sa := sa) (sb := sb) N s hs (Or.inr hk)
  have hw : (cW Z a C fS fA (sW Z D sa sb N))[q + 39]? = some (sb s, slA Z D s) := (cW_off q).trans hq
  unfold slA at hw
  refine g_alen (q + 39) 0 (iI (D 3 s)) d hw rfl ?_ K
  show nI (D 3 s).toNat = _
  rw [← iI_nat, show (((D 3 s).toNat : Nat) : Int) = D 3 s by omega]
theorem ca_slips (hx : fS x.toNat = some (sa s)) (d : decode J.2.1 pc = .ok (.aaload, 1)) (h0 : 0 ≤ x) (h1 : x < 256) (K : G Z J E Q (pc + 1) ls (.ref (sa s) :: st) (cW Z a C fS fA (sW Z D sa sb N)) k n) : G Z J E Q pc ls (.int (iI x) :: .ref (a 103) :: st) (cW Z a C fS fA (sW Z D sa sb N)) k n := g_aald2 2 d rfl (iI_in h0 h1 (by decide)) (by rw [iI_clamp h0 (by omega), hx]; exact K)
theorem ca_byAge (hx : fA x.toNat = some (sa s)) (d : decode J.2.1 pc = .ok (.aaload, 1)) (h0 : 0 ≤ x) (h1 : x < 256) (K : G Z J E Q (pc + 1) ls (.ref (sa s) :: st) (cW Z a C fS fA (sW Z D sa sb N)) k n) : G Z J E Q pc ls (.int (iI x) :: .ref (a 104) :: st) (cW Z a C fS fA (sW Z D sa sb N)) k n := g_aald2 3 d rfl (iI_in h0 h1 (by decide)) (by rw [iI_clamp h0 (by omega), hx]; exact K)
theorem ca_sheets (d : decode J.2.1 pc = .ok (.aaload, 1)) (h0 : 0 ≤ x) (h1 : x < 6) (K : G Z J E Q (pc + 1) ls (.ref (a (110 + x.toNat)) :: st) (cW Z a C fS fA (sW Z D sa sb N)) k n) : G Z J E Q pc ls (.int (iI x) :: .ref (a 101) :: st) (cW Z a C fS fA (sW Z D sa sb N)) k n := g_aald3 5 d rfl (iI_in h0 h1 (by decide)) (by rw [iI_clamp h0 (by omega)]; exact K)
end SRows
