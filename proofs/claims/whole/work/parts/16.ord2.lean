/-! THE ORDER with a new put k: its signs come behind its left, behind all that is later -/
section NewPut
variable {D : Mem} {k : Nat}
theorem kd_newB (hO : okO D (k + 1)) : ∀ (d : Nat) (L : Int), L ≠ D 6 k → D 6 k ∉ kd D tT k d L → kd D tT (k + 1) d L = kd D tT k d L := by
  intro d
  induction d with
  | zero => intro L _ _; rfl
  | succ d ih =>
    intro L hL hn
    have hc : chl D tT (k + 1) L = chl D tT k L := by unfold chl; rw [pls_new (fun e => hL e.2.symm)]
    have hb : ∀ x ∈ chl D tT k L, kd D tT (k + 1) d x = kd D tT k d x := fun x hx => ih x (fun e => hn (e ▸ kd_one hx)) (fun hm => hn (kd_sub hx hm))
    show (chl D tT (k + 1) L).flatMap (fun x => x :: kd D tT (k + 1) d x) = (chl D tT k L).flatMap (fun x => x :: kd D tT k d x)
    rw [hc]
    exact flatMap_congr (fun x hx => by rw [hb x hx])
theorem chl_k (hO : okO D (k + 1)) {x : Int} (hx : x / 4 = k) : chl D tT (k + 1) x = [] := by
  cases hc : chl D tT (k + 1) x with
  | nil => rfl
  | cons y r =>
    exfalso
    have hu := chl_up hO (x := y) (L := x) (T := tT) (by rw [hc]; exact List.mem_cons_self)
    rcases hu.2.2.2.2.2.2 with e | e <;> omega
theorem kd_k (hO : okO D (k + 1)) {x : Int} (hx : x / 4 = k) (d : Nat) : kd D tT (k + 1) d x = [] := by
  cases d with
  | zero => rfl
  | succ d =>
    show (chl D tT (k + 1) x).flatMap (fun x => x :: kd D tT (k + 1) d x) = []
    rw [chl_k hO hx]; rfl
theorem kd_blk (hO : okO D (k + 1)) (h2 : D 2 k = 0) (d : Nat) : (nmP D k).flatMap (fun x => x :: kd D tT (k + 1) d x) = nmP D k := by
  have h3 := hO.1 k (by omega) (by omega) h2
  have : ∀ l : List Int, (∀ x ∈ l, x / 4 = k) → l.flatMap (fun x => x :: kd D tT (k + 1) d x) = l := by
    intro l
    induction l with
    | nil => intro _; rfl
    | cons a t ih =>
      intro h
      rw [List.flatMap_cons, ih (fun x hx => h x (List.mem_cons_of_mem _ hx)), kd_k hO (h a List.mem_cons_self)]
      rfl
  exact this _ (fun x hx => ((mem_nmP (by omega) h3.2.1).mp hx).1)
theorem kd_newC (hO : okO D (k + 1)) (h2 : D 2 k = 0) (d : Nat) (Y : List Int) (hY : ∀ y, Y.head? = some y → laterB D (y / 4) k = false) : kd D tT (k + 1) (d + 1) (D 6 k) ++ Y = sk D k (kd D tT k (d + 1) (D 6 k) ++ Y) := by
  have hOk : okO D k := hO.mono (by omega)
  have hc : cand D tT (D 6 k) k = true := cand_iff.mpr ⟨rfl, h2, rfl⟩
  have hp : pls D tT (D 6 k) (k + 1) = insR D k (pls D tT (D 6 k) k) := by
    show (if cand D tT (D 6 k) k = true then insR D k (pls D tT (D 6 k) k) else pls D tT (D 6 k) k) = _
    rw [if_pos hc]
  have hsame : ∀ x ∈ chl D tT k (D 6 k), kd D tT (k + 1) d x = kd D tT k d x := by
    intro x hx
    have hu := chl_up hOk hx
    refine kd_newB hO d x (fun e => ?_) (fun hm => ?_)
    · rcases hu.2.2.2.2.2.2 with h | h <;> omega
    · have hk := kd_up hOk d x _ hm
      have hk2 := hk.2.resolve_left (by omega)
      rcases hu.2.2.2.2.2.2 with h | h <;> omega
  obtain ⟨A, hA⟩ : ∃ A, A = (pls D tT (D 6 k) k).takeWhile (fun t => laterB D t k) := ⟨_, rfl⟩
  obtain ⟨B, hB⟩ : ∃ B, B = (pls D tT (D 6 k) k).dropWhile (fun t => laterB D t k) := ⟨_, rfl⟩
  have hAB : pls D tT (D 6 k) k = A ++ B := by rw [hA, hB, List.takeWhile_append_dropWhile]
  have hsub : ∀ P ∈ A ++ B, ∀ x ∈ nmP D P, x ∈ chl D tT k (D 6 k) := by
    intro P hP x hx
    unfold chl
    rw [hAB]
    exact List.mem_flatMap.mpr ⟨P, hP, hx⟩
  have hg : kd D tT (k + 1) (d + 1) (D 6 k) = (A.flatMap (nmP D)).flatMap (fun x => x :: kd D tT k d x) ++ (nmP D k ++ (B.flatMap (nmP D)).flatMap (fun x => x :: kd D tT k d x)) := by
    show (chl D tT (k + 1) (D 6 k)).flatMap (fun x => x :: kd D tT (k + 1) d x) = _
    unfold chl
    rw [hp, insR_split, ← hA, ← hB, List.flatMap_append, List.flatMap_cons, List.flatMap_append, List.flatMap_append, kd_blk hO h2]
    congr 1
    · refine flatMap_congr (fun x hx => ?_)
      obtain ⟨P, hP, hx2⟩ := List.mem_flatMap.mp hx
      rw [hsame x (hsub P (List.mem_append_left _ hP) x hx2)]
    · congr 1
      refine flatMap_congr (fun x hx => ?_)
      obtain ⟨P, hP, hx2⟩ := List.mem_flatMap.mp hx
      rw [hsame x (hsub P (List.mem_append_right _ hP) x hx2)]
  have hf : kd D tT k (d + 1) (D 6 k) = (A.flatMap (nmP D)).flatMap (fun x => x :: kd D tT k d x) ++ (B.flatMap (nmP D)).flatMap (fun x => x :: kd D tT k d x) := by
    show (chl D tT k (D 6 k)).flatMap (fun x => x :: kd D tT k d x) = _
    unfold chl
    rw [hAB, List.flatMap_append, List.flatMap_append]
  have hall : ∀ y ∈ (A.flatMap (nmP D)).flatMap (fun x => x :: kd D tT k d x), laterB D (y / 4) k = true := by
    intro y hy
    obtain ⟨x, hx, hy2⟩ := List.mem_flatMap.mp hy
    obtain ⟨P, hP, hx2⟩ := List.mem_flatMap.mp hx
    have hPl : laterB D P k = true := by rw [hA] at hP; exact tw_all _ P hP
    have hm := mem_pls.mp (show P ∈ pls D tT (D 6 k) k by rw [hAB]; exact List.mem_append_left _ hP)
    have hsz := hOk.1 P hm.1 hm.2.1 (cand_iff.mp hm.2.2).2.1
    have hxP := ((mem_nmP hm.1 hsz.2.1).mp hx2).1
    rcases List.mem_cons.mp hy2 with e | e
    · subst e; rw [hxP]; exact hPl
    · have hk := kd_up hOk d x y e
      have hk2 := hk.2.resolve_left (by omega)
      rw [laterB_iff] at hPl ⊢
      have := hk2.2.2
      rw [hxP] at this
      omega
  have hhd : ∀ y, ((B.flatMap (nmP D)).flatMap (fun x => x :: kd D tT k d x) ++ Y).head? = some y → laterB D (y / 4) k = false := by
    intro y hy
    cases hBc : B with
    | nil => rw [hBc] at hy; exact hY y (by simpa using hy)
    | cons P r =>
      have hPm : P ∈ pls D tT (D 6 k) k := by rw [hAB, hBc]; simp
      have hm := mem_pls.mp hPm
      have hsz := hOk.1 P hm.1 hm.2.1 (cand_iff.mp hm.2.2).2.1
      have hPl : laterB D P k = false := dw_head (pls D tT (D 6 k) k) P (by rw [← hB, hBc]; rfl)
      have hn : nmP D P = 4 * P :: (nmP D P).tail := by
        unfold nmP
        rw [show (D 3 P).toNat = ((D 3 P).toNat - 1) + 1 by omega, List.range_succ_eq_map]
        simp
      rw [hBc, List.flatMap_cons, hn] at hy
      simp at hy
      rw [← hy, show 4 * P / 4 = P by omega]
      exact hPl
  rw [hg, hf, List.append_assoc, List.append_assoc, List.append_assoc]
  unfold sk
  rw [(tw_split _ _ hall hhd).1, (tw_split _ _ hall hhd).2]
theorem chl_pw (hO : okO D k) (T : Int → Bool) (L : Int) : (chl D T k L).Pairwise (fun x y => Lat D (x / 4) (y / 4) ∨ (x / 4 = y / 4 ∧ x < y)) := by
  have : ∀ l : List Int, l.Pairwise (Lat D) → (∀ P ∈ l, 0 ≤ P ∧ D 3 P ≤ 3) → (l.flatMap (nmP D)).Pairwise (fun x y => Lat D (x / 4) (y / 4) ∨ (x / 4 = y / 4 ∧ x < y)) := by
    intro l
    induction l with
    | nil => intro _ _; simp
    | cons P t ih =>
      intro h hs
      have h2 := List.pairwise_cons.mp h
      have hP := hs P List.mem_cons_self
      rw [List.flatMap_cons]
      refine List.pairwise_append.mpr ⟨?_, ih h2.2 (fun q hq => hs q (List.mem_cons_of_mem _ hq)), ?_⟩
      · unfold nmP
        refine List.pairwise_map.mpr ((List.pairwise_lt_range (n := (D 3 P).toNat)).imp_of_mem ?_)
        intro a b ha hb hab
        have := List.mem_range.mp ha
        have := List.mem_range.mp hb
        right
        omega
      · intro x hx y hy
        obtain ⟨q, hq, hy2⟩ := List.mem_flatMap.mp hy
        have hqs := hs q (List.mem_cons_of_mem _ hq)
        rw [((mem_nmP hP.1 hP.2).mp hx).1, ((mem_nmP hqs.1 hqs.2).mp hy2).1]
        exact Or.inl (h2.1 q hq)
  refine this _ (pls_srt hO k (Nat.le_refl _)) (fun P hP => ?_)
  have hm := mem_pls.mp hP
  exact ⟨hm.1, (hO.1 P hm.1 hm.2.1 (cand_iff.mp hm.2.2).2.1).2.1⟩
theorem kd_newD (hO : okO D (k + 1)) (h2 : D 2 k = 0) (h6 : 0 ≤ D 6 k) : ∀ (d : Nat) (L : Int) (Y : List Int), (k : Int) + 1 - L / 4 ≤ d → L ≠ D 6 k → D 6 k ∈ kd D tT k d L → (∀ y, Y.head? = some y → laterB D (y / 4) k = false) → kd D tT (k + 1) d L ++ Y = insA D k (D 6 k) (kd D tT k d L ++ Y) := by
  have hOk : okO D k := hO.mono (by omega)
  have hl6 : nameOK D k (D 6 k) ∧ Lat D k (D 6 k / 4) := ((hO.1 k (by omega) (by omega) h2).2.2).resolve_left (by omega)
  intro d
  induction d with
  | zero => intro L Y _ _ h; simp [kd] at h
  | succ d ih =>
    intro L Y hd hL hm hY
    have hc : chl D tT (k + 1) L = chl D tT k L := by unfold chl; rw [pls_new (fun e => hL e.2.symm)]
    have hm2 : D 6 k ∈ (chl D tT k L).flatMap (fun x => x :: kd D tT k d x) := hm
    obtain ⟨x0, hx0, hx0m⟩ := List.mem_flatMap.mp hm2
    have hx0m : D 6 k = x0 ∨ D 6 k ∈ kd D tT k d x0 := List.mem_cons.mp hx0m
    obtain ⟨X1, X2, hX⟩ := List.append_of_mem hx0
    have hpw := chl_pw hOk tT L
    rw [hX] at hpw
    have hpw2 := List.pairwise_append.mp hpw
    have hpw3 := List.pairwise_cons.mp hpw2.2.1
    have hu0 := chl_up hOk hx0
    have hne : ∀ x, x ∈ X1 ∨ x ∈ X2 → x ≠ x0 := by
      intro x hx e
      subst e
      rcases hx with hx | hx
      · have := hpw2.2.2 x hx x List.mem_cons_self; omega
      · have := hpw3.1 x hx; omega
    have hmem : ∀ x, x ∈ X1 ∨ x ∈ X2 → x ∈ chl D tT k L := by
      intro x hx
      rw [hX]
      rcases hx with hx | hx
      · exact List.mem_append_left _ hx
      · exact List.mem_append_right _ (List.mem_cons_of_mem _ hx)
    have hoff : ∀ x, x ∈ X1 ∨ x ∈ X2 → D 6 k ≠ x ∧ D 6 k ∉ kd D tT k d x := by
      intro x hx
      refine ⟨fun e => hne x hx ?_, fun e => hne x hx ?_⟩
      · exact kd_apart hOk (hmem x hx) hx0 (D 6 k / 4).toNat (D 6 k) (by omega) d d (Or.inl e) hx0m
      · exact kd_apart hOk (hmem x hx) hx0 (D 6 k / 4).toNat (D 6 k) (by omega) d d (Or.inr e) hx0m
    obtain ⟨F1, hF1⟩ : ∃ F1, F1 = X1.flatMap (fun x => x :: kd D tT k d x) := ⟨_, rfl⟩
    obtain ⟨F2, hF2⟩ : ∃ F2, F2 = X2.flatMap (fun x => x :: kd D tT k d x) := ⟨_, rfl⟩
    have hf : kd D tT k (d + 1) L = F1 ++ (x0 :: kd D tT k d x0 ++ F2) := by
      show (chl D tT k L).flatMap (fun x => x :: kd D tT k d x) = _
      rw [hX, List.flatMap_append, List.flatMap_cons, hF1, hF2]
    have hg : kd D tT (k + 1) (d + 1) L = F1 ++ (x0 :: kd D tT (k + 1) d x0 ++ F2) := by
      show (chl D tT (k + 1) L).flatMap (fun x => x :: kd D tT (k + 1) d x) = _
      rw [hc, hX, List.flatMap_append, List.flatMap_cons, hF1, hF2]
      congr 1
      · exact flatMap_congr (fun x hx => by rw [kd_newB hO d x (fun e => (hoff x (Or.inl hx)).1 e.symm) (hoff x (Or.inl hx)).2])
      · congr 1
        exact flatMap_congr (fun x hx => by rw [kd_newB hO d x (fun e => (hoff x (Or.inr hx)).1 e.symm) (hoff x (Or.inr hx)).2])
    have hF1n : D 6 k ∉ F1 := by
      intro h
      rw [hF1] at h
      obtain ⟨x, hx, hxm⟩ := List.mem_flatMap.mp h
      rcases List.mem_cons.mp hxm with e | e
      · exact (hoff x (Or.inl hx)).1 e
      · exact (hoff x (Or.inl hx)).2 e
    have hx0l : Lat D k (x0 / 4) := by
      rcases hx0m with e | e
      · rw [← e]; exact hl6.2
      · have := (kd_up hOk d x0 _ e).2.resolve_left (by omega)
        have h3 := this.2.2
        have h4 := hl6.2
        omega
    have hhd : ∀ y, (F2 ++ Y).head? = some y → laterB D (y / 4) k = false := by
      intro y hy
      cases hX2 : X2 with
      | nil => rw [hF2, hX2] at hy; exact hY y (by simpa using hy)
      | cons x1 r =>
        rw [hF2, hX2, List.flatMap_cons] at hy
        simp at hy
        subst hy
        rw [laterB_not]
        have := hpw3.1 x1 (by rw [hX2]; exact List.mem_cons_self)
        rcases this with h | h
        · omega
        · rw [← h.1]; omega
    rw [hg, hf, List.append_assoc, List.append_assoc, List.append_assoc, List.append_assoc, insA_app _ _ hF1n]
    congr 1
    by_cases e : x0 = D 6 k
    · have hd1 : ∃ d2, d = d2 + 1 := ⟨d - 1, by rcases hu0.2.2.2.2.2.2 with h | h <;> omega⟩
      obtain ⟨d2, hd2⟩ := hd1
      subst hd2
      rw [List.cons_append, List.cons_append, insA, if_pos e, e, kd_newC hO h2 d2 (F2 ++ Y) hhd]
    · rw [List.cons_append, List.cons_append, insA, if_neg e, ih x0 (F2 ++ Y) (by rcases hu0.2.2.2.2.2.2 with h | h <;> omega) e (hx0m.resolve_left (fun h => e h.symm)) hhd]
/-- the order of all slips before a new put, and behind it -/
theorem KD_new (hO : okO D (k + 1)) (hk : k < 256) (h2 : D 2 k = 0) : KD D tT (k + 1) (-2) = if D 6 k = -2 then sk D k (KD D tT k (-2)) else insA D k (D 6 k) (KD D tT k (-2)) := by
  unfold KD
  split
  · next h =>
    have := kd_newC hO h2 299 [] (fun y h => by simp at h)
    rw [h] at this
    simpa using this
  · next h =>
    have hl6 := ((hO.1 k (by omega) (by omega) h2).2.2).resolve_left h
    have hm : D 6 k ∈ kd D tT k 300 (-2) := kd_full (hO.mono (by omega)) (D 6 k / 4).toNat (D 6 k) (by have := hl6.1; omega) hl6.1.1 hl6.1.2.1 hl6.1.2.2.1 hl6.1.2.2.2 300 (by have := hl6.1; omega)
    have := kd_newD hO h2 hl6.1.1 300 (-2) [] (by omega) (fun e => h e.symm) hm (fun y h => by simp at h)
    simpa using this
theorem nmP_len (P : Int) : ((nmP D P).length : Int) = (D 3 P).toNat := by unfold nmP; simp
theorem sk_len (P : Int) (l : List Int) : (sk D P l).length = l.length + (nmP D P).length := by
  unfold sk
  have := congrArg List.length (List.takeWhile_append_dropWhile (p := fun y => laterB D (y / 4) P) (l := l))
  simp only [List.length_append] at this ⊢
  omega
theorem insA_len (P L : Int) : ∀ l : List Int, (insA D P L l).length ≤ l.length + (nmP D P).length := by
  intro l
  induction l with
  | nil => simp [insA]
  | cons x t ih =>
    unfold insA
    split
    · simp only [List.length_cons, sk_len]; omega
    · simp only [List.length_cons]; omega
end NewPut
theorem KD_len {D : Mem} {N : Nat} (hO : okO D N) (hN : N ≤ 256) : (KD D tT N (-2)).length ≤ 3 * N := by
  have : ∀ k : Nat, k ≤ N → (KD D tT k (-2)).length ≤ 3 * k := by
    intro k
    induction k with
    | zero =>
      intro _
      have h0 : ∀ (d : Nat) (L : Int), kd D tT 0 d L = [] := by
        intro d L
        cases d <;> rfl
      unfold KD
      rw [h0]; simp
    | succ k ih =>
      intro hk
      have ih := ih (by omega)
      by_cases h2 : D 2 k = 0
      · have hO2 := hO.mono (k := k + 1) hk
        have hs := hO2.1 k (by omega) (by omega) h2
        have hl := nmP_len (D := D) k
        rw [KD_new hO2 (by omega) h2]
        split
        · rw [sk_len]; omega
        · have := insA_len (D := D) k (D 6 k) (KD D tT k (-2)); omega
      · unfold KD at ih ⊢
        rw [kd_new0 h2]; omega
  exact this N (Nat.le_refl _)
