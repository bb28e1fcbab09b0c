/-! WHAT HOLDS is kept where slips stay and got grows -/
section Keep
variable {D E : Mem} (hr : ∀ r : Nat, r ≠ 10 → r ≠ 11 → r ≠ 12 → r ≠ 13 → E r = D r)
theorem kp_needL : (∀ r : Nat, r ≠ 10 → r ≠ 11 → r ≠ 12 → r ≠ 13 → E r = D r) → ∀ s, needL E s = needL D s := by
  intro hr s
  have hs4 : ∀ k : Nat, sgN E s k = sgN D s k := fun k => sgN_congr k (fun i _ _ => by rw [hr 4 (by decide) (by decide) (by decide) (by decide)])
  have hla : ∀ q : Int, latestF E q s.toNat = latestF D q s.toNat := fun q => latestF_congr _ (fun t _ _ => by rw [hr 0 (by decide) (by decide) (by decide) (by decide)])
  unfold needL needA
  rw [hr 0 (by decide) (by decide) (by decide) (by decide), hr 2 (by decide) (by decide) (by decide) (by decide), hr 3 (by decide) (by decide) (by decide) (by decide), hr 6 (by decide) (by decide) (by decide) (by decide), hs4, hla]
theorem kp_later : (∀ r : Nat, r ≠ 10 → r ≠ 11 → r ≠ 12 → r ≠ 13 → E r = D r) → ∀ s t, laterB E s t = laterB D s t := by
  intro hr s t
  unfold laterB
  rw [hr 0 (by decide) (by decide) (by decide) (by decide), hr 1 (by decide) (by decide) (by decide) (by decide)]
theorem kp_insR : (∀ r : Nat, r ≠ 10 → r ≠ 11 → r ≠ 12 → r ≠ 13 → E r = D r) → ∀ (s : Int) (l : List Int), insR E s l = insR D s l := by
  intro hr s l
  induction l with
  | nil => rfl
  | cons t r ih =>
    rw [show insR E s (t :: r) = if laterB E t s = true then t :: insR E s r else s :: t :: r from rfl, show insR D s (t :: r) = if laterB D t s = true then t :: insR D s r else s :: t :: r from rfl, kp_later hr, ih]
theorem kp_pls : (∀ r : Nat, r ≠ 10 → r ≠ 11 → r ≠ 12 → r ≠ 13 → E r = D r) → ∀ (T : Int → Bool) (L : Int) (k : Nat), pls E T L k = pls D T L k := by
  intro hr T L k
  induction k with
  | zero => rfl
  | succ k ih =>
    rw [show pls E T L (k + 1) = if cand E T L k = true then insR E k (pls E T L k) else pls E T L k from rfl, show pls D T L (k + 1) = if cand D T L k = true then insR D k (pls D T L k) else pls D T L k from rfl, kp_insR hr, ih]
    have : cand E T L k = cand D T L k := by
      unfold cand
      rw [hr 2 (by decide) (by decide) (by decide) (by decide), hr 6 (by decide) (by decide) (by decide) (by decide)]
    rw [this]
theorem kp_kd : (∀ r : Nat, r ≠ 10 → r ≠ 11 → r ≠ 12 → r ≠ 13 → E r = D r) → ∀ (T : Int → Bool) (N d : Nat) (L : Int), kd E T N d L = kd D T N d L := by
  intro hr T N d
  induction d with
  | zero => intro L; rfl
  | succ d ih =>
    intro L
    have hc : chl E T N L = chl D T N L := by
      unfold chl
      rw [kp_pls hr]
      refine flatMap_congr (fun x _ => ?_)
      unfold nmP
      rw [hr 3 (by decide) (by decide) (by decide) (by decide)]
    show (chl E T N L).flatMap (fun x => x :: kd E T N d x) = (chl D T N L).flatMap (fun x => x :: kd D T N d x)
    rw [hc]
    exact flatMap_congr (fun x _ => by rw [ih x])
theorem kp_ordF : (∀ r : Nat, r ≠ 10 → r ≠ 11 → r ≠ 12 → r ≠ 13 → E r = D r) → ∀ T : Int → Bool, ordF E T = ordF D T := by
  intro hr T
  unfold ordF KD
  rw [hr 9 (by decide) (by decide) (by decide) (by decide), kp_kd hr]
theorem kp_okO : (∀ r : Nat, r ≠ 10 → r ≠ 11 → r ≠ 12 → r ≠ 13 → E r = D r) → okO D (D 9 0).toNat → okO E (E 9 0).toNat := by
  intro hr h
  have e0 := hr 0 (by decide) (by decide) (by decide) (by decide)
  have e1 := hr 1 (by decide) (by decide) (by decide) (by decide)
  have e2 := hr 2 (by decide) (by decide) (by decide) (by decide)
  have e3 := hr 3 (by decide) (by decide) (by decide) (by decide)
  have e6 := hr 6 (by decide) (by decide) (by decide) (by decide)
  have e9 := hr 9 (by decide) (by decide) (by decide) (by decide)
  unfold okO nameOK Lat
  rw [e0, e1, e2, e3, e6, e9]
  exact h
theorem kp_mono (hD : okP D) (hE : okP E) : (∀ r : Nat, r ≠ 10 → r ≠ 11 → r ≠ 12 → r ≠ 13 → E r = D r) → ∀ {p : Int}, (∀ s, 0 ≤ s → s < D 9 0 → D 10 (256 * p + s) = 1 → E 10 (256 * p + s) = 1) → ∀ (k : Nat) (s : Int), s ≤ k → 0 ≤ s → s < D 9 0 → tkB D p s = true → tkB E p s = true := by
  intro hr p hg k
  have h9 : E 9 0 = D 9 0 := by rw [hr 9 (by decide) (by decide) (by decide) (by decide)]
  induction k with
  | zero =>
    intro s hk h0 h1 h
    rw [tkB_eq hD p h0 h1, Bool.and_eq_true, decide_eq_true_eq] at h
    rw [tkB_eq hE p h0 (by omega), Bool.and_eq_true, decide_eq_true_eq, kp_needL hr]
    refine ⟨hg s h0 h1 h.1, List.all_eq_true.mpr (fun t ht => ?_)⟩
    have := need_lt hD h0 h1 t ht
    omega
  | succ k ih =>
    intro s hk h0 h1 h
    rw [tkB_eq hD p h0 h1, Bool.and_eq_true, decide_eq_true_eq] at h
    rw [tkB_eq hE p h0 (by omega), Bool.and_eq_true, decide_eq_true_eq, kp_needL hr]
    refine ⟨hg s h0 h1 h.1, List.all_eq_true.mpr (fun t ht => ?_)⟩
    have hl := need_lt hD h0 h1 t ht
    exact ih t (by omega) hl.1 (by omega) (List.all_eq_true.mp h.2 t ht)
theorem Good_row (hG : Good D) (hr : ∀ r : Nat, r ≠ 10 → r ≠ 11 → r ≠ 12 → r ≠ 13 → E r = D r) (hE : okP E) (hg : ∀ p s, 0 ≤ p → p < 6 → 0 ≤ s → s < D 9 0 → D 10 (256 * p + s) = 1 → E 10 (256 * p + s) = 1) (hC : okC E) : Good E := by
  obtain ⟨hD, hO, hT, hW, -⟩ := hG
  have h9 : E 9 0 = D 9 0 := by rw [hr 9 (by decide) (by decide) (by decide) (by decide)]
  refine ⟨hE, kp_okO hr hO, fun s h0 h1 => ?_, fun s h0 h1 => ?_, hC⟩
  · rw [hr 1 (by decide) (by decide) (by decide) (by decide)]; exact hT s h0 (by omega)
  · rw [hr 0 (by decide) (by decide) (by decide) (by decide)]
    have hp := (hD.2.2.1 s h0 (by omega)).1
    exact kp_mono hD hE hr (fun t a b c => hg _ t hp.1 hp.2 a b c) s.toNat s (by omega) h0 (by omega) (hW s h0 (by omega))
theorem Good_got (hG : Good D) (hr : ∀ r : Nat, r ≠ 10 → r ≠ 13 → E r = D r) (hE : okP E) (hg : ∀ p s, 0 ≤ p → p < 6 → 0 ≤ s → s < D 9 0 → D 10 (256 * p + s) = 1 → E 10 (256 * p + s) = 1) : Good E := by
  have hr2 : ∀ r : Nat, r ≠ 10 → r ≠ 11 → r ≠ 12 → r ≠ 13 → E r = D r := fun r a _ _ d => hr r a d
  refine Good_row hG hr2 hE hg ?_
  obtain ⟨hD, hO, hT, hW, hC⟩ := hG
  have h9 : E 9 0 = D 9 0 := by rw [hr 9 (by decide) (by decide)]
  intro q c a b cc d hl
  rw [hr 12 (by decide) (by decide)] at hl ⊢
  rw [hr 11 (by decide) (by decide)]
  have := hC q c a b cc d hl
  refine ⟨this.1, this.2.imp id (fun h => ?_)⟩
  obtain ⟨m0, m1, m2, m3, m4⟩ := ordF_mem hD hO h
  refine (mem_ordF hE (kp_okO hr2 hO) (tkB_Cl hE q)).mpr ⟨m0, by omega, ?_, ?_, ?_⟩
  · rw [hr 2 (by decide) (by decide)]; exact m2
  · exact kp_mono hD hE hr2 (fun t x y z => hg q t a b x y z) (D 11 (3 * q + c) / 4).toNat _ (by omega) (by omega) m1 m3
  · rw [hr 3 (by decide) (by decide)]; exact m4
end Keep
theorem okP_fin {D : Mem} (hD : okP D) {v : Int} (hv : Rg v) : okP (ms D 13 0 v) := ⟨RM_ms hD.1 hv, hD.2.1, hD.2.2.1, hD.2.2.2.1, hD.2.2.2.2⟩
theorem Good_fin {D : Mem} (hG : Good D) {v : Int} (hv : Rg v) : Good (ms D 13 0 v) := Good_got hG (fun r _ h => ms_ne h) (okP_fin hG.1 hv) (fun _ _ _ _ _ _ h => h)
theorem Good_carry {D : Mem} (hG : Good D) (s p : Int) : Good (A_carry D s p).2 := by
  unfold A_carry
  split
  · refine Good_fin (Good_got hG (fun r h _ => ms_ne h) (okP_got hG.1 (Or.inr rfl)) (fun q u a b c d h => ?_)) ⟨by decide, by decide⟩
    by_cases e : 256 * q + u = 256 * p + s
    · rw [e, ms_at]
    · rw [ms_off e]; exact h
  · exact Good_fin hG ⟨by decide, by decide⟩
theorem Good_all {D : Mem} (hG : Good D) (f t : Int) : Good (A_all D f t).2 := by
  unfold A_all
  split
  · refine Good_fin (Good_got hG (fun r h _ => alD_ne h) (okP_al hG.1 _ _ _) (fun q u a b c d h => ?_)) ⟨by decide, by decide⟩
    rw [alD_10]
    unfold alG
    split
    · rw [if_pos (Or.inl (by omega))]
    · exact h
  · exact Good_fin hG ⟨by decide, by decide⟩
theorem Good_part {D : Mem} (hG : Good D) (s i : Int) : Good (ms D 13 0 (A_part D s i).2) := by
  refine Good_fin hG ?_
  unfold A_part
  split
  · split
    · exact ⟨by decide, by decide⟩
    · split <;> (dsimp only; exact ⟨by decide, by decide⟩)
  · exact ⟨by decide, by decide⟩
theorem Good_link {D : Mem} (hG : Good D) (s k : Int) : Good (ms D 13 0 (A_link D s k).2) := by
  refine Good_fin hG ?_
  unfold A_link
  split
  · split <;> (dsimp only; exact ⟨by decide, by decide⟩)
  · exact ⟨by decide, by decide⟩
theorem Good_0 : Good D0 := by
  have h0 : D0 9 0 = 0 := by decide
  refine ⟨⟨fun r z => ?_, by omega, fun s a b => by omega, fun z => Or.inl ?_, fun z => Or.inl ?_⟩, ⟨fun s a b => by omega, fun s t a b => by omega⟩, fun s a b => by omega, fun s a b => by omega, fun p c a b cc d h => ?_⟩
  · unfold D0; split <;> exact ⟨by decide, by decide⟩
  · unfold D0; rw [if_neg (by omega)]
  · unfold D0; rw [if_neg (by omega)]
  · exfalso
    have : D0 12 (3 * p + c) = -1 := by unfold D0; rw [if_pos (by omega)]
    omega
