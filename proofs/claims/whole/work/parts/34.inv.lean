/-! THE DATA with one slip more: what of the elder slips stays -/
def Ext (D E : Mem) (p : Int) : Prop := E 9 0 = D 9 0 + 1 ∧ (∀ r : Nat, (r = 0 ∨ r = 1 ∨ r = 2 ∨ r = 3 ∨ r = 6 ∨ r = 7 ∨ r = 8) → ∀ s, 0 ≤ s → s < D 9 0 → E r s = D r s) ∧ (∀ z, z < 12 * D 9 0 → E 4 z = D 4 z) ∧ (∀ z, z < 4 * D 9 0 → E 5 z = D 5 z) ∧ (∀ q s, 0 ≤ q → q < 6 → 0 ≤ s → s < D 9 0 → E 10 (256 * q + s) = D 10 (256 * q + s)) ∧ (∀ q, 0 ≤ q → q < 6 → E 10 (256 * q + D 9 0) = bI (decide (q = p))) ∧ E 0 (D 9 0) = p ∧ E 11 = D 11 ∧ E 12 = D 12
theorem latestF_congr {D E : Mem} {p : Int} : ∀ k : Nat, (∀ t : Int, 0 ≤ t → t < k → E 0 t = D 0 t) → latestF E p k = latestF D p k := by
  intro k
  induction k with
  | zero => intro _; rfl
  | succ k ih =>
    intro h
    unfold latestF
    rw [h k (by omega) (by omega), ih (fun t a b => h t a (by omega))]
theorem sgN_congr {D E : Mem} {s : Int} : ∀ k : Nat, (∀ i : Int, 0 ≤ i → i < k → E 4 (12 * s + i) = D 4 (12 * s + i)) → sgN E s k = sgN D s k := by
  intro k
  induction k with
  | zero => intro _; rfl
  | succ k ih =>
    intro h
    unfold sgN
    rw [h k (by omega) (by omega), ih (fun t a b => h t a (by omega))]
theorem needL_ext {D E : Mem} {p : Int} (hD : okP D) (hx : Ext D E p) {s : Int} (h0 : 0 ≤ s) (h1 : s < D 9 0) : needL E s = needL D s := by
  obtain ⟨hp0, hk0, hS0, hS1, hS2, hS3, hSg⟩ := hD.2.2.1 s h0 h1
  obtain ⟨-, hr, h4, -⟩ := hx
  have hsz : D 3 s ≤ 12 := by
    have hk : D 2 s = 0 ∨ D 2 s = 1 ∨ D 2 s = 2 ∨ D 2 s = 3 := by omega
    rcases hk with hk | hk | hk | hk
    · have := hS0 hk; omega
    · have := hS1 hk; omega
    · have := hS2 hk; omega
    · have := hS3 hk; omega
  unfold needL needA
  rw [hr 0 (by decide) s h0 h1, hr 2 (by decide) s h0 h1, hr 3 (by decide) s h0 h1, hr 6 (by decide) s h0 h1, latestF_congr s.toNat (fun t a b => hr 0 (by decide) t a (by omega)), sgN_congr (D 3 s).toNat (fun i a b => h4 _ (by omega))]
theorem tkU_ext {D E : Mem} {p : Int} (hD : okP D) (hx : Ext D E p) {q : Int} (hq0 : 0 ≤ q) (hq1 : q < 6) : ∀ (k : Nat) (s : Int), 0 ≤ s → s < D 9 0 → tkU E q k s = tkU D q k s := by
  intro k
  induction k with
  | zero => intro s _ _; rfl
  | succ k ih =>
    intro s h0 h1
    unfold tkU
    rw [hx.2.2.2.2.1 q s hq0 hq1 h0 h1, needL_ext hD hx h0 h1]
    rw [all_congr (fun t ht => ih t (need_lt hD h0 h1 t ht).1 (by have := need_lt hD h0 h1 t ht; omega))]
theorem tkB_ext {D E : Mem} {p : Int} (hD : okP D) (hx : Ext D E p) {q : Int} (hq0 : 0 ≤ q) (hq1 : q < 6) {s : Int} (h0 : 0 ≤ s) (h1 : s < D 9 0) : tkB E q s = tkB D q s := tkU_ext hD hx hq0 hq1 300 s h0 h1
/-- the new slip is taken where its maker stands, and nowhere else -/
theorem tkB_new {D E : Mem} {p : Int} (hE : okP E) (hD : okP D) (hx : Ext D E p) (hp0 : 0 ≤ p) (hp1 : p < 6) (hneed : ∀ t ∈ needL E (D 9 0), tkB D p t = true) : tkB E p (D 9 0) = true := by
  have hn := hD.2.1
  have h9 := hx.1
  rw [tkB_eq hE p hn.1 (by omega), hx.2.2.2.2.2.1 p hp0 hp1]
  have e : bI (decide (p = p)) = 1 := by rw [decide_eq_true rfl]; rfl
  rw [e, Bool.and_eq_true]
  refine ⟨rfl, List.all_eq_true.mpr (fun t ht => ?_)⟩
  have hl := need_lt hE hn.1 (by omega) t ht
  rw [tkB_ext hD hx hp0 hp1 hl.1 hl.2]
  exact hneed t ht
theorem tkB_newN {D E : Mem} {p : Int} (hE : okP E) (hD : okP D) (hx : Ext D E p) {q : Int} (hq0 : 0 ≤ q) (hq1 : q < 6) (hne : q ≠ p) : tkB E q (D 9 0) = false := by
  have hn := hD.2.1
  have h9 := hx.1
  rw [tkB_eq hE q hn.1 (by omega), hx.2.2.2.2.2.1 q hq0 hq1, decide_eq_false hne]
  rfl
/-- got grows: taken grows -/
theorem tkB_mono {D E : Mem} (hD : okP D) (hE : okP E) (h9 : E 9 0 = D 9 0) (hr : ∀ r : Nat, r ≠ 10 → r ≠ 13 → E r = D r) {p : Int} (hg : ∀ s, 0 ≤ s → s < D 9 0 → D 10 (256 * p + s) = 1 → E 10 (256 * p + s) = 1) : ∀ (k : Nat) (s : Int), s ≤ k → 0 ≤ s → s < D 9 0 → tkB D p s = true → tkB E p s = true := by
  have hneed : ∀ s, needL E s = needL D s := by
    intro s
    have hs4 : ∀ k : Nat, sgN E s k = sgN D s k := fun k => sgN_congr k (fun i _ _ => by rw [hr 4 (by decide) (by decide)])
    have hla : ∀ q : Int, latestF E q s.toNat = latestF D q s.toNat := fun q => latestF_congr _ (fun t _ _ => by rw [hr 0 (by decide) (by decide)])
    unfold needL needA
    rw [hr 0 (by decide) (by decide), hr 2 (by decide) (by decide), hr 3 (by decide) (by decide), hr 6 (by decide) (by decide), hs4, hla]
  intro k
  induction k with
  | zero =>
    intro s hk h0 h1 h
    rw [tkB_eq hD p h0 h1, Bool.and_eq_true, decide_eq_true_eq] at h
    rw [tkB_eq hE p h0 (by omega), Bool.and_eq_true, decide_eq_true_eq, hneed]
    refine ⟨hg s h0 h1 h.1, List.all_eq_true.mpr (fun t ht => ?_)⟩
    have := need_lt hD h0 h1 t ht
    omega
  | succ k ih =>
    intro s hk h0 h1 h
    rw [tkB_eq hD p h0 h1, Bool.and_eq_true, decide_eq_true_eq] at h
    rw [tkB_eq hE p h0 (by omega), Bool.and_eq_true, decide_eq_true_eq, hneed]
    refine ⟨hg s h0 h1 h.1, List.all_eq_true.mpr (fun t ht => ?_)⟩
    have hl := need_lt hD h0 h1 t ht
    exact ih t (by omega) hl.1 (by omega) (List.all_eq_true.mp h.2 t ht)
