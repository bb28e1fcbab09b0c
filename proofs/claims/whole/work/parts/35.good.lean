/-! WHAT HOLDS OF THE DATA at all times, and a new slip keeps it -/
def okT (D : Mem) : Prop := ∀ s, 0 ≤ s → s < D 9 0 → 1 ≤ D 1 s ∧ D 1 s ≤ s + 1
def okW (D : Mem) : Prop := ∀ s, 0 ≤ s → s < D 9 0 → tkB D (D 0 s) s = true
def Good (D : Mem) : Prop := okP D ∧ okO D (D 9 0).toNat ∧ okT D ∧ okW D ∧ okC D
theorem Good.hst {D : Mem} (h : Good D) : ∀ s, 0 ≤ s → s < D 9 0 → 0 ≤ D 1 s ∧ D 1 s ≤ 100000 := by
  intro s h0 h1
  have := h.2.2.1 s h0 h1
  have := h.1.2.1
  omega
theorem mxF_le {D : Mem} {T : Int → Bool} (hT : okT D) : ∀ k : Nat, (k : Int) ≤ D 9 0 → mxF D T k ≤ k := by
  intro k
  induction k with
  | zero => intro _; simp [mxF]
  | succ k ih =>
    intro hk
    unfold mxF
    have := hT k (by omega) (by omega)
    have := ih (by omega)
    split <;> omega
theorem mxF_ge {D : Mem} {T : Int → Bool} {s : Int} (h0 : 0 ≤ s) (hs : T s = true) : ∀ k : Nat, s < k → D 1 s ≤ mxF D T k := by
  intro k
  induction k with
  | zero => intro h; omega
  | succ k ih =>
    intro h
    unfold mxF
    by_cases e : s = k
    · subst e
      split
      · omega
      · next hc => 
        have : ¬ (mxF D T k < D 1 k) := fun h2 => hc ⟨hs, h2⟩
        omega
    · have := ih (by omega)
      split <;> omega
theorem mem_ordF {D : Mem} (hD : okP D) (hO : okO D (D 9 0).toNat) {T : Int → Bool} (hC : Cl D T) {x : Int} : x ∈ ordF D T ↔ 0 ≤ x ∧ x / 4 < D 9 0 ∧ D 2 (x / 4) = 0 ∧ T (x / 4) = true ∧ x % 4 < D 3 (x / 4) := by
  have hn := hD.2.1
  constructor
  · exact ordF_mem hD hO
  · rintro ⟨h0, h1, h2, h3, h4⟩
    rw [ordF_eq hD hO hC]
    refine List.mem_filter.mpr ⟨?_, h3⟩
    exact kd_full hO (x / 4).toNat x (by omega) h0 (by omega) h2 h4 300 (by omega)
section NewSlip
variable {D E : Mem} {p : Int}
theorem nameOK_ext (hx : Ext D E p) {s x : Int} (hs : s ≤ D 9 0) : nameOK E s x ↔ nameOK D s x := by
  constructor
  · rintro ⟨a, b, c, d⟩
    rw [hx.2.1 2 (by decide) (x / 4) (by omega) (by omega)] at c
    rw [hx.2.1 3 (by decide) (x / 4) (by omega) (by omega)] at d
    exact ⟨a, b, c, d⟩
  · rintro ⟨a, b, c, d⟩
    rw [← hx.2.1 2 (by decide) (x / 4) (by omega) (by omega)] at c
    rw [← hx.2.1 3 (by decide) (x / 4) (by omega) (by omega)] at d
    exact ⟨a, b, c, d⟩
theorem okS_ext (hx : Ext D E p) {s : Int} (h0 : 0 ≤ s) (h1 : s < D 9 0) (h : okS D s) : okS E s := by
  obtain ⟨hp0, hk0, hS0, hS1, hS2, hS3, hSg⟩ := h
  have hsz : D 3 s ≤ 12 := by
    have hk : D 2 s = 0 ∨ D 2 s = 1 ∨ D 2 s = 2 ∨ D 2 s = 3 := by omega
    rcases hk with hk | hk | hk | hk
    · have := hS0 hk; omega
    · have := hS1 hk; omega
    · have := hS2 hk; omega
    · have := hS3 hk; omega
  have e0 := hx.2.1 0 (by decide) s h0 h1
  have e2 := hx.2.1 2 (by decide) s h0 h1
  have e3 := hx.2.1 3 (by decide) s h0 h1
  have e6 := hx.2.1 6 (by decide) s h0 h1
  have e7 := hx.2.1 7 (by decide) s h0 h1
  unfold okS
  rw [e0, e2, e3, e6, e7]
  refine ⟨hp0, hk0, fun h => ?_, hS1, fun h => ?_, hS3, fun i h a b => ?_⟩
  · have := hS0 h
    exact ⟨this.1, this.2.1, this.2.2.imp id (nameOK_ext hx (by omega)).mpr⟩
  · have := hS2 h
    exact ⟨this.1, this.2.1.imp id (Or.imp id (nameOK_ext hx (by omega)).mpr), this.2.2⟩
  · rw [hx.2.2.1 _ (by omega)]
    exact (nameOK_ext hx (by omega)).mpr (hSg i h a b)
theorem okP_ext (hD : okP D) (hx : Ext D E p) (h256 : D 9 0 < 256) (hM : RM E) (hS : okS E (D 9 0)) (h8 : ∀ z, E 8 z = 0 ∨ E 8 z = 1) (h10 : ∀ z, E 10 z = 0 ∨ E 10 z = 1) : okP E := by
  have hn := hD.2.1
  have h9 := hx.1
  refine ⟨hM, by omega, fun s h0 h1 => ?_, h8, h10⟩
  by_cases e : s = D 9 0
  · rw [e]; exact hS
  · exact okS_ext hx h0 (by omega) (hD.2.2.1 s h0 (by omega))
theorem Good_ext (hG : Good D) (hx : Ext D E p) (hp0 : 0 ≤ p) (hp1 : p < 6) (hE : okP E) (hst : E 1 (D 9 0) = mxF D (tkB D p) (D 9 0).toNat + 1) (hneed : ∀ t ∈ needL E (D 9 0), tkB D p t = true) : Good E := by
  obtain ⟨hD, hO, hT, hW, hC⟩ := hG
  have hn := hD.2.1
  have h9 := hx.1
  have hmx := mxF_le (T := tkB D p) hT (D 9 0).toNat (by omega)
  have hmg : ∀ t, 0 ≤ t → t < D 9 0 → tkB D p t = true → E 1 t < E 1 (D 9 0) := by
    intro t a b c
    have := mxF_ge (D := D) (T := tkB D p) a c (D 9 0).toNat (by omega)
    rw [hx.2.1 1 (by decide) t a b, hst]
    omega
  have hlat : ∀ s t, 0 ≤ s → s < D 9 0 → 0 ≤ t → t < D 9 0 → (Lat E s t ↔ Lat D s t) := by
    intro s t a b c d
    unfold Lat
    rw [hx.2.1 1 (by decide) s a b, hx.2.1 1 (by decide) t c d, hx.2.1 0 (by decide) s a b, hx.2.1 0 (by decide) t c d]
  have hOE : okO E (E 9 0).toNat := by
    refine ⟨fun s h0 h1 h2 => ?_, fun s t a b c d hne => ?_⟩
    · by_cases e : s = D 9 0
      · subst e
        have hS := (hE.2.2.1 (D 9 0) hn.1 (by omega)).2.2.1 h2
        refine ⟨hS.1, hS.2.1, hS.2.2.imp id (fun h => ⟨h, ?_⟩)⟩
        have hm := hneed _ (need_link h2 h.1)
        exact Or.inl (hmg _ (by omega) (by omega) hm)
      · have h1' : s < D 9 0 := by omega
        rw [hx.2.1 2 (by decide) s h0 h1'] at h2
        have := hO.1 s h0 (by omega) h2
        rw [hx.2.1 3 (by decide) s h0 h1', hx.2.1 6 (by decide) s h0 h1']
        refine ⟨this.1, this.2.1, this.2.2.imp id (fun h => ⟨(nameOK_ext hx (by omega)).mpr h.1, ?_⟩)⟩
        have hh := h.1
        exact (hlat s _ h0 h1' (by omega) (by omega)).mpr h.2
    · have key : ∀ t, 0 ≤ t → t < D 9 0 → Lat E (D 9 0) t ∨ Lat E t (D 9 0) := by
        intro t a b
        by_cases ep : D 0 t = p
        · have := hW t a b
          rw [ep] at this
          exact Or.inl (Or.inl (hmg t a b this))
        · have e1 : E 0 t ≠ E 0 (D 9 0) := by rw [hx.2.1 0 (by decide) t a b, hx.2.2.2.2.2.2.1]; exact ep
          unfold Lat
          omega
      by_cases es : s = D 9 0
      · subst es; exact key t c (by omega)
      · by_cases et : t = D 9 0
        · subst et; exact (key s a (by omega)).symm
        · rcases hO.2 s t a (by omega) c (by omega) hne with h | h
          · exact Or.inl ((hlat s t a (by omega) c (by omega)).mpr h)
          · exact Or.inr ((hlat t s c (by omega) a (by omega)).mpr h)
  refine ⟨hE, hOE, fun s h0 h1 => ?_, fun s h0 h1 => ?_, fun q c a b cc d hl => ?_⟩
  · by_cases e : s = D 9 0
    · subst e
      have := mxF_rg hD.1 (tkB D p) (D 9 0).toNat
      rw [hst]; omega
    · rw [hx.2.1 1 (by decide) s h0 (by omega)]; exact hT s h0 (by omega)
  · by_cases e : s = D 9 0
    · subst e
      rw [hx.2.2.2.2.2.2.1]
      exact tkB_new hE hD hx hp0 hp1 hneed
    · have hp := (hD.2.2.1 s h0 (by omega)).1
      rw [hx.2.1 0 (by decide) s h0 (by omega), tkB_ext hD hx hp.1 hp.2 h0 (by omega)]
      exact hW s h0 (by omega)
  · rw [hx.2.2.2.2.2.2.2.2] at hl ⊢
    rw [hx.2.2.2.2.2.2.2.1]
    have := hC q c a b cc d hl
    refine ⟨this.1, this.2.imp id (fun h => ?_)⟩
    obtain ⟨m0, m1, m2, m3, m4⟩ := ordF_mem hD hO h
    refine (mem_ordF hE hOE (tkB_Cl hE q)).mpr ⟨m0, by omega, ?_, ?_, ?_⟩
    · rw [hx.2.1 2 (by decide) _ (by omega) m1]; exact m2
    · rw [tkB_ext hD hx a b (by omega) m1]; exact m3
    · rw [hx.2.1 3 (by decide) _ (by omega) m1]; exact m4
end NewSlip
