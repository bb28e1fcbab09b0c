/-! THE ORDER: the tree of signs, its walk, what filtering and a new put do to it -/
abbrev Lat (D : Mem) (s t : Int) : Prop := D 1 t < D 1 s ∨ (D 1 s = D 1 t ∧ D 0 t < D 0 s)
theorem laterB_iff {D : Mem} {s t : Int} : laterB D s t = true ↔ Lat D s t := by
  unfold laterB Lat
  split
  · rw [decide_eq_true_iff]; omega
  · rw [decide_eq_true_iff]; omega
theorem laterB_not {D : Mem} {s t : Int} : laterB D s t = false ↔ ¬ Lat D s t := by
  rw [← laterB_iff]; simp
def insR (D : Mem) (s : Int) : List Int → List Int
  | [] => [s]
  | t :: r => if laterB D t s = true then t :: insR D s r else s :: t :: r
def cand (D : Mem) (T : Int → Bool) (L s : Int) : Bool := T s && (decide (D 2 s = 0) && decide (D 6 s = L))
def pls (D : Mem) (T : Int → Bool) (L : Int) : Nat → List Int
  | 0 => []
  | s + 1 => if cand D T L s = true then insR D s (pls D T L s) else pls D T L s
def nmP (D : Mem) (P : Int) : List Int := (List.range (D 3 P).toNat).map (fun i : Nat => 4 * P + (i : Int))
def chl (D : Mem) (T : Int → Bool) (N : Nat) (L : Int) : List Int := (pls D T L N).flatMap (nmP D)
def kd (D : Mem) (T : Int → Bool) (N : Nat) : Nat → Int → List Int
  | 0, _ => []
  | d + 1, L => (chl D T N L).flatMap (fun x => x :: kd D T N d x)
def tT : Int → Bool := fun _ => true
def okO (D : Mem) (N : Nat) : Prop := (∀ s : Int, 0 ≤ s → s < N → D 2 s = 0 → 1 ≤ D 3 s ∧ D 3 s ≤ 3 ∧ (D 6 s = -2 ∨ (nameOK D s (D 6 s) ∧ Lat D s (D 6 s / 4)))) ∧ (∀ s t : Int, 0 ≤ s → s < N → 0 ≤ t → t < N → s ≠ t → Lat D s t ∨ Lat D t s)
theorem okO.mono {D : Mem} {N k : Nat} (h : okO D N) (hk : k ≤ N) : okO D k := ⟨fun s h0 h1 => h.1 s h0 (by omega), fun s t a b c d => h.2 s t a (by omega) c (by omega)⟩
theorem cand_iff {D : Mem} {T : Int → Bool} {L s : Int} : cand D T L s = true ↔ T s = true ∧ D 2 s = 0 ∧ D 6 s = L := by unfold cand; simp
theorem mem_insR {D : Mem} {s x : Int} : ∀ {l : List Int}, x ∈ insR D s l ↔ x = s ∨ x ∈ l := by
  intro l
  induction l with
  | nil => simp [insR]
  | cons t r ih =>
    unfold insR
    split
    · simp only [List.mem_cons, ih]
      constructor
      · rintro (h | h | h)
        · exact Or.inr (Or.inl h)
        · exact Or.inl h
        · exact Or.inr (Or.inr h)
      · rintro (h | h | h)
        · exact Or.inr (Or.inl h)
        · exact Or.inl h
        · exact Or.inr (Or.inr h)
    · simp
theorem mem_pls {D : Mem} {T : Int → Bool} {L x : Int} : ∀ {N : Nat}, x ∈ pls D T L N ↔ 0 ≤ x ∧ x < N ∧ cand D T L x = true := by
  intro N
  induction N with
  | zero => simp [pls]; omega
  | succ k ih =>
    unfold pls
    split
    · next hc =>
      rw [mem_insR, ih]
      constructor
      · rintro (h | h)
        · subst h; exact ⟨by omega, by omega, hc⟩
        · exact ⟨h.1, by omega, h.2.2⟩
      · rintro ⟨h0, h1, h2⟩
        by_cases e : x = k
        · exact Or.inl e
        · exact Or.inr ⟨h0, by omega, h2⟩
    · next hc =>
      rw [ih]
      constructor
      · rintro ⟨h0, h1, h2⟩; exact ⟨h0, by omega, h2⟩
      · rintro ⟨h0, h1, h2⟩
        by_cases e : x = k
        · subst e; exact absurd h2 hc
        · exact ⟨h0, by omega, h2⟩
theorem insR_srt {D : Mem} {s : Int} : ∀ {l : List Int}, l.Pairwise (Lat D) → (∀ t ∈ l, Lat D t s ∨ Lat D s t) → (insR D s l).Pairwise (Lat D) := by
  intro l
  induction l with
  | nil => intro _ _; simp [insR]
  | cons t r ih =>
    intro h hs
    have h2 := List.pairwise_cons.mp h
    unfold insR
    split
    · next hl =>
      refine List.pairwise_cons.mpr ⟨fun x hx => ?_, ih h2.2 (fun y hy => hs y (List.mem_cons_of_mem _ hy))⟩
      rcases mem_insR.mp hx with e | e
      · subst e; exact laterB_iff.mp hl
      · exact h2.1 x e
    · next hl =>
      have hst : Lat D s t := (hs t List.mem_cons_self).resolve_left (fun e => hl (laterB_iff.mpr e))
      refine List.pairwise_cons.mpr ⟨fun x hx => ?_, h⟩
      rcases List.mem_cons.mp hx with e | e
      · subst e; exact hst
      · have := h2.1 x e; omega
theorem pls_srt {D : Mem} {T : Int → Bool} {L : Int} {N : Nat} (hO : okO D N) : ∀ k : Nat, k ≤ N → (pls D T L k).Pairwise (Lat D) := by
  intro k
  induction k with
  | zero => intro _; simp [pls]
  | succ k ih =>
    intro hk
    unfold pls
    split
    · refine insR_srt (ih (by omega)) (fun t ht => ?_)
      have h2 := mem_pls.mp ht
      exact hO.2 t k h2.1 (by omega) (by omega) (by omega) (by omega)
    · exact ih (by omega)
theorem insR_filter {D : Mem} {T : Int → Bool} {s : Int} : ∀ {l : List Int}, l.Pairwise (Lat D) → (∀ t ∈ l, Lat D t s ∨ Lat D s t) → (insR D s l).filter T = if T s = true then insR D s (l.filter T) else l.filter T := by
  intro l
  induction l with
  | nil => intro _ _; simp only [insR, List.filter]; cases T s <;> simp
  | cons t r ih =>
    intro h hs
    have h2 := List.pairwise_cons.mp h
    have ihr := ih h2.2 (fun y hy => hs y (List.mem_cons_of_mem _ hy))
    rw [show insR D s (t :: r) = if laterB D t s = true then t :: insR D s r else s :: t :: r from rfl]
    by_cases hl : laterB D t s = true
    · rw [if_pos hl, List.filter_cons, ihr]
      cases hT : T t
      · rw [List.filter_cons, hT]; simp
      · cases T s
        · simp [List.filter_cons, hT]
        · simp [List.filter_cons, hT, insR, hl]
    · rw [if_neg hl]
      have hst : Lat D s t := (hs t List.mem_cons_self).resolve_left (fun e => hl (laterB_iff.mpr e))
      have hall : ∀ x ∈ (t :: r).filter T, ¬ laterB D x s = true := by
        intro x hx
        have hx2 := (List.mem_filter.mp hx).1
        rw [laterB_iff]
        rcases List.mem_cons.mp hx2 with e | e
        · subst e; omega
        · have := h2.1 x e; omega
      rw [List.filter_cons]
      cases hT : T s
      · simp
      · simp only [if_true]
        cases hf : (t :: r).filter T with
        | nil => rfl
        | cons y ys =>
          have := hall y (by rw [hf]; exact List.mem_cons_self)
          show s :: y :: ys = if laterB D y s = true then y :: insR D s ys else s :: y :: ys
          rw [if_neg this]
theorem pls_filter {D : Mem} {T : Int → Bool} {L : Int} {N : Nat} (hO : okO D N) : ∀ k : Nat, k ≤ N → pls D T L k = (pls D tT L k).filter T := by
  intro k
  induction k with
  | zero => intro _; rfl
  | succ k ih =>
    intro hk
    have hs : (pls D tT L k).Pairwise (Lat D) := pls_srt hO k (by omega)
    have ht : ∀ t ∈ pls D tT L k, Lat D t k ∨ Lat D k t := fun t ht => by
      have h2 := mem_pls.mp ht
      exact hO.2 t k h2.1 (by omega) (by omega) (by omega) (by omega)
    have hc : cand D T L k = (T k && cand D tT L k) := by unfold cand tT; simp
    unfold pls
    rw [hc]
    cases h1 : cand D tT L k
    · simp [ih (by omega)]
    · simp only [Bool.and_true, if_true]
      rw [insR_filter hs ht, ih (by omega)]
theorem mem_nmP {D : Mem} {P x : Int} (hP : 0 ≤ P) (h3 : D 3 P ≤ 3) : x ∈ nmP D P ↔ x / 4 = P ∧ x % 4 < D 3 P := by
  unfold nmP
  simp only [List.mem_map, List.mem_range]
  constructor
  · rintro ⟨i, hi, rfl⟩; omega
  · rintro ⟨h1, h2⟩; exact ⟨(x % 4).toNat, by omega, by omega⟩
theorem mem_chl {D : Mem} {T : Int → Bool} {N : Nat} (hO : okO D N) {L x : Int} : x ∈ chl D T N L ↔ 0 ≤ x / 4 ∧ x / 4 < N ∧ cand D T L (x / 4) = true ∧ x % 4 < D 3 (x / 4) := by
  unfold chl
  simp only [List.mem_flatMap]
  constructor
  · rintro ⟨P, hP, hx⟩
    have h1 := mem_pls.mp hP
    have h2 := hO.1 P h1.1 h1.2.1 (cand_iff.mp h1.2.2).2.1
    have h3 := (mem_nmP h1.1 h2.2.1).mp hx
    rw [h3.1]
    exact ⟨h1.1, h1.2.1, h1.2.2, h3.2⟩
  · rintro ⟨h0, h1, h2, h3⟩
    have h4 := hO.1 _ h0 h1 (cand_iff.mp h2).2.1
    exact ⟨x / 4, mem_pls.mpr ⟨h0, h1, h2⟩, (mem_nmP h0 h4.2.1).mpr ⟨rfl, h3⟩⟩
/-- a sign of a child: its put's link is L, later than L's put, with a greater number -/
theorem chl_up {D : Mem} {T : Int → Bool} {N : Nat} (hO : okO D N) {L x : Int} (h : x ∈ chl D T N L) : 0 ≤ x ∧ x / 4 < N ∧ D 2 (x / 4) = 0 ∧ D 6 (x / 4) = L ∧ T (x / 4) = true ∧ x % 4 < D 3 (x / 4) ∧ (L = -2 ∨ (0 ≤ L ∧ L / 4 < x / 4 ∧ Lat D (x / 4) (L / 4))) := by
  obtain ⟨h0, h1, h2, h3⟩ := (mem_chl hO).mp h
  obtain ⟨c1, c2, c3⟩ := cand_iff.mp h2
  have h4 := hO.1 _ h0 h1 c2
  refine ⟨by omega, h1, c2, c3, c1, h3, ?_⟩
  rw [c3] at h4
  rcases h4.2.2 with e | e
  · exact Or.inl e
  · exact Or.inr ⟨e.1.1, e.1.2.1, e.2⟩
theorem kd_up {D : Mem} {T : Int → Bool} {N : Nat} (hO : okO D N) : ∀ (d : Nat) (L x : Int), x ∈ kd D T N d L → (0 ≤ x ∧ x / 4 < N ∧ D 2 (x / 4) = 0 ∧ T (x / 4) = true ∧ x % 4 < D 3 (x / 4)) ∧ (L = -2 ∨ (0 ≤ L ∧ L / 4 < x / 4 ∧ Lat D (x / 4) (L / 4))) := by
  intro d
  induction d with
  | zero => intro L x h; simp [kd] at h
  | succ d ih =>
    intro L x h
    unfold kd at h
    obtain ⟨y, hy, hx⟩ := List.mem_flatMap.mp h
    have hu := chl_up hO hy
    rcases List.mem_cons.mp hx with e | e
    · subst e
      exact ⟨⟨hu.1, hu.2.1, hu.2.2.1, hu.2.2.2.2.1, hu.2.2.2.2.2.1⟩, hu.2.2.2.2.2.2⟩
    · obtain ⟨h1, h3⟩ := ih y x e
      have h3 := h3.resolve_left (by omega)
      refine ⟨h1, ?_⟩
      rcases hu.2.2.2.2.2.2 with e | e
      · exact Or.inl e
      · refine Or.inr ⟨e.1, by omega, ?_⟩
        have := e.2.2; have := h3.2.2; omega
theorem kd_one {D : Mem} {T : Int → Bool} {N d : Nat} {L x : Int} (h : x ∈ chl D T N L) : x ∈ kd D T N (d + 1) L := by
  unfold kd
  exact List.mem_flatMap.mpr ⟨x, h, List.mem_cons_self⟩
theorem kd_sub {D : Mem} {T : Int → Bool} {N d : Nat} {L x y : Int} (h : x ∈ chl D T N L) (hy : y ∈ kd D T N d x) : y ∈ kd D T N (d + 1) L := by
  unfold kd
  exact List.mem_flatMap.mpr ⟨x, h, List.mem_cons_of_mem _ hy⟩
theorem kd_down {D : Mem} {T : Int → Bool} {N : Nat} : ∀ (d : Nat) (L w z : Int), w ∈ kd D T N d L → z ∈ chl D T N w → z ∈ kd D T N (d + 1) L := by
  intro d
  induction d with
  | zero => intro L w z h; simp [kd] at h
  | succ d ih =>
    intro L w z h hz
    unfold kd at h
    obtain ⟨y, hy, hx⟩ := List.mem_flatMap.mp h
    rcases List.mem_cons.mp hx with e | e
    · subst e; exact kd_sub hy (kd_one hz)
    · exact kd_sub hy (ih y w z e hz)
theorem kd_par {D : Mem} {T : Int → Bool} {N : Nat} : ∀ (d : Nat) (y z : Int), z ∈ kd D T N d y → ∃ (w : Int) (e : Nat), z ∈ chl D T N w ∧ (w = y ∨ w ∈ kd D T N e y) := by
  intro d
  induction d with
  | zero => intro y z h; simp [kd] at h
  | succ d ih =>
    intro y z h
    unfold kd at h
    obtain ⟨v, hv, hx⟩ := List.mem_flatMap.mp h
    rcases List.mem_cons.mp hx with e | e
    · subst e; exact ⟨y, 0, hv, Or.inl rfl⟩
    · obtain ⟨w, e2, h1, h2⟩ := ih v z e
      rcases h2 with h2 | h2
      · subst h2; exact ⟨w, 1, h1, Or.inr (kd_one hv)⟩
      · exact ⟨w, e2 + 1, h1, Or.inr (kd_sub hv h2)⟩
/-- two children of one sign (or of the edge) have nothing in common below them -/
theorem kd_apart {D : Mem} {T : Int → Bool} {N : Nat} (hO : okO D N) {L x y : Int} (hx : x ∈ chl D T N L) (hy : y ∈ chl D T N L) : ∀ (m : Nat) (z : Int), z / 4 ≤ m → ∀ (d e : Nat), (z = x ∨ z ∈ kd D T N d x) → (z = y ∨ z ∈ kd D T N e y) → x = y := by
  have ux := chl_up hO hx
  have uy := chl_up hO hy
  have one : ∀ (x y : Int), x ∈ chl D T N L → y ∈ chl D T N L → ∀ e : Nat, x ∈ kd D T N e y → False := by
    intro x y hx hy e he
    have ux := chl_up hO hx
    have uy := chl_up hO hy
    obtain ⟨w, e2, h1, h2⟩ := kd_par e y x he
    have uw := chl_up hO h1
    have hw : w = L := by rw [← uw.2.2.2.1, ux.2.2.2.1]
    subst hw
    rcases h2 with h2 | h2
    · subst h2
      rcases uy.2.2.2.2.2.2 with h | h <;> omega
    · have hk := kd_up hO e2 y w h2
      have hk2 := hk.2.resolve_left (by omega)
      rcases uy.2.2.2.2.2.2 with h | h <;> omega
  intro m
  induction m with
  | zero =>
    intro z hz d e h1 h2
    rcases h1 with h1 | h1
    · rcases h2 with h2 | h2
      · rw [← h1, ← h2]
      · subst h1; exact (one z y hx hy e h2).elim
    · have h3 := (kd_up hO d x z h1).2.resolve_left (by omega); omega
  | succ m ih =>
    intro z hz d e h1 h2
    rcases h1 with h1 | h1
    · rcases h2 with h2 | h2
      · rw [← h1, ← h2]
      · subst h1; exact (one z y hx hy e h2).elim
    · rcases h2 with h2 | h2
      · subst h2; exact (one z x hy hx d h1).elim
      · obtain ⟨w, d2, a1, a2⟩ := kd_par d x z h1
        obtain ⟨v, e2, b1, b2⟩ := kd_par e y z h2
        have uw := chl_up hO a1
        have uv := chl_up hO b1
        have hw : w = v := by rw [← uw.2.2.2.1, uv.2.2.2.1]
        subst hw
        have hwz : w / 4 < z / 4 := by
          rcases uw.2.2.2.2.2.2 with h | h
          · subst h
            rcases a2 with a2 | a2
            · omega
            · have := (kd_up hO d2 x (-2) a2).1; omega
          · omega
        exact ih w (by omega) d2 e2 a2 b2
theorem chl_nil {D : Mem} {T : Int → Bool} {N : Nat} (hO : okO D N) {L : Int} (h : (N : Int) ≤ L / 4) : chl D T N L = [] := by
  cases hc : chl D T N L with
  | nil => rfl
  | cons x r =>
    exfalso
    have hu := chl_up hO (x := x) (L := L) (T := T) (by rw [hc]; exact List.mem_cons_self)
    rcases hu.2.2.2.2.2.2 with e | e <;> omega
theorem flatMap_congr {l : List Int} {f g : Int → List Int} (h : ∀ x ∈ l, f x = g x) : l.flatMap f = l.flatMap g := by
  induction l with
  | nil => rfl
  | cons a t ih => rw [List.flatMap_cons, List.flatMap_cons, h a List.mem_cons_self, ih (fun x hx => h x (List.mem_cons_of_mem _ hx))]
theorem kd_st {D : Mem} {T : Int → Bool} {N : Nat} (hO : okO D N) : ∀ (d e : Nat) (L : Int), (N : Int) - L / 4 ≤ d → (N : Int) - L / 4 ≤ e → kd D T N d L = kd D T N e L := by
  have nil : ∀ (e : Nat) (L : Int), (N : Int) ≤ L / 4 → kd D T N e L = [] := by
    intro e L h
    cases e with
    | zero => rfl
    | succ e => unfold kd; rw [chl_nil hO h]; rfl
  intro d
  induction d with
  | zero => intro e L h1 h2; rw [nil 0 L (by omega), nil e L (by omega)]
  | succ d ih =>
    intro e L h1 h2
    cases e with
    | zero => rw [nil 0 L (by omega), nil _ L (by omega)]
    | succ e =>
      unfold kd
      refine flatMap_congr (fun x hx => ?_)
      have hu := chl_up hO hx
      rw [ih e x (by rcases hu.2.2.2.2.2.2 with h | h <;> omega) (by rcases hu.2.2.2.2.2.2 with h | h <;> omega)]
def KD (D : Mem) (T : Int → Bool) (N : Nat) : Int → List Int := kd D T N 300
theorem KD_eq {D : Mem} {T : Int → Bool} {N : Nat} (hO : okO D N) (hN : N ≤ 256) {L : Int} (hL : -2 ≤ L) : KD D T N L = (chl D T N L).flatMap (fun x => x :: KD D T N x) := by
  unfold KD
  rw [kd_st hO 300 301 L (by omega) (by omega)]
  rfl
theorem kd_full {D : Mem} {N : Nat} (hO : okO D N) : ∀ (m : Nat) (z : Int), z / 4 ≤ m → 0 ≤ z → z / 4 < N → D 2 (z / 4) = 0 → z % 4 < D 3 (z / 4) → ∀ d : Nat, z / 4 < d → z ∈ kd D tT N d (-2) := by
  intro m
  induction m with
  | zero =>
    intro z h h0 h1 h2 h3 d hd
    cases d with
    | zero => omega
    | succ d =>
      refine kd_one ((mem_chl hO).mpr ⟨by omega, h1, cand_iff.mpr ⟨rfl, h2, ?_⟩, h3⟩)
      rcases (hO.1 _ (by omega) h1 h2).2.2 with e | e
      · exact e
      · have := e.1; omega
  | succ m ih =>
    intro z h h0 h1 h2 h3 d hd
    cases d with
    | zero => omega
    | succ d =>
      rcases (hO.1 _ (by omega) h1 h2).2.2 with e | ⟨e, -⟩
      · exact kd_one ((mem_chl hO).mpr ⟨by omega, h1, cand_iff.mpr ⟨rfl, h2, e⟩, h3⟩)
      · exact kd_down d (-2) (D 6 (z / 4)) z (ih _ (by omega) e.1 (by omega) e.2.2.1 e.2.2.2 d (by omega)) ((mem_chl hO).mpr ⟨by omega, h1, cand_iff.mpr ⟨rfl, h2, rfl⟩, h3⟩)
/-! filtering -/
theorem kd_closed {D : Mem} {N : Nat} (hO : okO D N) {T : Int → Bool} (hT : ∀ P : Int, 0 ≤ P → P < N → D 2 P = 0 → T P = true → 0 ≤ D 6 P → T (D 6 P / 4) = true) : ∀ (d : Nat) (L x : Int), x ∈ kd D tT N d L → T (x / 4) = true → L = -2 ∨ T (L / 4) = true := by
  have one : ∀ (L x : Int), x ∈ chl D tT N L → T (x / 4) = true → L = -2 ∨ T (L / 4) = true := by
    intro L x hx h
    have hu := chl_up hO hx
    rcases hu.2.2.2.2.2.2 with e | e
    · exact Or.inl e
    · refine Or.inr ?_
      have := hT (x / 4) (by omega) hu.2.1 hu.2.2.1 h (by rw [hu.2.2.2.1]; exact e.1)
      rwa [hu.2.2.2.1] at this
  intro d
  induction d with
  | zero => intro L x h; simp [kd] at h
  | succ d ih =>
    intro L x h hx
    unfold kd at h
    obtain ⟨y, hy, hm⟩ := List.mem_flatMap.mp h
    rcases List.mem_cons.mp hm with e | e
    · subst e; exact one L x hy hx
    · have hu := chl_up hO hy
      exact one L y hy ((ih y x e hx).resolve_left (by omega))
theorem filter_nil {l : List Int} {q : Int → Bool} (h : ∀ x ∈ l, q x = false) : l.filter q = [] := by
  induction l with
  | nil => rfl
  | cons a t ih => rw [List.filter_cons, h a List.mem_cons_self]; simpa using ih (fun x hx => h x (List.mem_cons_of_mem _ hx))
theorem filter_id {l : List Int} {q : Int → Bool} (h : ∀ x ∈ l, q x = true) : l.filter q = l := by
  induction l with
  | nil => rfl
  | cons a t ih => rw [List.filter_cons, h a List.mem_cons_self]; simp [ih (fun x hx => h x (List.mem_cons_of_mem _ hx))]
theorem filter_flatMap' {l : List Int} {f : Int → List Int} {q : Int → Bool} : (l.flatMap f).filter q = l.flatMap (fun x => (f x).filter q) := by
  induction l with
  | nil => rfl
  | cons a t ih => rw [List.flatMap_cons, List.flatMap_cons, List.filter_append, ih]
theorem flatMap_filter' {l : List Int} {f g : Int → List Int} {q : Int → Bool} (h1 : ∀ x ∈ l, q x = true → g x = f x) (h2 : ∀ x ∈ l, q x = false → g x = []) : (l.filter q).flatMap f = l.flatMap g := by
  induction l with
  | nil => rfl
  | cons a t ih =>
    have ih2 := ih (fun x hx => h1 x (List.mem_cons_of_mem _ hx)) (fun x hx => h2 x (List.mem_cons_of_mem _ hx))
    rw [List.filter_cons, List.flatMap_cons]
    cases hq : q a
    · rw [h2 a List.mem_cons_self hq]; simpa using ih2
    · simp only [if_true, List.flatMap_cons]; rw [h1 a List.mem_cons_self hq, ih2]
theorem chl_filter {D : Mem} {N : Nat} (hO : okO D N) (T : Int → Bool) (L : Int) : chl D T N L = (chl D tT N L).filter (fun x => T (x / 4)) := by
  unfold chl
  rw [filter_flatMap', pls_filter hO N (Nat.le_refl _)]
  refine flatMap_filter' (fun P hP hq => filter_id (fun x hx => ?_)) (fun P hP hq => filter_nil (fun x hx => ?_))
  · have h1 := mem_pls.mp hP
    have h2 := hO.1 P h1.1 h1.2.1 (cand_iff.mp h1.2.2).2.1
    rw [((mem_nmP h1.1 h2.2.1).mp hx).1]; exact hq
  · have h1 := mem_pls.mp hP
    have h2 := hO.1 P h1.1 h1.2.1 (cand_iff.mp h1.2.2).2.1
    rw [((mem_nmP h1.1 h2.2.1).mp hx).1]; exact hq
theorem kd_filter {D : Mem} {N : Nat} (hO : okO D N) {T : Int → Bool} (hT : ∀ P : Int, 0 ≤ P → P < N → D 2 P = 0 → T P = true → 0 ≤ D 6 P → T (D 6 P / 4) = true) : ∀ (d : Nat) (L : Int), kd D T N d L = (kd D tT N d L).filter (fun x => T (x / 4)) := by
  intro d
  induction d with
  | zero => intro L; rfl
  | succ d ih =>
    intro L
    unfold kd
    rw [filter_flatMap', chl_filter hO T L]
    refine flatMap_filter' (fun x hx hq => ?_) (fun x hx hq => ?_)
    · rw [List.filter_cons, hq, ih x]; rfl
    · rw [List.filter_cons, hq]
      have hu := chl_up hO hx
      simp only [Bool.false_eq_true, if_false]
      refine filter_nil (fun y hy => ?_)
      cases hc : T (y / 4)
      · rfl
      · have := (kd_closed hO hT d x y hy hc).resolve_left (by omega)
        rw [hq] at this
        exact this.symm
/-! a new put -/
theorem insR_split {D : Mem} {s : Int} : ∀ l : List Int, insR D s l = l.takeWhile (fun t => laterB D t s) ++ s :: l.dropWhile (fun t => laterB D t s) := by
  intro l
  induction l with
  | nil => rfl
  | cons t r ih =>
    rw [show insR D s (t :: r) = if laterB D t s = true then t :: insR D s r else s :: t :: r from rfl, List.takeWhile_cons, List.dropWhile_cons]
    cases laterB D t s
    · rfl
    · simp [ih]
def sk (D : Mem) (k : Int) (l : List Int) : List Int := l.takeWhile (fun y => laterB D (y / 4) k) ++ (nmP D k ++ l.dropWhile (fun y => laterB D (y / 4) k))
def insA (D : Mem) (k L : Int) : List Int → List Int
  | [] => []
  | x :: t => if x = L then x :: sk D k t else x :: insA D k L t
theorem insA_app {D : Mem} {k L : Int} : ∀ (l r : List Int), L ∉ l → insA D k L (l ++ r) = l ++ insA D k L r := by
  intro l
  induction l with
  | nil => intro r _; rfl
  | cons x t ih =>
    intro r h
    have h1 : ¬ x = L := fun e => h (by rw [e]; exact List.mem_cons_self)
    rw [List.cons_append, insA, if_neg h1, ih r (fun hm => h (List.mem_cons_of_mem _ hm)), List.cons_append]
theorem tw_split {q : Int → Bool} : ∀ (l r : List Int), (∀ y ∈ l, q y = true) → (∀ y, r.head? = some y → q y = false) → (l ++ r).takeWhile q = l ∧ (l ++ r).dropWhile q = r := by
  intro l
  induction l with
  | nil =>
    intro r _ h
    cases r with
    | nil => exact ⟨rfl, rfl⟩
    | cons y t => have := h y rfl; simp [List.takeWhile_cons, List.dropWhile_cons, this]
  | cons x t ih =>
    intro r h1 h2
    have := ih r (fun y hy => h1 y (List.mem_cons_of_mem _ hy)) h2
    rw [List.cons_append, List.takeWhile_cons, List.dropWhile_cons, h1 x List.mem_cons_self]
    simp [this.1, this.2]
theorem tw_all {q : Int → Bool} : ∀ (l : List Int), ∀ y ∈ l.takeWhile q, q y = true := by
  intro l
  induction l with
  | nil => intro y h; simp at h
  | cons x t ih =>
    intro y h
    rw [List.takeWhile_cons] at h
    cases hx : q x
    · rw [hx] at h; simp at h
    · rw [hx] at h
      rcases List.mem_cons.mp h with e | e
      · subst e; exact hx
      · exact ih y e
theorem dw_head {q : Int → Bool} : ∀ (l : List Int) (y : Int), (l.dropWhile q).head? = some y → q y = false := by
  intro l
  induction l with
  | nil => intro y h; simp at h
  | cons x t ih =>
    intro y h
    rw [List.dropWhile_cons] at h
    cases hx : q x
    · rw [hx] at h; simp at h; rw [← h]; exact hx
    · rw [hx] at h; exact ih y h
theorem pls_new {D : Mem} {T : Int → Bool} {L : Int} {k : Nat} (h : ¬ (D 2 k = 0 ∧ D 6 k = L)) : pls D T L (k + 1) = pls D T L k := by
  unfold pls
  rw [if_neg]
  · cases k <;> rfl
  · intro hc
    exact h (cand_iff.mp hc).2
theorem kd_new0 {D : Mem} {T : Int → Bool} {k : Nat} (h : ¬ D 2 k = 0) : ∀ (d : Nat) (L : Int), kd D T (k + 1) d L = kd D T k d L := by
  intro d
  induction d with
  | zero => intro L; rfl
  | succ d ih =>
    intro L
    unfold kd chl
    rw [pls_new (fun e => h e.1)]
    exact flatMap_congr (fun x _ => by rw [ih x])
