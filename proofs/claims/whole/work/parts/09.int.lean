/-! whole numbers on the stack: iI z for an integer z -/
def iI (z : Int) : Int32 := Int32.ofInt z
abbrev Rg (z : Int) : Prop := -2147483648 ≤ z ∧ z < 2147483648
theorem iI_toInt {z : Int} (h : Rg z) : (iI z).toInt = z := by
  unfold iI
  rw [Int32.toInt_ofInt_of_le (by omega) (by omega)]
theorem iI_of (x : Int32) : x = iI x.toInt := by
  unfold iI
  rw [Int32.ofInt_toInt]
theorem Rg_of (x : Int32) : Rg x.toInt := by
  have h1 := Int32.le_toInt x
  have h2 := Int32.toInt_lt x
  constructor <;> omega
theorem iI_ex (x : Int32) : ∃ z : Int, Rg z ∧ x = iI z := ⟨x.toInt, Rg_of x, iI_of x⟩
theorem iI_add (a b : Int) : iI a + iI b = iI (a + b) := by unfold iI; rw [Int32.ofInt_add]
theorem iI_sub (a b : Int) : iI a - iI b = iI (a - b) := by unfold iI; rw [Int32.ofInt_sub]
theorem iI_mul (a b : Int) : iI a * iI b = iI (a * b) := by unfold iI; rw [Int32.ofInt_mul]
theorem iI_lt {a b : Int} (ha : Rg a) (hb : Rg b) : iI a < iI b ↔ a < b := by rw [Int32.lt_iff_toInt_lt, iI_toInt ha, iI_toInt hb]
theorem iI_le {a b : Int} (ha : Rg a) (hb : Rg b) : iI a ≤ iI b ↔ a ≤ b := by rw [Int32.le_iff_toInt_le, iI_toInt ha, iI_toInt hb]
theorem iI_eq {a b : Int} (ha : Rg a) (hb : Rg b) : iI a = iI b ↔ a = b := by rw [← Int32.toInt_inj, iI_toInt ha, iI_toInt hb]
theorem iI_inj {a b : Int} (ha : Rg a) (hb : Rg b) (h : iI a = iI b) : a = b := (iI_eq ha hb).mp h
theorem iI_0 : (0 : Int32) = iI 0 := rfl
theorem Rg_0 : Rg 0 := by constructor <;> omega
theorem iI_nat (n : Nat) : iI (n : Int) = nI n := by
  unfold iI nI
  apply Int32.toBitVec_inj.mp
  simp
theorem iI_clamp {z : Int} (h0 : 0 ≤ z) (h : z < 2147483648) : (iI z).toNatClampNeg = z.toNat := by
  obtain ⟨n, rfl⟩ := Int.eq_ofNat_of_zero_le h0
  rw [iI_nat, nI_clamp (by omega)]
  simp
theorem iI_in {z : Int} {N : Nat} (h0 : 0 ≤ z) (h : z < N) (hN : N < 2147483648) : vp_in (iI z) N := by
  obtain ⟨n, rfl⟩ := Int.eq_ofNat_of_zero_le h0
  rw [iI_nat]
  exact vp_in_nI (by omega) (by omega)
theorem iI_div {a d : Int} (h0 : 0 ≤ a) (ha : a < 2147483648) (h1 : 0 < d) (hd : d < 2147483648) : iI a / iI d = iI (a / d) := by
  obtain ⟨n, rfl⟩ := Int.eq_ofNat_of_zero_le h0
  obtain ⟨m, rfl⟩ := Int.eq_ofNat_of_zero_le (Int.le_of_lt h1)
  rw [iI_nat, iI_nat, pk_div (by omega) (by omega) (by omega), ← iI_nat]
  simp
theorem iI_rem {a d : Int} (h0 : 0 ≤ a) (ha : a < 2147483648) (h1 : 0 < d) (hd : d < 2147483648) : iI a - iI a / iI d * iI d = iI (a % d) := by
  obtain ⟨n, rfl⟩ := Int.eq_ofNat_of_zero_le h0
  obtain ⟨m, rfl⟩ := Int.eq_ofNat_of_zero_le (Int.le_of_lt h1)
  rw [iI_nat, iI_nat, pk_rem (by omega) (by omega) (by omega), ← iI_nat]
  simp
theorem iI_ne0 {d : Int} (h1 : 0 < d) (hd : d < 2147483648) : ¬ iI d = 0 := by
  intro h
  have := iI_inj (a := d) (b := 0) ⟨by omega, by omega⟩ Rg_0 h
  omega
theorem nar_bool {z : Int} (h : z = 0 ∨ z = 1) : vp_nar .boolean (iI z) = iI z := by
  rcases h with rfl | rfl <;> rfl
theorem narrow_bool {z : Int} (h : z = 0 ∨ z = 1) : narrow .boolean (.int (iI z)) = .int (iI z) := by
  rcases h with rfl | rfl <;> rfl
/-- a row of an array: integers by their places -/
def rowI (f : Int → Int) : Nat → Int32 := fun j => iI (f j)
def upI (f : Int → Int) (z v : Int) : Int → Int := fun y => if y = z then v else f y
theorem rowI_up {f : Int → Int} {z v : Int} (h0 : 0 ≤ z) : upd (rowI f) z.toNat (iI v) = rowI (upI f z v) := by
  funext j
  unfold upd rowI upI
  by_cases h : j = z.toNat
  · subst h
    rw [if_pos rfl, if_pos (by omega)]
  · rw [if_neg h, if_neg (by omega)]
theorem rowI_at {f : Int → Int} {z : Int} (h0 : 0 ≤ z) : rowI f z.toNat = iI (f z) := by
  unfold rowI
  rw [show ((z.toNat : Nat) : Int) = z by omega]
/-- the memory: rows of integers -/
abbrev Mem : Type := Nat → Int → Int
def ms (M : Mem) (r : Nat) (z v : Int) : Mem := fun q => if q = r then upI (M r) z v else M q
def RM (M : Mem) : Prop := ∀ (r : Nat) (z : Int), Rg (M r z)
theorem ms_ne {M : Mem} {r q : Nat} {z v : Int} (h : q ≠ r) : ms M r z v q = M q := by unfold ms; rw [if_neg h]
theorem ms_eq {M : Mem} {r : Nat} {z v : Int} : ms M r z v r = upI (M r) z v := by unfold ms; rw [if_pos rfl]
theorem upI_eq {f : Int → Int} {z v : Int} : upI f z v z = v := by unfold upI; rw [if_pos rfl]
theorem upI_ne {f : Int → Int} {z v y : Int} (h : y ≠ z) : upI f z v y = f y := by unfold upI; rw [if_neg h]
theorem RM_ms {M : Mem} (h : RM M) {r : Nat} {z v : Int} (hv : Rg v) : RM (ms M r z v) := by
  intro q y
  unfold ms
  by_cases hq : q = r
  · rw [if_pos hq]
    unfold upI
    by_cases hy : y = z
    · rw [if_pos hy]; exact hv
    · rw [if_neg hy]; exact h _ _
  · rw [if_neg hq]; exact h _ _
section IRows
variable {Z : LZ} {J : MD} {E : State → Array Value → (Nat → Prop) → Prop} {Q : List Frame → Array Value → State → (Nat → Prop) → State → Prop} {pc : Nat} {ls st : List Value} {ws : va_W} {k n : Nat} {x y : Int}
theorem gi_add (d : decode J.2.1 pc = .ok (.iadd, 1)) (K : G Z J E Q (pc + 1) ls (.int (iI (x + y)) :: st) ws k n) : G Z J E Q pc ls (.int (iI y) :: .int (iI x) :: st) ws k n := g_iadd d (by rw [iI_add]; exact K)
theorem gi_sub (d : decode J.2.1 pc = .ok (.isub, 1)) (K : G Z J E Q (pc + 1) ls (.int (iI (x - y)) :: st) ws k n) : G Z J E Q pc ls (.int (iI y) :: .int (iI x) :: st) ws k n := g_isub d (by rw [iI_sub]; exact K)
theorem gi_mul (d : decode J.2.1 pc = .ok (.imul, 1)) (K : G Z J E Q (pc + 1) ls (.int (iI (x * y)) :: st) ws k n) : G Z J E Q pc ls (.int (iI y) :: .int (iI x) :: st) ws k n := g_imul d (by rw [iI_mul]; exact K)
theorem gi_div (d : decode J.2.1 pc = .ok (.idiv, 1)) (h0 : 0 ≤ x) (hx : x < 2147483648) (h1 : 0 < y) (hy : y < 2147483648) (K : G Z J E Q (pc + 1) ls (.int (iI (x / y)) :: st) ws k n) : G Z J E Q pc ls (.int (iI y) :: .int (iI x) :: st) ws k n := g_idiv d (iI_ne0 h1 hy) (by rw [iI_div h0 hx h1 hy]; exact K)
theorem gi_rem (d : decode J.2.1 pc = .ok (.irem, 1)) (h0 : 0 ≤ x) (hx : x < 2147483648) (h1 : 0 < y) (hy : y < 2147483648) (K : G Z J E Q (pc + 1) ls (.int (iI (x % y)) :: st) ws k n) : G Z J E Q pc ls (.int (iI y) :: .int (iI x) :: st) ws k n := g_irem d (iI_ne0 h1 hy) (by rw [iI_rem h0 hx h1 hy]; exact K)
theorem gi_inc {i : Nat} {q : Int} (d : decode J.2.1 pc = .ok (.iinc i q, 3)) (hl : ls[i]? = some (.int (iI x))) (hn : i < J.2.2.1) {ls2 : List Value} (hs : sto ls i (.int (iI (x + q))) = ls2) (K : G Z J E Q (pc + 3) ls2 st ws k n) : G Z J E Q pc ls st ws k n := g_iinc (iI (x + q)) d hl (iI_add x q) hn hs K
theorem gi_icmp_eq {off : Int} (tgt : Nat) (d : decode J.2.1 pc = .ok (.if_icmp .eq off, 3)) (ht : (pc : Int) + off = (tgt : Int)) (hx : Rg x) (hy : Rg y) (kt : x = y → G Z J E Q tgt ls st ws k n) (kf : ¬ x = y → G Z J E Q (pc + 3) ls st ws k n) : G Z J E Q pc ls (.int (iI y) :: .int (iI x) :: st) ws k n := g_icmp_eq tgt d ht (fun h => kt ((iI_eq hx hy).mp h)) (fun h => kf (fun e => h ((iI_eq hx hy).mpr e)))
theorem gi_if_eq {off : Int} (tgt : Nat) (d : decode J.2.1 pc = .ok (.ifCond .eq off, 3)) (ht : (pc : Int) + off = (tgt : Int)) (hx : Rg x) (kt : x = 0 → G Z J E Q tgt ls st ws k n) (kf : ¬ x = 0 → G Z J E Q (pc + 3) ls st ws k n) : G Z J E Q pc ls (.int (iI x) :: st) ws k n := g_if_eq tgt d ht (fun h => kt ((iI_eq hx Rg_0).mp h)) (fun h => kf (fun e => h ((iI_eq hx Rg_0).mpr e)))
theorem gi_icmp_ne {off : Int} (tgt : Nat) (d : decode J.2.1 pc = .ok (.if_icmp .ne off, 3)) (ht : (pc : Int) + off = (tgt : Int)) (hx : Rg x) (hy : Rg y) (kt : ¬ x = y → G Z J E Q tgt ls st ws k n) (kf : x = y → G Z J E Q (pc + 3) ls st ws k n) : G Z J E Q pc ls (.int (iI y) :: .int (iI x) :: st) ws k n := g_icmp_ne tgt d ht (fun h => kt (fun e => h ((iI_eq hx hy).mpr e))) (fun h => kf ((iI_eq hx hy).mp h))
theorem gi_if_ne {off : Int} (tgt : Nat) (d : decode J.2.1 pc = .ok (.ifCond .ne off, 3)) (ht : (pc : Int) + off = (tgt : Int)) (hx : Rg x) (kt : ¬ x = 0 → G Z J E Q tgt ls st ws k n) (kf : x = 0 → G Z J E Q (pc + 3) ls st ws k n) : G Z J E Q pc ls (.int (iI x) :: st) ws k n := g_if_ne tgt d ht (fun h => kt (fun e => h ((iI_eq hx Rg_0).mpr e))) (fun h => kf ((iI_eq hx Rg_0).mp h))
theorem gi_icmp_lt {off : Int} (tgt : Nat) (d : decode J.2.1 pc = .ok (.if_icmp .lt off, 3)) (ht : (pc : Int) + off = (tgt : Int)) (hx : Rg x) (hy : Rg y) (kt : x < y → G Z J E Q tgt ls st ws k n) (kf : ¬ x < y → G Z J E Q (pc + 3) ls st ws k n) : G Z J E Q pc ls (.int (iI y) :: .int (iI x) :: st) ws k n := g_icmp_lt tgt d ht (fun h => kt ((iI_lt hx hy).mp h)) (fun h => kf (fun e => h ((iI_lt hx hy).mpr e)))
theorem gi_if_lt {off : Int} (tgt : Nat) (d : decode J.2.1 pc = .ok (.ifCond .lt off, 3)) (ht : (pc : Int) + off = (tgt : Int)) (hx : Rg x) (kt : x < 0 → G Z J E Q tgt ls st ws k n) (kf : ¬ x < 0 → G Z J E Q (pc + 3) ls st ws k n) : G Z J E Q pc ls (.int (iI x) :: st) ws k n := g_if_lt tgt d ht (fun h => kt ((iI_lt hx Rg_0).mp h)) (fun h => kf (fun e => h ((iI_lt hx Rg_0).mpr e)))
theorem gi_icmp_ge {off : Int} (tgt : Nat) (d : decode J.2.1 pc = .ok (.if_icmp .ge off, 3)) (ht : (pc : Int) + off = (tgt : Int)) (hx : Rg x) (hy : Rg y) (kt : y ≤ x → G Z J E Q tgt ls st ws k n) (kf : ¬ y ≤ x → G Z J E Q (pc + 3) ls st ws k n) : G Z J E Q pc ls (.int (iI y) :: .int (iI x) :: st) ws k n := g_icmp_ge tgt d ht (fun h => kt ((iI_le hy hx).mp h)) (fun h => kf (fun e => h ((iI_le hy hx).mpr e)))
theorem gi_if_ge {off : Int} (tgt : Nat) (d : decode J.2.1 pc = .ok (.ifCond .ge off, 3)) (ht : (pc : Int) + off = (tgt : Int)) (hx : Rg x) (kt : 0 ≤ x → G Z J E Q tgt ls st ws k n) (kf : ¬ 0 ≤ x → G Z J E Q (pc + 3) ls st ws k n) : G Z J E Q pc ls (.int (iI x) :: st) ws k n := g_if_ge tgt d ht (fun h => kt ((iI_le Rg_0 hx).mp h)) (fun h => kf (fun e => h ((iI_le Rg_0 hx).mpr e)))
theorem gi_icmp_gt {off : Int} (tgt : Nat) (d : decode J.2.1 pc = .ok (.if_icmp .gt off, 3)) (ht : (pc : Int) + off = (tgt : Int)) (hx : Rg x) (hy : Rg y) (kt : y < x → G Z J E Q tgt ls st ws k n) (kf : ¬ y < x → G Z J E Q (pc + 3) ls st ws k n) : G Z J E Q pc ls (.int (iI y) :: .int (iI x) :: st) ws k n := g_icmp_gt tgt d ht (fun h => kt ((iI_lt hy hx).mp h)) (fun h => kf (fun e => h ((iI_lt hy hx).mpr e)))
theorem gi_if_gt {off : Int} (tgt : Nat) (d : decode J.2.1 pc = .ok (.ifCond .gt off, 3)) (ht : (pc : Int) + off = (tgt : Int)) (hx : Rg x) (kt : 0 < x → G Z J E Q tgt ls st ws k n) (kf : ¬ 0 < x → G Z J E Q (pc + 3) ls st ws k n) : G Z J E Q pc ls (.int (iI x) :: st) ws k n := g_if_gt tgt d ht (fun h => kt ((iI_lt Rg_0 hx).mp h)) (fun h => kf (fun e => h ((iI_lt Rg_0 hx).mpr e)))
theorem gi_icmp_le {off : Int} (tgt : Nat) (d : decode J.2.1 pc = .ok (.if_icmp .le off, 3)) (ht : (pc : Int) + off = (tgt : Int)) (hx : Rg x) (hy : Rg y) (kt : x ≤ y → G Z J E Q tgt ls st ws k n) (kf : ¬ x ≤ y → G Z J E Q (pc + 3) ls st ws k n) : G Z J E Q pc ls (.int (iI y) :: .int (iI x) :: st) ws k n := g_icmp_le tgt d ht (fun h => kt ((iI_le hx hy).mp h)) (fun h => kf (fun e => h ((iI_le hx hy).mpr e)))
theorem gi_if_le {off : Int} (tgt : Nat) (d : decode J.2.1 pc = .ok (.ifCond .le off, 3)) (ht : (pc : Int) + off = (tgt : Int)) (hx : Rg x) (kt : x ≤ 0 → G Z J E Q tgt ls st ws k n) (kf : ¬ x ≤ 0 → G Z J E Q (pc + 3) ls st ws k n) : G Z J E Q pc ls (.int (iI x) :: st) ws k n := g_if_le tgt d ht (fun h => kt ((iI_le hx Rg_0).mp h)) (fun h => kf (fun e => h ((iI_le hx Rg_0).mpr e)))
theorem gi_iald {a N : Nat} {f : Int → Int} (q0 : Nat) (d : decode J.2.1 pc = .ok (.iaload, 1)) (he : ws[q0]? = some (a, .inl (Z.2 0, N, .inl (rowI f)))) (hN : N < 2147483648) (h0 : 0 ≤ x) (h1 : x < N) (K : G Z J E Q (pc + 1) ls (.int (iI (f x)) :: st) ws k n) : G Z J E Q pc ls (.int (iI x) :: .ref a :: st) ws k n := g_iald q0 d he (iI_in h0 h1 hN) (by rw [iI_clamp h0 (by omega), rowI_at h0]; exact K)
theorem gi_zald {a N : Nat} {f : Int → Int} (q0 : Nat) (d : decode J.2.1 pc = .ok (.baload, 1)) (he : ws[q0]? = some (a, .inl (Z.2 1, N, .inl (rowI f)))) (hN : N < 2147483648) (h0 : 0 ≤ x) (h1 : x < N) (K : G Z J E Q (pc + 1) ls (.int (iI (f x)) :: st) ws k n) : G Z J E Q pc ls (.int (iI x) :: .ref a :: st) ws k n := g_zald q0 d he (iI_in h0 h1 hN) (by rw [iI_clamp h0 (by omega), rowI_at h0]; exact K)
theorem gi_iast {a N : Nat} {f : Int → Int} (q0 : Nat) {ws2 : va_W} (d : decode J.2.1 pc = .ok (.iastore, 1)) (he : ws[q0]? = some (a, .inl (Z.2 0, N, .inl (rowI f)))) (hN : N < 2147483648) (h0 : 0 ≤ x) (h1 : x < N) (h2 : ws.set q0 (a, .inl (Z.2 0, N, .inl (rowI (upI f x y)))) = ws2) (K : G Z J E Q (pc + 1) ls st ws2 k n) : G Z J E Q pc ls (.int (iI y) :: .int (iI x) :: .ref a :: st) ws k n := g_iast q0 d he (iI_in h0 h1 hN) (by rw [iI_clamp h0 (by omega), rowI_up h0]; exact h2) K
theorem gi_zast {a N : Nat} {f : Int → Int} (q0 : Nat) {ws2 : va_W} (d : decode J.2.1 pc = .ok (.bastore, 1)) (he : ws[q0]? = some (a, .inl (Z.2 1, N, .inl (rowI f)))) (hN : N < 2147483648) (h0 : 0 ≤ x) (h1 : x < N) (hb : y = 0 ∨ y = 1) (h2 : ws.set q0 (a, .inl (Z.2 1, N, .inl (rowI (upI f x y)))) = ws2) (K : G Z J E Q (pc + 1) ls st ws2 k n) : G Z J E Q pc ls (.int (iI y) :: .int (iI x) :: .ref a :: st) ws k n := g_zast q0 d he (iI_in h0 h1 hN) (by rw [iI_clamp h0 (by omega), nar_bool hb, rowI_up h0]; exact h2) K
end IRows
theorem range_all {α : Type} (w : List α) : (List.range w.length).map (fun i => w[i]?) = w.map some := by
  apply List.ext_getElem?
  intro i
  rw [List.getElem?_map, List.getElem?_map]
  by_cases h : i < w.length
  · simp [h]
  · simp [h]
theorem nd_of : ∀ l : List Nat, l.Nodup → va_nd l = true := by
  intro l
  induction l with
  | nil => intro _; rfl
  | cons a t ih =>
    intro h
    have h1 := List.nodup_cons.mp h
    simp [va_nd, ih h1.2, h1.1]
theorem nd_range (n : Nat) : va_nd (List.range n) = true := nd_of _ List.nodup_range
