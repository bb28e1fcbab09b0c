/-! THE REFERENCE: what is asked -/
theorem penB_t {p : Int} (h : ¬ bI (penB p) = 0) : 0 ≤ p ∧ p < 6 := by
  unfold penB at h
  by_cases hp : 0 ≤ p ∧ p < 6
  · exact hp
  · rw [decide_eq_false hp] at h; exact absurd rfl h
theorem penB_f {p : Int} (h : bI (penB p) = 0) : ¬ (0 ≤ p ∧ p < 6) := by
  unfold penB at h
  intro hp
  rw [decide_eq_true hp] at h; exact absurd h (by decide)
theorem slipB_t {D : Mem} {p : Int} (h : ¬ bI (slipB D p) = 0) : 0 ≤ p ∧ p < D 9 0 := by
  unfold slipB at h
  by_cases hp : 0 ≤ p ∧ p < D 9 0
  · exact hp
  · rw [decide_eq_false hp] at h; exact absurd rfl h
theorem slipB_f {D : Mem} {p : Int} (h : bI (slipB D p) = 0) : ¬ (0 ≤ p ∧ p < D 9 0) := by
  unfold slipB at h
  intro hp
  rw [decide_eq_true hp] at h; exact absurd h (by decide)
theorem cnt_mono (V : Int → Bool) : ∀ k m : Nat, k ≤ m → cntB V k ≤ cntB V m := by
  intro k m hkm
  induction m with
  | zero => rw [show k = 0 by omega]; omega
  | succ m ih =>
    by_cases e : k = m + 1
    · rw [e]; omega
    · have := ih (by omega); have := bI_01 (V m); simp only [cntB]; omega
theorem cnt_lt {V : Int → Bool} {k m : Nat} (h : k < m) (hV : V k = true) : cntB V k < cntB V m := by
  have h1 := cnt_mono V (k + 1) m h
  simp only [cntB, hV, bI_t] at h1
  omega
theorem cnt_ex {V : Int → Bool} {x : Int} (h0 : 0 ≤ x) : ∀ k : Nat, x < cntB V k → ∃ i : Nat, i < k ∧ V i = true ∧ cntB V i = x := by
  intro k
  induction k with
  | zero => intro h; simp [cntB] at h; omega
  | succ k ih =>
    intro h
    by_cases hx : x < cntB V k
    · obtain ⟨i, a, b, c⟩ := ih hx; exact ⟨i, by omega, b, c⟩
    · simp only [cntB] at h
      refine ⟨k, by omega, ?_, ?_⟩
      · cases hv : V k
        · rw [hv, bI_f] at h; omega
        · rfl
      · have := bI_01 (V k); omega
/-- the place of the x-th seen sign -/
def fvV (V : Int → Bool) (x : Int) : Nat → Int
  | 0 => -1
  | k + 1 => if V k = true ∧ cntB V k = x then (k : Int) else fvV V x k
theorem fvV_at {V : Int → Bool} {x z : Int} (h0 : 0 ≤ z) (hV : V z = true) (hc : cntB V z.toNat = x) : ∀ k : Nat, z < k → fvV V x k = z := by
  intro k
  induction k with
  | zero => intro h; omega
  | succ k ih =>
    intro h
    unfold fvV
    by_cases e : z = k
    · rw [if_pos ⟨by rw [← e]; exact hV, by rw [← hc, e]; simp⟩]; exact e.symm
    · rw [if_neg, ih (by omega)]
      rintro ⟨h1, h2⟩
      have := cnt_lt (V := V) (k := z.toNat) (m := k) (by omega) (by rw [show ((z.toNat : Nat) : Int) = z by omega]; exact hV)
      omega
theorem fvV_no {V : Int → Bool} {x : Int} : ∀ k : Nat, (∀ i : Int, 0 ≤ i → i < k → V i = true → cntB V i.toNat ≠ x) → fvV V x k = -1 := by
  intro k
  induction k with
  | zero => intro _; rfl
  | succ k ih =>
    intro h
    unfold fvV
    rw [if_neg, ih (fun i a b c => h i a (by omega) c)]
    rintro ⟨h1, h2⟩
    have := h k (by omega) (by omega) h1
    rw [show ((k : Int)).toNat = k by omega] at this
    exact this h2
def atF (D : Mem) (T : Int → Bool) (x : Int) : Int := fvV (Vi D T) x (ordF D T).length
theorem atF_in {D : Mem} {T : Int → Bool} {x : Int} (h0 : 0 ≤ x) (h1 : x < txtN D T) : 0 ≤ atF D T x ∧ atF D T x < (ordF D T).length ∧ Vi D T (atF D T x) = true ∧ cntB (Vi D T) (atF D T x).toNat = x := by
  obtain ⟨i, a, b, c⟩ := cnt_ex h0 _ h1
  have e : atF D T x = i := fvV_at (by omega) b (by rw [show ((i : Int)).toNat = i by omega]; exact c) _ (by omega)
  rw [e]
  exact ⟨by omega, by omega, b, by rw [show ((i : Int)).toNat = i by omega]; exact c⟩
theorem c_atPlaceF (Z : LZ) (o : Nat) (a : Nat → Nat) {D M : Mem} (hP : Pers D M) (hM : RM D) (hD : okP D) (hO : okO D (D 9 0).toNat) {T : Int → Bool} (hC : Cl D T) (hS : Sh D T M) (x : Int) (h0 : 0 ≤ x) (hx : x < 1000000) : Tm Z o a jX9_atPlace [x] M (fun z M2 => z = atF D T x ∧ M2 = M) := by
  obtain ⟨h1, h2, h3⟩ := hS.io hD hO hC
  refine tr_post (c_atPlace Z o a hP hM x h0 hx h1 h2 (Vi D T) hS.vi) ?_
  rintro r w ⟨z, M2, rfl, rfl, e1, e2⟩
  refine ⟨z, M2, rfl, rfl, ?_, e1⟩
  have h17 := hS.2.2.1.1
  unfold atF
  rcases e2 with ⟨b1, b2, b3, b4⟩ | ⟨b1, b2⟩
  · rw [fvV_at b1 b3 b4 _ (by omega)]
  · rw [b1, fvV_no _ (fun i a b c => b2 i a (by omega) c)]
theorem txtN_rg {D : Mem} (hD : okP D) (hO : okO D (D 9 0).toNat) {T : Int → Bool} (hC : Cl D T) : 0 ≤ txtN D T ∧ txtN D T ≤ 768 := by
  have := ordF_len hD hO hC
  have h2 := cntB_rg (Vi D T) (ordF D T).length
  unfold txtN
  omega
abbrev SC : List Nat := [14, 15, 16, 17, 18, 19, 20, 21, 22, 23, 24, 25, 26, 27]
theorem SC14 : ∀ r ∈ SC, 14 ≤ r := by decide
theorem fF_ord {D : Mem} (hD : okP D) (hO : okO D (D 9 0).toNat) {T : Int → Bool} {i : Int} (h0 : 0 ≤ i) (h1 : i < (ordF D T).length) : 0 ≤ fF (ordF D T) i ∧ fF (ordF D T) i / 4 < D 9 0 ∧ D 2 (fF (ordF D T) i / 4) = 0 ∧ T (fF (ordF D T) i / 4) = true ∧ fF (ordF D T) i % 4 < D 3 (fF (ordF D T) i / 4) := ordF_mem hD hO (fF_mem h0 h1)
/-- what the questions answer -/
def A_slip (D : Mem) (s w : Int) : Int := if 0 ≤ s ∧ s < D 9 0 then (if w = 0 then D 0 s else if w = 1 then D 1 s else if w = 2 then D 2 s else if w = 3 then D 3 s else -1) else -1
def A_later (D : Mem) (s t : Int) : Int := if (0 ≤ s ∧ s < D 9 0) ∧ (0 ≤ t ∧ t < D 9 0) then bI (laterB D s t) else 0
def A_length (D : Mem) (p : Int) : Int := if 0 ≤ p ∧ p < 6 then txtN D (tkB D p) else -1
def A_signs (D : Mem) (p : Int) : Int := if 0 ≤ p ∧ p < 6 then ((ordF D (tkB D p)).length : Int) else -1
def A_order (D : Mem) (p i : Int) : Int := if (0 ≤ p ∧ p < 6) ∧ 0 ≤ i ∧ i < (ordF D (tkB D p)).length then fF (ordF D (tkB D p)) i else -1
def A_place (D : Mem) (p x : Int) : Int := if (0 ≤ p ∧ p < 6) ∧ 0 ≤ inIx (ordF D (tkB D p)) x then (if Vi D (tkB D p) (inIx (ordF D (tkB D p)) x) = true then cntB (Vi D (tkB D p)) (inIx (ordF D (tkB D p)) x).toNat else -2) else -3
def A_strikers (D : Mem) (p x : Int) : Int := if (0 ≤ p ∧ p < 6) ∧ 0 ≤ inIx (ordF D (tkB D p)) x then strikesF D (wkB D (tkB D p)) x else -1
def A_state (D : Mem) (p s : Int) : Int := if (0 ≤ p ∧ p < 6) ∧ (0 ≤ s ∧ s < D 9 0) then (if D 10 (256 * p + s) = 0 then 0 else if tkB D p s = false then 1 else if wkB D (tkB D p) s = true then 3 else 2) else -1
def A_text (D : Mem) (p i w : Int) : Int := if (0 ≤ p ∧ p < 6) ∧ 0 ≤ i ∧ i < txtN D (tkB D p) then (if w = 0 then D 5 (fF (ordF D (tkB D p)) (atF D (tkB D p) i)) else if w = 1 then fF (ordF D (tkB D p)) (atF D (tkB D p) i) else if w = 2 then tinF D (tkB D p) (atF D (tkB D p) i) 4 else if w = 3 then D 0 (fF (ordF D (tkB D p)) (atF D (tkB D p) i) / 4) else -1) else -1
set_option maxHeartbeats 4000000 in
set_option maxRecDepth 100000 in
/-- slips -/
theorem c_slips (Z : LZ) (o : Nat) (a : Nat → Nat) {D M : Mem} (hP : Pers D M) (hM : RM D) (hD : okP D) (hO : okO D (D 9 0).toNat)   : Tm Z o a jX9_slips [] M (fun z M2 => z = D 9 0 ∧ Pers D M2) := by
  refine tr_of pn_X9_slips (Nat.le_of_ble_eq_true rfl) (vI_catO o _) ?_
  show G Z jX9_slips E0 (QM Z jX9_slips (pI Z o a (fun z M2 => z = D 9 0 ∧ Pers D M2))) 0 [.ref o] [] (mW Z o a M) 0 0
  have hn := hD.2.1
  refine g_aload_n 0 dX9_slips_0 rfl rfl ?_
  refine mg_9 (hP.at 9 (by decide) _) dX9_slips_1 rfl ?_
  refine g_iret dX9_slips_4 rfl (Nat.le_of_ble_eq_true rfl) (Nat.le_of_ble_eq_true rfl) ⟨_, _, rfl, rfl, ?_⟩
  exact ⟨rfl, hP⟩
set_option maxHeartbeats 4000000 in
set_option maxRecDepth 100000 in
/-- status -/
theorem c_status (Z : LZ) (o : Nat) (a : Nat → Nat) {D M : Mem} (hP : Pers D M) (hM : RM D) (hD : okP D) (hO : okO D (D 9 0).toNat)   : Tm Z o a jX9_status [] M (fun z M2 => z = D 13 0 ∧ Pers D M2) := by
  refine tr_of pn_X9_status (Nat.le_of_ble_eq_true rfl) (vI_catO o _) ?_
  show G Z jX9_status E0 (QM Z jX9_status (pI Z o a (fun z M2 => z = D 13 0 ∧ Pers D M2))) 0 [.ref o] [] (mW Z o a M) 0 0
  have hn := hD.2.1
  refine g_aload_n 0 dX9_status_0 rfl rfl ?_
  refine mg_13 (hP.at 13 (by decide) _) dX9_status_1 rfl ?_
  refine g_iret dX9_status_4 rfl (Nat.le_of_ble_eq_true rfl) (Nat.le_of_ble_eq_true rfl) ⟨_, _, rfl, rfl, ?_⟩
  exact ⟨rfl, hP⟩
set_option maxHeartbeats 4000000 in
set_option maxRecDepth 100000 in
/-- slip -/
theorem c_slip (Z : LZ) (o : Nat) (a : Nat → Nat) {D M : Mem} (hP : Pers D M) (hM : RM D) (hD : okP D) (hO : okO D (D 9 0).toNat) (s w : Int) (hs : Rg s) (hw : Rg w)  : Tm Z o a jX9_slip [s, w] M (fun z M2 => z = A_slip D s w ∧ Pers D M2) := by
  refine tr_of pn_X9_slip (Nat.le_of_ble_eq_true rfl) (vI_catO o _) ?_
  show G Z jX9_slip E0 (QM Z jX9_slip (pI Z o a (fun z M2 => z = A_slip D s w ∧ Pers D M2))) 0 [.ref o, .int (iI s), .int (iI w)] [] (mW Z o a M) 0 0
  have hn := hD.2.1
  refine g_aload_n 0 dX9_slip_0 rfl rfl ?_
  refine g_iload_n 1 dX9_slip_1 rfl rfl ?_
  refine mcI lkX9_170 (c_isSlip Z o a hP hM s (by first | assumption | exact ⟨by omega, by omega⟩)) dX9_slip_2 rfl (And.intro (Nat.le_of_ble_eq_true rfl) (Nat.le_of_ble_eq_true rfl)) rfl (Nat.le_of_ble_eq_true rfl) rfl rfl (Nat.le_of_ble_eq_true rfl) (Nat.le_of_ble_eq_true rfl) (fun z2 M2 h2 => ?_)
  obtain ⟨q1, q2⟩ := h2
  rw [q1, q2]
  refine gi_if_ne 10 dX9_slip_5 (by decide) (by first | exact hM _ _ | exact bI_Rg _ | exact ⟨by omega, by omega⟩) (fun c5 => ?_) (fun c5 => ?_)
  · have hs2 := slipB_t c5
    refine g_iload_n 2 dX9_slip_10 rfl rfl ?_
    by_cases w11_0 : w = 0
    · rw [w11_0]
      refine g_tableIn 40 dX9_slip_11 (by decide) (by decide) rfl (by decide) ?_
      refine g_aload_n 0 dX9_slip_40 rfl rfl ?_
      refine mg_0 dX9_slip_41 rfl ?_
      refine g_iload_n 1 dX9_slip_44 rfl rfl ?_
      refine ml_0 (hP.at 0 (by decide) _) dX9_slip_45 (by omega) (by omega) ?_
      refine g_iret dX9_slip_46 rfl (Nat.le_of_ble_eq_true rfl) (Nat.le_of_ble_eq_true rfl) ⟨_, _, rfl, rfl, ?_⟩
      refine ⟨?_, hP⟩
      unfold A_slip
      rw [if_pos (by omega)]
      rw [if_pos rfl]
    by_cases w11_1 : w = 1
    · rw [w11_1]
      refine g_tableIn 47 dX9_slip_11 (by decide) (by decide) rfl (by decide) ?_
      refine g_aload_n 0 dX9_slip_47 rfl rfl ?_
      refine mg_1 dX9_slip_48 rfl ?_
      refine g_iload_n 1 dX9_slip_51 rfl rfl ?_
      refine ml_1 (hP.at 1 (by decide) _) dX9_slip_52 (by omega) (by omega) ?_
      refine g_iret dX9_slip_53 rfl (Nat.le_of_ble_eq_true rfl) (Nat.le_of_ble_eq_true rfl) ⟨_, _, rfl, rfl, ?_⟩
      refine ⟨?_, hP⟩
      unfold A_slip
      rw [if_pos (by omega)]
      rw [if_neg (by decide)]
      rw [if_pos rfl]
    by_cases w11_2 : w = 2
    · rw [w11_2]
      refine g_tableIn 54 dX9_slip_11 (by decide) (by decide) rfl (by decide) ?_
      refine g_aload_n 0 dX9_slip_54 rfl rfl ?_
      refine mg_2 dX9_slip_55 rfl ?_
      refine g_iload_n 1 dX9_slip_58 rfl rfl ?_
      refine ml_2 (hP.at 2 (by decide) _) dX9_slip_59 (by omega) (by omega) ?_
      refine g_iret dX9_slip_60 rfl (Nat.le_of_ble_eq_true rfl) (Nat.le_of_ble_eq_true rfl) ⟨_, _, rfl, rfl, ?_⟩
      refine ⟨?_, hP⟩
      unfold A_slip
      rw [if_pos (by omega)]
      rw [if_neg (by decide)]
      rw [if_neg (by decide)]
      rw [if_pos rfl]
    by_cases w11_3 : w = 3
    · rw [w11_3]
      refine g_tableIn 61 dX9_slip_11 (by decide) (by decide) rfl (by decide) ?_
      refine g_aload_n 0 dX9_slip_61 rfl rfl ?_
      refine mg_3 dX9_slip_62 rfl ?_
      refine g_iload_n 1 dX9_slip_65 rfl rfl ?_
      refine ml_3 (hP.at 3 (by decide) _) dX9_slip_66 (by omega) (by omega) ?_
      refine g_iret dX9_slip_67 rfl (Nat.le_of_ble_eq_true rfl) (Nat.le_of_ble_eq_true rfl) ⟨_, _, rfl, rfl, ?_⟩
      refine ⟨?_, hP⟩
      unfold A_slip
      rw [if_pos (by omega)]
      rw [if_neg (by decide)]
      rw [if_neg (by decide)]
      rw [if_neg (by decide)]
      rw [if_pos rfl]
    · refine g_tableOut 68 dX9_slip_11 (by rw [iI_toInt hw]; omega) (by decide) ?_
      refine g_iconst (iI (-1)) dX9_slip_68 rfl ?_
      refine g_iret dX9_slip_69 rfl (Nat.le_of_ble_eq_true rfl) (Nat.le_of_ble_eq_true rfl) ⟨_, _, rfl, rfl, ?_⟩
      refine ⟨?_, hP⟩
      unfold A_slip
      rw [if_pos (by omega)]
      rw [if_neg (by omega), if_neg (by omega), if_neg (by omega), if_neg (by omega)]
  · have hs2 := slipB_f c5
    refine g_iconst (iI (-1)) dX9_slip_8 rfl ?_
    refine g_iret dX9_slip_9 rfl (Nat.le_of_ble_eq_true rfl) (Nat.le_of_ble_eq_true rfl) ⟨_, _, rfl, rfl, ?_⟩
    refine ⟨?_, hP⟩
    unfold A_slip
    rw [if_neg (by omega)]
set_option maxHeartbeats 4000000 in
set_option maxRecDepth 100000 in
/-- later -/
theorem c_later (Z : LZ) (o : Nat) (a : Nat → Nat) {D M : Mem} (hP : Pers D M) (hM : RM D) (hD : okP D) (hO : okO D (D 9 0).toNat) (s t : Int) (hs : Rg s) (ht : Rg t)  : Tm Z o a jX9_later [s, t] M (fun z M2 => z = A_later D s t ∧ Pers D M2) := by
  refine tr_of pn_X9_later (Nat.le_of_ble_eq_true rfl) (vI_catO o _) ?_
  show G Z jX9_later E0 (QM Z jX9_later (pI Z o a (fun z M2 => z = A_later D s t ∧ Pers D M2))) 0 [.ref o, .int (iI s), .int (iI t)] [] (mW Z o a M) 0 0
  have hn := hD.2.1
  refine g_aload_n 0 dX9_later_0 rfl rfl ?_
  refine g_iload_n 1 dX9_later_1 rfl rfl ?_
  refine mcI lkX9_170 (c_isSlip Z o a hP hM s (by first | assumption | exact ⟨by omega, by omega⟩)) dX9_later_2 rfl (And.intro (Nat.le_of_ble_eq_true rfl) (Nat.le_of_ble_eq_true rfl)) rfl (Nat.le_of_ble_eq_true rfl) rfl rfl (Nat.le_of_ble_eq_true rfl) (Nat.le_of_ble_eq_true rfl) (fun z2 M2 h2 => ?_)
  obtain ⟨q1, q2⟩ := h2
  rw [q1, q2]
  refine gi_if_eq 29 dX9_later_5 (by decide) (by first | exact hM _ _ | exact bI_Rg _ | exact ⟨by omega, by omega⟩) (fun c5 => ?_) (fun c5 => ?_)
  · have hs2 := slipB_f c5
    refine g_iconst (iI 0) dX9_later_29 rfl ?_
    refine g_zret dX9_later_30 rfl (narrow_bool (by first | exact Or.inl rfl | exact Or.inr rfl | assumption | omega)) (Nat.le_of_ble_eq_true rfl) (Nat.le_of_ble_eq_true rfl) ⟨_, _, rfl, rfl, ?_⟩
    refine ⟨?_, hP⟩
    unfold A_later
    rw [if_neg (fun h => hs2 h.1)]
  · have hs2 := slipB_t c5
    refine g_aload_n 0 dX9_later_8 rfl rfl ?_
    refine g_iload_n 2 dX9_later_9 rfl rfl ?_
    refine mcI lkX9_170 (c_isSlip Z o a hP hM t (by first | assumption | exact ⟨by omega, by omega⟩)) dX9_later_10 rfl (And.intro (Nat.le_of_ble_eq_true rfl) (Nat.le_of_ble_eq_true rfl)) rfl (Nat.le_of_ble_eq_true rfl) rfl rfl (Nat.le_of_ble_eq_true rfl) (Nat.le_of_ble_eq_true rfl) (fun z10 M10 h10 => ?_)
    obtain ⟨q1, q2⟩ := h10
    rw [q1, q2]
    refine gi_if_eq 29 dX9_later_13 (by decide) (by first | exact hM _ _ | exact bI_Rg _ | exact ⟨by omega, by omega⟩) (fun c13 => ?_) (fun c13 => ?_)
    · have ht2 := slipB_f c13
      refine g_iconst (iI 0) dX9_later_29 rfl ?_
      refine g_zret dX9_later_30 rfl (narrow_bool (by first | exact Or.inl rfl | exact Or.inr rfl | assumption | omega)) (Nat.le_of_ble_eq_true rfl) (Nat.le_of_ble_eq_true rfl) ⟨_, _, rfl, rfl, ?_⟩
      refine ⟨?_, hP⟩
      unfold A_later
      rw [if_neg (fun h => ht2 h.2)]
    · have ht2 := slipB_t c13
      refine g_aload_n 0 dX9_later_16 rfl rfl ?_
      refine g_iload_n 1 dX9_later_17 rfl rfl ?_
      refine g_iload_n 2 dX9_later_18 rfl rfl ?_
      refine mcI lkX9_108 (c_isLater Z o a hP hM s t (by omega) (by omega) (by omega) (by omega)) dX9_later_19 rfl (And.intro (Nat.le_of_ble_eq_true rfl) (Nat.le_of_ble_eq_true rfl)) rfl (Nat.le_of_ble_eq_true rfl) rfl rfl (Nat.le_of_ble_eq_true rfl) (Nat.le_of_ble_eq_true rfl) (fun z19 M19 h19 => ?_)
      obtain ⟨q1, q2⟩ := h19
      rw [q1, q2]
      refine gi_if_eq 29 dX9_later_22 (by decide) (by first | exact hM _ _ | exact bI_Rg _ | exact ⟨by omega, by omega⟩) (fun c22 => ?_) (fun c22 => ?_)
      · refine g_iconst (iI 0) dX9_later_29 rfl ?_
        refine g_zret dX9_later_30 rfl (narrow_bool (by first | exact Or.inl rfl | exact Or.inr rfl | assumption | omega)) (Nat.le_of_ble_eq_true rfl) (Nat.le_of_ble_eq_true rfl) ⟨_, _, rfl, rfl, ?_⟩
        refine ⟨?_, hP⟩
        unfold A_later
        rw [if_pos ⟨hs2, ht2⟩]
        exact c22.symm
      · refine g_iconst (iI 1) dX9_later_25 rfl ?_
        refine g_goto 30 dX9_later_26 (by decide) ?_
        refine g_zret dX9_later_30 rfl (narrow_bool (by first | exact Or.inl rfl | exact Or.inr rfl | assumption | omega)) (Nat.le_of_ble_eq_true rfl) (Nat.le_of_ble_eq_true rfl) ⟨_, _, rfl, rfl, ?_⟩
        refine ⟨?_, hP⟩
        unfold A_later
        rw [if_pos ⟨hs2, ht2⟩]
        exact (bI_1 c22).symm
set_option maxHeartbeats 4000000 in
set_option maxRecDepth 100000 in
/-- length -/
theorem c_length (Z : LZ) (o : Nat) (a : Nat → Nat) {D M : Mem} (hP : Pers D M) (hM : RM D) (hD : okP D) (hO : okO D (D 9 0).toNat) (p : Int) (hp : Rg p)  : Tm Z o a jX9_length [p] M (fun z M2 => z = A_length D p ∧ Pers D M2) := by
  refine tr_of pn_X9_length (Nat.le_of_ble_eq_true rfl) (vI_catO o _) ?_
  show G Z jX9_length E0 (QM Z jX9_length (pI Z o a (fun z M2 => z = A_length D p ∧ Pers D M2))) 0 [.ref o, .int (iI p)] [] (mW Z o a M) 0 0
  have hn := hD.2.1
  refine g_iload_n 1 dX9_length_0 rfl rfl ?_
  refine mcS lkX9_147 (c_isPen Z o a _ p (by first | assumption | exact ⟨by omega, by omega⟩)) dX9_length_1 rfl (And.intro (Nat.le_of_ble_eq_true rfl) (Nat.le_of_ble_eq_true rfl)) (Nat.le_of_ble_eq_true rfl) rfl rfl (Nat.le_of_ble_eq_true rfl) (Nat.le_of_ble_eq_true rfl) (fun z1 h1 => ?_)
  rw [h1]
  refine gi_if_eq 15 dX9_length_4 (by decide) (by first | exact hM _ _ | exact bI_Rg _ | exact ⟨by omega, by omega⟩) (fun c4 => ?_) (fun c4 => ?_)
  · have hp2 := penB_f c4
    refine g_iconst (iI (-1)) dX9_length_15 rfl ?_
    refine g_iret dX9_length_16 rfl (Nat.le_of_ble_eq_true rfl) (Nat.le_of_ble_eq_true rfl) ⟨_, _, rfl, rfl, ?_⟩
    refine ⟨?_, hP⟩
    unfold A_length
    rw [if_neg hp2]
  · have hp2 := penB_t c4
    refine g_aload_n 0 dX9_length_7 rfl rfl ?_
    refine g_iload_n 1 dX9_length_8 rfl rfl ?_
    refine mcI lkX9_153 (c_sheet Z o a hP hM hD hO p (by omega) (by omega)) dX9_length_9 rfl (And.intro (Nat.le_of_ble_eq_true rfl) (Nat.le_of_ble_eq_true rfl)) rfl (Nat.le_of_ble_eq_true rfl) rfl rfl (Nat.le_of_ble_eq_true rfl) (Nat.le_of_ble_eq_true rfl) (fun z9 M9 h9 => ?_)
    obtain ⟨q9, hF9, hS9⟩ := h9
    rw [q9]
    have hC9 := tkB_Cl hD p
    have hT9 := txtN_rg hD hO hC9
    have hL9 := ordF_len hD hO hC9
    refine g_goto 16 dX9_length_12 (by decide) ?_
    refine g_iret dX9_length_16 rfl (Nat.le_of_ble_eq_true rfl) (Nat.le_of_ble_eq_true rfl) ⟨_, _, rfl, rfl, ?_⟩
    refine ⟨?_, (hP.fx hF9 (by decide))⟩
    unfold A_length
    rw [if_pos hp2]
set_option maxHeartbeats 4000000 in
set_option maxRecDepth 100000 in
/-- signs -/
theorem c_signs (Z : LZ) (o : Nat) (a : Nat → Nat) {D M : Mem} (hP : Pers D M) (hM : RM D) (hD : okP D) (hO : okO D (D 9 0).toNat) (p : Int) (hp : Rg p)  : Tm Z o a jX9_signs [p] M (fun z M2 => z = A_signs D p ∧ Pers D M2 ∧ Fx SC M M2 ∧ ((0 ≤ p ∧ p < 6) → Sh D (tkB D p) M2)) := by
  refine tr_of pn_X9_signs (Nat.le_of_ble_eq_true rfl) (vI_catO o _) ?_
  show G Z jX9_signs E0 (QM Z jX9_signs (pI Z o a (fun z M2 => z = A_signs D p ∧ Pers D M2 ∧ Fx SC M M2 ∧ ((0 ≤ p ∧ p < 6) → Sh D (tkB D p) M2)))) 0 [.ref o, .int (iI p)] [] (mW Z o a M) 0 0
  have hn := hD.2.1
  refine g_iload_n 1 dX9_signs_0 rfl rfl ?_
  refine mcS lkX9_147 (c_isPen Z o a _ p (by first | assumption | exact ⟨by omega, by omega⟩)) dX9_signs_1 rfl (And.intro (Nat.le_of_ble_eq_true rfl) (Nat.le_of_ble_eq_true rfl)) (Nat.le_of_ble_eq_true rfl) rfl rfl (Nat.le_of_ble_eq_true rfl) (Nat.le_of_ble_eq_true rfl) (fun z1 h1 => ?_)
  rw [h1]
  refine gi_if_ne 9 dX9_signs_4 (by decide) (by first | exact hM _ _ | exact bI_Rg _ | exact ⟨by omega, by omega⟩) (fun c4 => ?_) (fun c4 => ?_)
  · have hp2 := penB_t c4
    refine g_aload_n 0 dX9_signs_9 rfl rfl ?_
    refine g_iload_n 1 dX9_signs_10 rfl rfl ?_
    refine mcI lkX9_153 (c_sheet Z o a hP hM hD hO p (by omega) (by omega)) dX9_signs_11 rfl (And.intro (Nat.le_of_ble_eq_true rfl) (Nat.le_of_ble_eq_true rfl)) rfl (Nat.le_of_ble_eq_true rfl) rfl rfl (Nat.le_of_ble_eq_true rfl) (Nat.le_of_ble_eq_true rfl) (fun z11 M11 h11 => ?_)
    obtain ⟨q11, hF11, hS11⟩ := h11
    rw [q11]
    have hC11 := tkB_Cl hD p
    have hT11 := txtN_rg hD hO hC11
    have hL11 := ordF_len hD hO hC11
    refine g_istore_n 2 dX9_signs_14 rfl (Nat.le_of_ble_eq_true rfl) (Nat.le_of_ble_eq_true rfl) rfl ?_
    dsimp only [sto]
    refine g_aload_n 0 dX9_signs_15 rfl rfl ?_
    refine mg_17 hS11.2.2.1.1 dX9_signs_16 rfl ?_
    refine g_iret dX9_signs_19 rfl (Nat.le_of_ble_eq_true rfl) (Nat.le_of_ble_eq_true rfl) ⟨_, _, rfl, rfl, ?_⟩
    refine ⟨?_, (hP.fx hF11 (by decide)), hF11.sub (by decide), fun _ => hS11⟩
    unfold A_signs
    rw [if_pos hp2]
  · have hp2 := penB_f c4
    refine g_iconst (iI (-1)) dX9_signs_7 rfl ?_
    refine g_iret dX9_signs_8 rfl (Nat.le_of_ble_eq_true rfl) (Nat.le_of_ble_eq_true rfl) ⟨_, _, rfl, rfl, ?_⟩
    refine ⟨?_, hP, Fx.rf _ _, fun h => absurd h hp2⟩
    unfold A_signs
    rw [if_neg hp2]
set_option maxHeartbeats 4000000 in
set_option maxRecDepth 100000 in
/-- order -/
theorem c_order (Z : LZ) (o : Nat) (a : Nat → Nat) {D M : Mem} (hP : Pers D M) (hM : RM D) (hD : okP D) (hO : okO D (D 9 0).toNat) (p i : Int) (hp : Rg p) (hi : Rg i)  : Tm Z o a jX9_order [p, i] M (fun z M2 => z = A_order D p i ∧ Pers D M2) := by
  refine tr_of pn_X9_order (Nat.le_of_ble_eq_true rfl) (vI_catO o _) ?_
  show G Z jX9_order E0 (QM Z jX9_order (pI Z o a (fun z M2 => z = A_order D p i ∧ Pers D M2))) 0 [.ref o, .int (iI p), .int (iI i)] [] (mW Z o a M) 0 0
  have hn := hD.2.1
  refine g_iload_n 2 dX9_order_0 rfl rfl ?_
  refine gi_if_lt 22 dX9_order_1 (by decide) (by first | exact hM _ _ | exact bI_Rg _ | exact ⟨by omega, by omega⟩) (fun c1 => ?_) (fun c1 => ?_)
  · refine g_iconst (iI (-1)) dX9_order_22 rfl ?_
    refine g_iret dX9_order_23 rfl (Nat.le_of_ble_eq_true rfl) (Nat.le_of_ble_eq_true rfl) ⟨_, _, rfl, rfl, ?_⟩
    refine ⟨?_, hP⟩
    unfold A_order
    rw [if_neg (by omega)]
  · refine g_iload_n 2 dX9_order_4 rfl rfl ?_
    refine g_aload_n 0 dX9_order_5 rfl rfl ?_
    refine g_iload_n 1 dX9_order_6 rfl rfl ?_
    refine mcI lkX9_179 (c_signs Z o a hP hM hD hO p hp) dX9_order_7 rfl (And.intro (Nat.le_of_ble_eq_true rfl) (Nat.le_of_ble_eq_true rfl)) rfl (Nat.le_of_ble_eq_true rfl) rfl rfl (Nat.le_of_ble_eq_true rfl) (Nat.le_of_ble_eq_true rfl) (fun z7 M7 h7 => ?_)
    obtain ⟨q7, hP7, hF7, hS7⟩ := h7
    rw [q7]
    have hC7 := tkB_Cl hD p
    have hL7 := ordF_len hD hO hC7
    refine gi_icmp_ge 22 dX9_order_10 (by decide) hi (by unfold A_signs; split <;> exact ⟨by omega, by omega⟩) (fun c10 => ?_) (fun c10 => ?_)
    · unfold A_signs at c10
      refine g_iconst (iI (-1)) dX9_order_22 rfl ?_
      refine g_iret dX9_order_23 rfl (Nat.le_of_ble_eq_true rfl) (Nat.le_of_ble_eq_true rfl) ⟨_, _, rfl, rfl, ?_⟩
      refine ⟨?_, hP7⟩
      unfold A_order
      rw [if_neg]
      rintro ⟨h1, h2, h3⟩
      rw [if_pos h1] at c10
      omega
    · have hp2 : 0 ≤ p ∧ p < 6 := by
        unfold A_signs at c10
        split at c10
        · assumption
        · omega
      unfold A_signs at c10
      rw [if_pos hp2] at c10
      refine g_aload_n 0 dX9_order_13 rfl rfl ?_
      refine mg_16 dX9_order_14 rfl ?_
      refine g_iload_n 2 dX9_order_17 rfl rfl ?_
      refine ml_16 (OL_fF (hS7 hp2).2.2.1 (by omega) (by omega)) dX9_order_18 (by omega) (by omega) ?_
      refine g_goto 23 dX9_order_19 (by decide) ?_
      refine g_iret dX9_order_23 rfl (Nat.le_of_ble_eq_true rfl) (Nat.le_of_ble_eq_true rfl) ⟨_, _, rfl, rfl, ?_⟩
      refine ⟨?_, hP7⟩
      unfold A_order
      rw [if_pos ⟨hp2, by omega, by omega⟩]
set_option maxHeartbeats 4000000 in
set_option maxRecDepth 100000 in
/-- place -/
theorem c_place (Z : LZ) (o : Nat) (a : Nat → Nat) {D M : Mem} (hP : Pers D M) (hM : RM D) (hD : okP D) (hO : okO D (D 9 0).toNat) (p x : Int) (hp : Rg p) (hx : Rg x)  : Tm Z o a jX9_place [p, x] M (fun z M2 => z = A_place D p x ∧ Pers D M2) := by
  refine tr_of pn_X9_place (Nat.le_of_ble_eq_true rfl) (vI_catO o _) ?_
  show G Z jX9_place E0 (QM Z jX9_place (pI Z o a (fun z M2 => z = A_place D p x ∧ Pers D M2))) 0 [.ref o, .int (iI p), .int (iI x)] [] (mW Z o a M) 0 0
  have hn := hD.2.1
  refine g_aload_n 0 dX9_place_0 rfl rfl ?_
  refine g_iload_n 1 dX9_place_1 rfl rfl ?_
  refine mcI lkX9_179 (c_signs Z o a hP hM hD hO p hp) dX9_place_2 rfl (And.intro (Nat.le_of_ble_eq_true rfl) (Nat.le_of_ble_eq_true rfl)) rfl (Nat.le_of_ble_eq_true rfl) rfl rfl (Nat.le_of_ble_eq_true rfl) (Nat.le_of_ble_eq_true rfl) (fun z2 M2 h2 => ?_)
  obtain ⟨q2, hP2, hF2, hS2⟩ := h2
  rw [q2]
  have hC2 := tkB_Cl hD p
  have hL2 := ordF_len hD hO hC2
  refine g_istore_n 3 dX9_place_5 rfl (Nat.le_of_ble_eq_true rfl) (Nat.le_of_ble_eq_true rfl) rfl ?_
  dsimp only [sto]
  refine g_iload_n 3 dX9_place_6 rfl rfl ?_
  refine gi_if_ge 14 dX9_place_7 (by decide) (by unfold A_signs; split <;> exact ⟨by omega, by omega⟩) (fun c7 => ?_) (fun c7 => ?_)
  · have hp2 : 0 ≤ p ∧ p < 6 := by
      unfold A_signs at c7
      split at c7
      · assumption
      · omega
    have hix := inIx_rg (ordF D (tkB D p)) x
    refine g_aload_n 0 dX9_place_14 rfl rfl ?_
    refine g_iload_n 2 dX9_place_15 rfl rfl ?_
    refine mcI lkX9_138 (c_inOrderF Z o a hP2 hM hD hO hC2 (hS2 hp2) x hx) dX9_place_16 rfl (And.intro (Nat.le_of_ble_eq_true rfl) (Nat.le_of_ble_eq_true rfl)) rfl (Nat.le_of_ble_eq_true rfl) rfl rfl (Nat.le_of_ble_eq_true rfl) (Nat.le_of_ble_eq_true rfl) (fun z16 M16 h16 => ?_)
    obtain ⟨q1, q2⟩ := h16
    rw [q1, q2]
    refine g_istore dX9_place_19 (Nat.le_of_ble_eq_true rfl) (Nat.le_of_ble_eq_true rfl) rfl ?_
    dsimp only [sto]
    refine g_iload dX9_place_21 rfl ?_
    refine gi_if_ge 31 dX9_place_23 (by decide) (by first | exact hM _ _ | exact bI_Rg _ | exact ⟨by omega, by omega⟩) (fun c23 => ?_) (fun c23 => ?_)
    · refine g_aload_n 0 dX9_place_31 rfl rfl ?_
      refine mg_18 dX9_place_32 rfl ?_
      refine g_iload dX9_place_35 rfl ?_
      refine ml_18 ((hS2 hp2).vi _ (by omega) (by rw [(hS2 hp2).2.2.1.1]; omega)) dX9_place_37 (by omega) (by omega) ?_
      refine gi_if_eq 50 dX9_place_38 (by decide) (by first | exact hM _ _ | exact bI_Rg _ | exact ⟨by omega, by omega⟩) (fun c38 => ?_) (fun c38 => ?_)
      · refine g_bipush (iI (-2)) dX9_place_50 (by decide) ?_
        refine g_iret dX9_place_52 rfl (Nat.le_of_ble_eq_true rfl) (Nat.le_of_ble_eq_true rfl) ⟨_, _, rfl, rfl, ?_⟩
        refine ⟨?_, hP2⟩
        unfold A_place
        rw [if_pos ⟨hp2, c23⟩]
        rw [bI_eq0.mp c38, if_neg (by decide)]
      · refine g_aload_n 0 dX9_place_41 rfl rfl ?_
        refine g_iload dX9_place_42 rfl ?_
        refine mcI lkX9_182 (c_seenAhead Z o a hP2 hM _ (by omega) (by omega) (Vi D (tkB D p)) (fun i a1 a2 => (hS2 hp2).vi i a1 (by rw [(hS2 hp2).2.2.1.1]; omega))) dX9_place_44 rfl (And.intro (Nat.le_of_ble_eq_true rfl) (Nat.le_of_ble_eq_true rfl)) rfl (Nat.le_of_ble_eq_true rfl) rfl rfl (Nat.le_of_ble_eq_true rfl) (Nat.le_of_ble_eq_true rfl) (fun z44 M44 h44 => ?_)
        obtain ⟨q4, q5⟩ := h44
        rw [q4, q5]
        refine g_goto 52 dX9_place_47 (by decide) ?_
        refine g_iret dX9_place_52 rfl (Nat.le_of_ble_eq_true rfl) (Nat.le_of_ble_eq_true rfl) ⟨_, _, rfl, rfl, ?_⟩
        refine ⟨?_, hP2⟩
        unfold A_place
        rw [if_pos ⟨hp2, c23⟩]
        rw [show Vi D (tkB D p) (inIx (ordF D (tkB D p)) x) = true by cases h : Vi D (tkB D p) (inIx (ordF D (tkB D p)) x) <;> simp_all [bI], if_pos rfl]
    · refine g_bipush (iI (-3)) dX9_place_26 (by decide) ?_
      refine g_goto 52 dX9_place_28 (by decide) ?_
      refine g_iret dX9_place_52 rfl (Nat.le_of_ble_eq_true rfl) (Nat.le_of_ble_eq_true rfl) ⟨_, _, rfl, rfl, ?_⟩
      refine ⟨?_, hP2⟩
      unfold A_place
      rw [if_neg (by omega)]
  · have hp2 : ¬ (0 ≤ p ∧ p < 6) := by
      unfold A_signs at c7
      split at c7
      · omega
      · assumption
    refine g_iconst (iI (-1)) dX9_place_10 rfl ?_
    refine g_goto 19 dX9_place_11 (by decide) ?_
    refine g_istore dX9_place_19 (Nat.le_of_ble_eq_true rfl) (Nat.le_of_ble_eq_true rfl) rfl ?_
    dsimp only [sto]
    refine g_iload dX9_place_21 rfl ?_
    refine gi_if_ge 31 dX9_place_23 (by decide) (by first | exact hM _ _ | exact bI_Rg _ | exact ⟨by omega, by omega⟩) (fun c23 => ?_) (fun c23 => ?_)
    · exfalso; omega
    · refine g_bipush (iI (-3)) dX9_place_26 (by decide) ?_
      refine g_goto 52 dX9_place_28 (by decide) ?_
      refine g_iret dX9_place_52 rfl (Nat.le_of_ble_eq_true rfl) (Nat.le_of_ble_eq_true rfl) ⟨_, _, rfl, rfl, ?_⟩
      refine ⟨?_, hP2⟩
      unfold A_place
      rw [if_neg (fun h => hp2 h.1)]
