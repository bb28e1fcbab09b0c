/-! THE REFERENCE: strike, mark -/
def rnB (f n l : Int) : Bool := decide (0 ≤ f ∧ 0 ≤ n ∧ n ≤ l ∧ f ≤ l - n)
theorem rnB_t {f n l : Int} (h : ¬ bI (rnB f n l) = 0) : 0 ≤ f ∧ 0 ≤ n ∧ n ≤ l ∧ f ≤ l - n := by
  unfold rnB at h
  by_cases hp : 0 ≤ f ∧ 0 ≤ n ∧ n ≤ l ∧ f ≤ l - n
  · exact hp
  · rw [decide_eq_false hp] at h; exact absurd rfl h
theorem rnB_f {f n l : Int} (h : bI (rnB f n l) = 0) : ¬ (0 ≤ f ∧ 0 ≤ n ∧ n ≤ l ∧ f ≤ l - n) := by
  unfold rnB at h
  intro hp
  rw [decide_eq_true hp] at h; exact absurd h (by decide)
theorem c_atPlaceG (Z : LZ) (o : Nat) (a : Nat → Nat) {E M : Mem} (hP : Pers E M) (hM : RM E) {D : Mem} {T : Int → Bool} (h17 : M 17 0 = (ordF D T).length) (hl : (ordF D T).length ≤ 768) (hV : ∀ i, 0 ≤ i → i < M 17 0 → M 18 i = bI (Vi D T i)) (x : Int) (h0 : 0 ≤ x) (hx : x < 1000000) : Tm Z o a jX9_atPlace [x] M (fun z M2 => z = atF D T x ∧ M2 = M) := by
  refine tr_post (c_atPlace Z o a hP hM x h0 hx (by omega) (by omega) (Vi D T) hV) ?_
  rintro r w ⟨z, M2, rfl, rfl, e1, e2⟩
  refine ⟨z, M2, rfl, rfl, ?_, e1⟩
  unfold atF
  rcases e2 with ⟨b1, b2, b3, b4⟩ | ⟨b1, b2⟩
  · rw [fvV_at b1 b3 b4 _ (by omega)]
  · rw [b1, fvV_no _ (fun i a b c => b2 i a (by omega) c)]
theorem RM_mkD {D : Mem} (hM : RM D) {p k z v : Int} (hp : Rg p) (hk : Rg k) (hz : Rg z) (hv : Rg v) (hn : 0 ≤ D 9 0 ∧ D 9 0 ≤ 256) : RM (mkD D p k z v) := by
  have up : ∀ (f : Int → Int) (y w : Int), (∀ x, Rg (f x)) → Rg w → ∀ x, Rg (upI f y w x) := by
    intro f y w h1 h2 x
    unfold upI
    split
    · exact h2
    · exact h1 x
  intro r x
  unfold mkD
  split
  · exact up _ _ _ (hM 0) hp x
  · split
    · exact up _ _ _ (hM 1) hv x
    · split
      · exact up _ _ _ (hM 2) hk x
      · split
        · exact up _ _ _ (hM 3) hz x
        · split
          · exact up _ _ _ (hM 6) ⟨by omega, by omega⟩ x
          · split
            · exact up _ _ _ (hM 9) ⟨by omega, by omega⟩ x
            · split
              · unfold gtF
                split
                · exact bI_Rg _
                · exact hM 10 x
              · exact hM r x
def stL (D : Mem) (s : Int) (g : Int → Int) : Nat → Mem
  | 0 => D
  | i + 1 => ms (stL D s g i) 4 (12 * s + i) (g i)
def nmF (D : Mem) (p f : Int) (i : Int) : Int := fF (ordF D (tkB D p)) (atF D (tkB D p) (f + i))
abbrev stp (D : Mem) (p : Int) : Int := mxF D (tkB D p) (D 9 0).toNat + 1
def A_strike (D : Mem) (p f n : Int) : Int × Mem := if 0 ≤ p ∧ p < 6 then (if n < 0 then (-1, ms D 13 0 5) else if (1 ≤ n ∧ n ≤ 12) ∧ (0 ≤ f ∧ 0 ≤ n ∧ n ≤ txtN D (tkB D p) ∧ f ≤ txtN D (tkB D p) - n) then (if D 9 0 = 256 then (-1, ms D 13 0 2) else (D 9 0, ms (stL (mkD D p 1 n (stp D p)) (D 9 0) (nmF D p f) n.toNat) 13 0 0)) else (-1, ms D 13 0 1)) else (-1, ms D 13 0 1)
def A_mark (D : Mem) (p f n t h : Int) : Int × Mem := if 0 ≤ p ∧ p < 6 then (if n < 0 then (-1, ms D 13 0 5) else if (1 ≤ n ∧ (0 ≤ f ∧ 0 ≤ n ∧ n ≤ txtN D (tkB D p) ∧ f ≤ txtN D (tkB D p) - n)) ∧ (0 ≤ t ∧ t ≤ 3) ∧ (0 ≤ h ∧ h ≤ 3) then (if D 9 0 = 256 then (-1, ms D 13 0 2) else (D 9 0, ms (ms (ms (ms (ms (ms (mkD D p 2 2 (stp D p)) 4 (12 * D 9 0) (nmF D p f 0)) 4 (12 * D 9 0 + 1) (nmF D p f (n - 1))) 7 (D 9 0) t) 8 (D 9 0) (bI (decide (h = 1 ∨ h = 3)))) 6 (D 9 0) (if h < 2 then -3 else if atF D (tkB D p) (f + n - 1) + 1 < (ordF D (tkB D p)).length then fF (ordF D (tkB D p)) (atF D (tkB D p) (f + n - 1) + 1) else -2)) 13 0 0)) else (-1, ms D 13 0 1)) else (-1, ms D 13 0 1)
set_option maxHeartbeats 4000000 in
set_option maxRecDepth 100000 in
/-- isRange -/
theorem c_isRange (Z : LZ) (o : Nat) (a : Nat → Nat) (M : Mem) (f n l : Int) (hf : Rg f) (hn : Rg n) (hl0 : 0 ≤ l) (hl : l ≤ 768)  : Ts Z o a jX9_isRange [f, n, l] M (fun z => z = bI (rnB f n l)) := by
  refine tr_of pn_X9_isRange (Nat.le_of_ble_eq_true rfl) (vI_cat _) ?_
  show G Z jX9_isRange E0 (QM Z jX9_isRange (pS Z o a M (fun z => z = bI (rnB f n l)))) 0 [.int (iI f), .int (iI n), .int (iI l)] [] (mW Z o a M) 0 0
  refine g_iload_n 0 dX9_isRange_0 rfl rfl ?_
  refine gi_if_lt 24 dX9_isRange_1 (by decide) (by first | exact hM _ _ | exact bI_Rg _ | exact ⟨by omega, by omega⟩) (fun c1 => ?_) (fun c1 => ?_)
  · refine g_iconst (iI 0) dX9_isRange_24 rfl ?_
    refine g_zret dX9_isRange_25 rfl (narrow_bool (by first | exact Or.inl rfl | exact Or.inr rfl | assumption | omega)) (Nat.le_of_ble_eq_true rfl) (Nat.le_of_ble_eq_true rfl) ⟨_, rfl, rfl, ?_⟩
    unfold rnB
    first | (rw [decide_eq_true (by omega)]; rfl) | (rw [decide_eq_false (by omega)]; rfl)
  · refine g_iload_n 1 dX9_isRange_4 rfl rfl ?_
    refine gi_if_lt 24 dX9_isRange_5 (by decide) (by first | exact hM _ _ | exact bI_Rg _ | exact ⟨by omega, by omega⟩) (fun c5 => ?_) (fun c5 => ?_)
    · refine g_iconst (iI 0) dX9_isRange_24 rfl ?_
      refine g_zret dX9_isRange_25 rfl (narrow_bool (by first | exact Or.inl rfl | exact Or.inr rfl | assumption | omega)) (Nat.le_of_ble_eq_true rfl) (Nat.le_of_ble_eq_true rfl) ⟨_, rfl, rfl, ?_⟩
      unfold rnB
      first | (rw [decide_eq_true (by omega)]; rfl) | (rw [decide_eq_false (by omega)]; rfl)
    · refine g_iload_n 1 dX9_isRange_8 rfl rfl ?_
      refine g_iload_n 2 dX9_isRange_9 rfl rfl ?_
      refine gi_icmp_gt 24 dX9_isRange_10 (by decide) (by first | exact hM _ _ | exact bI_Rg _ | exact ⟨by omega, by omega⟩) (by first | exact hM _ _ | exact bI_Rg _ | exact ⟨by omega, by omega⟩) (fun c10 => ?_) (fun c10 => ?_)
      · refine g_iconst (iI 0) dX9_isRange_24 rfl ?_
        refine g_zret dX9_isRange_25 rfl (narrow_bool (by first | exact Or.inl rfl | exact Or.inr rfl | assumption | omega)) (Nat.le_of_ble_eq_true rfl) (Nat.le_of_ble_eq_true rfl) ⟨_, rfl, rfl, ?_⟩
        unfold rnB
        first | (rw [decide_eq_true (by omega)]; rfl) | (rw [decide_eq_false (by omega)]; rfl)
      · refine g_iload_n 0 dX9_isRange_13 rfl rfl ?_
        refine g_iload_n 2 dX9_isRange_14 rfl rfl ?_
        refine g_iload_n 1 dX9_isRange_15 rfl rfl ?_
        refine gi_sub dX9_isRange_16 ?_
        refine gi_icmp_gt 24 dX9_isRange_17 (by decide) (by first | exact hM _ _ | exact bI_Rg _ | exact ⟨by omega, by omega⟩) (by first | exact hM _ _ | exact bI_Rg _ | exact ⟨by omega, by omega⟩) (fun c17 => ?_) (fun c17 => ?_)
        · refine g_iconst (iI 0) dX9_isRange_24 rfl ?_
          refine g_zret dX9_isRange_25 rfl (narrow_bool (by first | exact Or.inl rfl | exact Or.inr rfl | assumption | omega)) (Nat.le_of_ble_eq_true rfl) (Nat.le_of_ble_eq_true rfl) ⟨_, rfl, rfl, ?_⟩
          unfold rnB
          first | (rw [decide_eq_true (by omega)]; rfl) | (rw [decide_eq_false (by omega)]; rfl)
        · refine g_iconst (iI 1) dX9_isRange_20 rfl ?_
          refine g_goto 25 dX9_isRange_21 (by decide) ?_
          refine g_zret dX9_isRange_25 rfl (narrow_bool (by first | exact Or.inl rfl | exact Or.inr rfl | assumption | omega)) (Nat.le_of_ble_eq_true rfl) (Nat.le_of_ble_eq_true rfl) ⟨_, rfl, rfl, ?_⟩
          unfold rnB
          first | (rw [decide_eq_true (by omega)]; rfl) | (rw [decide_eq_false (by omega)]; rfl)
theorem mx_lt {D : Mem} {T : Int → Bool} (hD : okP D) (hst : ∀ s, 0 ≤ s → s < D 9 0 → 0 ≤ D 1 s ∧ D 1 s ≤ 100000) : mxF D T (D 9 0).toNat + 1 < 2147483648 := by
  have hn := hD.2.1
  have : ∀ k : Nat, (k : Int) ≤ D 9 0 → mxF D T k ≤ 100000 := by
    intro k
    induction k with
    | zero => intro _; simp [mxF]
    | succ k ih =>
      intro hk
      unfold mxF
      have := hst k (by omega) (by omega)
      have := ih (by omega)
      split <;> omega
  have := this (D 9 0).toNat (by omega)
  omega
set_option maxHeartbeats 4000000 in
set_option maxRecDepth 100000 in
/-- strike -/
theorem c_strike (Z : LZ) (o : Nat) (a : Nat → Nat) {D M : Mem} (hP : Pers D M) (hM : RM D) (hD : okP D) (hO : okO D (D 9 0).toNat) (p f n : Int) (hst : ∀ s, 0 ≤ s → s < D 9 0 → 0 ≤ D 1 s ∧ D 1 s ≤ 100000) (hp : Rg p) (hf : Rg f) (hn2 : Rg n)  : Tm Z o a jX9_strike [p, f, n] M (fun z M2 => z = (A_strike D p f n).1 ∧ Pers (A_strike D p f n).2 M2) := by
  refine tr_of pn_X9_strike (Nat.le_of_ble_eq_true rfl) (vI_catO o _) ?_
  show G Z jX9_strike E0 (QM Z jX9_strike (pI Z o a (fun z M2 => z = (A_strike D p f n).1 ∧ Pers (A_strike D p f n).2 M2))) 0 [.ref o, .int (iI p), .int (iI f), .int (iI n)] [] (mW Z o a M) 0 0
  have hn := hD.2.1
  refine g_iload_n 1 dX9_strike_0 rfl rfl ?_
  refine mcS lkX9_147 (c_isPen Z o a _ p (by first | assumption | exact ⟨by omega, by omega⟩)) dX9_strike_1 rfl (And.intro (Nat.le_of_ble_eq_true rfl) (Nat.le_of_ble_eq_true rfl)) (Nat.le_of_ble_eq_true rfl) rfl rfl (Nat.le_of_ble_eq_true rfl) (Nat.le_of_ble_eq_true rfl) (fun z1 h1 => ?_)
  rw [h1]
  refine gi_if_ne 13 dX9_strike_4 (by decide) (by first | exact hM _ _ | exact bI_Rg _ | exact ⟨by omega, by omega⟩) (fun c4 => ?_) (fun c4 => ?_)
  · have hp2 := penB_t c4
    refine g_iload_n 3 dX9_strike_13 rfl rfl ?_
    refine gi_if_ge 23 dX9_strike_14 (by decide) (by first | exact hM _ _ | exact bI_Rg _ | exact ⟨by omega, by omega⟩) (fun c14 => ?_) (fun c14 => ?_)
    · refine g_aload_n 0 dX9_strike_23 rfl rfl ?_
      refine g_iload_n 1 dX9_strike_24 rfl rfl ?_
      refine mcI lkX9_153 (c_sheet Z o a hP hM hD hO p (by omega) (by omega)) dX9_strike_25 rfl (And.intro (Nat.le_of_ble_eq_true rfl) (Nat.le_of_ble_eq_true rfl)) rfl (Nat.le_of_ble_eq_true rfl) rfl rfl (Nat.le_of_ble_eq_true rfl) (Nat.le_of_ble_eq_true rfl) (fun z25 M25 h25 => ?_)
      obtain ⟨q25, hF25, hS25⟩ := h25
      rw [q25]
      have hC25 := tkB_Cl hD p
      have hT25 := txtN_rg hD hO hC25
      have hL25 := ordF_len hD hO hC25
      refine g_istore dX9_strike_28 (Nat.le_of_ble_eq_true rfl) (Nat.le_of_ble_eq_true rfl) rfl ?_
      dsimp only [sto]
      have hP25 := hP.fx hF25 (by decide)
      have hlen := hT25
      generalize hlg : txtN D (tkB D p) = len at *
      refine g_iload_n 3 dX9_strike_30 rfl rfl ?_
      refine g_iconst (iI 1) dX9_strike_31 rfl ?_
      refine gi_icmp_lt 51 dX9_strike_32 (by decide) (by first | exact hM _ _ | exact bI_Rg _ | exact ⟨by omega, by omega⟩) (by first | exact hM _ _ | exact bI_Rg _ | exact ⟨by omega, by omega⟩) (fun c32 => ?_) (fun c32 => ?_)
      · refine g_aload_n 0 dX9_strike_51 rfl rfl ?_
        refine g_iconst (iI 1) dX9_strike_52 rfl ?_
        refine mcI lkX9_150 (c_refuse Z o a _ _) dX9_strike_53 rfl (And.intro (Nat.le_of_ble_eq_true rfl) (Nat.le_of_ble_eq_true rfl)) rfl (Nat.le_of_ble_eq_true rfl) rfl rfl (Nat.le_of_ble_eq_true rfl) (Nat.le_of_ble_eq_true rfl) (fun z53 M53 h53 => ?_)
        obtain ⟨q1, q2⟩ := h53
        rw [q1, q2]
        refine g_iret dX9_strike_56 rfl (Nat.le_of_ble_eq_true rfl) (Nat.le_of_ble_eq_true rfl) ⟨_, _, rfl, rfl, ?_⟩
        unfold A_strike
        rw [if_pos hp2]
        rw [if_neg (by omega)]
        rw [if_neg (by omega)]
        exact ⟨rfl, Pers_fin hP25 _⟩
      · refine g_iload_n 3 dX9_strike_35 rfl rfl ?_
        refine g_bipush (iI 12) dX9_strike_36 (by decide) ?_
        refine gi_icmp_gt 51 dX9_strike_38 (by decide) (by first | exact hM _ _ | exact bI_Rg _ | exact ⟨by omega, by omega⟩) (by first | exact hM _ _ | exact bI_Rg _ | exact ⟨by omega, by omega⟩) (fun c38 => ?_) (fun c38 => ?_)
        · refine g_aload_n 0 dX9_strike_51 rfl rfl ?_
          refine g_iconst (iI 1) dX9_strike_52 rfl ?_
          refine mcI lkX9_150 (c_refuse Z o a _ _) dX9_strike_53 rfl (And.intro (Nat.le_of_ble_eq_true rfl) (Nat.le_of_ble_eq_true rfl)) rfl (Nat.le_of_ble_eq_true rfl) rfl rfl (Nat.le_of_ble_eq_true rfl) (Nat.le_of_ble_eq_true rfl) (fun z53 M53 h53 => ?_)
          obtain ⟨q1, q2⟩ := h53
          rw [q1, q2]
          refine g_iret dX9_strike_56 rfl (Nat.le_of_ble_eq_true rfl) (Nat.le_of_ble_eq_true rfl) ⟨_, _, rfl, rfl, ?_⟩
          unfold A_strike
          rw [if_pos hp2]
          rw [if_neg (by omega)]
          rw [if_neg (by omega)]
          exact ⟨rfl, Pers_fin hP25 _⟩
        · refine g_iload_n 2 dX9_strike_41 rfl rfl ?_
          refine g_iload_n 3 dX9_strike_42 rfl rfl ?_
          refine g_iload dX9_strike_43 rfl ?_
          refine mcS lkX9_166 (c_isRange Z o a _ f n _ hf hn2 (by omega) (by omega)) dX9_strike_45 rfl (And.intro (Nat.le_of_ble_eq_true rfl) (Nat.le_of_ble_eq_true rfl)) (Nat.le_of_ble_eq_true rfl) rfl rfl (Nat.le_of_ble_eq_true rfl) (Nat.le_of_ble_eq_true rfl) (fun z45 h45 => ?_)
          rw [h45]
          refine gi_if_ne 57 dX9_strike_48 (by decide) (by first | exact hM _ _ | exact bI_Rg _ | exact ⟨by omega, by omega⟩) (fun c48 => ?_) (fun c48 => ?_)
          · have hr2 := rnB_t c48
            refine g_aload_n 0 dX9_strike_57 rfl rfl ?_
            refine mg_9 ((hP.fx hF25 (by decide)).at 9 (by decide) _) dX9_strike_58 rfl ?_
            refine g_sipush (iI 256) dX9_strike_61 (by decide) ?_
            refine gi_icmp_ne 73 dX9_strike_64 (by decide) (by first | exact hM _ _ | exact bI_Rg _ | exact ⟨by omega, by omega⟩) (by first | exact hM _ _ | exact bI_Rg _ | exact ⟨by omega, by omega⟩) (fun c64 => ?_) (fun c64 => ?_)
            · refine g_aload_n 0 dX9_strike_73 rfl rfl ?_
              refine g_iload_n 1 dX9_strike_74 rfl rfl ?_
              refine g_iconst (iI 1) dX9_strike_75 rfl ?_
              refine g_iload_n 3 dX9_strike_76 rfl rfl ?_
              refine mcI lkX9_159 (c_make Z o a (hP.fx hF25 (by decide)) hM hD hO (tkB D p) hS25.1 p 1 n (by omega) (by omega) (by omega) (by exact ⟨by omega, by omega⟩) hn2) dX9_strike_77 rfl (And.intro (Nat.le_of_ble_eq_true rfl) (Nat.le_of_ble_eq_true rfl)) rfl (Nat.le_of_ble_eq_true rfl) rfl rfl (Nat.le_of_ble_eq_true rfl) (Nat.le_of_ble_eq_true rfl) (fun z77 M77 h77 => ?_)
              obtain ⟨q77, hP77, hR77⟩ := h77
              rw [q77]
              refine g_istore dX9_strike_80 (Nat.le_of_ble_eq_true rfl) (Nat.le_of_ble_eq_true rfl) rfl ?_
              dsimp only [sto]
              refine g_iconst (iI 0) dX9_strike_82 rfl ?_
              refine g_istore dX9_strike_83 (Nat.le_of_ble_eq_true rfl) (Nat.le_of_ble_eq_true rfl) rfl ?_
              dsimp only [sto]
              have hvr := mxF_rg hM (tkB D p) (D 9 0).toNat
              have hmx : mxF D (tkB D p) (D 9 0).toNat + 1 < 2147483648 := mx_lt hD hst
              have hS := hS25
              have loop : ∀ (fuel : Nat) (i : Int) (Mq : Mem), n - i < fuel → 0 ≤ i → i ≤ n → Pers (stL (mkD D p 1 n (stp D p)) (D 9 0) (nmF D p f) i.toNat) Mq → RM (stL (mkD D p 1 n (stp D p)) (D 9 0) (nmF D p f) i.toNat) → (∀ r, 14 ≤ r → Mq r = M25 r) → G Z jX9_strike E0 (QM Z jX9_strike (pI Z o a (fun z M2 => z = (A_strike D p f n).1 ∧ Pers (A_strike D p f n).2 M2))) 85 [.ref o, .int (iI p), .int (iI f), .int (iI n), .int (iI len), .int (iI (D 9 0)), .int (iI i)] [] (mW Z o a Mq) 0 0 := by
                intro fuel
                induction fuel with
                | zero => intros; exfalso; omega
                | succ fuel ih =>
                  intro i Mq hfu hi0 hi1 hPq hRq hsc
                  have hOq : OL Mq (ordF D (tkB D p)) := OL_row hS.2.2.1 (hsc 16 (by decide)) (hsc 17 (by decide))
                  have h17q : Mq 17 0 = (ordF D (tkB D p)).length := hOq.1
                  have hVq : ∀ j, 0 ≤ j → j < Mq 17 0 → Mq 18 j = bI (Vi D (tkB D p) j) := fun j a1 a2 => by
                    rw [hsc 18 (by decide)]
                    exact hS.vi j a1 (by rw [← hsc 17 (by decide)]; exact a2)
                  refine g_iload dX9_strike_85 rfl ?_
                  refine g_iload_n 3 dX9_strike_87 rfl rfl ?_
                  refine gi_icmp_ge 123 dX9_strike_88 (by decide) (by first | exact hM _ _ | exact bI_Rg _ | exact ⟨by omega, by omega⟩) (by first | exact hM _ _ | exact bI_Rg _ | exact ⟨by omega, by omega⟩) (fun c88 => ?_) (fun c88 => ?_)
                  · refine g_aload_n 0 dX9_strike_123 rfl rfl ?_
                    refine g_iload dX9_strike_124 rfl ?_
                    refine mcI lkX9_163 (c_done Z o a _ _) dX9_strike_126 rfl (And.intro (Nat.le_of_ble_eq_true rfl) (Nat.le_of_ble_eq_true rfl)) rfl (Nat.le_of_ble_eq_true rfl) rfl rfl (Nat.le_of_ble_eq_true rfl) (Nat.le_of_ble_eq_true rfl) (fun z126 M126 h126 => ?_)
                    obtain ⟨q1, q2⟩ := h126
                    rw [q1, q2]
                    refine g_iret dX9_strike_129 rfl (Nat.le_of_ble_eq_true rfl) (Nat.le_of_ble_eq_true rfl) ⟨_, _, rfl, rfl, ?_⟩
                    unfold A_strike
                    rw [if_pos hp2, if_neg (by omega), if_pos (by omega), if_neg (by omega)]
                    refine ⟨rfl, ?_⟩
                    rw [show n = i by omega]
                    rw [show n = i by omega] at hPq
                    exact Pers_fin hPq _
                  · refine g_aload_n 0 dX9_strike_91 rfl rfl ?_
                    refine mg_4 dX9_strike_92 rfl ?_
                    refine g_bipush (iI 12) dX9_strike_95 (by decide) ?_
                    refine g_iload dX9_strike_97 rfl ?_
                    refine gi_mul dX9_strike_99 ?_
                    refine g_iload dX9_strike_100 rfl ?_
                    refine gi_add dX9_strike_102 ?_
                    refine g_aload_n 0 dX9_strike_103 rfl rfl ?_
                    refine mg_16 dX9_strike_104 rfl ?_
                    refine g_aload_n 0 dX9_strike_107 rfl rfl ?_
                    refine g_iload_n 2 dX9_strike_108 rfl rfl ?_
                    refine g_iload dX9_strike_109 rfl ?_
                    refine gi_add dX9_strike_111 ?_
                    refine mcI lkX9_156 (c_atPlaceG Z o a hPq hRq (D := D) (T := tkB D p) h17q hL25 hVq _ (by omega) (by omega)) dX9_strike_112 rfl (And.intro (Nat.le_of_ble_eq_true rfl) (Nat.le_of_ble_eq_true rfl)) rfl (Nat.le_of_ble_eq_true rfl) rfl rfl (Nat.le_of_ble_eq_true rfl) (Nat.le_of_ble_eq_true rfl) (fun z112 M112 h112 => ?_)
                    obtain ⟨q1, q2⟩ := h112
                    rw [q1, q2]
                    have hat := atF_in (D := D) (T := tkB D p) (x := f + i) (by omega) (by omega)
                    have hfo := fF_ord hD hO (T := tkB D p) hat.1 hat.2.1
                    refine ml_16 (OL_fF hOq hat.1 hat.2.1) dX9_strike_115 hat.1 (by omega) ?_
                    refine mt_4 dX9_strike_116 (by omega) (by omega) ?_
                    refine gi_inc dX9_strike_117 rfl (Nat.le_of_ble_eq_true rfl) rfl ?_
                    dsimp only [sto]
                    refine g_goto 85 dX9_strike_120 (by decide) ?_
                    exact ih _ _ (by omega) (by omega) (by omega) (by
                      rw [show (i + 1).toNat = i.toNat + 1 by omega, stL, show ((i.toNat : Nat) : Int) = i by omega]
                      exact Pers_ms hPq _ _ _) (by
                      rw [show (i + 1).toNat = i.toNat + 1 by omega, stL, show ((i.toNat : Nat) : Int) = i by omega]
                      exact RM_ms hRq (by unfold nmF; exact ⟨by omega, by omega⟩)) (fun r hr => by rw [ms_ne (by omega)]; exact hsc r hr)
              exact loop (n.toNat + 1) 0 _ (by omega) (by omega) (by omega) hP77 (RM_mkD hM hp (by exact ⟨by omega, by omega⟩) hn2 (show Rg (mxF D (tkB D p) (D 9 0).toNat + 1) from ⟨by omega, by omega⟩) hn) hR77
            · refine g_aload_n 0 dX9_strike_67 rfl rfl ?_
              refine g_iconst (iI 2) dX9_strike_68 rfl ?_
              refine mcI lkX9_150 (c_refuse Z o a _ _) dX9_strike_69 rfl (And.intro (Nat.le_of_ble_eq_true rfl) (Nat.le_of_ble_eq_true rfl)) rfl (Nat.le_of_ble_eq_true rfl) rfl rfl (Nat.le_of_ble_eq_true rfl) (Nat.le_of_ble_eq_true rfl) (fun z69 M69 h69 => ?_)
              obtain ⟨q1, q2⟩ := h69
              rw [q1, q2]
              refine g_iret dX9_strike_72 rfl (Nat.le_of_ble_eq_true rfl) (Nat.le_of_ble_eq_true rfl) ⟨_, _, rfl, rfl, ?_⟩
              unfold A_strike
              rw [if_pos hp2]
              rw [if_neg (by omega)]
              rw [if_pos (by omega), if_pos c64]
              exact ⟨rfl, Pers_fin hP25 _⟩
          · have hr2 := rnB_f c48
            refine g_aload_n 0 dX9_strike_51 rfl rfl ?_
            refine g_iconst (iI 1) dX9_strike_52 rfl ?_
            refine mcI lkX9_150 (c_refuse Z o a _ _) dX9_strike_53 rfl (And.intro (Nat.le_of_ble_eq_true rfl) (Nat.le_of_ble_eq_true rfl)) rfl (Nat.le_of_ble_eq_true rfl) rfl rfl (Nat.le_of_ble_eq_true rfl) (Nat.le_of_ble_eq_true rfl) (fun z53 M53 h53 => ?_)
            obtain ⟨q1, q2⟩ := h53
            rw [q1, q2]
            refine g_iret dX9_strike_56 rfl (Nat.le_of_ble_eq_true rfl) (Nat.le_of_ble_eq_true rfl) ⟨_, _, rfl, rfl, ?_⟩
            unfold A_strike
            rw [if_pos hp2]
            rw [if_neg (by omega)]
            rw [if_neg (by omega)]
            exact ⟨rfl, Pers_fin hP25 _⟩
    · refine g_aload_n 0 dX9_strike_17 rfl rfl ?_
      refine g_iconst (iI 5) dX9_strike_18 rfl ?_
      refine mcI lkX9_150 (c_refuse Z o a _ _) dX9_strike_19 rfl (And.intro (Nat.le_of_ble_eq_true rfl) (Nat.le_of_ble_eq_true rfl)) rfl (Nat.le_of_ble_eq_true rfl) rfl rfl (Nat.le_of_ble_eq_true rfl) (Nat.le_of_ble_eq_true rfl) (fun z19 M19 h19 => ?_)
      obtain ⟨q1, q2⟩ := h19
      rw [q1, q2]
      refine g_iret dX9_strike_22 rfl (Nat.le_of_ble_eq_true rfl) (Nat.le_of_ble_eq_true rfl) ⟨_, _, rfl, rfl, ?_⟩
      unfold A_strike
      rw [if_pos hp2]
      rw [if_pos (by omega)]
      exact ⟨rfl, Pers_fin hP _⟩
  · have hp2 := penB_f c4
    refine g_aload_n 0 dX9_strike_7 rfl rfl ?_
    refine g_iconst (iI 1) dX9_strike_8 rfl ?_
    refine mcI lkX9_150 (c_refuse Z o a _ _) dX9_strike_9 rfl (And.intro (Nat.le_of_ble_eq_true rfl) (Nat.le_of_ble_eq_true rfl)) rfl (Nat.le_of_ble_eq_true rfl) rfl rfl (Nat.le_of_ble_eq_true rfl) (Nat.le_of_ble_eq_true rfl) (fun z9 M9 h9 => ?_)
    obtain ⟨q1, q2⟩ := h9
    rw [q1, q2]
    refine g_iret dX9_strike_12 rfl (Nat.le_of_ble_eq_true rfl) (Nat.le_of_ble_eq_true rfl) ⟨_, _, rfl, rfl, ?_⟩
    unfold A_strike
    rw [if_neg hp2]
    exact ⟨rfl, Pers_fin hP _⟩
