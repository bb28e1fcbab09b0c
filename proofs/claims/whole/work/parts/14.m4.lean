/-! THE REFERENCE: strikes, places -/
def anyB (P : Int → Bool) : Nat → Bool
  | 0 => false
  | i + 1 => anyB P i || P i
def sgB (D : Mem) (s name : Int) (i : Int) : Bool := decide (D 4 (12 * s + i) = name)
def stB (D : Mem) (W : Int → Bool) (name s : Int) : Bool := W s && (decide (D 2 s = 1) && anyB (sgB D s name) (D 3 s).toNat)
def strikesF (D : Mem) (W : Int → Bool) (name : Int) : Int := cntB (stB D W name) (D 9 0).toNat
theorem bI_or_t {A B : Bool} (h : ¬ bI A = 0 ∨ B = true) : 1 = bI (A || B) := by rcases h with h | h <;> cases A <;> cases B <;> simp_all [bI]
theorem bI_or_f {A B : Bool} (h : bI A = 0) (h2 : B = false) : 0 = bI (A || B) := by cases A <;> cases B <;> simp_all [bI]
def lastIx (f : Int → Int) (x : Int) : Nat → Int
  | 0 => -1
  | i + 1 => if f i = x then (i : Int) else lastIx f x i
theorem lastIx_rg (f : Int → Int) (x : Int) : ∀ k : Nat, -1 ≤ lastIx f x k ∧ lastIx f x k < k ∧ (0 ≤ lastIx f x k → f (lastIx f x k) = x) := by
  intro k
  induction k with
  | zero => simp [lastIx]
  | succ k ih =>
    unfold lastIx
    split
    · exact ⟨by omega, by omega, fun _ => by assumption⟩
    · exact ⟨by omega, by omega, ih.2.2⟩
set_option maxHeartbeats 4000000 in
set_option maxRecDepth 100000 in
/-- strikesOf -/
theorem c_strikesOf (Z : LZ) (o : Nat) (a : Nat → Nat) {D M : Mem} (hP : Pers D M) (hM : RM D) (hD : okP D) (x : Int) (hx : Rg x) (W : Int → Bool) (hW : ∀ t, 0 ≤ t → t < D 9 0 → M 15 t = bI (W t))  : Tm Z o a jX9_strikesOf [x] M (fun z M2 => z = strikesF D W x ∧ M2 = M) := by
  refine tr_of pn_X9_strikesOf (Nat.le_of_ble_eq_true rfl) (vI_catO o _) ?_
  show G Z jX9_strikesOf E0 (QM Z jX9_strikesOf (pI Z o a (fun z M2 => z = strikesF D W x ∧ M2 = M))) 0 [.ref o, .int (iI x)] [] (mW Z o a M) 0 0
  have hn := hD.2.1
  have loop : ∀ (fuel : Nat) (c s : Int), D 9 0 - s < fuel → 0 ≤ s → s ≤ D 9 0 → c = cntB (stB D W x) s.toNat → G Z jX9_strikesOf E0 (QM Z jX9_strikesOf (pI Z o a (fun z M2 => z = strikesF D W x ∧ M2 = M))) 4 [.ref o, .int (iI x), .int (iI c), .int (iI s)] [] (mW Z o a M) 0 0 := by
    intro fuel
    induction fuel with
    | zero => intros; exfalso; omega
    | succ fuel ih =>
      intro c s hfu hs0 hs1 hc
      have hcr := cntB_rg (stB D W x) s.toNat
      by_cases hlt : s < D 9 0
      · obtain ⟨hp0, hk0, hS0, hS1, hS2, hS3, hSg⟩ := hD.2.2.1 s hs0 hlt
        have aft : ∀ h i : Int, h = bI (stB D W x s) → G Z jX9_strikesOf E0 (QM Z jX9_strikesOf (pI Z o a (fun z M2 => z = strikesF D W x ∧ M2 = M))) 82 [.ref o, .int (iI x), .int (iI c), .int (iI s), .int (iI h), .int (iI i)] [] (mW Z o a M) 0 0 := by
          intro h i hh
          subst hh
          refine g_iload_n 2 dX9_strikesOf_82 rfl rfl ?_
          refine g_iload dX9_strikesOf_83 rfl ?_
          refine gi_if_eq 92 dX9_strikesOf_85 (by decide) (by first | exact hM _ _ | exact bI_Rg _ | exact ⟨by omega, by omega⟩) (fun c85 => ?_) (fun c85 => ?_)
          · refine g_iconst (iI 0) dX9_strikesOf_92 rfl ?_
            refine gi_add dX9_strikesOf_93 ?_
            refine g_istore_n 2 dX9_strikesOf_94 rfl (Nat.le_of_ble_eq_true rfl) (Nat.le_of_ble_eq_true rfl) rfl ?_
            dsimp only [sto]
            refine gi_inc dX9_strikesOf_95 rfl (Nat.le_of_ble_eq_true rfl) rfl ?_
            dsimp only [sto]
            refine g_goto 4 dX9_strikesOf_98 (by decide) ?_
            refine g_drop (ls1 := [_, _, _, _]) (xs := [_, _]) rfl ?_
            exact ih _ _ (by omega) (by omega) (by omega) (by
              rw [show (s + 1).toNat = s.toNat + 1 by omega, cntB, show ((s.toNat : Nat) : Int) = s by omega, ← hc]
              first | omega | (have := bI_1 c85; omega))
          · refine g_iconst (iI 1) dX9_strikesOf_88 rfl ?_
            refine g_goto 93 dX9_strikesOf_89 (by decide) ?_
            refine gi_add dX9_strikesOf_93 ?_
            refine g_istore_n 2 dX9_strikesOf_94 rfl (Nat.le_of_ble_eq_true rfl) (Nat.le_of_ble_eq_true rfl) rfl ?_
            dsimp only [sto]
            refine gi_inc dX9_strikesOf_95 rfl (Nat.le_of_ble_eq_true rfl) rfl ?_
            dsimp only [sto]
            refine g_goto 4 dX9_strikesOf_98 (by decide) ?_
            refine g_drop (ls1 := [_, _, _, _]) (xs := [_, _]) rfl ?_
            exact ih _ _ (by omega) (by omega) (by omega) (by
              rw [show (s + 1).toNat = s.toNat + 1 by omega, cntB, show ((s.toNat : Nat) : Int) = s by omega, ← hc]
              first | omega | (have := bI_1 c85; omega))
        have inn : ∀ (fuel : Nat) (h i : Int), 13 - i < fuel → 0 ≤ i → i ≤ 12 → (i = 0 ∨ (bI (W s) = 1 ∧ D 2 s = 1 ∧ i ≤ D 3 s)) → h = bI (anyB (sgB D s x) i.toNat) → G Z jX9_strikesOf E0 (QM Z jX9_strikesOf (pI Z o a (fun z M2 => z = strikesF D W x ∧ M2 = M))) 18 [.ref o, .int (iI x), .int (iI c), .int (iI s), .int (iI h), .int (iI i)] [] (mW Z o a M) 0 0 := by
          intro fuel
          induction fuel with
          | zero => intros; exfalso; omega
          | succ fuel ihi =>
            intro h i hfu hi0 hi1 hor hh
            subst hh
            refine g_aload_n 0 dX9_strikesOf_18 rfl rfl ?_
            refine mg_15 dX9_strikesOf_19 rfl ?_
            refine g_iload_n 3 dX9_strikesOf_22 rfl rfl ?_
            refine ml_15 (hW s (by omega) (by omega)) dX9_strikesOf_23 (by omega) (by omega) ?_
            refine gi_if_eq 82 dX9_strikesOf_24 (by decide) (by first | exact hM _ _ | exact bI_Rg _ | exact ⟨by omega, by omega⟩) (fun c24 => ?_) (fun c24 => ?_)
            · exact aft _ _ (by
                unfold stB
                first
                  | (rw [bI_eq0.mp c24]; rcases hor with e | e
                     · rw [e]; rfl
                     · rw [bI_eq0.mp c24] at e; exact absurd e.1 (by decide))
                  | (rw [decide_eq_false c34]; rcases hor with e | e
                     · rw [e]; cases W s <;> rfl
                     · exact absurd e.2.1 c34)
                  | (have e : W s = true := by cases hw : W s <;> simp_all [bI]
                     rw [e, decide_eq_true c34, show i.toNat = (D 3 s).toNat by have := hS1 c34; omega]; rfl))
            · refine g_aload_n 0 dX9_strikesOf_27 rfl rfl ?_
              refine mg_2 dX9_strikesOf_28 rfl ?_
              refine g_iload_n 3 dX9_strikesOf_31 rfl rfl ?_
              refine ml_2 (hP.at 2 (by decide) _) dX9_strikesOf_32 (by omega) (by omega) ?_
              refine g_iconst (iI 1) dX9_strikesOf_33 rfl ?_
              refine gi_icmp_ne 82 dX9_strikesOf_34 (by decide) (by first | exact hM _ _ | exact bI_Rg _ | exact ⟨by omega, by omega⟩) (by first | exact hM _ _ | exact bI_Rg _ | exact ⟨by omega, by omega⟩) (fun c34 => ?_) (fun c34 => ?_)
              · exact aft _ _ (by
                  unfold stB
                  first
                    | (rw [bI_eq0.mp c24]; rcases hor with e | e
                       · rw [e]; rfl
                       · rw [bI_eq0.mp c24] at e; exact absurd e.1 (by decide))
                    | (rw [decide_eq_false c34]; rcases hor with e | e
                       · rw [e]; cases W s <;> rfl
                       · exact absurd e.2.1 c34)
                    | (have e : W s = true := by cases hw : W s <;> simp_all [bI]
                       rw [e, decide_eq_true c34, show i.toNat = (D 3 s).toNat by have := hS1 c34; omega]; rfl))
              · have hsz := hS1 c34
                refine g_iload dX9_strikesOf_37 rfl ?_
                refine g_aload_n 0 dX9_strikesOf_39 rfl rfl ?_
                refine mg_3 dX9_strikesOf_40 rfl ?_
                refine g_iload_n 3 dX9_strikesOf_43 rfl rfl ?_
                refine ml_3 (hP.at 3 (by decide) _) dX9_strikesOf_44 (by omega) (by omega) ?_
                refine gi_icmp_ge 82 dX9_strikesOf_45 (by decide) (by first | exact hM _ _ | exact bI_Rg _ | exact ⟨by omega, by omega⟩) (by first | exact hM _ _ | exact bI_Rg _ | exact ⟨by omega, by omega⟩) (fun c45 => ?_) (fun c45 => ?_)
                · exact aft _ _ (by
                    unfold stB
                    first
                      | (rw [bI_eq0.mp c24]; rcases hor with e | e
                         · rw [e]; rfl
                         · rw [bI_eq0.mp c24] at e; exact absurd e.1 (by decide))
                      | (rw [decide_eq_false c34]; rcases hor with e | e
                         · rw [e]; cases W s <;> rfl
                         · exact absurd e.2.1 c34)
                      | (have e : W s = true := by cases hw : W s <;> simp_all [bI]
                         rw [e, decide_eq_true c34, show i.toNat = (D 3 s).toNat by have := hS1 c34; omega]; rfl))
                · refine g_iload dX9_strikesOf_48 rfl ?_
                  refine gi_if_ne 69 dX9_strikesOf_50 (by decide) (by first | exact hM _ _ | exact bI_Rg _ | exact ⟨by omega, by omega⟩) (fun c50 => ?_) (fun c50 => ?_)
                  · refine g_iconst (iI 1) dX9_strikesOf_69 rfl ?_
                    refine g_goto 74 dX9_strikesOf_70 (by decide) ?_
                    refine g_istore dX9_strikesOf_74 (Nat.le_of_ble_eq_true rfl) (Nat.le_of_ble_eq_true rfl) rfl ?_
                    dsimp only [sto]
                    refine gi_inc dX9_strikesOf_76 rfl (Nat.le_of_ble_eq_true rfl) rfl ?_
                    dsimp only [sto]
                    refine g_goto 18 dX9_strikesOf_79 (by decide) ?_
                    exact ihi _ _ (by omega) (by omega) (by omega) (Or.inr ⟨bI_1 c24, c34, by omega⟩) (by
                      rw [show (i + 1).toNat = i.toNat + 1 by omega, anyB, show ((i.toNat : Nat) : Int) = i by omega]
                      first
                        | exact bI_or_t (Or.inl c50)
                        | exact bI_or_t (Or.inr (by unfold sgB; exact decide_eq_true c66))
                        | exact bI_or_f c50 (by unfold sgB; exact decide_eq_false c66))
                  · refine g_aload_n 0 dX9_strikesOf_53 rfl rfl ?_
                    refine mg_4 dX9_strikesOf_54 rfl ?_
                    refine g_bipush (iI 12) dX9_strikesOf_57 (by decide) ?_
                    refine g_iload_n 3 dX9_strikesOf_59 rfl rfl ?_
                    refine gi_mul dX9_strikesOf_60 ?_
                    refine g_iload dX9_strikesOf_61 rfl ?_
                    refine gi_add dX9_strikesOf_63 ?_
                    refine ml_4 (hP.at 4 (by decide) _) dX9_strikesOf_64 (by omega) (by omega) ?_
                    refine g_iload_n 1 dX9_strikesOf_65 rfl rfl ?_
                    refine gi_icmp_ne 73 dX9_strikesOf_66 (by decide) (by first | exact hM _ _ | exact bI_Rg _ | exact ⟨by omega, by omega⟩) (by first | exact hM _ _ | exact bI_Rg _ | exact ⟨by omega, by omega⟩) (fun c66 => ?_) (fun c66 => ?_)
                    · refine g_iconst (iI 0) dX9_strikesOf_73 rfl ?_
                      refine g_istore dX9_strikesOf_74 (Nat.le_of_ble_eq_true rfl) (Nat.le_of_ble_eq_true rfl) rfl ?_
                      dsimp only [sto]
                      refine gi_inc dX9_strikesOf_76 rfl (Nat.le_of_ble_eq_true rfl) rfl ?_
                      dsimp only [sto]
                      refine g_goto 18 dX9_strikesOf_79 (by decide) ?_
                      exact ihi _ _ (by omega) (by omega) (by omega) (Or.inr ⟨bI_1 c24, c34, by omega⟩) (by
                        rw [show (i + 1).toNat = i.toNat + 1 by omega, anyB, show ((i.toNat : Nat) : Int) = i by omega]
                        first
                          | exact bI_or_t (Or.inl c50)
                          | exact bI_or_t (Or.inr (by unfold sgB; exact decide_eq_true c66))
                          | exact bI_or_f c50 (by unfold sgB; exact decide_eq_false c66))
                    · refine g_iconst (iI 1) dX9_strikesOf_69 rfl ?_
                      refine g_goto 74 dX9_strikesOf_70 (by decide) ?_
                      refine g_istore dX9_strikesOf_74 (Nat.le_of_ble_eq_true rfl) (Nat.le_of_ble_eq_true rfl) rfl ?_
                      dsimp only [sto]
                      refine gi_inc dX9_strikesOf_76 rfl (Nat.le_of_ble_eq_true rfl) rfl ?_
                      dsimp only [sto]
                      refine g_goto 18 dX9_strikesOf_79 (by decide) ?_
                      exact ihi _ _ (by omega) (by omega) (by omega) (Or.inr ⟨bI_1 c24, c34, by omega⟩) (by
                        rw [show (i + 1).toNat = i.toNat + 1 by omega, anyB, show ((i.toNat : Nat) : Int) = i by omega]
                        first
                          | exact bI_or_t (Or.inl c50)
                          | exact bI_or_t (Or.inr (by unfold sgB; exact decide_eq_true c66))
                          | exact bI_or_f c50 (by unfold sgB; exact decide_eq_false c66))
        refine g_iload_n 3 dX9_strikesOf_4 rfl rfl ?_
        refine g_aload_n 0 dX9_strikesOf_5 rfl rfl ?_
        refine mg_9 (hP.at 9 (by decide) _) dX9_strikesOf_6 rfl ?_
        refine gi_icmp_ge 101 dX9_strikesOf_9 (by decide) (by first | exact hM _ _ | exact bI_Rg _ | exact ⟨by omega, by omega⟩) (by first | exact hM _ _ | exact bI_Rg _ | exact ⟨by omega, by omega⟩) (fun c9 => ?_) (fun c9 => ?_)
        · exfalso; omega
        · refine g_iconst (iI 0) dX9_strikesOf_12 rfl ?_
          refine g_istore dX9_strikesOf_13 (Nat.le_of_ble_eq_true rfl) (Nat.le_of_ble_eq_true rfl) rfl ?_
          dsimp only [sto]
          refine g_iconst (iI 0) dX9_strikesOf_15 rfl ?_
          refine g_istore dX9_strikesOf_16 (Nat.le_of_ble_eq_true rfl) (Nat.le_of_ble_eq_true rfl) rfl ?_
          dsimp only [sto]
          exact inn 14 0 0 (by omega) (by omega) (by omega) (Or.inl rfl) rfl
      · refine g_iload_n 3 dX9_strikesOf_4 rfl rfl ?_
        refine g_aload_n 0 dX9_strikesOf_5 rfl rfl ?_
        refine mg_9 (hP.at 9 (by decide) _) dX9_strikesOf_6 rfl ?_
        refine gi_icmp_ge 101 dX9_strikesOf_9 (by decide) (by first | exact hM _ _ | exact bI_Rg _ | exact ⟨by omega, by omega⟩) (by first | exact hM _ _ | exact bI_Rg _ | exact ⟨by omega, by omega⟩) (fun c9 => ?_) (fun c9 => ?_)
        · refine g_iload_n 2 dX9_strikesOf_101 rfl rfl ?_
          refine g_iret dX9_strikesOf_102 rfl (Nat.le_of_ble_eq_true rfl) (Nat.le_of_ble_eq_true rfl) ⟨_, _, rfl, rfl, ?_⟩
          refine ⟨?_, rfl⟩
          unfold strikesF
          rw [hc, show s = D 9 0 by omega]
        · exfalso; omega
  refine g_iconst (iI 0) dX9_strikesOf_0 rfl ?_
  refine g_istore_n 2 dX9_strikesOf_1 rfl (Nat.le_of_ble_eq_true rfl) (Nat.le_of_ble_eq_true rfl) rfl ?_
  dsimp only [sto]
  refine g_iconst (iI 0) dX9_strikesOf_2 rfl ?_
  refine g_istore_n 3 dX9_strikesOf_3 rfl (Nat.le_of_ble_eq_true rfl) (Nat.le_of_ble_eq_true rfl) rfl ?_
  dsimp only [sto]
  exact loop ((D 9 0).toNat + 1) 0 0 (by omega) (by omega) (by omega) rfl
set_option maxHeartbeats 4000000 in
set_option maxRecDepth 100000 in
/-- isStruck -/
theorem c_isStruck (Z : LZ) (o : Nat) (a : Nat → Nat) {D M : Mem} (hP : Pers D M) (hM : RM D) (hD : okP D) (x : Int) (hx : Rg x) (W : Int → Bool) (hW : ∀ t, 0 ≤ t → t < D 9 0 → M 15 t = bI (W t))  : Tm Z o a jX9_isStruck [x] M (fun z M2 => z = bI (decide (0 < strikesF D W x)) ∧ M2 = M) := by
  refine tr_of pn_X9_isStruck (Nat.le_of_ble_eq_true rfl) (vI_catO o _) ?_
  show G Z jX9_isStruck E0 (QM Z jX9_isStruck (pI Z o a (fun z M2 => z = bI (decide (0 < strikesF D W x)) ∧ M2 = M))) 0 [.ref o, .int (iI x)] [] (mW Z o a M) 0 0
  have hn := hD.2.1
  have hcr := cntB_rg (stB D W x) (D 9 0).toNat
  refine g_aload_n 0 dX9_isStruck_0 rfl rfl ?_
  refine g_iload_n 1 dX9_isStruck_1 rfl rfl ?_
  refine mcI lkX9_118 (c_strikesOf Z o a hP hM hD x hx W hW) dX9_isStruck_2 rfl (And.intro (Nat.le_of_ble_eq_true rfl) (Nat.le_of_ble_eq_true rfl)) rfl (Nat.le_of_ble_eq_true rfl) rfl rfl (Nat.le_of_ble_eq_true rfl) (Nat.le_of_ble_eq_true rfl) (fun z2 M2 h2 => ?_)
  obtain ⟨rfl, rfl⟩ := h2
  refine gi_if_le 12 dX9_isStruck_5 (by decide) (by unfold strikesF; exact ⟨by omega, by omega⟩) (fun c5 => ?_) (fun c5 => ?_)
  · refine g_iconst (iI 0) dX9_isStruck_12 rfl ?_
    refine g_zret dX9_isStruck_13 rfl (narrow_bool (by first | exact Or.inl rfl | exact Or.inr rfl | assumption | omega)) (Nat.le_of_ble_eq_true rfl) (Nat.le_of_ble_eq_true rfl) ⟨_, _, rfl, rfl, ?_⟩
    refine ⟨?_, rfl⟩
    first | (rw [decide_eq_true (by omega)]; rfl) | (rw [decide_eq_false (by omega)]; rfl)
  · refine g_iconst (iI 1) dX9_isStruck_8 rfl ?_
    refine g_goto 13 dX9_isStruck_9 (by decide) ?_
    refine g_zret dX9_isStruck_13 rfl (narrow_bool (by first | exact Or.inl rfl | exact Or.inr rfl | assumption | omega)) (Nat.le_of_ble_eq_true rfl) (Nat.le_of_ble_eq_true rfl) ⟨_, _, rfl, rfl, ?_⟩
    refine ⟨?_, rfl⟩
    first | (rw [decide_eq_true (by omega)]; rfl) | (rw [decide_eq_false (by omega)]; rfl)
set_option maxHeartbeats 4000000 in
set_option maxRecDepth 100000 in
/-- atPlace -/
theorem c_atPlace (Z : LZ) (o : Nat) (a : Nat → Nat) {D M : Mem} (hP : Pers D M) (hM : RM D) (x : Int) (h0 : 0 ≤ x) (hx : x < 1000000) (h1 : 0 ≤ M 17 0) (h2 : M 17 0 ≤ 768) (V : Int → Bool) (hV : ∀ i, 0 ≤ i → i < M 17 0 → M 18 i = bI (V i))  : Tm Z o a jX9_atPlace [x] M (fun z M2 => M2 = M ∧ ((0 ≤ z ∧ z < M 17 0 ∧ V z = true ∧ cntB V z.toNat = x) ∨ (z = -1 ∧ ∀ i, 0 ≤ i → i < M 17 0 → V i = true → cntB V i.toNat ≠ x))) := by
  refine tr_of pn_X9_atPlace (Nat.le_of_ble_eq_true rfl) (vI_catO o _) ?_
  show G Z jX9_atPlace E0 (QM Z jX9_atPlace (pI Z o a (fun z M2 => M2 = M ∧ ((0 ≤ z ∧ z < M 17 0 ∧ V z = true ∧ cntB V z.toNat = x) ∨ (z = -1 ∧ ∀ i, 0 ≤ i → i < M 17 0 → V i = true → cntB V i.toNat ≠ x))))) 0 [.ref o, .int (iI x)] [] (mW Z o a M) 0 0
  have loop : ∀ (fuel : Nat) (l i : Int), M 17 0 - i < fuel → 0 ≤ i → i ≤ M 17 0 → l = x - cntB V i.toNat → (∀ j, 0 ≤ j → j < i → V j = true → cntB V j.toNat ≠ x) → G Z jX9_atPlace E0 (QM Z jX9_atPlace (pI Z o a (fun z M2 => M2 = M ∧ ((0 ≤ z ∧ z < M 17 0 ∧ V z = true ∧ cntB V z.toNat = x) ∨ (z = -1 ∧ ∀ i, 0 ≤ i → i < M 17 0 → V i = true → cntB V i.toNat ≠ x))))) 4 [.ref o, .int (iI x), .int (iI l), .int (iI i)] [] (mW Z o a M) 0 0 := by
    intro fuel
    induction fuel with
    | zero => intros; exfalso; omega
    | succ fuel ih =>
      intro l i hfu hi0 hi1 hl hno
      have hcr := cntB_rg V i.toNat
      refine g_iload_n 3 dX9_atPlace_4 rfl rfl ?_
      refine g_aload_n 0 dX9_atPlace_5 rfl rfl ?_
      refine mg_17 rfl dX9_atPlace_6 rfl ?_
      refine gi_icmp_ge 36 dX9_atPlace_9 (by decide) (by first | exact hM _ _ | exact bI_Rg _ | exact ⟨by omega, by omega⟩) (by first | exact hM _ _ | exact bI_Rg _ | exact ⟨by omega, by omega⟩) (fun c9 => ?_) (fun c9 => ?_)
      · refine g_iconst (iI (-1)) dX9_atPlace_36 rfl ?_
        refine g_iret dX9_atPlace_37 rfl (Nat.le_of_ble_eq_true rfl) (Nat.le_of_ble_eq_true rfl) ⟨_, _, rfl, rfl, ?_⟩
        exact ⟨rfl, Or.inr ⟨rfl, fun j h1 h2 h3 => hno j h1 (by omega) h3⟩⟩
      · refine g_aload_n 0 dX9_atPlace_12 rfl rfl ?_
        refine mg_18 dX9_atPlace_13 rfl ?_
        refine g_iload_n 3 dX9_atPlace_16 rfl rfl ?_
        refine ml_18 (hV i (by omega) (by omega)) dX9_atPlace_17 (by omega) (by omega) ?_
        refine gi_if_eq 30 dX9_atPlace_18 (by decide) (by first | exact hM _ _ | exact bI_Rg _ | exact ⟨by omega, by omega⟩) (fun c18 => ?_) (fun c18 => ?_)
        · refine gi_inc dX9_atPlace_30 rfl (Nat.le_of_ble_eq_true rfl) rfl ?_
          dsimp only [sto]
          refine g_goto 4 dX9_atPlace_33 (by decide) ?_
          exact ih _ _ (by omega) (by omega) (by omega) (by
            rw [show (i + 1).toNat = i.toNat + 1 by omega, cntB, show ((i.toNat : Nat) : Int) = i by omega]
            first | omega | (have := bI_1 c18; omega)) (fun j h1 h2 h3 => by
            by_cases e : j = i
            · subst e
              first | omega | (rw [h3] at c18; exact absurd c18 (by decide))
            · exact hno j h1 (by omega) h3)
        · refine g_iload_n 2 dX9_atPlace_21 rfl rfl ?_
          refine gi_if_ne 27 dX9_atPlace_22 (by decide) (by first | exact hM _ _ | exact bI_Rg _ | exact ⟨by omega, by omega⟩) (fun c22 => ?_) (fun c22 => ?_)
          · refine gi_inc dX9_atPlace_27 rfl (Nat.le_of_ble_eq_true rfl) rfl ?_
            dsimp only [sto]
            refine gi_inc dX9_atPlace_30 rfl (Nat.le_of_ble_eq_true rfl) rfl ?_
            dsimp only [sto]
            refine g_goto 4 dX9_atPlace_33 (by decide) ?_
            exact ih _ _ (by omega) (by omega) (by omega) (by
              rw [show (i + 1).toNat = i.toNat + 1 by omega, cntB, show ((i.toNat : Nat) : Int) = i by omega]
              first | omega | (have := bI_1 c18; omega)) (fun j h1 h2 h3 => by
              by_cases e : j = i
              · subst e
                first | omega | (rw [h3] at c18; exact absurd c18 (by decide))
              · exact hno j h1 (by omega) h3)
          · refine g_iload_n 3 dX9_atPlace_25 rfl rfl ?_
            refine g_iret dX9_atPlace_26 rfl (Nat.le_of_ble_eq_true rfl) (Nat.le_of_ble_eq_true rfl) ⟨_, _, rfl, rfl, ?_⟩
            exact ⟨rfl, Or.inl ⟨hi0, by omega, by cases h : V i <;> simp_all [bI], by omega⟩⟩
  refine g_iload_n 1 dX9_atPlace_0 rfl rfl ?_
  refine g_istore_n 2 dX9_atPlace_1 rfl (Nat.le_of_ble_eq_true rfl) (Nat.le_of_ble_eq_true rfl) rfl ?_
  dsimp only [sto]
  refine g_iconst (iI 0) dX9_atPlace_2 rfl ?_
  refine g_istore_n 3 dX9_atPlace_3 rfl (Nat.le_of_ble_eq_true rfl) (Nat.le_of_ble_eq_true rfl) rfl ?_
  dsimp only [sto]
  exact loop ((M 17 0).toNat + 1) x 0 (by omega) (by omega) (by omega) (by simp [cntB]) (fun j h1 h2 => by omega)
set_option maxHeartbeats 4000000 in
set_option maxRecDepth 100000 in
/-- inOrder -/
theorem c_inOrder (Z : LZ) (o : Nat) (a : Nat → Nat) {D M : Mem} (hP : Pers D M) (hM : RM D) (x : Int) (hx : Rg x) (h1 : 0 ≤ M 17 0) (h2 : M 17 0 ≤ 768) (hO : ∀ i, 0 ≤ i → i < M 17 0 → Rg (M 16 i))  : Tm Z o a jX9_inOrder [x] M (fun z M2 => M2 = M ∧ z = lastIx (M 16) x (M 17 0).toNat) := by
  refine tr_of pn_X9_inOrder (Nat.le_of_ble_eq_true rfl) (vI_catO o _) ?_
  show G Z jX9_inOrder E0 (QM Z jX9_inOrder (pI Z o a (fun z M2 => M2 = M ∧ z = lastIx (M 16) x (M 17 0).toNat))) 0 [.ref o, .int (iI x)] [] (mW Z o a M) 0 0
  have loop : ∀ (fuel : Nat) (f i : Int), M 17 0 - i < fuel → 0 ≤ i → i ≤ M 17 0 → f = lastIx (M 16) x i.toNat → G Z jX9_inOrder E0 (QM Z jX9_inOrder (pI Z o a (fun z M2 => M2 = M ∧ z = lastIx (M 16) x (M 17 0).toNat))) 4 [.ref o, .int (iI x), .int (iI f), .int (iI i)] [] (mW Z o a M) 0 0 := by
    intro fuel
    induction fuel with
    | zero => intros; exfalso; omega
    | succ fuel ih =>
      intro f i hfu hi0 hi1 hf
      refine g_iload_n 3 dX9_inOrder_4 rfl rfl ?_
      refine g_aload_n 0 dX9_inOrder_5 rfl rfl ?_
      refine mg_17 rfl dX9_inOrder_6 rfl ?_
      refine gi_icmp_ge 34 dX9_inOrder_9 (by decide) (by first | exact hM _ _ | exact bI_Rg _ | exact ⟨by omega, by omega⟩) (by first | exact hM _ _ | exact bI_Rg _ | exact ⟨by omega, by omega⟩) (fun c9 => ?_) (fun c9 => ?_)
      · refine g_iload_n 2 dX9_inOrder_34 rfl rfl ?_
        refine g_iret dX9_inOrder_35 rfl (Nat.le_of_ble_eq_true rfl) (Nat.le_of_ble_eq_true rfl) ⟨_, _, rfl, rfl, ?_⟩
        refine ⟨rfl, ?_⟩
        rw [hf, show i = M 17 0 by omega]
      · refine g_aload_n 0 dX9_inOrder_12 rfl rfl ?_
        refine mg_16 dX9_inOrder_13 rfl ?_
        refine g_iload_n 3 dX9_inOrder_16 rfl rfl ?_
        refine ml_16 rfl dX9_inOrder_17 (by omega) (by omega) ?_
        refine g_iload_n 1 dX9_inOrder_18 rfl rfl ?_
        refine gi_icmp_ne 26 dX9_inOrder_19 (by decide) (hO i (by omega) (by omega)) hx (fun c19 => ?_) (fun c19 => ?_)
        · refine g_iload_n 2 dX9_inOrder_26 rfl rfl ?_
          refine g_istore_n 2 dX9_inOrder_27 rfl (Nat.le_of_ble_eq_true rfl) (Nat.le_of_ble_eq_true rfl) rfl ?_
          dsimp only [sto]
          refine gi_inc dX9_inOrder_28 rfl (Nat.le_of_ble_eq_true rfl) rfl ?_
          dsimp only [sto]
          refine g_goto 4 dX9_inOrder_31 (by decide) ?_
          exact ih _ _ (by omega) (by omega) (by omega) (by
            rw [show (i + 1).toNat = i.toNat + 1 by omega, lastIx, show ((i.toNat : Nat) : Int) = i by omega]
            first | rw [if_pos c19] | (rw [if_neg c19]; exact hf))
        · refine g_iload_n 3 dX9_inOrder_22 rfl rfl ?_
          refine g_goto 27 dX9_inOrder_23 (by decide) ?_
          refine g_istore_n 2 dX9_inOrder_27 rfl (Nat.le_of_ble_eq_true rfl) (Nat.le_of_ble_eq_true rfl) rfl ?_
          dsimp only [sto]
          refine gi_inc dX9_inOrder_28 rfl (Nat.le_of_ble_eq_true rfl) rfl ?_
          dsimp only [sto]
          refine g_goto 4 dX9_inOrder_31 (by decide) ?_
          exact ih _ _ (by omega) (by omega) (by omega) (by
            rw [show (i + 1).toNat = i.toNat + 1 by omega, lastIx, show ((i.toNat : Nat) : Int) = i by omega]
            first | rw [if_pos c19] | (rw [if_neg c19]; exact hf))
  refine g_iconst (iI (-1)) dX9_inOrder_0 rfl ?_
  refine g_istore_n 2 dX9_inOrder_1 rfl (Nat.le_of_ble_eq_true rfl) (Nat.le_of_ble_eq_true rfl) rfl ?_
  dsimp only [sto]
  refine g_iconst (iI 0) dX9_inOrder_2 rfl ?_
  refine g_istore_n 3 dX9_inOrder_3 rfl (Nat.le_of_ble_eq_true rfl) (Nat.le_of_ble_eq_true rfl) rfl ?_
  dsimp only [sto]
  exact loop ((M 17 0).toNat + 1) (-1) 0 (by omega) (by omega) (by omega) rfl
set_option maxHeartbeats 4000000 in
set_option maxRecDepth 100000 in
/-- seenAhead -/
theorem c_seenAhead (Z : LZ) (o : Nat) (a : Nat → Nat) {D M : Mem} (hP : Pers D M) (hM : RM D) (x : Int) (h0 : 0 ≤ x) (h1 : x ≤ 768) (V : Int → Bool) (hV : ∀ i, 0 ≤ i → i < x → M 18 i = bI (V i))  : Tm Z o a jX9_seenAhead [x] M (fun z M2 => M2 = M ∧ z = cntB V x.toNat) := by
  refine tr_of pn_X9_seenAhead (Nat.le_of_ble_eq_true rfl) (vI_catO o _) ?_
  show G Z jX9_seenAhead E0 (QM Z jX9_seenAhead (pI Z o a (fun z M2 => M2 = M ∧ z = cntB V x.toNat))) 0 [.ref o, .int (iI x)] [] (mW Z o a M) 0 0
  have loop : ∀ (fuel : Nat) (c i : Int), x - i < fuel → 0 ≤ i → i ≤ x → c = cntB V i.toNat → G Z jX9_seenAhead E0 (QM Z jX9_seenAhead (pI Z o a (fun z M2 => M2 = M ∧ z = cntB V x.toNat))) 4 [.ref o, .int (iI x), .int (iI c), .int (iI i)] [] (mW Z o a M) 0 0 := by
    intro fuel
    induction fuel with
    | zero => intros; exfalso; omega
    | succ fuel ih =>
      intro c i hfu hi0 hi1 hc
      refine g_iload_n 3 dX9_seenAhead_4 rfl rfl ?_
      refine g_iload_n 1 dX9_seenAhead_5 rfl rfl ?_
      refine gi_icmp_ge 32 dX9_seenAhead_6 (by decide) (by first | exact hM _ _ | exact bI_Rg _ | exact ⟨by omega, by omega⟩) (by first | exact hM _ _ | exact bI_Rg _ | exact ⟨by omega, by omega⟩) (fun c6 => ?_) (fun c6 => ?_)
      · refine g_iload_n 2 dX9_seenAhead_32 rfl rfl ?_
        refine g_iret dX9_seenAhead_33 rfl (Nat.le_of_ble_eq_true rfl) (Nat.le_of_ble_eq_true rfl) ⟨_, _, rfl, rfl, ?_⟩
        refine ⟨rfl, ?_⟩
        rw [hc, show i = x by omega]
      · refine g_iload_n 2 dX9_seenAhead_9 rfl rfl ?_
        refine g_aload_n 0 dX9_seenAhead_10 rfl rfl ?_
        refine mg_18 dX9_seenAhead_11 rfl ?_
        refine g_iload_n 3 dX9_seenAhead_14 rfl rfl ?_
        refine ml_18 (hV i (by omega) (by omega)) dX9_seenAhead_15 (by omega) (by omega) ?_
        refine gi_if_eq 23 dX9_seenAhead_16 (by decide) (by first | exact hM _ _ | exact bI_Rg _ | exact ⟨by omega, by omega⟩) (fun c16 => ?_) (fun c16 => ?_)
        · refine g_iconst (iI 0) dX9_seenAhead_23 rfl ?_
          refine gi_add dX9_seenAhead_24 ?_
          refine g_istore_n 2 dX9_seenAhead_25 rfl (Nat.le_of_ble_eq_true rfl) (Nat.le_of_ble_eq_true rfl) rfl ?_
          dsimp only [sto]
          refine gi_inc dX9_seenAhead_26 rfl (Nat.le_of_ble_eq_true rfl) rfl ?_
          dsimp only [sto]
          refine g_goto 4 dX9_seenAhead_29 (by decide) ?_
          exact ih _ _ (by omega) (by omega) (by omega) (by
            rw [show (i + 1).toNat = i.toNat + 1 by omega, cntB, show ((i.toNat : Nat) : Int) = i by omega, ← hc]
            first | omega | (have := bI_1 c16; omega))
        · refine g_iconst (iI 1) dX9_seenAhead_19 rfl ?_
          refine g_goto 24 dX9_seenAhead_20 (by decide) ?_
          refine gi_add dX9_seenAhead_24 ?_
          refine g_istore_n 2 dX9_seenAhead_25 rfl (Nat.le_of_ble_eq_true rfl) (Nat.le_of_ble_eq_true rfl) rfl ?_
          dsimp only [sto]
          refine gi_inc dX9_seenAhead_26 rfl (Nat.le_of_ble_eq_true rfl) rfl ?_
          dsimp only [sto]
          refine g_goto 4 dX9_seenAhead_29 (by decide) ?_
          exact ih _ _ (by omega) (by omega) (by omega) (by
            rw [show (i + 1).toNat = i.toNat + 1 by omega, cntB, show ((i.toNat : Nat) : Int) = i by omega, ← hc]
            first | omega | (have := bI_1 c16; omega))
  refine g_iconst (iI 0) dX9_seenAhead_0 rfl ?_
  refine g_istore_n 2 dX9_seenAhead_1 rfl (Nat.le_of_ble_eq_true rfl) (Nat.le_of_ble_eq_true rfl) rfl ?_
  dsimp only [sto]
  refine g_iconst (iI 0) dX9_seenAhead_2 rfl ?_
  refine g_istore_n 3 dX9_seenAhead_3 rfl (Nat.le_of_ble_eq_true rfl) (Nat.le_of_ble_eq_true rfl) rfl ?_
  dsimp only [sto]
  exact loop (x.toNat + 1) 0 0 (by omega) (by omega) (by omega) rfl
