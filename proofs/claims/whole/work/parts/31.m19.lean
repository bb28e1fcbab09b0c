/-! THE REFERENCE: unlike -/
def nmX (D : Mem) (T : Int → Bool) (i : Int) : Int := fF (ordF D T) (atF D T i)
def tnX (D : Mem) (T : Int → Bool) (i : Int) : Int := tinF D T (atF D T i) 4
def sameB (S T : Int → Bool) (s : Int) : Bool := decide (S s = T s)
def eqX (D : Mem) (S T : Int → Bool) (i : Int) : Bool := decide ((i < txtN D S ∧ i < txtN D T) ∧ nmX D T i = nmX D S i ∧ tnX D T i = tnX D S i)
def unF (B : Int → Bool) : Nat → Int → Int
  | 0, n => n
  | k + 1, n => if B n = true then unF B k (n + 1) else n
def A_unlike (D : Mem) (p q : Int) : Int := if (0 ≤ p ∧ p < 6) ∧ (0 ≤ q ∧ q < 6) then (if allB (sameB (tkB D p) (tkB D q)) 0 (D 9 0).toNat = true then 0 else unF (eqX D (tkB D p) (tkB D q)) 800 0 + 1) else -1
theorem unF_stop {B : Int → Bool} {n : Int} (h : B n = false) : ∀ k : Nat, unF B k n = n := by
  intro k
  cases k with
  | zero => rfl
  | succ k => unfold unF; rw [h, if_neg (by decide)]
set_option maxHeartbeats 4000000 in
set_option maxRecDepth 100000 in
/-- unlike -/
theorem c_unlike (Z : LZ) (o : Nat) (a : Nat → Nat) {D M : Mem} (hP : Pers D M) (hM : RM D) (hD : okP D) (hO : okO D (D 9 0).toNat) (p q : Int) (hp : Rg p) (hq : Rg q)  : Tm Z o a jX9_unlike [p, q] M (fun z M2 => z = A_unlike D p q ∧ Pers D M2) := by
  refine tr_of pn_X9_unlike (Nat.le_of_ble_eq_true rfl) (vI_catO o _) ?_
  show G Z jX9_unlike E0 (QM Z jX9_unlike (pI Z o a (fun z M2 => z = A_unlike D p q ∧ Pers D M2))) 0 [.ref o, .int (iI p), .int (iI q)] [] (mW Z o a M) 0 0
  have hn := hD.2.1
  refine g_iload_n 1 dX9_unlike_0 rfl rfl ?_
  refine mcS lkX9_147 (c_isPen Z o a _ p (by first | assumption | exact ⟨by omega, by omega⟩)) dX9_unlike_1 rfl (And.intro (Nat.le_of_ble_eq_true rfl) (Nat.le_of_ble_eq_true rfl)) (Nat.le_of_ble_eq_true rfl) rfl rfl (Nat.le_of_ble_eq_true rfl) (Nat.le_of_ble_eq_true rfl) (fun z1 h1 => ?_)
  rw [h1]
  refine gi_if_eq 14 dX9_unlike_4 (by decide) (by first | exact hM _ _ | exact bI_Rg _ | exact ⟨by omega, by omega⟩) (fun c4 => ?_) (fun c4 => ?_)
  · have hp2 := penB_f c4
    refine g_iconst (iI (-1)) dX9_unlike_14 rfl ?_
    refine g_iret dX9_unlike_15 rfl (Nat.le_of_ble_eq_true rfl) (Nat.le_of_ble_eq_true rfl) ⟨_, _, rfl, rfl, ?_⟩
    refine ⟨?_, hP⟩
    unfold A_unlike
    rw [if_neg (fun h => hp2 h.1)]
  · have hp2 := penB_t c4
    refine g_iload_n 2 dX9_unlike_7 rfl rfl ?_
    refine mcS lkX9_147 (c_isPen Z o a _ q (by first | assumption | exact ⟨by omega, by omega⟩)) dX9_unlike_8 rfl (And.intro (Nat.le_of_ble_eq_true rfl) (Nat.le_of_ble_eq_true rfl)) (Nat.le_of_ble_eq_true rfl) rfl rfl (Nat.le_of_ble_eq_true rfl) (Nat.le_of_ble_eq_true rfl) (fun z8 h8 => ?_)
    rw [h8]
    refine gi_if_ne 16 dX9_unlike_11 (by decide) (by first | exact hM _ _ | exact bI_Rg _ | exact ⟨by omega, by omega⟩) (fun c11 => ?_) (fun c11 => ?_)
    · have hq2 := penB_t c11
      refine g_aload_n 0 dX9_unlike_16 rfl rfl ?_
      refine g_iload_n 1 dX9_unlike_17 rfl rfl ?_
      refine mcI lkX9_153 (c_sheet Z o a hP hM hD hO p (by omega) (by omega)) dX9_unlike_18 rfl (And.intro (Nat.le_of_ble_eq_true rfl) (Nat.le_of_ble_eq_true rfl)) rfl (Nat.le_of_ble_eq_true rfl) rfl rfl (Nat.le_of_ble_eq_true rfl) (Nat.le_of_ble_eq_true rfl) (fun z18 M18 h18 => ?_)
      obtain ⟨q18, hF18, hS18⟩ := h18
      rw [q18]
      have hC18 := tkB_Cl hD p
      have hT18 := txtN_rg hD hO hC18
      have hL18 := ordF_len hD hO hC18
      refine g_istore_n 3 dX9_unlike_21 rfl (Nat.le_of_ble_eq_true rfl) (Nat.le_of_ble_eq_true rfl) rfl ?_
      dsimp only [sto]
      refine g_iconst (iI 0) dX9_unlike_22 rfl ?_
      refine g_istore dX9_unlike_23 (Nat.le_of_ble_eq_true rfl) (Nat.le_of_ble_eq_true rfl) rfl ?_
      dsimp only [sto]
      have hCp := hC18
      have hlq := txtN_rg hD hO (tkB_Cl hD q)
      have loop1 : ∀ (fuel : Nat) (i : Int) (Mq : Mem), txtN D (tkB D p) - i < fuel → 0 ≤ i → i ≤ txtN D (tkB D p) → Fx SC M Mq → Sh D (tkB D p) Mq → (∀ j, 0 ≤ j → j < i → Mq 26 j = nmX D (tkB D p) j) → (∀ j, 0 ≤ j → j < i → Mq 27 j = tnX D (tkB D p) j) → G Z jX9_unlike E0 (QM Z jX9_unlike (pI Z o a (fun z M2 => z = A_unlike D p q ∧ Pers D M2))) 25 [.ref o, .int (iI p), .int (iI q), .int (iI (txtN D (tkB D p))), .int (iI i)] [] (mW Z o a Mq) 0 0 := by
        intro fuel
        induction fuel with
        | zero => intros; exfalso; omega
        | succ fuel ih1 =>
          intro i Mq hfu hi0 hi1 hF hS h26 h27
          by_cases hlt : i < txtN D (tkB D p)
          · refine g_iload dX9_unlike_25 rfl ?_
            refine g_iload_n 3 dX9_unlike_27 rfl rfl ?_
            refine gi_icmp_ge 72 dX9_unlike_28 (by decide) (by first | exact hM _ _ | exact bI_Rg _ | exact ⟨by omega, by omega⟩) (by first | exact hM _ _ | exact bI_Rg _ | exact ⟨by omega, by omega⟩) (fun c28 => ?_) (fun c28 => ?_)
            · exfalso; omega
            · refine g_aload_n 0 dX9_unlike_31 rfl rfl ?_
              refine g_iload dX9_unlike_32 rfl ?_
              refine mcI lkX9_156 (c_atPlaceF Z o a (hP.fx hF SC14) hM hD hO hCp hS i (by omega) (by omega)) dX9_unlike_34 rfl (And.intro (Nat.le_of_ble_eq_true rfl) (Nat.le_of_ble_eq_true rfl)) rfl (Nat.le_of_ble_eq_true rfl) rfl rfl (Nat.le_of_ble_eq_true rfl) (Nat.le_of_ble_eq_true rfl) (fun z34 M34 h34 => ?_)
              obtain ⟨q1, q2⟩ := h34
              rw [q1, q2]
              have hat := atF_in (D := D) (T := tkB D p) (x := i) (by omega) (by omega)
              refine g_istore dX9_unlike_37 (Nat.le_of_ble_eq_true rfl) (Nat.le_of_ble_eq_true rfl) rfl ?_
              dsimp only [sto]
              refine g_aload_n 0 dX9_unlike_39 rfl rfl ?_
              refine mg_26 dX9_unlike_40 rfl ?_
              refine g_iload dX9_unlike_43 rfl ?_
              refine g_aload_n 0 dX9_unlike_45 rfl rfl ?_
              refine mg_16 dX9_unlike_46 rfl ?_
              refine g_iload dX9_unlike_49 rfl ?_
              refine ml_16 (OL_fF hS.2.2.1 hat.1 hat.2.1) dX9_unlike_51 hat.1 (by omega) ?_
              refine mt_26 dX9_unlike_52 (by omega) (by omega) ?_
              have hS2 : Sh D (tkB D p) (ms Mq 26 i (fF (ordF D (tkB D p)) (atF D (tkB D p) i))) := hS.row ((Fx.rf [26] _).ms (by decide)) (by decide) (by decide) (by decide) (by decide) (by decide)
              refine g_aload_n 0 dX9_unlike_53 rfl rfl ?_
              refine mg_27 dX9_unlike_54 rfl ?_
              refine g_iload dX9_unlike_57 rfl ?_
              refine g_aload_n 0 dX9_unlike_59 rfl rfl ?_
              refine g_iload dX9_unlike_60 rfl ?_
              refine mcI lkX9_176 (c_tintsOf Z o a ((hP.fx hF SC14).ms (r := 26) (by decide)) hM hD hO (tkB D p) hCp hS2 _ (by omega) (by omega)) dX9_unlike_62 rfl (And.intro (Nat.le_of_ble_eq_true rfl) (Nat.le_of_ble_eq_true rfl)) rfl (Nat.le_of_ble_eq_true rfl) rfl rfl (Nat.le_of_ble_eq_true rfl) (Nat.le_of_ble_eq_true rfl) (fun z62 M62 h62 => ?_)
              obtain ⟨q5, q6⟩ := h62
              rw [q5, q6]
              refine mt_27 dX9_unlike_65 (by omega) (by omega) ?_
              refine gi_inc dX9_unlike_66 rfl (Nat.le_of_ble_eq_true rfl) rfl ?_
              dsimp only [sto]
              refine g_goto 25 dX9_unlike_69 (by decide) ?_
              refine g_drop (ls1 := [_, _, _, _, _]) (xs := [_]) rfl ?_
              exact ih1 _ _ (by omega) (by omega) (by omega) ((hF.ms (by decide)).ms (by decide)) (hS2.row ((Fx.rf [27] _).ms (by decide)) (by decide) (by decide) (by decide) (by decide) (by decide)) (fun j a1 a2 => by
                rw [ms_row (by decide)]
                by_cases e : j = i
                · subst e; rw [ms_at]; rfl
                · rw [ms_off e]; exact h26 j a1 (by omega)) (fun j a1 a2 => by
                by_cases e : j = i
                · subst e; rw [ms_at]; rfl
                · rw [ms_off e, ms_row (by decide)]; exact h27 j a1 (by omega))
          · refine g_iload dX9_unlike_25 rfl ?_
            refine g_iload_n 3 dX9_unlike_27 rfl rfl ?_
            refine gi_icmp_ge 72 dX9_unlike_28 (by decide) (by first | exact hM _ _ | exact bI_Rg _ | exact ⟨by omega, by omega⟩) (by first | exact hM _ _ | exact bI_Rg _ | exact ⟨by omega, by omega⟩) (fun c28 => ?_) (fun c28 => ?_)
            · refine g_iconst (iI 0) dX9_unlike_72 rfl ?_
              refine g_istore dX9_unlike_73 (Nat.le_of_ble_eq_true rfl) (Nat.le_of_ble_eq_true rfl) rfl ?_
              dsimp only [sto]
              have loop2 : ∀ (fuel : Nat) (i : Int) (Mq : Mem), D 9 0 - i < fuel → 0 ≤ i → i ≤ D 9 0 → Fx SC M Mq → Sh D (tkB D p) Mq → (∀ j, 0 ≤ j → j < txtN D (tkB D p) → Mq 26 j = nmX D (tkB D p) j) → (∀ j, 0 ≤ j → j < txtN D (tkB D p) → Mq 27 j = tnX D (tkB D p) j) → (∀ u, 0 ≤ u → u < i → Mq 25 u = bI (tkB D p u)) → G Z jX9_unlike E0 (QM Z jX9_unlike (pI Z o a (fun z M2 => z = A_unlike D p q ∧ Pers D M2))) 75 [.ref o, .int (iI p), .int (iI q), .int (iI (txtN D (tkB D p))), .int (iI i)] [] (mW Z o a Mq) 0 0 := by
                intro fuel
                induction fuel with
                | zero => intros; exfalso; omega
                | succ fuel ih2 =>
                  intro i Mq hfu hi0 hi1 hF hS h26 h27 h25
                  by_cases hlt : i < D 9 0
                  · refine g_iload dX9_unlike_75 rfl ?_
                    refine g_aload_n 0 dX9_unlike_77 rfl rfl ?_
                    refine mg_9 ((hP.fx hF SC14).at 9 (by decide) _) dX9_unlike_78 rfl ?_
                    refine gi_icmp_ge 104 dX9_unlike_81 (by decide) (by first | exact hM _ _ | exact bI_Rg _ | exact ⟨by omega, by omega⟩) (by first | exact hM _ _ | exact bI_Rg _ | exact ⟨by omega, by omega⟩) (fun c81 => ?_) (fun c81 => ?_)
                    · exfalso; omega
                    · refine g_aload_n 0 dX9_unlike_84 rfl rfl ?_
                      refine mg_25 dX9_unlike_85 rfl ?_
                      refine g_iload dX9_unlike_88 rfl ?_
                      refine g_aload_n 0 dX9_unlike_90 rfl rfl ?_
                      refine mg_14 dX9_unlike_91 rfl ?_
                      refine g_iload dX9_unlike_94 rfl ?_
                      refine ml_14 (hS.1 i (by omega) (by omega)) dX9_unlike_96 (by omega) (by omega) ?_
                      refine mt_25 dX9_unlike_97 (by omega) (by omega) (bI_01 _) ?_
                      refine gi_inc dX9_unlike_98 rfl (Nat.le_of_ble_eq_true rfl) rfl ?_
                      dsimp only [sto]
                      refine g_goto 75 dX9_unlike_101 (by decide) ?_
                      exact ih2 _ _ (by omega) (by omega) (by omega) (hF.ms (by decide)) (hS.row ((Fx.rf [25] _).ms (by decide)) (by decide) (by decide) (by decide) (by decide) (by decide)) (fun j a1 a2 => by rw [ms_row (by decide)]; exact h26 j a1 a2) (fun j a1 a2 => by rw [ms_row (by decide)]; exact h27 j a1 a2) (fun u a1 a2 => by
                        by_cases e : u = i
                        · subst e; rw [ms_at]
                        · rw [ms_off e]; exact h25 u a1 (by omega))
                  · refine g_iload dX9_unlike_75 rfl ?_
                    refine g_aload_n 0 dX9_unlike_77 rfl rfl ?_
                    refine mg_9 ((hP.fx hF SC14).at 9 (by decide) _) dX9_unlike_78 rfl ?_
                    refine gi_icmp_ge 104 dX9_unlike_81 (by decide) (by first | exact hM _ _ | exact bI_Rg _ | exact ⟨by omega, by omega⟩) (by first | exact hM _ _ | exact bI_Rg _ | exact ⟨by omega, by omega⟩) (fun c81 => ?_) (fun c81 => ?_)
                    · refine g_aload_n 0 dX9_unlike_104 rfl rfl ?_
                      refine g_iload_n 2 dX9_unlike_105 rfl rfl ?_
                      refine mcI lkX9_153 (c_sheet Z o a (hP.fx hF SC14) hM hD hO q (by omega) (by omega)) dX9_unlike_106 rfl (And.intro (Nat.le_of_ble_eq_true rfl) (Nat.le_of_ble_eq_true rfl)) rfl (Nat.le_of_ble_eq_true rfl) rfl rfl (Nat.le_of_ble_eq_true rfl) (Nat.le_of_ble_eq_true rfl) (fun z106 M106 h106 => ?_)
                      obtain ⟨q106, hF106, hS106⟩ := h106
                      rw [q106]
                      have hC106 := tkB_Cl hD q
                      have hT106 := txtN_rg hD hO hC106
                      have hL106 := ordF_len hD hO hC106
                      refine g_istore dX9_unlike_109 (Nat.le_of_ble_eq_true rfl) (Nat.le_of_ble_eq_true rfl) rfl ?_
                      dsimp only [sto]
                      refine g_iconst (iI 1) dX9_unlike_111 rfl ?_
                      refine g_istore dX9_unlike_112 (Nat.le_of_ble_eq_true rfl) (Nat.le_of_ble_eq_true rfl) rfl ?_
                      dsimp only [sto]
                      refine g_iconst (iI 0) dX9_unlike_114 rfl ?_
                      refine g_istore dX9_unlike_115 (Nat.le_of_ble_eq_true rfl) (Nat.le_of_ble_eq_true rfl) rfl ?_
                      dsimp only [sto]
                      generalize M106 = Mq at hF106 hS106 ⊢
                      have hF : Fx SC M Mq := (hF.tr (hF106.sub (rs := SC) (by decide)) (fun r h => h))
                      have hS := hS106
                      have hCq := hC106
                      have h26 : ∀ j, 0 ≤ j → j < txtN D (tkB D p) → Mq 26 j = nmX D (tkB D p) j := fun j a1 a2 => (hF106.at 26 (by decide) j).trans (h26 j a1 (by omega))
                      have h27 : ∀ j, 0 ≤ j → j < txtN D (tkB D p) → Mq 27 j = tnX D (tkB D p) j := fun j a1 a2 => (hF106.at 27 (by decide) j).trans (h27 j a1 (by omega))
                      have h25 : ∀ j, 0 ≤ j → j < D 9 0 → Mq 25 j = bI (tkB D p j) := fun j a1 a2 => (hF106.at 25 (by decide) j).trans (h25 j a1 (by omega))
                      have loop3 : ∀ (fuel : Nat) (h i : Int), D 9 0 - i < fuel → 0 ≤ i → i ≤ D 9 0 → h = bI (allB (sameB (tkB D p) (tkB D q)) 0 i.toNat) → G Z jX9_unlike E0 (QM Z jX9_unlike (pI Z o a (fun z M2 => z = A_unlike D p q ∧ Pers D M2))) 117 [.ref o, .int (iI p), .int (iI q), .int (iI (txtN D (tkB D p))), .int (iI (txtN D (tkB D q))), .int (iI h), .int (iI i)] [] (mW Z o a Mq) 0 0 := by
                        intro fuel
                        induction fuel with
                        | zero => intros; exfalso; omega
                        | succ fuel ih3 =>
                          intro h i hfu hi0 hi1 hh
                          by_cases hlt : i < D 9 0
                          · refine g_iload dX9_unlike_117 rfl ?_
                            refine g_aload_n 0 dX9_unlike_119 rfl rfl ?_
                            refine mg_9 ((hP.fx hF SC14).at 9 (by decide) _) dX9_unlike_120 rfl ?_
                            refine gi_icmp_ge 161 dX9_unlike_123 (by decide) (by first | exact hM _ _ | exact bI_Rg _ | exact ⟨by omega, by omega⟩) (by first | exact hM _ _ | exact bI_Rg _ | exact ⟨by omega, by omega⟩) (fun c123 => ?_) (fun c123 => ?_)
                            · exfalso; omega
                            · refine g_iload dX9_unlike_126 rfl ?_
                              refine gi_if_eq 152 dX9_unlike_128 (by decide) (by rw [hh]; exact bI_Rg _) (fun c128 => ?_) (fun c128 => ?_)
                              · refine g_iconst (iI 0) dX9_unlike_152 rfl ?_
                                refine g_istore dX9_unlike_153 (Nat.le_of_ble_eq_true rfl) (Nat.le_of_ble_eq_true rfl) rfl ?_
                                dsimp only [sto]
                                refine gi_inc dX9_unlike_155 rfl (Nat.le_of_ble_eq_true rfl) rfl ?_
                                dsimp only [sto]
                                refine g_goto 117 dX9_unlike_158 (by decide) ?_
                                exact ih3 _ _ (by omega) (by omega) (by omega) (by
                                  rw [show (i + 1).toNat = i.toNat + 1 by omega, allB, show (0 : Int) + ((i.toNat : Nat) : Int) = i by omega]
                                  exact bI_and_l (by rw [← hh]; exact c128))
                              · refine g_aload_n 0 dX9_unlike_131 rfl rfl ?_
                                refine mg_25 dX9_unlike_132 rfl ?_
                                refine g_iload dX9_unlike_135 rfl ?_
                                refine ml_25 (h25 i (by omega) (by omega)) dX9_unlike_137 (by omega) (by omega) ?_
                                refine g_aload_n 0 dX9_unlike_138 rfl rfl ?_
                                refine mg_14 dX9_unlike_139 rfl ?_
                                refine g_iload dX9_unlike_142 rfl ?_
                                refine ml_14 (hS.1 i (by omega) (by omega)) dX9_unlike_144 (by omega) (by omega) ?_
                                refine gi_icmp_ne 152 dX9_unlike_145 (by decide) (bI_Rg _) (bI_Rg _) (fun c145 => ?_) (fun c145 => ?_)
                                · refine g_iconst (iI 0) dX9_unlike_152 rfl ?_
                                  refine g_istore dX9_unlike_153 (Nat.le_of_ble_eq_true rfl) (Nat.le_of_ble_eq_true rfl) rfl ?_
                                  dsimp only [sto]
                                  refine gi_inc dX9_unlike_155 rfl (Nat.le_of_ble_eq_true rfl) rfl ?_
                                  dsimp only [sto]
                                  refine g_goto 117 dX9_unlike_158 (by decide) ?_
                                  exact ih3 _ _ (by omega) (by omega) (by omega) (by
                                    rw [show (i + 1).toNat = i.toNat + 1 by omega, allB, show (0 : Int) + ((i.toNat : Nat) : Int) = i by omega]
                                    exact bI_and_r (by unfold sameB; rw [decide_eq_false (fun e => c145 (by rw [e]))]; rfl))
                                · refine g_iconst (iI 1) dX9_unlike_148 rfl ?_
                                  refine g_goto 153 dX9_unlike_149 (by decide) ?_
                                  refine g_istore dX9_unlike_153 (Nat.le_of_ble_eq_true rfl) (Nat.le_of_ble_eq_true rfl) rfl ?_
                                  dsimp only [sto]
                                  refine gi_inc dX9_unlike_155 rfl (Nat.le_of_ble_eq_true rfl) rfl ?_
                                  dsimp only [sto]
                                  refine g_goto 117 dX9_unlike_158 (by decide) ?_
                                  exact ih3 _ _ (by omega) (by omega) (by omega) (by
                                    rw [show (i + 1).toNat = i.toNat + 1 by omega, allB, show (0 : Int) + ((i.toNat : Nat) : Int) = i by omega]
                                    exact bI_and_t (by rw [← hh]; exact c128) (by unfold sameB; rw [decide_eq_true (by cases h1 : tkB D p i <;> cases h2 : tkB D q i <;> simp_all [bI])]; decide))
                          · refine g_iload dX9_unlike_117 rfl ?_
                            refine g_aload_n 0 dX9_unlike_119 rfl rfl ?_
                            refine mg_9 ((hP.fx hF SC14).at 9 (by decide) _) dX9_unlike_120 rfl ?_
                            refine gi_icmp_ge 161 dX9_unlike_123 (by decide) (by first | exact hM _ _ | exact bI_Rg _ | exact ⟨by omega, by omega⟩) (by first | exact hM _ _ | exact bI_Rg _ | exact ⟨by omega, by omega⟩) (fun c123 => ?_) (fun c123 => ?_)
                            · have hall : h = bI (allB (sameB (tkB D p) (tkB D q)) 0 (D 9 0).toNat) := by rw [hh, show i = D 9 0 by omega]
                              refine g_iload dX9_unlike_161 rfl ?_
                              refine gi_if_eq 168 dX9_unlike_163 (by decide) (by rw [hh]; exact bI_Rg _) (fun c163 => ?_) (fun c163 => ?_)
                              · refine g_iconst (iI 0) dX9_unlike_168 rfl ?_
                                refine g_istore dX9_unlike_169 (Nat.le_of_ble_eq_true rfl) (Nat.le_of_ble_eq_true rfl) rfl ?_
                                dsimp only [sto]
                                have hdf : allB (sameB (tkB D p) (tkB D q)) 0 (D 9 0).toNat = false := bI_eq0.mp (by rw [← hall]; exact c163)
                                have loop4 : ∀ (fuel : Nat) (i : Int), i + fuel = 800 → 0 ≤ i → unF (eqX D (tkB D p) (tkB D q)) 800 0 = unF (eqX D (tkB D p) (tkB D q)) fuel i → G Z jX9_unlike E0 (QM Z jX9_unlike (pI Z o a (fun z M2 => z = A_unlike D p q ∧ Pers D M2))) 171 [.ref o, .int (iI p), .int (iI q), .int (iI (txtN D (tkB D p))), .int (iI (txtN D (tkB D q))), .int (iI h), .int (iI i)] [] (mW Z o a Mq) 0 0 := by
                                  intro fuel
                                  induction fuel with
                                  | zero =>
                                    intro i hfu hi0 hun
                                    have hTp := txtN_rg hD hO hCp
                                    refine g_iload dX9_unlike_171 rfl ?_
                                    refine g_iload_n 3 dX9_unlike_173 rfl rfl ?_
                                    refine gi_icmp_ge 231 dX9_unlike_174 (by decide) (by exact ⟨by omega, by omega⟩) (by exact ⟨by omega, by omega⟩) (fun c174 => ?_) (fun c174 => ?_)
                                    · refine g_iload dX9_unlike_231 rfl ?_
                                      refine g_iconst (iI 1) dX9_unlike_233 rfl ?_
                                      refine gi_add dX9_unlike_234 ?_
                                      refine g_iret dX9_unlike_235 rfl (Nat.le_of_ble_eq_true rfl) (Nat.le_of_ble_eq_true rfl) ⟨_, _, rfl, rfl, ?_⟩
                                      refine ⟨?_, (hP.fx hF SC14)⟩
                                      unfold A_unlike
                                      rw [if_pos ⟨hp2, hq2⟩, hdf, if_neg (by decide), hun]
                                      rfl
                                    · exfalso; omega
                                  | succ fuel ih =>
                                    intro i hfu hi0 hun
                                    refine g_iload dX9_unlike_171 rfl ?_
                                    refine g_iload_n 3 dX9_unlike_173 rfl rfl ?_
                                    refine gi_icmp_ge 231 dX9_unlike_174 (by decide) (by first | exact hM _ _ | exact bI_Rg _ | exact ⟨by omega, by omega⟩) (by first | exact hM _ _ | exact bI_Rg _ | exact ⟨by omega, by omega⟩) (fun c174 => ?_) (fun c174 => ?_)
                                    · refine g_iload dX9_unlike_231 rfl ?_
                                      refine g_iconst (iI 1) dX9_unlike_233 rfl ?_
                                      refine gi_add dX9_unlike_234 ?_
                                      refine g_iret dX9_unlike_235 rfl (Nat.le_of_ble_eq_true rfl) (Nat.le_of_ble_eq_true rfl) ⟨_, _, rfl, rfl, ?_⟩
                                      refine ⟨?_, (hP.fx hF SC14)⟩
                                      unfold A_unlike
                                      rw [if_pos ⟨hp2, hq2⟩, hdf, if_neg (by decide), hun, unF_stop (decide_eq_false (fun hh => absurd hh.1.1 (by omega)))]
                                    · refine g_iload dX9_unlike_177 rfl ?_
                                      refine g_iload dX9_unlike_179 rfl ?_
                                      refine gi_icmp_ge 231 dX9_unlike_181 (by decide) (by first | exact hM _ _ | exact bI_Rg _ | exact ⟨by omega, by omega⟩) (by first | exact hM _ _ | exact bI_Rg _ | exact ⟨by omega, by omega⟩) (fun c181 => ?_) (fun c181 => ?_)
                                      · refine g_iload dX9_unlike_231 rfl ?_
                                        refine g_iconst (iI 1) dX9_unlike_233 rfl ?_
                                        refine gi_add dX9_unlike_234 ?_
                                        refine g_iret dX9_unlike_235 rfl (Nat.le_of_ble_eq_true rfl) (Nat.le_of_ble_eq_true rfl) ⟨_, _, rfl, rfl, ?_⟩
                                        refine ⟨?_, (hP.fx hF SC14)⟩
                                        unfold A_unlike
                                        rw [if_pos ⟨hp2, hq2⟩, hdf, if_neg (by decide), hun, unF_stop (decide_eq_false (fun hh => absurd hh.1.2 (by omega)))]
                                      · refine g_aload_n 0 dX9_unlike_184 rfl rfl ?_
                                        refine mg_16 dX9_unlike_185 rfl ?_
                                        refine g_aload_n 0 dX9_unlike_188 rfl rfl ?_
                                        refine g_iload dX9_unlike_189 rfl ?_
                                        refine mcI lkX9_156 (c_atPlaceF Z o a (hP.fx hF SC14) hM hD hO hCq hS i (by omega) (by omega)) dX9_unlike_191 rfl (And.intro (Nat.le_of_ble_eq_true rfl) (Nat.le_of_ble_eq_true rfl)) rfl (Nat.le_of_ble_eq_true rfl) rfl rfl (Nat.le_of_ble_eq_true rfl) (Nat.le_of_ble_eq_true rfl) (fun z191 M191 h191 => ?_)
                                        obtain ⟨q1, q2⟩ := h191
                                        rw [q1, q2]
                                        have hat := atF_in (D := D) (T := tkB D q) (x := i) (by omega) (by omega)
                                        have hfo := fF_ord hD hO (T := tkB D q) hat.1 hat.2.1
                                        have hatp := atF_in (D := D) (T := tkB D p) (x := i) (by omega) (by omega)
                                        have hfop := fF_ord hD hO (T := tkB D p) hatp.1 hatp.2.1
                                        have htq := tinF_rg D (tkB D q) (atF D (tkB D q) i)
                                        have htp := tinF_rg D (tkB D p) (atF D (tkB D p) i)
                                        refine ml_16 (OL_fF hS.2.2.1 hat.1 hat.2.1) dX9_unlike_194 hat.1 (by omega) ?_
                                        refine g_aload_n 0 dX9_unlike_195 rfl rfl ?_
                                        refine mg_26 dX9_unlike_196 rfl ?_
                                        refine g_iload dX9_unlike_199 rfl ?_
                                        refine ml_26 (h26 i (by omega) (by omega)) dX9_unlike_201 (by omega) (by omega) ?_
                                        refine gi_icmp_ne 231 dX9_unlike_202 (by decide) (by exact ⟨by omega, by omega⟩) (by unfold nmX; exact ⟨by omega, by omega⟩) (fun c202 => ?_) (fun c202 => ?_)
                                        · refine g_iload dX9_unlike_231 rfl ?_
                                          refine g_iconst (iI 1) dX9_unlike_233 rfl ?_
                                          refine gi_add dX9_unlike_234 ?_
                                          refine g_iret dX9_unlike_235 rfl (Nat.le_of_ble_eq_true rfl) (Nat.le_of_ble_eq_true rfl) ⟨_, _, rfl, rfl, ?_⟩
                                          refine ⟨?_, (hP.fx hF SC14)⟩
                                          unfold A_unlike
                                          rw [if_pos ⟨hp2, hq2⟩, hdf, if_neg (by decide), hun, unF_stop (decide_eq_false (fun hh => c202 hh.2.1))]
                                        · refine g_aload_n 0 dX9_unlike_205 rfl rfl ?_
                                          refine g_aload_n 0 dX9_unlike_206 rfl rfl ?_
                                          refine g_iload dX9_unlike_207 rfl ?_
                                          refine mcI lkX9_156 (c_atPlaceF Z o a (hP.fx hF SC14) hM hD hO hCq hS i (by omega) (by omega)) dX9_unlike_209 rfl (And.intro (Nat.le_of_ble_eq_true rfl) (Nat.le_of_ble_eq_true rfl)) rfl (Nat.le_of_ble_eq_true rfl) rfl rfl (Nat.le_of_ble_eq_true rfl) (Nat.le_of_ble_eq_true rfl) (fun z209 M209 h209 => ?_)
                                          obtain ⟨q3, q4⟩ := h209
                                          rw [q3, q4]
                                          refine mcI lkX9_176 (c_tintsOf Z o a (hP.fx hF SC14) hM hD hO (tkB D q) hCq hS _ (by omega) (by omega)) dX9_unlike_212 rfl (And.intro (Nat.le_of_ble_eq_true rfl) (Nat.le_of_ble_eq_true rfl)) rfl (Nat.le_of_ble_eq_true rfl) rfl rfl (Nat.le_of_ble_eq_true rfl) (Nat.le_of_ble_eq_true rfl) (fun z212 M212 h212 => ?_)
                                          obtain ⟨q5, q6⟩ := h212
                                          rw [q5, q6]
                                          refine g_aload_n 0 dX9_unlike_215 rfl rfl ?_
                                          refine mg_27 dX9_unlike_216 rfl ?_
                                          refine g_iload dX9_unlike_219 rfl ?_
                                          refine ml_27 (h27 i (by omega) (by omega)) dX9_unlike_221 (by omega) (by omega) ?_
                                          refine gi_icmp_ne 231 dX9_unlike_222 (by decide) (by exact ⟨by omega, by omega⟩) (by unfold tnX; exact ⟨by omega, by omega⟩) (fun c222 => ?_) (fun c222 => ?_)
                                          · refine g_iload dX9_unlike_231 rfl ?_
                                            refine g_iconst (iI 1) dX9_unlike_233 rfl ?_
                                            refine gi_add dX9_unlike_234 ?_
                                            refine g_iret dX9_unlike_235 rfl (Nat.le_of_ble_eq_true rfl) (Nat.le_of_ble_eq_true rfl) ⟨_, _, rfl, rfl, ?_⟩
                                            refine ⟨?_, (hP.fx hF SC14)⟩
                                            unfold A_unlike
                                            rw [if_pos ⟨hp2, hq2⟩, hdf, if_neg (by decide), hun, unF_stop (decide_eq_false (fun hh => c222 hh.2.2))]
                                          · refine gi_inc dX9_unlike_225 rfl (Nat.le_of_ble_eq_true rfl) rfl ?_
                                            dsimp only [sto]
                                            refine g_goto 171 dX9_unlike_228 (by decide) ?_
                                            exact ih _ (by omega) (by omega) (by
                                              rw [hun, unF, show eqX D (tkB D p) (tkB D q) i = true from decide_eq_true ⟨⟨by omega, by omega⟩, by unfold nmX; exact c202, by unfold tnX; exact c222⟩, if_pos rfl])
                                exact loop4 800 0 (by omega) (by omega) rfl
                              · refine g_iconst (iI 0) dX9_unlike_166 rfl ?_
                                refine g_iret dX9_unlike_167 rfl (Nat.le_of_ble_eq_true rfl) (Nat.le_of_ble_eq_true rfl) ⟨_, _, rfl, rfl, ?_⟩
                                refine ⟨?_, (hP.fx hF SC14)⟩
                                unfold A_unlike
                                rw [if_pos ⟨hp2, hq2⟩, if_pos (by cases hb : allB (sameB (tkB D p) (tkB D q)) 0 (D 9 0).toNat <;> simp_all [bI])]
                            · exfalso; omega
                      exact loop3 ((D 9 0).toNat + 1) 1 0 (by omega) (by omega) (by omega) rfl
                    · exfalso; omega
              exact loop2 ((D 9 0).toNat + 1) 0 _ (by omega) (by omega) (by omega) hF hS (fun j a1 a2 => h26 j a1 (by omega)) (fun j a1 a2 => h27 j a1 (by omega)) (fun u a1 a2 => by omega)
            · exfalso; omega
      exact loop1 ((txtN D (tkB D p)).toNat + 1) 0 _ (by omega) (by omega) (by omega) (hF18.sub (by decide)) hS18 (fun j a1 a2 => by omega) (fun j a1 a2 => by omega)
    · have hq2 := penB_f c11
      refine g_iconst (iI (-1)) dX9_unlike_14 rfl ?_
      refine g_iret dX9_unlike_15 rfl (Nat.le_of_ble_eq_true rfl) (Nat.le_of_ble_eq_true rfl) ⟨_, _, rfl, rfl, ?_⟩
      refine ⟨?_, hP⟩
      unfold A_unlike
      rw [if_neg (fun h => hq2 h.2)]
