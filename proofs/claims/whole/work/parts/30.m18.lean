/-! THE REFERENCE: all, unlike -/
def alG (D : Mem) (T : Int → Bool) (t k z : Int) : Int := if 256 * t ≤ z ∧ z < 256 * t + k then (if D 10 z ≠ 0 ∨ T (z - 256 * t) = true then 1 else 0) else D 10 z
def alD (D : Mem) (T : Int → Bool) (t k : Int) : Mem := fun r => if r = 10 then alG D T t k else D r
theorem alD_ne {D : Mem} {T : Int → Bool} {t k : Int} {r : Nat} (h : r ≠ 10) : alD D T t k r = D r := by unfold alD; rw [if_neg h]
theorem alD_10 {D : Mem} {T : Int → Bool} {t k : Int} : alD D T t k 10 = alG D T t k := by unfold alD; rw [if_pos rfl]
theorem okP_al {D : Mem} (hD : okP D) (T : Int → Bool) (t k : Int) : okP (alD D T t k) := by
  obtain ⟨h1, h2, h3, h4, h5⟩ := hD
  have h10 : ∀ z, alD D T t k 10 z = 0 ∨ alD D T t k 10 z = 1 := by
    intro z
    rw [alD_10]
    unfold alG
    split
    · split
      · exact Or.inr rfl
      · exact Or.inl rfl
    · exact h5 z
  refine ⟨fun r z => ?_, h2, h3, h4, h10⟩
  by_cases e : r = 10
  · subst e; rcases h10 z with h | h <;> rw [h] <;> exact ⟨by decide, by decide⟩
  · rw [alD_ne e]; exact h1 r z
def A_all (D : Mem) (f t : Int) : Int × Mem := if (0 ≤ f ∧ f < 6) ∧ (0 ≤ t ∧ t < 6) then (cntB (tkB (alD D (tkB D f) t (D 9 0)) t) (D 9 0).toNat - cntB (tkB D t) (D 9 0).toNat, ms (alD D (tkB D f) t (D 9 0)) 13 0 0) else (-1, ms D 13 0 1)
set_option maxHeartbeats 4000000 in
set_option maxRecDepth 100000 in
/-- all -/
theorem c_all (Z : LZ) (o : Nat) (a : Nat → Nat) {D M : Mem} (hP : Pers D M) (hM : RM D) (hD : okP D) (hO : okO D (D 9 0).toNat) (f t : Int) (hf : Rg f) (ht : Rg t)  : Tm Z o a jX9_all [f, t] M (fun z M2 => z = (A_all D f t).1 ∧ Pers (A_all D f t).2 M2) := by
  refine tr_of pn_X9_all (Nat.le_of_ble_eq_true rfl) (vI_catO o _) ?_
  show G Z jX9_all E0 (QM Z jX9_all (pI Z o a (fun z M2 => z = (A_all D f t).1 ∧ Pers (A_all D f t).2 M2))) 0 [.ref o, .int (iI f), .int (iI t)] [] (mW Z o a M) 0 0
  have hn := hD.2.1
  have r1 := cntB_rg (tkB D t) (D 9 0).toNat
  refine g_iload_n 1 dX9_all_0 rfl rfl ?_
  refine mcS lkX9_147 (c_isPen Z o a _ f (by first | assumption | exact ⟨by omega, by omega⟩)) dX9_all_1 rfl (And.intro (Nat.le_of_ble_eq_true rfl) (Nat.le_of_ble_eq_true rfl)) (Nat.le_of_ble_eq_true rfl) rfl rfl (Nat.le_of_ble_eq_true rfl) (Nat.le_of_ble_eq_true rfl) (fun z1 h1 => ?_)
  rw [h1]
  refine gi_if_eq 14 dX9_all_4 (by decide) (by first | exact hM _ _ | exact bI_Rg _ | exact ⟨by omega, by omega⟩) (fun c4 => ?_) (fun c4 => ?_)
  · have hf2 := penB_f c4
    refine g_aload_n 0 dX9_all_14 rfl rfl ?_
    refine g_iconst (iI 1) dX9_all_15 rfl ?_
    refine mcI lkX9_150 (c_refuse Z o a _ _) dX9_all_16 rfl (And.intro (Nat.le_of_ble_eq_true rfl) (Nat.le_of_ble_eq_true rfl)) rfl (Nat.le_of_ble_eq_true rfl) rfl rfl (Nat.le_of_ble_eq_true rfl) (Nat.le_of_ble_eq_true rfl) (fun z16 M16 h16 => ?_)
    obtain ⟨q1, q2⟩ := h16
    rw [q1, q2]
    refine g_iret dX9_all_19 rfl (Nat.le_of_ble_eq_true rfl) (Nat.le_of_ble_eq_true rfl) ⟨_, _, rfl, rfl, ?_⟩
    unfold A_all
    rw [if_neg (fun h => hf2 h.1)]
    exact ⟨rfl, Pers_fin hP _⟩
  · have hf2 := penB_t c4
    refine g_iload_n 2 dX9_all_7 rfl rfl ?_
    refine mcS lkX9_147 (c_isPen Z o a _ t (by first | assumption | exact ⟨by omega, by omega⟩)) dX9_all_8 rfl (And.intro (Nat.le_of_ble_eq_true rfl) (Nat.le_of_ble_eq_true rfl)) (Nat.le_of_ble_eq_true rfl) rfl rfl (Nat.le_of_ble_eq_true rfl) (Nat.le_of_ble_eq_true rfl) (fun z8 h8 => ?_)
    rw [h8]
    refine gi_if_ne 20 dX9_all_11 (by decide) (by first | exact hM _ _ | exact bI_Rg _ | exact ⟨by omega, by omega⟩) (fun c11 => ?_) (fun c11 => ?_)
    · have ht2 := penB_t c11
      refine g_aload_n 0 dX9_all_20 rfl rfl ?_
      refine g_iload_n 1 dX9_all_21 rfl rfl ?_
      refine mcI lkX9_131 (c_findTaken Z o a hP hM hD f (by omega) (by omega)) dX9_all_22 rfl (And.intro (Nat.le_of_ble_eq_true rfl) (Nat.le_of_ble_eq_true rfl)) rfl (Nat.le_of_ble_eq_true rfl) rfl rfl (Nat.le_of_ble_eq_true rfl) (Nat.le_of_ble_eq_true rfl) (fun z22 M22 h22 => ?_)
      obtain ⟨q22, hF22, hT22⟩ := h22
      refine g_pop dX9_all_25 rfl ?_
      refine g_iconst (iI 0) dX9_all_26 rfl ?_
      refine g_istore_n 3 dX9_all_27 rfl (Nat.le_of_ble_eq_true rfl) (Nat.le_of_ble_eq_true rfl) rfl ?_
      dsimp only [sto]
      have loop : ∀ (fuel : Nat) (s : Int) (Mq : Mem), D 9 0 - s < fuel → 0 ≤ s → s ≤ D 9 0 → Fx [14, 19, 20, 25] M Mq → (∀ u, 0 ≤ u → u < D 9 0 → Mq 14 u = bI (tkB D f u)) → (∀ u, 0 ≤ u → u < s → Mq 25 u = bI (tkB D f u)) → G Z jX9_all E0 (QM Z jX9_all (pI Z o a (fun z M2 => z = (A_all D f t).1 ∧ Pers (A_all D f t).2 M2))) 28 [.ref o, .int (iI f), .int (iI t), .int (iI s)] [] (mW Z o a Mq) 0 0 := by
        intro fuel
        induction fuel with
        | zero => intros; exfalso; omega
        | succ fuel ih =>
          intro s Mq hfu hs0 hs1 hF hT h25
          by_cases hlt : s < D 9 0
          · refine g_iload_n 3 dX9_all_28 rfl rfl ?_
            refine g_aload_n 0 dX9_all_29 rfl rfl ?_
            refine mg_9 ((hP.fx hF (by decide)).at 9 (by decide) _) dX9_all_30 rfl ?_
            refine gi_icmp_ge 54 dX9_all_33 (by decide) (by first | exact hM _ _ | exact bI_Rg _ | exact ⟨by omega, by omega⟩) (by first | exact hM _ _ | exact bI_Rg _ | exact ⟨by omega, by omega⟩) (fun c33 => ?_) (fun c33 => ?_)
            · exfalso; omega
            · refine g_aload_n 0 dX9_all_36 rfl rfl ?_
              refine mg_25 dX9_all_37 rfl ?_
              refine g_iload_n 3 dX9_all_40 rfl rfl ?_
              refine g_aload_n 0 dX9_all_41 rfl rfl ?_
              refine mg_14 dX9_all_42 rfl ?_
              refine g_iload_n 3 dX9_all_45 rfl rfl ?_
              refine ml_14 (hT s (by omega) (by omega)) dX9_all_46 (by omega) (by omega) ?_
              refine mt_25 dX9_all_47 (by omega) (by omega) (bI_01 _) ?_
              refine gi_inc dX9_all_48 rfl (Nat.le_of_ble_eq_true rfl) rfl ?_
              dsimp only [sto]
              refine g_goto 28 dX9_all_51 (by decide) ?_
              exact ih _ _ (by omega) (by omega) (by omega) (hF.ms (by decide)) (fun u a1 a2 => by rw [ms_row (by decide)]; exact hT u a1 a2) (fun u a1 a2 => by
                by_cases e : u = s
                · subst e; rw [ms_at]
                · rw [ms_off e]; exact h25 u a1 (by omega))
          · refine g_iload_n 3 dX9_all_28 rfl rfl ?_
            refine g_aload_n 0 dX9_all_29 rfl rfl ?_
            refine mg_9 ((hP.fx hF (by decide)).at 9 (by decide) _) dX9_all_30 rfl ?_
            refine gi_icmp_ge 54 dX9_all_33 (by decide) (by first | exact hM _ _ | exact bI_Rg _ | exact ⟨by omega, by omega⟩) (by first | exact hM _ _ | exact bI_Rg _ | exact ⟨by omega, by omega⟩) (fun c33 => ?_) (fun c33 => ?_)
            · refine g_aload_n 0 dX9_all_54 rfl rfl ?_
              refine g_iload_n 2 dX9_all_55 rfl rfl ?_
              refine mcI lkX9_131 (c_findTaken Z o a (hP.fx hF (by decide)) hM hD t (by omega) (by omega)) dX9_all_56 rfl (And.intro (Nat.le_of_ble_eq_true rfl) (Nat.le_of_ble_eq_true rfl)) rfl (Nat.le_of_ble_eq_true rfl) rfl rfl (Nat.le_of_ble_eq_true rfl) (Nat.le_of_ble_eq_true rfl) (fun z56 M56 h56 => ?_)
              obtain ⟨q56, hF56, hT56⟩ := h56
              rw [q56]
              have hP56 := (hP.fx hF (by decide)).fx hF56 (by decide)
              refine g_istore_n 3 dX9_all_59 rfl (Nat.le_of_ble_eq_true rfl) (Nat.le_of_ble_eq_true rfl) rfl ?_
              dsimp only [sto]
              refine g_iconst (iI 0) dX9_all_60 rfl ?_
              refine g_istore dX9_all_61 (Nat.le_of_ble_eq_true rfl) (Nat.le_of_ble_eq_true rfl) rfl ?_
              dsimp only [sto]
              have loop2 : ∀ (fuel : Nat) (s : Int) (Mq : Mem), D 9 0 - s < fuel → 0 ≤ s → s ≤ D 9 0 → Pers (alD D (tkB D f) t s) Mq → (∀ u, 0 ≤ u → u < D 9 0 → Mq 25 u = bI (tkB D f u)) → G Z jX9_all E0 (QM Z jX9_all (pI Z o a (fun z M2 => z = (A_all D f t).1 ∧ Pers (A_all D f t).2 M2))) 63 [.ref o, .int (iI f), .int (iI t), .int (iI (cntB (tkB D t) (D 9 0).toNat)), .int (iI s)] [] (mW Z o a Mq) 0 0 := by
                intro fuel
                induction fuel with
                | zero => intros; exfalso; omega
                | succ fuel ih =>
                  intro s Mq hfu hs0 hs1 hPq h25
                  have hgot : Mq 10 (256 * t + s) = D 10 (256 * t + s) := by
                    rw [hPq 10 (by decide), alD_10]
                    unfold alG
                    rw [if_neg (by omega)]
                  by_cases hlt : s < D 9 0
                  · have mid : ∀ w : Int, w = (if D 10 (256 * t + s) ≠ 0 ∨ tkB D f s = true then 1 else 0) → G Z jX9_all E0 (QM Z jX9_all (pI Z o a (fun z M2 => z = (A_all D f t).1 ∧ Pers (A_all D f t).2 M2))) 115 [.ref o, .int (iI f), .int (iI t), .int (iI (cntB (tkB D t) (D 9 0).toNat)), .int (iI s)] [.int (iI w), .int (iI (256 * t + s)), .ref (a 10)] (mW Z o a Mq) 0 0 := by
                      intro w hw
                      refine mt_10 dX9_all_115 (by omega) (by omega) (by rw [hw]; split <;> simp) ?_
                      refine gi_inc dX9_all_116 rfl (Nat.le_of_ble_eq_true rfl) rfl ?_
                      dsimp only [sto]
                      refine g_goto 63 dX9_all_119 (by decide) ?_
                      exact ih _ _ (by omega) (by omega) (by omega) (by
                        intro r hr
                        by_cases e : r = 10
                        · subst e
                          rw [ms_eq, hPq 10 (by decide), alD_10, alD_10]
                          funext y
                          unfold upI alG
                          by_cases ey : y = 256 * t + s
                          · subst ey
                            rw [if_pos rfl, if_pos (show 256 * t ≤ 256 * t + s ∧ 256 * t + s < 256 * t + (s + 1) by omega), hw, show 256 * t + s - 256 * t = s by omega]
                          · rw [if_neg ey]
                            by_cases e2 : 256 * t ≤ y ∧ y < 256 * t + s
                            · rw [if_pos e2, if_pos (show 256 * t ≤ y ∧ y < 256 * t + (s + 1) by omega)]
                            · rw [if_neg e2, if_neg (show ¬ (256 * t ≤ y ∧ y < 256 * t + (s + 1)) by omega)]
                        · rw [ms_ne e, hPq r hr, alD_ne e, alD_ne e]) (fun u a1 a2 => by rw [ms_row (by decide)]; exact h25 u a1 a2)
                    refine g_iload dX9_all_63 rfl ?_
                    refine g_aload_n 0 dX9_all_65 rfl rfl ?_
                    refine mg_9 (show Mq 9 0 = D 9 0 from hPq.at 9 (by decide) 0) dX9_all_66 rfl ?_
                    refine gi_icmp_ge 122 dX9_all_69 (by decide) (by exact ⟨by omega, by omega⟩) (by exact ⟨by omega, by omega⟩) (fun c69 => ?_) (fun c69 => ?_)
                    · exfalso; omega
                    · refine g_aload_n 0 dX9_all_72 rfl rfl ?_
                      refine mg_10 dX9_all_73 rfl ?_
                      refine g_sipush (iI 256) dX9_all_76 (by decide) ?_
                      refine g_iload_n 2 dX9_all_79 rfl rfl ?_
                      refine gi_mul dX9_all_80 ?_
                      refine g_iload dX9_all_81 rfl ?_
                      refine gi_add dX9_all_83 ?_
                      refine g_aload_n 0 dX9_all_84 rfl rfl ?_
                      refine mg_10 dX9_all_85 rfl ?_
                      refine g_sipush (iI 256) dX9_all_88 (by decide) ?_
                      refine g_iload_n 2 dX9_all_91 rfl rfl ?_
                      refine gi_mul dX9_all_92 ?_
                      refine g_iload dX9_all_93 rfl ?_
                      refine gi_add dX9_all_95 ?_
                      refine ml_10 hgot dX9_all_96 (by omega) (by omega) ?_
                      refine gi_if_ne 110 dX9_all_97 (by decide) (hM _ _) (fun c97 => ?_) (fun c97 => ?_)
                      · refine g_iconst (iI 1) dX9_all_110 rfl ?_
                        refine g_goto 115 dX9_all_111 (by decide) ?_
                        exact mid _ (by
                          rw [if_pos (Or.inl c97)])
                      · refine g_aload_n 0 dX9_all_100 rfl rfl ?_
                        refine mg_25 dX9_all_101 rfl ?_
                        refine g_iload dX9_all_104 rfl ?_
                        refine ml_25 (h25 s (by omega) (by omega)) dX9_all_106 (by omega) (by omega) ?_
                        refine gi_if_eq 114 dX9_all_107 (by decide) (by first | exact hM _ _ | exact bI_Rg _ | exact ⟨by omega, by omega⟩) (fun c107 => ?_) (fun c107 => ?_)
                        · refine g_iconst (iI 0) dX9_all_114 rfl ?_
                          exact mid _ (by
                            rw [if_neg (fun h => by
                              rcases h with h | h
                              · exact h c97
                              · rw [h] at c107; exact absurd c107 (by decide))])
                        · refine g_iconst (iI 1) dX9_all_110 rfl ?_
                          refine g_goto 115 dX9_all_111 (by decide) ?_
                          exact mid _ (by
                            rw [if_pos (Or.inr (by cases hb : tkB D f s <;> simp_all [bI]))])
                  · have hD2 := okP_al hD (tkB D f) t s
                    have r2 := cntB_rg (tkB (alD D (tkB D f) t s) t) ((alD D (tkB D f) t s) 9 0).toNat
                    refine g_iload dX9_all_63 rfl ?_
                    refine g_aload_n 0 dX9_all_65 rfl rfl ?_
                    refine mg_9 (show Mq 9 0 = D 9 0 from hPq.at 9 (by decide) 0) dX9_all_66 rfl ?_
                    refine gi_icmp_ge 122 dX9_all_69 (by decide) (by exact ⟨by omega, by omega⟩) (by exact ⟨by omega, by omega⟩) (fun c69 => ?_) (fun c69 => ?_)
                    · refine g_aload_n 0 dX9_all_122 rfl rfl ?_
                      refine g_aload_n 0 dX9_all_123 rfl rfl ?_
                      refine g_iload_n 2 dX9_all_124 rfl rfl ?_
                      refine mcI lkX9_131 (c_findTaken Z o a hPq (okP.rm hD2) hD2 t (by omega) (by omega)) dX9_all_125 rfl (And.intro (Nat.le_of_ble_eq_true rfl) (Nat.le_of_ble_eq_true rfl)) rfl (Nat.le_of_ble_eq_true rfl) rfl rfl (Nat.le_of_ble_eq_true rfl) (Nat.le_of_ble_eq_true rfl) (fun z125 M125 h125 => ?_)
                      obtain ⟨q125, hF125, hT125⟩ := h125
                      rw [q125]
                      have hP125 := hPq.fx hF125 (by decide)
                      refine g_iload_n 3 dX9_all_128 rfl rfl ?_
                      refine gi_sub dX9_all_129 ?_
                      refine mcI lkX9_163 (c_done Z o a _ _) dX9_all_130 rfl (And.intro (Nat.le_of_ble_eq_true rfl) (Nat.le_of_ble_eq_true rfl)) rfl (Nat.le_of_ble_eq_true rfl) rfl rfl (Nat.le_of_ble_eq_true rfl) (Nat.le_of_ble_eq_true rfl) (fun z130 M130 h130 => ?_)
                      obtain ⟨q1, q2⟩ := h130
                      rw [q1, q2]
                      refine g_iret dX9_all_133 rfl (Nat.le_of_ble_eq_true rfl) (Nat.le_of_ble_eq_true rfl) ⟨_, _, rfl, rfl, ?_⟩
                      unfold A_all
                      rw [if_pos ⟨hf2, ht2⟩]
                      have e : s = D 9 0 := by omega
                      subst e
                      exact ⟨rfl, Pers_fin hP125 _⟩
                    · exfalso; omega
              exact loop2 ((D 9 0).toNat + 1) 0 _ (by omega) (by omega) (by omega) (by
                intro r hr
                by_cases e : r = 10
                · subst e
                  rw [hP56 10 (by decide), alD_10]
                  funext y
                  unfold alG
                  rw [if_neg (by omega)]
                · rw [hP56 r hr, alD_ne e]) (fun u a1 a2 => (hF56.at 25 (by decide) u).trans (h25 u a1 (by omega)))
            · exfalso; omega
      exact loop ((D 9 0).toNat + 1) 0 _ (by omega) (by omega) (by omega) (hF22.sub (by decide)) hT22 (fun u a1 a2 => by omega)
    · have ht2 := penB_f c11
      refine g_aload_n 0 dX9_all_14 rfl rfl ?_
      refine g_iconst (iI 1) dX9_all_15 rfl ?_
      refine mcI lkX9_150 (c_refuse Z o a _ _) dX9_all_16 rfl (And.intro (Nat.le_of_ble_eq_true rfl) (Nat.le_of_ble_eq_true rfl)) rfl (Nat.le_of_ble_eq_true rfl) rfl rfl (Nat.le_of_ble_eq_true rfl) (Nat.le_of_ble_eq_true rfl) (fun z16 M16 h16 => ?_)
      obtain ⟨q1, q2⟩ := h16
      rw [q1, q2]
      refine g_iret dX9_all_19 rfl (Nat.le_of_ble_eq_true rfl) (Nat.le_of_ble_eq_true rfl) ⟨_, _, rfl, rfl, ?_⟩
      unfold A_all
      rw [if_neg (fun h => ht2 h.2)]
      exact ⟨rfl, Pers_fin hP _⟩
