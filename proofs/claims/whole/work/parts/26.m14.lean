/-! THE REFERENCE: carry, undo, cursor -/
theorem okP_got {D : Mem} (hD : okP D) {z v : Int} (hv : v = 0 ∨ v = 1) : okP (ms D 10 z v) := by
  obtain ⟨h1, h2, h3, h4, h5⟩ := hD
  refine ⟨RM_ms h1 (by rcases hv with h | h <;> subst h <;> exact ⟨by decide, by decide⟩), h2, h3, h4, fun y => ?_⟩
  by_cases e : y = z
  · subst e; rw [ms_at]; exact hv
  · rw [ms_off e]; exact h5 y
theorem Pers_ms {D M : Mem} (h : Pers D M) (r : Nat) (z v : Int) : Pers (ms D r z v) (ms M r z v) := by
  intro q hq
  by_cases e : q = r
  · subst e; rw [ms_eq, ms_eq, h q hq]
  · rw [ms_ne e, ms_ne e]; exact h q hq
def A_carry (D : Mem) (s p : Int) : Int × Mem := if (0 ≤ p ∧ p < 6) ∧ (0 ≤ s ∧ s < D 9 0) then (cntB (tkB (ms D 10 (256 * p + s) 1) p) (D 9 0).toNat - cntB (tkB D p) (D 9 0).toNat, ms (ms D 10 (256 * p + s) 1) 13 0 0) else (-1, ms D 13 0 1)
def A_undo (D : Mem) (p s : Int) : Int × Mem := if (0 ≤ p ∧ p < 6) ∧ (0 ≤ s ∧ s < D 9 0) then (if D 0 s ≠ p then (-1, ms D 13 0 3) else if wkB D (tkB D p) s = false then (-1, ms D 13 0 4) else if D 9 0 = 256 then (-1, ms D 13 0 2) else (D 9 0, ms (ms (mkD D p 3 0 (mxF D (tkB D p) (D 9 0).toNat + 1)) 6 (D 9 0) s) 13 0 0)) else (-1, ms D 13 0 1)
def curX (D : Mem) (p q : Int) : Int := if 0 ≤ q ∧ q < txtN D (tkB D p) then fF (ordF D (tkB D p)) (atF D (tkB D p) q) else -2
def A_cursor (D : Mem) (p c q l : Int) : Int × Mem := if ((0 ≤ p ∧ p < 6) ∧ (0 ≤ c ∧ c < 3)) ∧ (0 ≤ q ∧ q ≤ txtN D (tkB D p)) ∧ (0 ≤ l ∧ l ≤ 1) then (1, ms (ms (ms D 11 (3 * p + c) (curX D p (if l = 0 then q - 1 else q))) 12 (3 * p + c) l) 13 0 0) else (-1, ms D 13 0 1)
theorem okP.rm {D : Mem} (h : okP D) : RM D := h.1
set_option maxHeartbeats 4000000 in
set_option maxRecDepth 100000 in
/-- carry -/
theorem c_carry (Z : LZ) (o : Nat) (a : Nat → Nat) {D M : Mem} (hP : Pers D M) (hM : RM D) (hD : okP D) (hO : okO D (D 9 0).toNat) (s p : Int) (hs : Rg s) (hp : Rg p)  : Tm Z o a jX9_carry [s, p] M (fun z M2 => z = (A_carry D s p).1 ∧ Pers (A_carry D s p).2 M2) := by
  refine tr_of pn_X9_carry (Nat.le_of_ble_eq_true rfl) (vI_catO o _) ?_
  show G Z jX9_carry E0 (QM Z jX9_carry (pI Z o a (fun z M2 => z = (A_carry D s p).1 ∧ Pers (A_carry D s p).2 M2))) 0 [.ref o, .int (iI s), .int (iI p)] [] (mW Z o a M) 0 0
  have hn := hD.2.1
  refine g_iload_n 2 dX9_carry_0 rfl rfl ?_
  refine mcS lkX9_147 (c_isPen Z o a _ p (by first | assumption | exact ⟨by omega, by omega⟩)) dX9_carry_1 rfl (And.intro (Nat.le_of_ble_eq_true rfl) (Nat.le_of_ble_eq_true rfl)) (Nat.le_of_ble_eq_true rfl) rfl rfl (Nat.le_of_ble_eq_true rfl) (Nat.le_of_ble_eq_true rfl) (fun z1 h1 => ?_)
  rw [h1]
  refine gi_if_eq 15 dX9_carry_4 (by decide) (by first | exact hM _ _ | exact bI_Rg _ | exact ⟨by omega, by omega⟩) (fun c4 => ?_) (fun c4 => ?_)
  · have hp2 := penB_f c4
    refine g_aload_n 0 dX9_carry_15 rfl rfl ?_
    refine g_iconst (iI 1) dX9_carry_16 rfl ?_
    refine mcI lkX9_150 (c_refuse Z o a _ _) dX9_carry_17 rfl (And.intro (Nat.le_of_ble_eq_true rfl) (Nat.le_of_ble_eq_true rfl)) rfl (Nat.le_of_ble_eq_true rfl) rfl rfl (Nat.le_of_ble_eq_true rfl) (Nat.le_of_ble_eq_true rfl) (fun z17 M17 h17 => ?_)
    obtain ⟨q1, q2⟩ := h17
    rw [q1, q2]
    refine g_iret dX9_carry_20 rfl (Nat.le_of_ble_eq_true rfl) (Nat.le_of_ble_eq_true rfl) ⟨_, _, rfl, rfl, ?_⟩
    unfold A_carry
    rw [if_neg (fun h => hp2 h.1)]
    exact ⟨rfl, Pers_fin hP _⟩
  · have hp2 := penB_t c4
    refine g_aload_n 0 dX9_carry_7 rfl rfl ?_
    refine g_iload_n 1 dX9_carry_8 rfl rfl ?_
    refine mcI lkX9_170 (c_isSlip Z o a hP hM s (by first | assumption | exact ⟨by omega, by omega⟩)) dX9_carry_9 rfl (And.intro (Nat.le_of_ble_eq_true rfl) (Nat.le_of_ble_eq_true rfl)) rfl (Nat.le_of_ble_eq_true rfl) rfl rfl (Nat.le_of_ble_eq_true rfl) (Nat.le_of_ble_eq_true rfl) (fun z9 M9 h9 => ?_)
    obtain ⟨q1, q2⟩ := h9
    rw [q1, q2]
    refine gi_if_ne 21 dX9_carry_12 (by decide) (by first | exact hM _ _ | exact bI_Rg _ | exact ⟨by omega, by omega⟩) (fun c12 => ?_) (fun c12 => ?_)
    · have hs2 := slipB_t c12
      refine g_aload_n 0 dX9_carry_21 rfl rfl ?_
      refine g_iload_n 2 dX9_carry_22 rfl rfl ?_
      refine mcI lkX9_131 (c_findTaken Z o a hP hM hD p (by omega) (by omega)) dX9_carry_23 rfl (And.intro (Nat.le_of_ble_eq_true rfl) (Nat.le_of_ble_eq_true rfl)) rfl (Nat.le_of_ble_eq_true rfl) rfl rfl (Nat.le_of_ble_eq_true rfl) (Nat.le_of_ble_eq_true rfl) (fun z23 M23 h23 => ?_)
      obtain ⟨q23, hF23, hT23⟩ := h23
      rw [q23]
      have hP23 := hP.fx hF23 (by decide)
      have hD2 := okP_got hD (z := 256 * p + s) (v := 1) (Or.inr rfl)
      have r1 := cntB_rg (tkB D p) (D 9 0).toNat
      have r2 := cntB_rg (tkB (ms D 10 (256 * p + s) 1) p) (D 9 0).toNat
      refine g_istore_n 3 dX9_carry_26 rfl (Nat.le_of_ble_eq_true rfl) (Nat.le_of_ble_eq_true rfl) rfl ?_
      dsimp only [sto]
      refine g_aload_n 0 dX9_carry_27 rfl rfl ?_
      refine mg_10 dX9_carry_28 rfl ?_
      refine g_sipush (iI 256) dX9_carry_31 (by decide) ?_
      refine g_iload_n 2 dX9_carry_34 rfl rfl ?_
      refine gi_mul dX9_carry_35 ?_
      refine g_iload_n 1 dX9_carry_36 rfl rfl ?_
      refine gi_add dX9_carry_37 ?_
      refine g_iconst (iI 1) dX9_carry_38 rfl ?_
      refine mt_10 dX9_carry_39 (by omega) (by omega) (by first | exact Or.inl rfl | exact Or.inr rfl | omega) ?_
      refine g_aload_n 0 dX9_carry_40 rfl rfl ?_
      refine g_aload_n 0 dX9_carry_41 rfl rfl ?_
      refine g_iload_n 2 dX9_carry_42 rfl rfl ?_
      refine mcI lkX9_131 (c_findTaken Z o a (Pers_ms hP23 10 (256 * p + s) 1) (okP.rm hD2) hD2 p (by omega) (by omega)) dX9_carry_43 rfl (And.intro (Nat.le_of_ble_eq_true rfl) (Nat.le_of_ble_eq_true rfl)) rfl (Nat.le_of_ble_eq_true rfl) rfl rfl (Nat.le_of_ble_eq_true rfl) (Nat.le_of_ble_eq_true rfl) (fun z43 M43 h43 => ?_)
      obtain ⟨q43, hF43, hT43⟩ := h43
      rw [q43]
      have hP43 := (Pers_ms hP23 10 (256 * p + s) 1).fx hF43 (by decide)
      refine g_iload_n 3 dX9_carry_46 rfl rfl ?_
      refine gi_sub dX9_carry_47 ?_
      refine mcI lkX9_163 (c_done Z o a _ _) dX9_carry_48 rfl (And.intro (Nat.le_of_ble_eq_true rfl) (Nat.le_of_ble_eq_true rfl)) rfl (Nat.le_of_ble_eq_true rfl) rfl rfl (Nat.le_of_ble_eq_true rfl) (Nat.le_of_ble_eq_true rfl) (fun z48 M48 h48 => ?_)
      obtain ⟨q1, q2⟩ := h48
      rw [q1, q2]
      refine g_iret dX9_carry_51 rfl (Nat.le_of_ble_eq_true rfl) (Nat.le_of_ble_eq_true rfl) ⟨_, _, rfl, rfl, ?_⟩
      unfold A_carry
      rw [if_pos ⟨hp2, hs2⟩]
      exact ⟨rfl, Pers_fin hP43 _⟩
    · have hs2 := slipB_f c12
      refine g_aload_n 0 dX9_carry_15 rfl rfl ?_
      refine g_iconst (iI 1) dX9_carry_16 rfl ?_
      refine mcI lkX9_150 (c_refuse Z o a _ _) dX9_carry_17 rfl (And.intro (Nat.le_of_ble_eq_true rfl) (Nat.le_of_ble_eq_true rfl)) rfl (Nat.le_of_ble_eq_true rfl) rfl rfl (Nat.le_of_ble_eq_true rfl) (Nat.le_of_ble_eq_true rfl) (fun z17 M17 h17 => ?_)
      obtain ⟨q1, q2⟩ := h17
      rw [q1, q2]
      refine g_iret dX9_carry_20 rfl (Nat.le_of_ble_eq_true rfl) (Nat.le_of_ble_eq_true rfl) ⟨_, _, rfl, rfl, ?_⟩
      unfold A_carry
      rw [if_neg (fun h => hs2 h.2)]
      exact ⟨rfl, Pers_fin hP _⟩
set_option maxHeartbeats 4000000 in
set_option maxRecDepth 100000 in
/-- undo -/
theorem c_undo (Z : LZ) (o : Nat) (a : Nat → Nat) {D M : Mem} (hP : Pers D M) (hM : RM D) (hD : okP D) (hO : okO D (D 9 0).toNat) (p s : Int) (hp : Rg p) (hs : Rg s)  : Tm Z o a jX9_undo [p, s] M (fun z M2 => z = (A_undo D p s).1 ∧ Pers (A_undo D p s).2 M2) := by
  refine tr_of pn_X9_undo (Nat.le_of_ble_eq_true rfl) (vI_catO o _) ?_
  show G Z jX9_undo E0 (QM Z jX9_undo (pI Z o a (fun z M2 => z = (A_undo D p s).1 ∧ Pers (A_undo D p s).2 M2))) 0 [.ref o, .int (iI p), .int (iI s)] [] (mW Z o a M) 0 0
  have hn := hD.2.1
  refine g_iload_n 1 dX9_undo_0 rfl rfl ?_
  refine mcS lkX9_147 (c_isPen Z o a _ p (by first | assumption | exact ⟨by omega, by omega⟩)) dX9_undo_1 rfl (And.intro (Nat.le_of_ble_eq_true rfl) (Nat.le_of_ble_eq_true rfl)) (Nat.le_of_ble_eq_true rfl) rfl rfl (Nat.le_of_ble_eq_true rfl) (Nat.le_of_ble_eq_true rfl) (fun z1 h1 => ?_)
  rw [h1]
  refine gi_if_eq 15 dX9_undo_4 (by decide) (by first | exact hM _ _ | exact bI_Rg _ | exact ⟨by omega, by omega⟩) (fun c4 => ?_) (fun c4 => ?_)
  · have hp2 := penB_f c4
    refine g_aload_n 0 dX9_undo_15 rfl rfl ?_
    refine g_iconst (iI 1) dX9_undo_16 rfl ?_
    refine mcI lkX9_150 (c_refuse Z o a _ _) dX9_undo_17 rfl (And.intro (Nat.le_of_ble_eq_true rfl) (Nat.le_of_ble_eq_true rfl)) rfl (Nat.le_of_ble_eq_true rfl) rfl rfl (Nat.le_of_ble_eq_true rfl) (Nat.le_of_ble_eq_true rfl) (fun z17 M17 h17 => ?_)
    obtain ⟨q1, q2⟩ := h17
    rw [q1, q2]
    refine g_iret dX9_undo_20 rfl (Nat.le_of_ble_eq_true rfl) (Nat.le_of_ble_eq_true rfl) ⟨_, _, rfl, rfl, ?_⟩
    unfold A_undo
    rw [if_neg (fun h => hp2 h.1)]
    exact ⟨rfl, Pers_fin hP _⟩
  · have hp2 := penB_t c4
    refine g_aload_n 0 dX9_undo_7 rfl rfl ?_
    refine g_iload_n 2 dX9_undo_8 rfl rfl ?_
    refine mcI lkX9_170 (c_isSlip Z o a hP hM s (by first | assumption | exact ⟨by omega, by omega⟩)) dX9_undo_9 rfl (And.intro (Nat.le_of_ble_eq_true rfl) (Nat.le_of_ble_eq_true rfl)) rfl (Nat.le_of_ble_eq_true rfl) rfl rfl (Nat.le_of_ble_eq_true rfl) (Nat.le_of_ble_eq_true rfl) (fun z9 M9 h9 => ?_)
    obtain ⟨q1, q2⟩ := h9
    rw [q1, q2]
    refine gi_if_ne 21 dX9_undo_12 (by decide) (by first | exact hM _ _ | exact bI_Rg _ | exact ⟨by omega, by omega⟩) (fun c12 => ?_) (fun c12 => ?_)
    · have hs2 := slipB_t c12
      refine g_aload_n 0 dX9_undo_21 rfl rfl ?_
      refine mg_0 dX9_undo_22 rfl ?_
      refine g_iload_n 2 dX9_undo_25 rfl rfl ?_
      refine ml_0 (hP.at 0 (by decide) _) dX9_undo_26 (by omega) (by omega) ?_
      refine g_iload_n 1 dX9_undo_27 rfl rfl ?_
      refine gi_icmp_eq 37 dX9_undo_28 (by decide) (by first | exact hM _ _ | exact bI_Rg _ | exact ⟨by omega, by omega⟩) (by first | exact hM _ _ | exact bI_Rg _ | exact ⟨by omega, by omega⟩) (fun c28 => ?_) (fun c28 => ?_)
      · refine g_aload_n 0 dX9_undo_37 rfl rfl ?_
        refine g_iload_n 1 dX9_undo_38 rfl rfl ?_
        refine mcI lkX9_131 (c_findTaken Z o a hP hM hD p (by omega) (by omega)) dX9_undo_39 rfl (And.intro (Nat.le_of_ble_eq_true rfl) (Nat.le_of_ble_eq_true rfl)) rfl (Nat.le_of_ble_eq_true rfl) rfl rfl (Nat.le_of_ble_eq_true rfl) (Nat.le_of_ble_eq_true rfl) (fun z39 M39 h39 => ?_)
        obtain ⟨q39, hF1, hT1⟩ := h39
        refine g_pop dX9_undo_42 rfl ?_
        refine g_aload_n 0 dX9_undo_43 rfl rfl ?_
        refine mcV lkX9_122 (c_findWorks Z o a (hP.fx hF1 (by decide)) hM hD (tkB D p) hT1) dX9_undo_44 rfl (And.intro (Nat.le_of_ble_eq_true rfl) (Nat.le_of_ble_eq_true rfl)) rfl (Nat.le_of_ble_eq_true rfl) rfl rfl (Nat.le_of_ble_eq_true rfl) (Nat.le_of_ble_eq_true rfl) (fun M44 h44 => ?_)
        obtain ⟨hF2, hW2⟩ := h44
        have hP2 := (hP.fx hF1 (by decide)).fx hF2 (by decide)
        have hT2 : TkR D (tkB D p) M44 := fun t a1 a2 => (hF2.at 14 (by decide) t).trans (hT1 t a1 a2)
        refine g_aload_n 0 dX9_undo_47 rfl rfl ?_
        refine mg_15 dX9_undo_48 rfl ?_
        refine g_iload_n 2 dX9_undo_51 rfl rfl ?_
        refine ml_15 (hW2 s (by omega) (by omega)) dX9_undo_52 (by omega) (by omega) ?_
        refine gi_if_ne 62 dX9_undo_53 (by decide) (by first | exact hM _ _ | exact bI_Rg _ | exact ⟨by omega, by omega⟩) (fun c53 => ?_) (fun c53 => ?_)
        · refine g_aload_n 0 dX9_undo_62 rfl rfl ?_
          refine mg_9 (hP2.at 9 (by decide) _) dX9_undo_63 rfl ?_
          refine g_sipush (iI 256) dX9_undo_66 (by decide) ?_
          refine gi_icmp_ne 78 dX9_undo_69 (by decide) (by first | exact hM _ _ | exact bI_Rg _ | exact ⟨by omega, by omega⟩) (by first | exact hM _ _ | exact bI_Rg _ | exact ⟨by omega, by omega⟩) (fun c69 => ?_) (fun c69 => ?_)
          · refine g_aload_n 0 dX9_undo_78 rfl rfl ?_
            refine g_iload_n 1 dX9_undo_79 rfl rfl ?_
            refine g_iconst (iI 3) dX9_undo_80 rfl ?_
            refine g_iconst (iI 0) dX9_undo_81 rfl ?_
            refine mcI lkX9_159 (c_make Z o a hP2 hM hD hO (tkB D p) hT2 p 3 0 (by omega) (by omega) (by omega) (by exact ⟨by omega, by omega⟩) (by exact ⟨by omega, by omega⟩)) dX9_undo_82 rfl (And.intro (Nat.le_of_ble_eq_true rfl) (Nat.le_of_ble_eq_true rfl)) rfl (Nat.le_of_ble_eq_true rfl) rfl rfl (Nat.le_of_ble_eq_true rfl) (Nat.le_of_ble_eq_true rfl) (fun z82 M82 h82 => ?_)
            obtain ⟨q82, hP82, hR82⟩ := h82
            rw [q82]
            refine g_istore_n 3 dX9_undo_85 rfl (Nat.le_of_ble_eq_true rfl) (Nat.le_of_ble_eq_true rfl) rfl ?_
            dsimp only [sto]
            refine g_aload_n 0 dX9_undo_86 rfl rfl ?_
            refine mg_6 dX9_undo_87 rfl ?_
            refine g_iload_n 3 dX9_undo_90 rfl rfl ?_
            refine g_iload_n 2 dX9_undo_91 rfl rfl ?_
            refine mt_6 dX9_undo_92 (by omega) (by omega) ?_
            refine g_aload_n 0 dX9_undo_93 rfl rfl ?_
            refine g_iload_n 3 dX9_undo_94 rfl rfl ?_
            refine mcI lkX9_163 (c_done Z o a _ _) dX9_undo_95 rfl (And.intro (Nat.le_of_ble_eq_true rfl) (Nat.le_of_ble_eq_true rfl)) rfl (Nat.le_of_ble_eq_true rfl) rfl rfl (Nat.le_of_ble_eq_true rfl) (Nat.le_of_ble_eq_true rfl) (fun z95 M95 h95 => ?_)
            obtain ⟨q1, q2⟩ := h95
            rw [q1, q2]
            refine g_iret dX9_undo_98 rfl (Nat.le_of_ble_eq_true rfl) (Nat.le_of_ble_eq_true rfl) ⟨_, _, rfl, rfl, ?_⟩
            unfold A_undo
            rw [if_pos ⟨hp2, hs2⟩]
            rw [if_neg (fun h => h c28)]
            rw [show wkB D (tkB D p) s = true by cases hb : wkB D (tkB D p) s <;> simp_all [bI], if_neg (by decide)]
            rw [if_neg c69]
            exact ⟨rfl, Pers_fin (Pers_ms hP82 _ _ _) _⟩
          · refine g_aload_n 0 dX9_undo_72 rfl rfl ?_
            refine g_iconst (iI 2) dX9_undo_73 rfl ?_
            refine mcI lkX9_150 (c_refuse Z o a _ _) dX9_undo_74 rfl (And.intro (Nat.le_of_ble_eq_true rfl) (Nat.le_of_ble_eq_true rfl)) rfl (Nat.le_of_ble_eq_true rfl) rfl rfl (Nat.le_of_ble_eq_true rfl) (Nat.le_of_ble_eq_true rfl) (fun z74 M74 h74 => ?_)
            obtain ⟨q1, q2⟩ := h74
            rw [q1, q2]
            refine g_iret dX9_undo_77 rfl (Nat.le_of_ble_eq_true rfl) (Nat.le_of_ble_eq_true rfl) ⟨_, _, rfl, rfl, ?_⟩
            unfold A_undo
            rw [if_pos ⟨hp2, hs2⟩]
            rw [if_neg (fun h => h c28)]
            rw [show wkB D (tkB D p) s = true by cases hb : wkB D (tkB D p) s <;> simp_all [bI], if_neg (by decide)]
            rw [if_pos c69]
            exact ⟨rfl, Pers_fin hP2 _⟩
        · refine g_aload_n 0 dX9_undo_56 rfl rfl ?_
          refine g_iconst (iI 4) dX9_undo_57 rfl ?_
          refine mcI lkX9_150 (c_refuse Z o a _ _) dX9_undo_58 rfl (And.intro (Nat.le_of_ble_eq_true rfl) (Nat.le_of_ble_eq_true rfl)) rfl (Nat.le_of_ble_eq_true rfl) rfl rfl (Nat.le_of_ble_eq_true rfl) (Nat.le_of_ble_eq_true rfl) (fun z58 M58 h58 => ?_)
          obtain ⟨q1, q2⟩ := h58
          rw [q1, q2]
          refine g_iret dX9_undo_61 rfl (Nat.le_of_ble_eq_true rfl) (Nat.le_of_ble_eq_true rfl) ⟨_, _, rfl, rfl, ?_⟩
          unfold A_undo
          rw [if_pos ⟨hp2, hs2⟩]
          rw [if_neg (fun h => h c28)]
          rw [if_pos (bI_eq0.mp c53)]
          exact ⟨rfl, Pers_fin hP2 _⟩
      · refine g_aload_n 0 dX9_undo_31 rfl rfl ?_
        refine g_iconst (iI 3) dX9_undo_32 rfl ?_
        refine mcI lkX9_150 (c_refuse Z o a _ _) dX9_undo_33 rfl (And.intro (Nat.le_of_ble_eq_true rfl) (Nat.le_of_ble_eq_true rfl)) rfl (Nat.le_of_ble_eq_true rfl) rfl rfl (Nat.le_of_ble_eq_true rfl) (Nat.le_of_ble_eq_true rfl) (fun z33 M33 h33 => ?_)
        obtain ⟨q1, q2⟩ := h33
        rw [q1, q2]
        refine g_iret dX9_undo_36 rfl (Nat.le_of_ble_eq_true rfl) (Nat.le_of_ble_eq_true rfl) ⟨_, _, rfl, rfl, ?_⟩
        unfold A_undo
        rw [if_pos ⟨hp2, hs2⟩]
        rw [if_pos c28]
        exact ⟨rfl, Pers_fin hP _⟩
    · have hs2 := slipB_f c12
      refine g_aload_n 0 dX9_undo_15 rfl rfl ?_
      refine g_iconst (iI 1) dX9_undo_16 rfl ?_
      refine mcI lkX9_150 (c_refuse Z o a _ _) dX9_undo_17 rfl (And.intro (Nat.le_of_ble_eq_true rfl) (Nat.le_of_ble_eq_true rfl)) rfl (Nat.le_of_ble_eq_true rfl) rfl rfl (Nat.le_of_ble_eq_true rfl) (Nat.le_of_ble_eq_true rfl) (fun z17 M17 h17 => ?_)
      obtain ⟨q1, q2⟩ := h17
      rw [q1, q2]
      refine g_iret dX9_undo_20 rfl (Nat.le_of_ble_eq_true rfl) (Nat.le_of_ble_eq_true rfl) ⟨_, _, rfl, rfl, ?_⟩
      unfold A_undo
      rw [if_neg (fun h => hs2 h.2)]
      exact ⟨rfl, Pers_fin hP _⟩
set_option maxHeartbeats 4000000 in
set_option maxRecDepth 100000 in
/-- cursor -/
theorem c_cursor (Z : LZ) (o : Nat) (a : Nat → Nat) {D M : Mem} (hP : Pers D M) (hM : RM D) (hD : okP D) (hO : okO D (D 9 0).toNat) (p c q l : Int) (hp : Rg p) (hc : Rg c) (hq : Rg q) (hl : Rg l)  : Tm Z o a jX9_cursor [p, c, q, l] M (fun z M2 => z = (A_cursor D p c q l).1 ∧ Pers (A_cursor D p c q l).2 M2) := by
  refine tr_of pn_X9_cursor (Nat.le_of_ble_eq_true rfl) (vI_catO o _) ?_
  show G Z jX9_cursor E0 (QM Z jX9_cursor (pI Z o a (fun z M2 => z = (A_cursor D p c q l).1 ∧ Pers (A_cursor D p c q l).2 M2))) 0 [.ref o, .int (iI p), .int (iI c), .int (iI q), .int (iI l)] [] (mW Z o a M) 0 0
  have hn := hD.2.1
  refine g_iload_n 1 dX9_cursor_0 rfl rfl ?_
  refine mcS lkX9_147 (c_isPen Z o a _ p (by first | assumption | exact ⟨by omega, by omega⟩)) dX9_cursor_1 rfl (And.intro (Nat.le_of_ble_eq_true rfl) (Nat.le_of_ble_eq_true rfl)) (Nat.le_of_ble_eq_true rfl) rfl rfl (Nat.le_of_ble_eq_true rfl) (Nat.le_of_ble_eq_true rfl) (fun z1 h1 => ?_)
  rw [h1]
  refine gi_if_eq 16 dX9_cursor_4 (by decide) (by first | exact hM _ _ | exact bI_Rg _ | exact ⟨by omega, by omega⟩) (fun c4 => ?_) (fun c4 => ?_)
  · have hp2 := penB_f c4
    refine g_aload_n 0 dX9_cursor_16 rfl rfl ?_
    refine g_iconst (iI 1) dX9_cursor_17 rfl ?_
    refine mcI lkX9_150 (c_refuse Z o a _ _) dX9_cursor_18 rfl (And.intro (Nat.le_of_ble_eq_true rfl) (Nat.le_of_ble_eq_true rfl)) rfl (Nat.le_of_ble_eq_true rfl) rfl rfl (Nat.le_of_ble_eq_true rfl) (Nat.le_of_ble_eq_true rfl) (fun z18 M18 h18 => ?_)
    obtain ⟨q1, q2⟩ := h18
    rw [q1, q2]
    refine g_iret dX9_cursor_21 rfl (Nat.le_of_ble_eq_true rfl) (Nat.le_of_ble_eq_true rfl) ⟨_, _, rfl, rfl, ?_⟩
    unfold A_cursor
    rw [if_neg (by omega)]
    exact ⟨rfl, Pers_fin hP _⟩
  · have hp2 := penB_t c4
    refine g_iload_n 2 dX9_cursor_7 rfl rfl ?_
    refine gi_if_lt 16 dX9_cursor_8 (by decide) (by first | exact hM _ _ | exact bI_Rg _ | exact ⟨by omega, by omega⟩) (fun c8 => ?_) (fun c8 => ?_)
    · refine g_aload_n 0 dX9_cursor_16 rfl rfl ?_
      refine g_iconst (iI 1) dX9_cursor_17 rfl ?_
      refine mcI lkX9_150 (c_refuse Z o a _ _) dX9_cursor_18 rfl (And.intro (Nat.le_of_ble_eq_true rfl) (Nat.le_of_ble_eq_true rfl)) rfl (Nat.le_of_ble_eq_true rfl) rfl rfl (Nat.le_of_ble_eq_true rfl) (Nat.le_of_ble_eq_true rfl) (fun z18 M18 h18 => ?_)
      obtain ⟨q1, q2⟩ := h18
      rw [q1, q2]
      refine g_iret dX9_cursor_21 rfl (Nat.le_of_ble_eq_true rfl) (Nat.le_of_ble_eq_true rfl) ⟨_, _, rfl, rfl, ?_⟩
      unfold A_cursor
      rw [if_neg (by omega)]
      exact ⟨rfl, Pers_fin hP _⟩
    · refine g_iload_n 2 dX9_cursor_11 rfl rfl ?_
      refine g_iconst (iI 3) dX9_cursor_12 rfl ?_
      refine gi_icmp_lt 22 dX9_cursor_13 (by decide) (by first | exact hM _ _ | exact bI_Rg _ | exact ⟨by omega, by omega⟩) (by first | exact hM _ _ | exact bI_Rg _ | exact ⟨by omega, by omega⟩) (fun c13 => ?_) (fun c13 => ?_)
      · refine g_aload_n 0 dX9_cursor_22 rfl rfl ?_
        refine g_iload_n 1 dX9_cursor_23 rfl rfl ?_
        refine mcI lkX9_153 (c_sheet Z o a hP hM hD hO p (by omega) (by omega)) dX9_cursor_24 rfl (And.intro (Nat.le_of_ble_eq_true rfl) (Nat.le_of_ble_eq_true rfl)) rfl (Nat.le_of_ble_eq_true rfl) rfl rfl (Nat.le_of_ble_eq_true rfl) (Nat.le_of_ble_eq_true rfl) (fun z24 M24 h24 => ?_)
        obtain ⟨q24, hF24, hS24⟩ := h24
        rw [q24]
        have hC24 := tkB_Cl hD p
        have hT24 := txtN_rg hD hO hC24
        have hL24 := ordF_len hD hO hC24
        refine g_istore dX9_cursor_27 (Nat.le_of_ble_eq_true rfl) (Nat.le_of_ble_eq_true rfl) rfl ?_
        dsimp only [sto]
        have hP24 := hP.fx hF24 (by decide)
        refine g_iload_n 3 dX9_cursor_29 rfl rfl ?_
        refine gi_if_lt 50 dX9_cursor_30 (by decide) (by first | exact hM _ _ | exact bI_Rg _ | exact ⟨by omega, by omega⟩) (fun c30 => ?_) (fun c30 => ?_)
        · refine g_aload_n 0 dX9_cursor_50 rfl rfl ?_
          refine g_iconst (iI 1) dX9_cursor_51 rfl ?_
          refine mcI lkX9_150 (c_refuse Z o a _ _) dX9_cursor_52 rfl (And.intro (Nat.le_of_ble_eq_true rfl) (Nat.le_of_ble_eq_true rfl)) rfl (Nat.le_of_ble_eq_true rfl) rfl rfl (Nat.le_of_ble_eq_true rfl) (Nat.le_of_ble_eq_true rfl) (fun z52 M52 h52 => ?_)
          obtain ⟨q1, q2⟩ := h52
          rw [q1, q2]
          refine g_iret dX9_cursor_55 rfl (Nat.le_of_ble_eq_true rfl) (Nat.le_of_ble_eq_true rfl) ⟨_, _, rfl, rfl, ?_⟩
          unfold A_cursor
          rw [if_neg (by omega)]
          exact ⟨rfl, Pers_fin hP24 _⟩
        · refine g_iload_n 3 dX9_cursor_33 rfl rfl ?_
          refine g_iload dX9_cursor_34 rfl ?_
          refine gi_icmp_gt 50 dX9_cursor_36 (by decide) (by first | exact hM _ _ | exact bI_Rg _ | exact ⟨by omega, by omega⟩) (by first | exact hM _ _ | exact bI_Rg _ | exact ⟨by omega, by omega⟩) (fun c36 => ?_) (fun c36 => ?_)
          · refine g_aload_n 0 dX9_cursor_50 rfl rfl ?_
            refine g_iconst (iI 1) dX9_cursor_51 rfl ?_
            refine mcI lkX9_150 (c_refuse Z o a _ _) dX9_cursor_52 rfl (And.intro (Nat.le_of_ble_eq_true rfl) (Nat.le_of_ble_eq_true rfl)) rfl (Nat.le_of_ble_eq_true rfl) rfl rfl (Nat.le_of_ble_eq_true rfl) (Nat.le_of_ble_eq_true rfl) (fun z52 M52 h52 => ?_)
            obtain ⟨q1, q2⟩ := h52
            rw [q1, q2]
            refine g_iret dX9_cursor_55 rfl (Nat.le_of_ble_eq_true rfl) (Nat.le_of_ble_eq_true rfl) ⟨_, _, rfl, rfl, ?_⟩
            unfold A_cursor
            rw [if_neg (by omega)]
            exact ⟨rfl, Pers_fin hP24 _⟩
          · refine g_iload dX9_cursor_39 rfl ?_
            refine gi_if_lt 50 dX9_cursor_41 (by decide) (by first | exact hM _ _ | exact bI_Rg _ | exact ⟨by omega, by omega⟩) (fun c41 => ?_) (fun c41 => ?_)
            · refine g_aload_n 0 dX9_cursor_50 rfl rfl ?_
              refine g_iconst (iI 1) dX9_cursor_51 rfl ?_
              refine mcI lkX9_150 (c_refuse Z o a _ _) dX9_cursor_52 rfl (And.intro (Nat.le_of_ble_eq_true rfl) (Nat.le_of_ble_eq_true rfl)) rfl (Nat.le_of_ble_eq_true rfl) rfl rfl (Nat.le_of_ble_eq_true rfl) (Nat.le_of_ble_eq_true rfl) (fun z52 M52 h52 => ?_)
              obtain ⟨q1, q2⟩ := h52
              rw [q1, q2]
              refine g_iret dX9_cursor_55 rfl (Nat.le_of_ble_eq_true rfl) (Nat.le_of_ble_eq_true rfl) ⟨_, _, rfl, rfl, ?_⟩
              unfold A_cursor
              rw [if_neg (by omega)]
              exact ⟨rfl, Pers_fin hP24 _⟩
            · refine g_iload dX9_cursor_44 rfl ?_
              refine g_iconst (iI 1) dX9_cursor_46 rfl ?_
              refine gi_icmp_le 56 dX9_cursor_47 (by decide) (by first | exact hM _ _ | exact bI_Rg _ | exact ⟨by omega, by omega⟩) (by first | exact hM _ _ | exact bI_Rg _ | exact ⟨by omega, by omega⟩) (fun c47 => ?_) (fun c47 => ?_)
              · refine g_iload dX9_cursor_56 rfl ?_
                refine gi_if_ne 67 dX9_cursor_58 (by decide) (by first | exact hM _ _ | exact bI_Rg _ | exact ⟨by omega, by omega⟩) (fun c58 => ?_) (fun c58 => ?_)
                · refine g_iload_n 3 dX9_cursor_67 rfl rfl ?_
                  refine g_istore dX9_cursor_68 (Nat.le_of_ble_eq_true rfl) (Nat.le_of_ble_eq_true rfl) rfl ?_
                  dsimp only [sto]
                  refine g_aload_n 0 dX9_cursor_70 rfl rfl ?_
                  refine mg_11 dX9_cursor_71 rfl ?_
                  refine g_iconst (iI 3) dX9_cursor_74 rfl ?_
                  refine g_iload_n 1 dX9_cursor_75 rfl rfl ?_
                  refine gi_mul dX9_cursor_76 ?_
                  refine g_iload_n 2 dX9_cursor_77 rfl rfl ?_
                  refine gi_add dX9_cursor_78 ?_
                  refine g_iload dX9_cursor_79 rfl ?_
                  refine gi_if_lt 91 dX9_cursor_81 (by decide) (by first | exact hM _ _ | exact bI_Rg _ | exact ⟨by omega, by omega⟩) (fun c81 => ?_) (fun c81 => ?_)
                  · refine g_bipush (iI (-2)) dX9_cursor_91 (by decide) ?_
                    refine g_goto 107 dX9_cursor_93 (by decide) ?_
                    refine mt_11 dX9_cursor_107 (by omega) (by omega) ?_
                    refine g_aload_n 0 dX9_cursor_108 rfl rfl ?_
                    refine mg_12 dX9_cursor_109 rfl ?_
                    refine g_iconst (iI 3) dX9_cursor_112 rfl ?_
                    refine g_iload_n 1 dX9_cursor_113 rfl rfl ?_
                    refine gi_mul dX9_cursor_114 ?_
                    refine g_iload_n 2 dX9_cursor_115 rfl rfl ?_
                    refine gi_add dX9_cursor_116 ?_
                    refine g_iload dX9_cursor_117 rfl ?_
                    refine mt_12 dX9_cursor_119 (by omega) (by omega) ?_
                    refine g_aload_n 0 dX9_cursor_120 rfl rfl ?_
                    refine g_iconst (iI 1) dX9_cursor_121 rfl ?_
                    refine mcI lkX9_163 (c_done Z o a _ _) dX9_cursor_122 rfl (And.intro (Nat.le_of_ble_eq_true rfl) (Nat.le_of_ble_eq_true rfl)) rfl (Nat.le_of_ble_eq_true rfl) rfl rfl (Nat.le_of_ble_eq_true rfl) (Nat.le_of_ble_eq_true rfl) (fun z122 M122 h122 => ?_)
                    obtain ⟨q1, q2⟩ := h122
                    rw [q1, q2]
                    refine g_iret dX9_cursor_125 rfl (Nat.le_of_ble_eq_true rfl) (Nat.le_of_ble_eq_true rfl) ⟨_, _, rfl, rfl, ?_⟩
                    unfold A_cursor
                    rw [if_pos (by omega)]
                    refine ⟨rfl, ?_⟩
                    rw [if_neg c58]
                    unfold curX
                    rw [if_neg (by omega)]
                    exact Pers_fin (Pers_ms (Pers_ms hP24 _ _ _) _ _ _) _
                  · have c81q := Int.not_lt.mp c81
                    refine g_iload dX9_cursor_84 rfl ?_
                    refine g_iload dX9_cursor_86 rfl ?_
                    refine gi_icmp_lt 96 dX9_cursor_88 (by decide) (by first | exact hM _ _ | exact bI_Rg _ | exact ⟨by omega, by omega⟩) (by first | exact hM _ _ | exact bI_Rg _ | exact ⟨by omega, by omega⟩) (fun c88 => ?_) (fun c88 => ?_)
                    · refine g_aload_n 0 dX9_cursor_96 rfl rfl ?_
                      refine mg_16 dX9_cursor_97 rfl ?_
                      refine g_aload_n 0 dX9_cursor_100 rfl rfl ?_
                      refine g_iload dX9_cursor_101 rfl ?_
                      refine mcI lkX9_156 (c_atPlaceF Z o a (hP.fx hF24 (by decide)) hM hD hO hC24 hS24 _ (by omega) (by omega)) dX9_cursor_103 rfl (And.intro (Nat.le_of_ble_eq_true rfl) (Nat.le_of_ble_eq_true rfl)) rfl (Nat.le_of_ble_eq_true rfl) rfl rfl (Nat.le_of_ble_eq_true rfl) (Nat.le_of_ble_eq_true rfl) (fun z103 M103 h103 => ?_)
                      obtain ⟨q1, q2⟩ := h103
                      rw [q1, q2]
                      have hat := atF_in (D := D) (T := tkB D p) (x := _) c81q c88
                      refine ml_16 (OL_fF hS24.2.2.1 hat.1 hat.2.1) dX9_cursor_106 hat.1 (by omega) ?_
                      refine mt_11 dX9_cursor_107 (by omega) (by omega) ?_
                      refine g_aload_n 0 dX9_cursor_108 rfl rfl ?_
                      refine mg_12 dX9_cursor_109 rfl ?_
                      refine g_iconst (iI 3) dX9_cursor_112 rfl ?_
                      refine g_iload_n 1 dX9_cursor_113 rfl rfl ?_
                      refine gi_mul dX9_cursor_114 ?_
                      refine g_iload_n 2 dX9_cursor_115 rfl rfl ?_
                      refine gi_add dX9_cursor_116 ?_
                      refine g_iload dX9_cursor_117 rfl ?_
                      refine mt_12 dX9_cursor_119 (by omega) (by omega) ?_
                      refine g_aload_n 0 dX9_cursor_120 rfl rfl ?_
                      refine g_iconst (iI 1) dX9_cursor_121 rfl ?_
                      refine mcI lkX9_163 (c_done Z o a _ _) dX9_cursor_122 rfl (And.intro (Nat.le_of_ble_eq_true rfl) (Nat.le_of_ble_eq_true rfl)) rfl (Nat.le_of_ble_eq_true rfl) rfl rfl (Nat.le_of_ble_eq_true rfl) (Nat.le_of_ble_eq_true rfl) (fun z122 M122 h122 => ?_)
                      obtain ⟨q1, q2⟩ := h122
                      rw [q1, q2]
                      refine g_iret dX9_cursor_125 rfl (Nat.le_of_ble_eq_true rfl) (Nat.le_of_ble_eq_true rfl) ⟨_, _, rfl, rfl, ?_⟩
                      unfold A_cursor
                      rw [if_pos (by omega)]
                      refine ⟨rfl, ?_⟩
                      rw [if_neg c58]
                      unfold curX
                      rw [if_pos (by omega)]
                      exact Pers_fin (Pers_ms (Pers_ms hP24 _ _ _) _ _ _) _
                    · refine g_bipush (iI (-2)) dX9_cursor_91 (by decide) ?_
                      refine g_goto 107 dX9_cursor_93 (by decide) ?_
                      refine mt_11 dX9_cursor_107 (by omega) (by omega) ?_
                      refine g_aload_n 0 dX9_cursor_108 rfl rfl ?_
                      refine mg_12 dX9_cursor_109 rfl ?_
                      refine g_iconst (iI 3) dX9_cursor_112 rfl ?_
                      refine g_iload_n 1 dX9_cursor_113 rfl rfl ?_
                      refine gi_mul dX9_cursor_114 ?_
                      refine g_iload_n 2 dX9_cursor_115 rfl rfl ?_
                      refine gi_add dX9_cursor_116 ?_
                      refine g_iload dX9_cursor_117 rfl ?_
                      refine mt_12 dX9_cursor_119 (by omega) (by omega) ?_
                      refine g_aload_n 0 dX9_cursor_120 rfl rfl ?_
                      refine g_iconst (iI 1) dX9_cursor_121 rfl ?_
                      refine mcI lkX9_163 (c_done Z o a _ _) dX9_cursor_122 rfl (And.intro (Nat.le_of_ble_eq_true rfl) (Nat.le_of_ble_eq_true rfl)) rfl (Nat.le_of_ble_eq_true rfl) rfl rfl (Nat.le_of_ble_eq_true rfl) (Nat.le_of_ble_eq_true rfl) (fun z122 M122 h122 => ?_)
                      obtain ⟨q1, q2⟩ := h122
                      rw [q1, q2]
                      refine g_iret dX9_cursor_125 rfl (Nat.le_of_ble_eq_true rfl) (Nat.le_of_ble_eq_true rfl) ⟨_, _, rfl, rfl, ?_⟩
                      unfold A_cursor
                      rw [if_pos (by omega)]
                      refine ⟨rfl, ?_⟩
                      rw [if_neg c58]
                      unfold curX
                      rw [if_neg (by omega)]
                      exact Pers_fin (Pers_ms (Pers_ms hP24 _ _ _) _ _ _) _
                · refine g_iload_n 3 dX9_cursor_61 rfl rfl ?_
                  refine g_iconst (iI 1) dX9_cursor_62 rfl ?_
                  refine gi_sub dX9_cursor_63 ?_
                  refine g_goto 68 dX9_cursor_64 (by decide) ?_
                  refine g_istore dX9_cursor_68 (Nat.le_of_ble_eq_true rfl) (Nat.le_of_ble_eq_true rfl) rfl ?_
                  dsimp only [sto]
                  refine g_aload_n 0 dX9_cursor_70 rfl rfl ?_
                  refine mg_11 dX9_cursor_71 rfl ?_
                  refine g_iconst (iI 3) dX9_cursor_74 rfl ?_
                  refine g_iload_n 1 dX9_cursor_75 rfl rfl ?_
                  refine gi_mul dX9_cursor_76 ?_
                  refine g_iload_n 2 dX9_cursor_77 rfl rfl ?_
                  refine gi_add dX9_cursor_78 ?_
                  refine g_iload dX9_cursor_79 rfl ?_
                  refine gi_if_lt 91 dX9_cursor_81 (by decide) (by first | exact hM _ _ | exact bI_Rg _ | exact ⟨by omega, by omega⟩) (fun c81 => ?_) (fun c81 => ?_)
                  · refine g_bipush (iI (-2)) dX9_cursor_91 (by decide) ?_
                    refine g_goto 107 dX9_cursor_93 (by decide) ?_
                    refine mt_11 dX9_cursor_107 (by omega) (by omega) ?_
                    refine g_aload_n 0 dX9_cursor_108 rfl rfl ?_
                    refine mg_12 dX9_cursor_109 rfl ?_
                    refine g_iconst (iI 3) dX9_cursor_112 rfl ?_
                    refine g_iload_n 1 dX9_cursor_113 rfl rfl ?_
                    refine gi_mul dX9_cursor_114 ?_
                    refine g_iload_n 2 dX9_cursor_115 rfl rfl ?_
                    refine gi_add dX9_cursor_116 ?_
                    refine g_iload dX9_cursor_117 rfl ?_
                    refine mt_12 dX9_cursor_119 (by omega) (by omega) ?_
                    refine g_aload_n 0 dX9_cursor_120 rfl rfl ?_
                    refine g_iconst (iI 1) dX9_cursor_121 rfl ?_
                    refine mcI lkX9_163 (c_done Z o a _ _) dX9_cursor_122 rfl (And.intro (Nat.le_of_ble_eq_true rfl) (Nat.le_of_ble_eq_true rfl)) rfl (Nat.le_of_ble_eq_true rfl) rfl rfl (Nat.le_of_ble_eq_true rfl) (Nat.le_of_ble_eq_true rfl) (fun z122 M122 h122 => ?_)
                    obtain ⟨q1, q2⟩ := h122
                    rw [q1, q2]
                    refine g_iret dX9_cursor_125 rfl (Nat.le_of_ble_eq_true rfl) (Nat.le_of_ble_eq_true rfl) ⟨_, _, rfl, rfl, ?_⟩
                    unfold A_cursor
                    rw [if_pos (by omega)]
                    refine ⟨rfl, ?_⟩
                    rw [if_pos c58]
                    unfold curX
                    rw [if_neg (by omega)]
                    exact Pers_fin (Pers_ms (Pers_ms hP24 _ _ _) _ _ _) _
                  · have c81q := Int.not_lt.mp c81
                    refine g_iload dX9_cursor_84 rfl ?_
                    refine g_iload dX9_cursor_86 rfl ?_
                    refine gi_icmp_lt 96 dX9_cursor_88 (by decide) (by first | exact hM _ _ | exact bI_Rg _ | exact ⟨by omega, by omega⟩) (by first | exact hM _ _ | exact bI_Rg _ | exact ⟨by omega, by omega⟩) (fun c88 => ?_) (fun c88 => ?_)
                    · refine g_aload_n 0 dX9_cursor_96 rfl rfl ?_
                      refine mg_16 dX9_cursor_97 rfl ?_
                      refine g_aload_n 0 dX9_cursor_100 rfl rfl ?_
                      refine g_iload dX9_cursor_101 rfl ?_
                      refine mcI lkX9_156 (c_atPlaceF Z o a (hP.fx hF24 (by decide)) hM hD hO hC24 hS24 _ (by omega) (by omega)) dX9_cursor_103 rfl (And.intro (Nat.le_of_ble_eq_true rfl) (Nat.le_of_ble_eq_true rfl)) rfl (Nat.le_of_ble_eq_true rfl) rfl rfl (Nat.le_of_ble_eq_true rfl) (Nat.le_of_ble_eq_true rfl) (fun z103 M103 h103 => ?_)
                      obtain ⟨q1, q2⟩ := h103
                      rw [q1, q2]
                      have hat := atF_in (D := D) (T := tkB D p) (x := _) c81q c88
                      refine ml_16 (OL_fF hS24.2.2.1 hat.1 hat.2.1) dX9_cursor_106 hat.1 (by omega) ?_
                      refine mt_11 dX9_cursor_107 (by omega) (by omega) ?_
                      refine g_aload_n 0 dX9_cursor_108 rfl rfl ?_
                      refine mg_12 dX9_cursor_109 rfl ?_
                      refine g_iconst (iI 3) dX9_cursor_112 rfl ?_
                      refine g_iload_n 1 dX9_cursor_113 rfl rfl ?_
                      refine gi_mul dX9_cursor_114 ?_
                      refine g_iload_n 2 dX9_cursor_115 rfl rfl ?_
                      refine gi_add dX9_cursor_116 ?_
                      refine g_iload dX9_cursor_117 rfl ?_
                      refine mt_12 dX9_cursor_119 (by omega) (by omega) ?_
                      refine g_aload_n 0 dX9_cursor_120 rfl rfl ?_
                      refine g_iconst (iI 1) dX9_cursor_121 rfl ?_
                      refine mcI lkX9_163 (c_done Z o a _ _) dX9_cursor_122 rfl (And.intro (Nat.le_of_ble_eq_true rfl) (Nat.le_of_ble_eq_true rfl)) rfl (Nat.le_of_ble_eq_true rfl) rfl rfl (Nat.le_of_ble_eq_true rfl) (Nat.le_of_ble_eq_true rfl) (fun z122 M122 h122 => ?_)
                      obtain ⟨q1, q2⟩ := h122
                      rw [q1, q2]
                      refine g_iret dX9_cursor_125 rfl (Nat.le_of_ble_eq_true rfl) (Nat.le_of_ble_eq_true rfl) ⟨_, _, rfl, rfl, ?_⟩
                      unfold A_cursor
                      rw [if_pos (by omega)]
                      refine ⟨rfl, ?_⟩
                      rw [if_pos c58]
                      unfold curX
                      rw [if_pos (by omega)]
                      exact Pers_fin (Pers_ms (Pers_ms hP24 _ _ _) _ _ _) _
                    · refine g_bipush (iI (-2)) dX9_cursor_91 (by decide) ?_
                      refine g_goto 107 dX9_cursor_93 (by decide) ?_
                      refine mt_11 dX9_cursor_107 (by omega) (by omega) ?_
                      refine g_aload_n 0 dX9_cursor_108 rfl rfl ?_
                      refine mg_12 dX9_cursor_109 rfl ?_
                      refine g_iconst (iI 3) dX9_cursor_112 rfl ?_
                      refine g_iload_n 1 dX9_cursor_113 rfl rfl ?_
                      refine gi_mul dX9_cursor_114 ?_
                      refine g_iload_n 2 dX9_cursor_115 rfl rfl ?_
                      refine gi_add dX9_cursor_116 ?_
                      refine g_iload dX9_cursor_117 rfl ?_
                      refine mt_12 dX9_cursor_119 (by omega) (by omega) ?_
                      refine g_aload_n 0 dX9_cursor_120 rfl rfl ?_
                      refine g_iconst (iI 1) dX9_cursor_121 rfl ?_
                      refine mcI lkX9_163 (c_done Z o a _ _) dX9_cursor_122 rfl (And.intro (Nat.le_of_ble_eq_true rfl) (Nat.le_of_ble_eq_true rfl)) rfl (Nat.le_of_ble_eq_true rfl) rfl rfl (Nat.le_of_ble_eq_true rfl) (Nat.le_of_ble_eq_true rfl) (fun z122 M122 h122 => ?_)
                      obtain ⟨q1, q2⟩ := h122
                      rw [q1, q2]
                      refine g_iret dX9_cursor_125 rfl (Nat.le_of_ble_eq_true rfl) (Nat.le_of_ble_eq_true rfl) ⟨_, _, rfl, rfl, ?_⟩
                      unfold A_cursor
                      rw [if_pos (by omega)]
                      refine ⟨rfl, ?_⟩
                      rw [if_pos c58]
                      unfold curX
                      rw [if_neg (by omega)]
                      exact Pers_fin (Pers_ms (Pers_ms hP24 _ _ _) _ _ _) _
              · refine g_aload_n 0 dX9_cursor_50 rfl rfl ?_
                refine g_iconst (iI 1) dX9_cursor_51 rfl ?_
                refine mcI lkX9_150 (c_refuse Z o a _ _) dX9_cursor_52 rfl (And.intro (Nat.le_of_ble_eq_true rfl) (Nat.le_of_ble_eq_true rfl)) rfl (Nat.le_of_ble_eq_true rfl) rfl rfl (Nat.le_of_ble_eq_true rfl) (Nat.le_of_ble_eq_true rfl) (fun z52 M52 h52 => ?_)
                obtain ⟨q1, q2⟩ := h52
                rw [q1, q2]
                refine g_iret dX9_cursor_55 rfl (Nat.le_of_ble_eq_true rfl) (Nat.le_of_ble_eq_true rfl) ⟨_, _, rfl, rfl, ?_⟩
                unfold A_cursor
                rw [if_neg (by omega)]
                exact ⟨rfl, Pers_fin hP24 _⟩
      · refine g_aload_n 0 dX9_cursor_16 rfl rfl ?_
        refine g_iconst (iI 1) dX9_cursor_17 rfl ?_
        refine mcI lkX9_150 (c_refuse Z o a _ _) dX9_cursor_18 rfl (And.intro (Nat.le_of_ble_eq_true rfl) (Nat.le_of_ble_eq_true rfl)) rfl (Nat.le_of_ble_eq_true rfl) rfl rfl (Nat.le_of_ble_eq_true rfl) (Nat.le_of_ble_eq_true rfl) (fun z18 M18 h18 => ?_)
        obtain ⟨q1, q2⟩ := h18
        rw [q1, q2]
        refine g_iret dX9_cursor_21 rfl (Nat.le_of_ble_eq_true rfl) (Nat.le_of_ble_eq_true rfl) ⟨_, _, rfl, rfl, ?_⟩
        unfold A_cursor
        rw [if_neg (by omega)]
        exact ⟨rfl, Pers_fin hP _⟩
