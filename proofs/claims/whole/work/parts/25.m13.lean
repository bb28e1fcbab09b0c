/-! THE REFERENCE: make, carry, undo -/
def mxF (D : Mem) (T : Int → Bool) : Nat → Int
  | 0 => 0
  | s + 1 => if T s = true ∧ mxF D T s < D 1 s then D 1 s else mxF D T s
def gtF (f : Int → Int) (n p q : Int) (z : Int) : Int := if z % 256 = n ∧ 0 ≤ z ∧ z < 256 * q then bI (decide (z / 256 = p)) else f z
def mkD (D : Mem) (p k z v : Int) : Mem := fun r => if r = 0 then upI (D 0) (D 9 0) p else if r = 1 then upI (D 1) (D 9 0) v else if r = 2 then upI (D 2) (D 9 0) k else if r = 3 then upI (D 3) (D 9 0) z else if r = 6 then upI (D 6) (D 9 0) (-3) else if r = 9 then upI (D 9) 0 (D 9 0 + 1) else if r = 10 then gtF (D 10) (D 9 0) p 6 else D r
theorem mxF_rg {D : Mem} (hM : RM D) (T : Int → Bool) : ∀ k : Nat, 0 ≤ mxF D T k ∧ mxF D T k < 2147483648 := by
  intro k
  induction k with
  | zero => simp [mxF]
  | succ k ih =>
    unfold mxF
    have := hM 1 k
    split <;> omega
set_option maxHeartbeats 4000000 in
set_option maxRecDepth 100000 in
/-- make -/
theorem c_make (Z : LZ) (o : Nat) (a : Nat → Nat) {D M : Mem} (hP : Pers D M) (hM : RM D) (hD : okP D) (hO : okO D (D 9 0).toNat) (T : Int → Bool) (hT : TkR D T M) (p k z1 : Int) (hp0 : 0 ≤ p) (hp1 : p < 6) (hlt9 : D 9 0 < 256) (hk : Rg k) (hz : Rg z1)  : Tm Z o a jX9_make [p, k, z1] M (fun z M2 => z = D 9 0 ∧ Pers (mkD D p k z1 (mxF D T (D 9 0).toNat + 1)) M2 ∧ (∀ r, 14 ≤ r → M2 r = M r)) := by
  refine tr_of pn_X9_make (Nat.le_of_ble_eq_true rfl) (vI_catO o _) ?_
  show G Z jX9_make E0 (QM Z jX9_make (pI Z o a (fun z M2 => z = D 9 0 ∧ Pers (mkD D p k z1 (mxF D T (D 9 0).toNat + 1)) M2 ∧ (∀ r, 14 ≤ r → M2 r = M r)))) 0 [.ref o, .int (iI p), .int (iI k), .int (iI z1)] [] (mW Z o a M) 0 0
  have hn := hD.2.1
  have aft : ∀ v : Int, v = mxF D T (D 9 0).toNat → ∀ s : Int, G Z jX9_make E0 (QM Z jX9_make (pI Z o a (fun z M2 => z = D 9 0 ∧ Pers (mkD D p k z1 (mxF D T (D 9 0).toNat + 1)) M2 ∧ (∀ r, 14 ≤ r → M2 r = M r)))) 57 [.ref o, .int (iI p), .int (iI k), .int (iI z1), .int (iI v), .int (iI s)] [] (mW Z o a M) 0 0 := by
    intro v hve s
    have hvr := mxF_rg hM T (D 9 0).toNat
    have gl : ∀ (fuel : Nat) (q : Int) (Mq : Mem), 6 - q < fuel → 0 ≤ q → q ≤ 6 → (∀ r, r ≠ 10 → Mq r = (ms (ms (ms (ms (ms M 0 (D 9 0) p) 1 (D 9 0) (v + 1)) 2 (D 9 0) k) 3 (D 9 0) z1) 6 (D 9 0) (-3)) r) → Mq 10 = gtF (D 10) (D 9 0) p q → G Z jX9_make E0 (QM Z jX9_make (pI Z o a (fun z M2 => z = D 9 0 ∧ Pers (mkD D p k z1 (mxF D T (D 9 0).toNat + 1)) M2 ∧ (∀ r, 14 ≤ r → M2 r = M r)))) 114 [.ref o, .int (iI p), .int (iI k), .int (iI z1), .int (iI v), .int (iI q)] [] (mW Z o a Mq) 0 0 := by
      intro fuel
      induction fuel with
      | zero => intros; exfalso; omega
      | succ fuel ih =>
        intro q Mq hfu hq0 hq1 hq hq10
        have h9 : Mq 9 0 = D 9 0 := by
          rw [hq 9 (by decide)]
          exact hP.at 9 (by decide) 0
        by_cases hqlt : q < 6
        · refine g_iload dX9_make_114 rfl ?_
          refine g_bipush (iI 6) dX9_make_116 (by decide) ?_
          refine gi_icmp_ge 154 dX9_make_118 (by decide) (by first | exact hM _ _ | exact bI_Rg _ | exact ⟨by omega, by omega⟩) (by first | exact hM _ _ | exact bI_Rg _ | exact ⟨by omega, by omega⟩) (fun c118 => ?_) (fun c118 => ?_)
          · exfalso; omega
          · refine g_aload_n 0 dX9_make_121 rfl rfl ?_
            refine mg_10 dX9_make_122 rfl ?_
            refine g_sipush (iI 256) dX9_make_125 (by decide) ?_
            refine g_iload dX9_make_128 rfl ?_
            refine gi_mul dX9_make_130 ?_
            refine g_aload_n 0 dX9_make_131 rfl rfl ?_
            refine mg_9 h9 dX9_make_132 rfl ?_
            refine gi_add dX9_make_135 ?_
            refine g_iload dX9_make_136 rfl ?_
            refine g_iload_n 1 dX9_make_138 rfl rfl ?_
            refine gi_icmp_ne 146 dX9_make_139 (by decide) (by first | exact hM _ _ | exact bI_Rg _ | exact ⟨by omega, by omega⟩) (by first | exact hM _ _ | exact bI_Rg _ | exact ⟨by omega, by omega⟩) (fun c139 => ?_) (fun c139 => ?_)
            · refine g_iconst (iI 0) dX9_make_146 rfl ?_
              refine mt_10 dX9_make_147 (by omega) (by omega) (by first | exact Or.inl rfl | exact Or.inr rfl | omega) ?_
              refine gi_inc dX9_make_148 rfl (Nat.le_of_ble_eq_true rfl) rfl ?_
              dsimp only [sto]
              refine g_goto 114 dX9_make_151 (by decide) ?_
              exact ih _ _ (by omega) (by omega) (by omega) (fun r hr => by rw [ms_ne hr]; exact hq r hr) (by
                rw [ms_eq, hq10]
                funext y
                unfold upI gtF
                by_cases e : y = 256 * q + D 9 0
                · rw [if_pos e, if_pos (by omega)]
                  rw [decide_eq_false (by omega)]; rfl
                · rw [if_neg e]
                  by_cases e2 : y % 256 = D 9 0 ∧ 0 ≤ y ∧ y < 256 * q
                  · rw [if_pos e2, if_pos (by omega)]
                  · rw [if_neg e2, if_neg (by omega)])
            · refine g_iconst (iI 1) dX9_make_142 rfl ?_
              refine g_goto 147 dX9_make_143 (by decide) ?_
              refine mt_10 dX9_make_147 (by omega) (by omega) (by first | exact Or.inl rfl | exact Or.inr rfl | omega) ?_
              refine gi_inc dX9_make_148 rfl (Nat.le_of_ble_eq_true rfl) rfl ?_
              dsimp only [sto]
              refine g_goto 114 dX9_make_151 (by decide) ?_
              exact ih _ _ (by omega) (by omega) (by omega) (fun r hr => by rw [ms_ne hr]; exact hq r hr) (by
                rw [ms_eq, hq10]
                funext y
                unfold upI gtF
                by_cases e : y = 256 * q + D 9 0
                · rw [if_pos e, if_pos (by omega)]
                  rw [decide_eq_true (by omega)]; rfl
                · rw [if_neg e]
                  by_cases e2 : y % 256 = D 9 0 ∧ 0 ≤ y ∧ y < 256 * q
                  · rw [if_pos e2, if_pos (by omega)]
                  · rw [if_neg e2, if_neg (by omega)])
        · have hq6 : q = 6 := by omega
          refine g_iload dX9_make_114 rfl ?_
          refine g_bipush (iI 6) dX9_make_116 (by decide) ?_
          refine gi_icmp_ge 154 dX9_make_118 (by decide) (by first | exact hM _ _ | exact bI_Rg _ | exact ⟨by omega, by omega⟩) (by first | exact hM _ _ | exact bI_Rg _ | exact ⟨by omega, by omega⟩) (fun c118 => ?_) (fun c118 => ?_)
          · refine g_aload_n 0 dX9_make_154 rfl rfl ?_
            refine g_dup dX9_make_155 rfl ?_
            refine mg_9 h9 dX9_make_156 rfl ?_
            refine g_iconst (iI 1) dX9_make_159 rfl ?_
            refine gi_add dX9_make_160 ?_
            refine mp_9 dX9_make_161 rfl ?_
            refine g_aload_n 0 dX9_make_164 rfl rfl ?_
            refine mg_9 ms_at dX9_make_165 rfl ?_
            refine g_iconst (iI 1) dX9_make_168 rfl ?_
            refine gi_sub dX9_make_169 ?_
            refine g_iret dX9_make_170 rfl (Nat.le_of_ble_eq_true rfl) (Nat.le_of_ble_eq_true rfl) ⟨_, _, rfl, rfl, ?_⟩
            refine ⟨by omega, ?_, ?_⟩
            · intro r hr
              have e10 : Mq 10 = gtF (D 10) (D 9 0) p 6 := by rw [hq10, hq6]
              rw [← hve]
              by_cases e9 : r = 9
              · subst e9
                show upI (Mq 9) 0 (D 9 0 + 1) = upI (D 9) 0 (D 9 0 + 1)
                rw [hq 9 (by decide)]
                exact congrArg (fun f => upI f 0 (D 9 0 + 1)) (hP 9 (by decide))
              · rw [ms_ne e9]
                by_cases e : r = 10
                · subst e; exact e10
                · rw [hq r e]
                  have hr2 : r = 0 ∨ r = 1 ∨ r = 2 ∨ r = 3 ∨ r = 4 ∨ r = 5 ∨ r = 6 ∨ r = 7 ∨ r = 8 ∨ r = 11 ∨ r = 12 ∨ r = 13 := by omega
                  rcases hr2 with h | h | h | h | h | h | h | h | h | h | h | h <;> subst h
                  · exact congrArg (fun f => upI f (D 9 0) p) (hP 0 (by decide))
                  · exact congrArg (fun f => upI f (D 9 0) (v + 1)) (hP 1 (by decide))
                  · exact congrArg (fun f => upI f (D 9 0) k) (hP 2 (by decide))
                  · exact congrArg (fun f => upI f (D 9 0) z1) (hP 3 (by decide))
                  · exact hP 4 (by decide)
                  · exact hP 5 (by decide)
                  · exact congrArg (fun f => upI f (D 9 0) (-3)) (hP 6 (by decide))
                  · exact hP 7 (by decide)
                  · exact hP 8 (by decide)
                  · exact hP 11 (by decide)
                  · exact hP 12 (by decide)
                  · exact hP 13 (by decide)
            · intro r hr
              rw [ms_ne (by omega), hq r (by omega), ms_ne (by omega), ms_ne (by omega), ms_ne (by omega), ms_ne (by omega), ms_ne (by omega)]
          · exfalso; omega
    refine g_aload_n 0 dX9_make_57 rfl rfl ?_
    refine mg_0 dX9_make_58 rfl ?_
    refine g_aload_n 0 dX9_make_61 rfl rfl ?_
    refine mg_9 (hP.at 9 (by decide) _) dX9_make_62 rfl ?_
    refine g_iload_n 1 dX9_make_65 rfl rfl ?_
    refine mt_0 dX9_make_66 (by omega) (by omega) ?_
    refine g_aload_n 0 dX9_make_67 rfl rfl ?_
    refine mg_1 dX9_make_68 rfl ?_
    refine g_aload_n 0 dX9_make_71 rfl rfl ?_
    refine mg_9 (hP.at 9 (by decide) _) dX9_make_72 rfl ?_
    refine g_iload dX9_make_75 rfl ?_
    refine g_iconst (iI 1) dX9_make_77 rfl ?_
    refine gi_add dX9_make_78 ?_
    refine mt_1 dX9_make_79 (by omega) (by omega) ?_
    refine g_aload_n 0 dX9_make_80 rfl rfl ?_
    refine mg_2 dX9_make_81 rfl ?_
    refine g_aload_n 0 dX9_make_84 rfl rfl ?_
    refine mg_9 (hP.at 9 (by decide) _) dX9_make_85 rfl ?_
    refine g_iload_n 2 dX9_make_88 rfl rfl ?_
    refine mt_2 dX9_make_89 (by omega) (by omega) ?_
    refine g_aload_n 0 dX9_make_90 rfl rfl ?_
    refine mg_3 dX9_make_91 rfl ?_
    refine g_aload_n 0 dX9_make_94 rfl rfl ?_
    refine mg_9 (hP.at 9 (by decide) _) dX9_make_95 rfl ?_
    refine g_iload_n 3 dX9_make_98 rfl rfl ?_
    refine mt_3 dX9_make_99 (by omega) (by omega) ?_
    refine g_aload_n 0 dX9_make_100 rfl rfl ?_
    refine mg_6 dX9_make_101 rfl ?_
    refine g_aload_n 0 dX9_make_104 rfl rfl ?_
    refine mg_9 (hP.at 9 (by decide) _) dX9_make_105 rfl ?_
    refine g_bipush (iI (-3)) dX9_make_108 (by decide) ?_
    refine mt_6 dX9_make_110 (by omega) (by omega) ?_
    refine g_iconst (iI 0) dX9_make_111 rfl ?_
    refine g_istore dX9_make_112 (Nat.le_of_ble_eq_true rfl) (Nat.le_of_ble_eq_true rfl) rfl ?_
    dsimp only [sto]
    exact gl 7 0 _ (by omega) (by omega) (by omega) (fun r hr => rfl) (by
      show M 10 = _
      rw [hP 10 (by decide)]
      funext y
      unfold gtF
      rw [if_neg (by omega)])
  have loop : ∀ (fuel : Nat) (v s : Int), D 9 0 - s < fuel → 0 ≤ s → s ≤ D 9 0 → v = mxF D T s.toNat → G Z jX9_make E0 (QM Z jX9_make (pI Z o a (fun z M2 => z = D 9 0 ∧ Pers (mkD D p k z1 (mxF D T (D 9 0).toNat + 1)) M2 ∧ (∀ r, 14 ≤ r → M2 r = M r)))) 6 [.ref o, .int (iI p), .int (iI k), .int (iI z1), .int (iI v), .int (iI s)] [] (mW Z o a M) 0 0 := by
    intro fuel
    induction fuel with
    | zero => intros; exfalso; omega
    | succ fuel ih =>
      intro v s hfu hs0 hs1 hv
      have hvr := mxF_rg hM T s.toNat
      by_cases hlt : s < D 9 0
      · refine g_iload dX9_make_6 rfl ?_
        refine g_aload_n 0 dX9_make_8 rfl rfl ?_
        refine mg_9 (hP.at 9 (by decide) _) dX9_make_9 rfl ?_
        refine gi_icmp_ge 57 dX9_make_12 (by decide) (by first | exact hM _ _ | exact bI_Rg _ | exact ⟨by omega, by omega⟩) (by first | exact hM _ _ | exact bI_Rg _ | exact ⟨by omega, by omega⟩) (fun c12 => ?_) (fun c12 => ?_)
        · exfalso; omega
        · refine g_aload_n 0 dX9_make_15 rfl rfl ?_
          refine mg_14 dX9_make_16 rfl ?_
          refine g_iload dX9_make_19 rfl ?_
          refine ml_14 (hT s (by omega) (by omega)) dX9_make_21 (by omega) (by omega) ?_
          refine gi_if_eq 47 dX9_make_22 (by decide) (by first | exact hM _ _ | exact bI_Rg _ | exact ⟨by omega, by omega⟩) (fun c22 => ?_) (fun c22 => ?_)
          · refine g_iload dX9_make_47 rfl ?_
            refine g_istore dX9_make_49 (Nat.le_of_ble_eq_true rfl) (Nat.le_of_ble_eq_true rfl) rfl ?_
            dsimp only [sto]
            refine gi_inc dX9_make_51 rfl (Nat.le_of_ble_eq_true rfl) rfl ?_
            dsimp only [sto]
            refine g_goto 6 dX9_make_54 (by decide) ?_
            exact ih _ _ (by omega) (by omega) (by omega) (by
              rw [show (s + 1).toNat = s.toNat + 1 by omega, mxF, show ((s.toNat : Nat) : Int) = s by omega, ← hv]
              rw [if_neg (fun h => by rw [h.1] at c22; exact absurd c22 (by decide))])
          · refine g_aload_n 0 dX9_make_25 rfl rfl ?_
            refine mg_1 dX9_make_26 rfl ?_
            refine g_iload dX9_make_29 rfl ?_
            refine ml_1 (hP.at 1 (by decide) _) dX9_make_31 (by omega) (by omega) ?_
            refine g_iload dX9_make_32 rfl ?_
            refine gi_icmp_le 47 dX9_make_34 (by decide) (by first | exact hM _ _ | exact bI_Rg _ | exact ⟨by omega, by omega⟩) (by first | exact hM _ _ | exact bI_Rg _ | exact ⟨by omega, by omega⟩) (fun c34 => ?_) (fun c34 => ?_)
            · refine g_iload dX9_make_47 rfl ?_
              refine g_istore dX9_make_49 (Nat.le_of_ble_eq_true rfl) (Nat.le_of_ble_eq_true rfl) rfl ?_
              dsimp only [sto]
              refine gi_inc dX9_make_51 rfl (Nat.le_of_ble_eq_true rfl) rfl ?_
              dsimp only [sto]
              refine g_goto 6 dX9_make_54 (by decide) ?_
              exact ih _ _ (by omega) (by omega) (by omega) (by
                rw [show (s + 1).toNat = s.toNat + 1 by omega, mxF, show ((s.toNat : Nat) : Int) = s by omega, ← hv]
                rw [if_neg (by omega)])
            · refine g_aload_n 0 dX9_make_37 rfl rfl ?_
              refine mg_1 dX9_make_38 rfl ?_
              refine g_iload dX9_make_41 rfl ?_
              refine ml_1 (hP.at 1 (by decide) _) dX9_make_43 (by omega) (by omega) ?_
              refine g_goto 49 dX9_make_44 (by decide) ?_
              refine g_istore dX9_make_49 (Nat.le_of_ble_eq_true rfl) (Nat.le_of_ble_eq_true rfl) rfl ?_
              dsimp only [sto]
              refine gi_inc dX9_make_51 rfl (Nat.le_of_ble_eq_true rfl) rfl ?_
              dsimp only [sto]
              refine g_goto 6 dX9_make_54 (by decide) ?_
              exact ih _ _ (by omega) (by omega) (by omega) (by
                rw [show (s + 1).toNat = s.toNat + 1 by omega, mxF, show ((s.toNat : Nat) : Int) = s by omega, ← hv]
                rw [if_pos ⟨by cases hb : T s <;> simp_all [bI], by omega⟩])
      · refine g_iload dX9_make_6 rfl ?_
        refine g_aload_n 0 dX9_make_8 rfl rfl ?_
        refine mg_9 (hP.at 9 (by decide) _) dX9_make_9 rfl ?_
        refine gi_icmp_ge 57 dX9_make_12 (by decide) (by first | exact hM _ _ | exact bI_Rg _ | exact ⟨by omega, by omega⟩) (by first | exact hM _ _ | exact bI_Rg _ | exact ⟨by omega, by omega⟩) (fun c12 => ?_) (fun c12 => ?_)
        · exact aft v (by rw [hv, show s = D 9 0 by omega]) s
        · exfalso; omega
  refine g_iconst (iI 0) dX9_make_0 rfl ?_
  refine g_istore dX9_make_1 (Nat.le_of_ble_eq_true rfl) (Nat.le_of_ble_eq_true rfl) rfl ?_
  dsimp only [sto]
  refine g_iconst (iI 0) dX9_make_3 rfl ?_
  refine g_istore dX9_make_4 (Nat.le_of_ble_eq_true rfl) (Nat.le_of_ble_eq_true rfl) rfl ?_
  dsimp only [sto]
  exact loop ((D 9 0).toNat + 1) 0 0 (by omega) (by omega) (by omega) rfl
