set_option maxHeartbeats 4000000 in
set_option maxRecDepth 100000 in
/-- mark -/
theorem c_mark (Z : LZ) (o : Nat) (a : Nat → Nat) {D M : Mem} (hP : Pers D M) (hM : RM D) (hD : okP D) (hO : okO D (D 9 0).toNat) (hst : ∀ s, 0 ≤ s → s < D 9 0 → 0 ≤ D 1 s ∧ D 1 s ≤ 100000) (p f n t h : Int) (hp : Rg p) (hf : Rg f) (hn2 : Rg n) (ht : Rg t) (hh : Rg h)  : Tm Z o a jX9_mark [p, f, n, t, h] M (fun z M2 => z = (A_mark D p f n t h).1 ∧ Pers (A_mark D p f n t h).2 M2) := by
  refine tr_of pn_X9_mark (Nat.le_of_ble_eq_true rfl) (vI_catO o _) ?_
  show G Z jX9_mark E0 (QM Z jX9_mark (pI Z o a (fun z M2 => z = (A_mark D p f n t h).1 ∧ Pers (A_mark D p f n t h).2 M2))) 0 [.ref o, .int (iI p), .int (iI f), .int (iI n), .int (iI t), .int (iI h)] [] (mW Z o a M) 0 0
  have hn := hD.2.1
  refine g_iload_n 1 dX9_mark_0 rfl rfl ?_
  refine mcS lkX9_147 (c_isPen Z o a _ p (by first | assumption | exact ⟨by omega, by omega⟩)) dX9_mark_1 rfl (And.intro (Nat.le_of_ble_eq_true rfl) (Nat.le_of_ble_eq_true rfl)) (Nat.le_of_ble_eq_true rfl) rfl rfl (Nat.le_of_ble_eq_true rfl) (Nat.le_of_ble_eq_true rfl) (fun z1 h1 => ?_)
  rw [h1]
  refine gi_if_ne 13 dX9_mark_4 (by decide) (by first | exact hM _ _ | exact bI_Rg _ | exact ⟨by omega, by omega⟩) (fun c4 => ?_) (fun c4 => ?_)
  · have hp2 := penB_t c4
    refine g_iload_n 3 dX9_mark_13 rfl rfl ?_
    refine gi_if_ge 23 dX9_mark_14 (by decide) (by first | exact hM _ _ | exact bI_Rg _ | exact ⟨by omega, by omega⟩) (fun c14 => ?_) (fun c14 => ?_)
    · refine g_aload_n 0 dX9_mark_23 rfl rfl ?_
      refine g_iload_n 1 dX9_mark_24 rfl rfl ?_
      refine mcI lkX9_153 (c_sheet Z o a hP hM hD hO p (by omega) (by omega)) dX9_mark_25 rfl (And.intro (Nat.le_of_ble_eq_true rfl) (Nat.le_of_ble_eq_true rfl)) rfl (Nat.le_of_ble_eq_true rfl) rfl rfl (Nat.le_of_ble_eq_true rfl) (Nat.le_of_ble_eq_true rfl) (fun z25 M25 h25 => ?_)
      obtain ⟨q25, hF25, hS25⟩ := h25
      rw [q25]
      have hC25 := tkB_Cl hD p
      have hT25 := txtN_rg hD hO hC25
      have hL25 := ordF_len hD hO hC25
      refine g_istore dX9_mark_28 (Nat.le_of_ble_eq_true rfl) (Nat.le_of_ble_eq_true rfl) rfl ?_
      dsimp only [sto]
      have hP25 := hP.fx hF25 (by decide)
      refine g_iload_n 3 dX9_mark_30 rfl rfl ?_
      refine gi_if_eq 66 dX9_mark_31 (by decide) (by first | exact hM _ _ | exact bI_Rg _ | exact ⟨by omega, by omega⟩) (fun c31 => ?_) (fun c31 => ?_)
      · refine g_aload_n 0 dX9_mark_66 rfl rfl ?_
        refine g_iconst (iI 1) dX9_mark_67 rfl ?_
        refine mcI lkX9_150 (c_refuse Z o a _ _) dX9_mark_68 rfl (And.intro (Nat.le_of_ble_eq_true rfl) (Nat.le_of_ble_eq_true rfl)) rfl (Nat.le_of_ble_eq_true rfl) rfl rfl (Nat.le_of_ble_eq_true rfl) (Nat.le_of_ble_eq_true rfl) (fun z68 M68 h68 => ?_)
        obtain ⟨q1, q2⟩ := h68
        rw [q1, q2]
        refine g_iret dX9_mark_71 rfl (Nat.le_of_ble_eq_true rfl) (Nat.le_of_ble_eq_true rfl) ⟨_, _, rfl, rfl, ?_⟩
        unfold A_mark
        rw [if_pos hp2]
        rw [if_neg (by omega)]
        rw [if_neg (by omega)]
        exact ⟨rfl, Pers_fin hP25 _⟩
      · refine g_iload_n 2 dX9_mark_34 rfl rfl ?_
        refine g_iload_n 3 dX9_mark_35 rfl rfl ?_
        refine g_iload dX9_mark_36 rfl ?_
        refine mcS lkX9_166 (c_isRange Z o a _ f n _ hf hn2 (by omega) (by omega)) dX9_mark_38 rfl (And.intro (Nat.le_of_ble_eq_true rfl) (Nat.le_of_ble_eq_true rfl)) (Nat.le_of_ble_eq_true rfl) rfl rfl (Nat.le_of_ble_eq_true rfl) (Nat.le_of_ble_eq_true rfl) (fun z38 h38 => ?_)
        rw [h38]
        refine gi_if_eq 66 dX9_mark_41 (by decide) (by first | exact hM _ _ | exact bI_Rg _ | exact ⟨by omega, by omega⟩) (fun c41 => ?_) (fun c41 => ?_)
        · have hr2 := rnB_f c41
          refine g_aload_n 0 dX9_mark_66 rfl rfl ?_
          refine g_iconst (iI 1) dX9_mark_67 rfl ?_
          refine mcI lkX9_150 (c_refuse Z o a _ _) dX9_mark_68 rfl (And.intro (Nat.le_of_ble_eq_true rfl) (Nat.le_of_ble_eq_true rfl)) rfl (Nat.le_of_ble_eq_true rfl) rfl rfl (Nat.le_of_ble_eq_true rfl) (Nat.le_of_ble_eq_true rfl) (fun z68 M68 h68 => ?_)
          obtain ⟨q1, q2⟩ := h68
          rw [q1, q2]
          refine g_iret dX9_mark_71 rfl (Nat.le_of_ble_eq_true rfl) (Nat.le_of_ble_eq_true rfl) ⟨_, _, rfl, rfl, ?_⟩
          unfold A_mark
          rw [if_pos hp2]
          rw [if_neg (by omega)]
          rw [if_neg (by omega)]
          exact ⟨rfl, Pers_fin hP25 _⟩
        · have hr2 := rnB_t c41
          refine g_iload dX9_mark_44 rfl ?_
          refine gi_if_lt 66 dX9_mark_46 (by decide) (by first | exact hM _ _ | exact bI_Rg _ | exact ⟨by omega, by omega⟩) (fun c46 => ?_) (fun c46 => ?_)
          · refine g_aload_n 0 dX9_mark_66 rfl rfl ?_
            refine g_iconst (iI 1) dX9_mark_67 rfl ?_
            refine mcI lkX9_150 (c_refuse Z o a _ _) dX9_mark_68 rfl (And.intro (Nat.le_of_ble_eq_true rfl) (Nat.le_of_ble_eq_true rfl)) rfl (Nat.le_of_ble_eq_true rfl) rfl rfl (Nat.le_of_ble_eq_true rfl) (Nat.le_of_ble_eq_true rfl) (fun z68 M68 h68 => ?_)
            obtain ⟨q1, q2⟩ := h68
            rw [q1, q2]
            refine g_iret dX9_mark_71 rfl (Nat.le_of_ble_eq_true rfl) (Nat.le_of_ble_eq_true rfl) ⟨_, _, rfl, rfl, ?_⟩
            unfold A_mark
            rw [if_pos hp2]
            rw [if_neg (by omega)]
            rw [if_neg (by omega)]
            exact ⟨rfl, Pers_fin hP25 _⟩
          · refine g_iload dX9_mark_49 rfl ?_
            refine g_iconst (iI 3) dX9_mark_51 rfl ?_
            refine gi_icmp_gt 66 dX9_mark_52 (by decide) (by first | exact hM _ _ | exact bI_Rg _ | exact ⟨by omega, by omega⟩) (by first | exact hM _ _ | exact bI_Rg _ | exact ⟨by omega, by omega⟩) (fun c52 => ?_) (fun c52 => ?_)
            · refine g_aload_n 0 dX9_mark_66 rfl rfl ?_
              refine g_iconst (iI 1) dX9_mark_67 rfl ?_
              refine mcI lkX9_150 (c_refuse Z o a _ _) dX9_mark_68 rfl (And.intro (Nat.le_of_ble_eq_true rfl) (Nat.le_of_ble_eq_true rfl)) rfl (Nat.le_of_ble_eq_true rfl) rfl rfl (Nat.le_of_ble_eq_true rfl) (Nat.le_of_ble_eq_true rfl) (fun z68 M68 h68 => ?_)
              obtain ⟨q1, q2⟩ := h68
              rw [q1, q2]
              refine g_iret dX9_mark_71 rfl (Nat.le_of_ble_eq_true rfl) (Nat.le_of_ble_eq_true rfl) ⟨_, _, rfl, rfl, ?_⟩
              unfold A_mark
              rw [if_pos hp2]
              rw [if_neg (by omega)]
              rw [if_neg (by omega)]
              exact ⟨rfl, Pers_fin hP25 _⟩
            · refine g_iload dX9_mark_55 rfl ?_
              refine gi_if_lt 66 dX9_mark_57 (by decide) (by first | exact hM _ _ | exact bI_Rg _ | exact ⟨by omega, by omega⟩) (fun c57 => ?_) (fun c57 => ?_)
              · refine g_aload_n 0 dX9_mark_66 rfl rfl ?_
                refine g_iconst (iI 1) dX9_mark_67 rfl ?_
                refine mcI lkX9_150 (c_refuse Z o a _ _) dX9_mark_68 rfl (And.intro (Nat.le_of_ble_eq_true rfl) (Nat.le_of_ble_eq_true rfl)) rfl (Nat.le_of_ble_eq_true rfl) rfl rfl (Nat.le_of_ble_eq_true rfl) (Nat.le_of_ble_eq_true rfl) (fun z68 M68 h68 => ?_)
                obtain ⟨q1, q2⟩ := h68
                rw [q1, q2]
                refine g_iret dX9_mark_71 rfl (Nat.le_of_ble_eq_true rfl) (Nat.le_of_ble_eq_true rfl) ⟨_, _, rfl, rfl, ?_⟩
                unfold A_mark
                rw [if_pos hp2]
                rw [if_neg (by omega)]
                rw [if_neg (by omega)]
                exact ⟨rfl, Pers_fin hP25 _⟩
              · refine g_iload dX9_mark_60 rfl ?_
                refine g_iconst (iI 3) dX9_mark_62 rfl ?_
                refine gi_icmp_le 72 dX9_mark_63 (by decide) (by first | exact hM _ _ | exact bI_Rg _ | exact ⟨by omega, by omega⟩) (by first | exact hM _ _ | exact bI_Rg _ | exact ⟨by omega, by omega⟩) (fun c63 => ?_) (fun c63 => ?_)
                · refine g_aload_n 0 dX9_mark_72 rfl rfl ?_
                  refine mg_9 ((hP.fx hF25 (by decide)).at 9 (by decide) _) dX9_mark_73 rfl ?_
                  refine g_sipush (iI 256) dX9_mark_76 (by decide) ?_
                  refine gi_icmp_ne 88 dX9_mark_79 (by decide) (by first | exact hM _ _ | exact bI_Rg _ | exact ⟨by omega, by omega⟩) (by first | exact hM _ _ | exact bI_Rg _ | exact ⟨by omega, by omega⟩) (fun c79 => ?_) (fun c79 => ?_)
                  · refine g_aload_n 0 dX9_mark_88 rfl rfl ?_
                    refine g_iload_n 2 dX9_mark_89 rfl rfl ?_
                    refine mcI lkX9_156 (c_atPlaceF Z o a (hP.fx hF25 (by decide)) hM hD hO hC25 hS25 f (by omega) (by omega)) dX9_mark_90 rfl (And.intro (Nat.le_of_ble_eq_true rfl) (Nat.le_of_ble_eq_true rfl)) rfl (Nat.le_of_ble_eq_true rfl) rfl rfl (Nat.le_of_ble_eq_true rfl) (Nat.le_of_ble_eq_true rfl) (fun z90 M90 h90 => ?_)
                    obtain ⟨q1, q2⟩ := h90
                    rw [q1, q2]
                    have hat1 := atF_in (D := D) (T := tkB D p) (x := f) (by omega) (by omega)
                    refine g_istore dX9_mark_93 (Nat.le_of_ble_eq_true rfl) (Nat.le_of_ble_eq_true rfl) rfl ?_
                    dsimp only [sto]
                    refine g_aload_n 0 dX9_mark_95 rfl rfl ?_
                    refine g_iload_n 2 dX9_mark_96 rfl rfl ?_
                    refine g_iload_n 3 dX9_mark_97 rfl rfl ?_
                    refine gi_add dX9_mark_98 ?_
                    refine g_iconst (iI 1) dX9_mark_99 rfl ?_
                    refine gi_sub dX9_mark_100 ?_
                    refine mcI lkX9_156 (c_atPlaceF Z o a (hP.fx hF25 (by decide)) hM hD hO hC25 hS25 (f + n - 1) (by omega) (by omega)) dX9_mark_101 rfl (And.intro (Nat.le_of_ble_eq_true rfl) (Nat.le_of_ble_eq_true rfl)) rfl (Nat.le_of_ble_eq_true rfl) rfl rfl (Nat.le_of_ble_eq_true rfl) (Nat.le_of_ble_eq_true rfl) (fun z101 M101 h101 => ?_)
                    obtain ⟨q1, q2⟩ := h101
                    rw [q1, q2]
                    have hat2 := atF_in (D := D) (T := tkB D p) (x := f + n - 1) (by omega) (by omega)
                    refine g_istore dX9_mark_104 (Nat.le_of_ble_eq_true rfl) (Nat.le_of_ble_eq_true rfl) rfl ?_
                    dsimp only [sto]
                    refine g_aload_n 0 dX9_mark_106 rfl rfl ?_
                    refine g_iload_n 1 dX9_mark_107 rfl rfl ?_
                    refine g_iconst (iI 2) dX9_mark_108 rfl ?_
                    refine g_iconst (iI 2) dX9_mark_109 rfl ?_
                    refine mcI lkX9_159 (c_make Z o a (hP.fx hF25 (by decide)) hM hD hO (tkB D p) hS25.1 p 2 2 (by omega) (by omega) (by omega) (by exact ⟨by omega, by omega⟩) (by exact ⟨by omega, by omega⟩)) dX9_mark_110 rfl (And.intro (Nat.le_of_ble_eq_true rfl) (Nat.le_of_ble_eq_true rfl)) rfl (Nat.le_of_ble_eq_true rfl) rfl rfl (Nat.le_of_ble_eq_true rfl) (Nat.le_of_ble_eq_true rfl) (fun z110 M110 h110 => ?_)
                    obtain ⟨q110, hP110, hR110⟩ := h110
                    rw [q110]
                    have hO2 : OL M110 (ordF D (tkB D p)) := OL_row hS25.2.2.1 (hR110 16 (by decide)) (hR110 17 (by decide))
                    have h172 := hO2.1
                    refine g_istore dX9_mark_113 (Nat.le_of_ble_eq_true rfl) (Nat.le_of_ble_eq_true rfl) rfl ?_
                    dsimp only [sto]
                    refine g_aload_n 0 dX9_mark_115 rfl rfl ?_
                    refine mg_4 dX9_mark_116 rfl ?_
                    refine g_bipush (iI 12) dX9_mark_119 (by decide) ?_
                    refine g_iload dX9_mark_121 rfl ?_
                    refine gi_mul dX9_mark_123 ?_
                    refine g_aload_n 0 dX9_mark_124 rfl rfl ?_
                    refine mg_16 dX9_mark_125 rfl ?_
                    refine g_iload dX9_mark_128 rfl ?_
                    refine ml_16 (show _ from OL_fF hO2 hat1.1 hat1.2.1) dX9_mark_130 hat1.1 (by omega) ?_
                    refine mt_4 dX9_mark_131 (by omega) (by omega) ?_
                    refine g_aload_n 0 dX9_mark_132 rfl rfl ?_
                    refine mg_4 dX9_mark_133 rfl ?_
                    refine g_bipush (iI 12) dX9_mark_136 (by decide) ?_
                    refine g_iload dX9_mark_138 rfl ?_
                    refine gi_mul dX9_mark_140 ?_
                    refine g_iconst (iI 1) dX9_mark_141 rfl ?_
                    refine gi_add dX9_mark_142 ?_
                    refine g_aload_n 0 dX9_mark_143 rfl rfl ?_
                    refine mg_16 dX9_mark_144 rfl ?_
                    refine g_iload dX9_mark_147 rfl ?_
                    refine ml_16 (show _ from OL_fF hO2 hat2.1 hat2.2.1) dX9_mark_149 hat2.1 (by omega) ?_
                    refine mt_4 dX9_mark_150 (by omega) (by omega) ?_
                    refine g_aload_n 0 dX9_mark_151 rfl rfl ?_
                    refine mg_7 dX9_mark_152 rfl ?_
                    refine g_iload dX9_mark_155 rfl ?_
                    refine g_iload dX9_mark_157 rfl ?_
                    refine mt_7 dX9_mark_159 (by omega) (by omega) ?_
                    refine g_aload_n 0 dX9_mark_160 rfl rfl ?_
                    refine mg_8 dX9_mark_161 rfl ?_
                    refine g_iload dX9_mark_164 rfl ?_
                    refine g_iload dX9_mark_166 rfl ?_
                    refine g_iconst (iI 1) dX9_mark_168 rfl ?_
                    refine gi_icmp_eq 178 dX9_mark_169 (by decide) (by first | exact hM _ _ | exact bI_Rg _ | exact ⟨by omega, by omega⟩) (by first | exact hM _ _ | exact bI_Rg _ | exact ⟨by omega, by omega⟩) (fun c169 => ?_) (fun c169 => ?_)
                    · refine g_iconst (iI 1) dX9_mark_178 rfl ?_
                      refine g_goto 183 dX9_mark_179 (by decide) ?_
                      refine mt_8 dX9_mark_183 (by omega) (by omega) (by first | exact Or.inl rfl | exact Or.inr rfl | omega) ?_
                      refine g_aload_n 0 dX9_mark_184 rfl rfl ?_
                      refine mg_6 dX9_mark_185 rfl ?_
                      refine g_iload dX9_mark_188 rfl ?_
                      refine g_iload dX9_mark_190 rfl ?_
                      refine g_iconst (iI 2) dX9_mark_192 rfl ?_
                      refine gi_icmp_ge 201 dX9_mark_193 (by decide) (by first | exact hM _ _ | exact bI_Rg _ | exact ⟨by omega, by omega⟩) (by first | exact hM _ _ | exact bI_Rg _ | exact ⟨by omega, by omega⟩) (fun c193 => ?_) (fun c193 => ?_)
                      · refine g_iload dX9_mark_201 rfl ?_
                        refine g_iconst (iI 1) dX9_mark_203 rfl ?_
                        refine gi_add dX9_mark_204 ?_
                        refine g_aload_n 0 dX9_mark_205 rfl rfl ?_
                        refine mg_17 (show _ from h172) dX9_mark_206 rfl ?_
                        refine gi_icmp_ge 224 dX9_mark_209 (by decide) (by first | exact hM _ _ | exact bI_Rg _ | exact ⟨by omega, by omega⟩) (by first | exact hM _ _ | exact bI_Rg _ | exact ⟨by omega, by omega⟩) (fun c209 => ?_) (fun c209 => ?_)
                        · refine g_bipush (iI (-2)) dX9_mark_224 (by decide) ?_
                          refine mt_6 dX9_mark_226 (by omega) (by omega) ?_
                          refine g_aload_n 0 dX9_mark_227 rfl rfl ?_
                          refine g_iload dX9_mark_228 rfl ?_
                          refine mcI lkX9_163 (c_done Z o a _ _) dX9_mark_230 rfl (And.intro (Nat.le_of_ble_eq_true rfl) (Nat.le_of_ble_eq_true rfl)) rfl (Nat.le_of_ble_eq_true rfl) rfl rfl (Nat.le_of_ble_eq_true rfl) (Nat.le_of_ble_eq_true rfl) (fun z230 M230 h230 => ?_)
                          obtain ⟨q1, q2⟩ := h230
                          rw [q1, q2]
                          refine g_iret dX9_mark_233 rfl (Nat.le_of_ble_eq_true rfl) (Nat.le_of_ble_eq_true rfl) ⟨_, _, rfl, rfl, ?_⟩
                          unfold A_mark
                          rw [if_pos hp2]
                          rw [if_neg (by omega)]
                          rw [if_pos (by omega)]
                          rw [if_neg c79]
                          refine ⟨rfl, ?_⟩
                          rw [show bI (decide (h = 1 ∨ h = 3)) = 1 by rw [decide_eq_true (by omega)]; rfl]
                          rw [if_neg (by omega)]
                          rw [if_neg (by omega)]
                          have e1 : nmF D p f 0 = fF (ordF D (tkB D p)) (atF D (tkB D p) f) := by unfold nmF; rw [show f + 0 = f by omega]
                          have e2 : nmF D p f (n - 1) = fF (ordF D (tkB D p)) (atF D (tkB D p) (f + n - 1)) := by unfold nmF; rw [show f + (n - 1) = f + n - 1 by omega]
                          rw [e1, e2]
                          exact Pers_fin (Pers_ms (Pers_ms (Pers_ms (Pers_ms (Pers_ms hP110 _ _ _) _ _ _) _ _ _) _ _ _) _ _ _) _
                        · refine g_aload_n 0 dX9_mark_212 rfl rfl ?_
                          refine mg_16 dX9_mark_213 rfl ?_
                          refine g_iload dX9_mark_216 rfl ?_
                          refine g_iconst (iI 1) dX9_mark_218 rfl ?_
                          refine gi_add dX9_mark_219 ?_
                          refine ml_16 (show _ from OL_fF hO2 (show 0 ≤ atF D (tkB D p) (f + n - 1) + 1 by omega) (by omega)) dX9_mark_220 (by omega) (by omega) ?_
                          refine g_goto 226 dX9_mark_221 (by decide) ?_
                          refine mt_6 dX9_mark_226 (by omega) (by omega) ?_
                          refine g_aload_n 0 dX9_mark_227 rfl rfl ?_
                          refine g_iload dX9_mark_228 rfl ?_
                          refine mcI lkX9_163 (c_done Z o a _ _) dX9_mark_230 rfl (And.intro (Nat.le_of_ble_eq_true rfl) (Nat.le_of_ble_eq_true rfl)) rfl (Nat.le_of_ble_eq_true rfl) rfl rfl (Nat.le_of_ble_eq_true rfl) (Nat.le_of_ble_eq_true rfl) (fun z230 M230 h230 => ?_)
                          obtain ⟨q1, q2⟩ := h230
                          rw [q1, q2]
                          refine g_iret dX9_mark_233 rfl (Nat.le_of_ble_eq_true rfl) (Nat.le_of_ble_eq_true rfl) ⟨_, _, rfl, rfl, ?_⟩
                          unfold A_mark
                          rw [if_pos hp2]
                          rw [if_neg (by omega)]
                          rw [if_pos (by omega)]
                          rw [if_neg c79]
                          refine ⟨rfl, ?_⟩
                          rw [show bI (decide (h = 1 ∨ h = 3)) = 1 by rw [decide_eq_true (by omega)]; rfl]
                          rw [if_neg (by omega)]
                          rw [if_pos (by omega)]
                          have e1 : nmF D p f 0 = fF (ordF D (tkB D p)) (atF D (tkB D p) f) := by unfold nmF; rw [show f + 0 = f by omega]
                          have e2 : nmF D p f (n - 1) = fF (ordF D (tkB D p)) (atF D (tkB D p) (f + n - 1)) := by unfold nmF; rw [show f + (n - 1) = f + n - 1 by omega]
                          rw [e1, e2]
                          exact Pers_fin (Pers_ms (Pers_ms (Pers_ms (Pers_ms (Pers_ms hP110 _ _ _) _ _ _) _ _ _) _ _ _) _ _ _) _
                      · refine g_bipush (iI (-3)) dX9_mark_196 (by decide) ?_
                        refine g_goto 226 dX9_mark_198 (by decide) ?_
                        refine mt_6 dX9_mark_226 (by omega) (by omega) ?_
                        refine g_aload_n 0 dX9_mark_227 rfl rfl ?_
                        refine g_iload dX9_mark_228 rfl ?_
                        refine mcI lkX9_163 (c_done Z o a _ _) dX9_mark_230 rfl (And.intro (Nat.le_of_ble_eq_true rfl) (Nat.le_of_ble_eq_true rfl)) rfl (Nat.le_of_ble_eq_true rfl) rfl rfl (Nat.le_of_ble_eq_true rfl) (Nat.le_of_ble_eq_true rfl) (fun z230 M230 h230 => ?_)
                        obtain ⟨q1, q2⟩ := h230
                        rw [q1, q2]
                        refine g_iret dX9_mark_233 rfl (Nat.le_of_ble_eq_true rfl) (Nat.le_of_ble_eq_true rfl) ⟨_, _, rfl, rfl, ?_⟩
                        unfold A_mark
                        rw [if_pos hp2]
                        rw [if_neg (by omega)]
                        rw [if_pos (by omega)]
                        rw [if_neg c79]
                        refine ⟨rfl, ?_⟩
                        rw [show bI (decide (h = 1 ∨ h = 3)) = 1 by rw [decide_eq_true (by omega)]; rfl]
                        rw [if_pos (by omega)]
                        have e1 : nmF D p f 0 = fF (ordF D (tkB D p)) (atF D (tkB D p) f) := by unfold nmF; rw [show f + 0 = f by omega]
                        have e2 : nmF D p f (n - 1) = fF (ordF D (tkB D p)) (atF D (tkB D p) (f + n - 1)) := by unfold nmF; rw [show f + (n - 1) = f + n - 1 by omega]
                        rw [e1, e2]
                        exact Pers_fin (Pers_ms (Pers_ms (Pers_ms (Pers_ms (Pers_ms hP110 _ _ _) _ _ _) _ _ _) _ _ _) _ _ _) _
                    · refine g_iload dX9_mark_172 rfl ?_
                      refine g_iconst (iI 3) dX9_mark_174 rfl ?_
                      refine gi_icmp_ne 182 dX9_mark_175 (by decide) (by first | exact hM _ _ | exact bI_Rg _ | exact ⟨by omega, by omega⟩) (by first | exact hM _ _ | exact bI_Rg _ | exact ⟨by omega, by omega⟩) (fun c175 => ?_) (fun c175 => ?_)
                      · refine g_iconst (iI 0) dX9_mark_182 rfl ?_
                        refine mt_8 dX9_mark_183 (by omega) (by omega) (by first | exact Or.inl rfl | exact Or.inr rfl | omega) ?_
                        refine g_aload_n 0 dX9_mark_184 rfl rfl ?_
                        refine mg_6 dX9_mark_185 rfl ?_
                        refine g_iload dX9_mark_188 rfl ?_
                        refine g_iload dX9_mark_190 rfl ?_
                        refine g_iconst (iI 2) dX9_mark_192 rfl ?_
                        refine gi_icmp_ge 201 dX9_mark_193 (by decide) (by first | exact hM _ _ | exact bI_Rg _ | exact ⟨by omega, by omega⟩) (by first | exact hM _ _ | exact bI_Rg _ | exact ⟨by omega, by omega⟩) (fun c193 => ?_) (fun c193 => ?_)
                        · refine g_iload dX9_mark_201 rfl ?_
                          refine g_iconst (iI 1) dX9_mark_203 rfl ?_
                          refine gi_add dX9_mark_204 ?_
                          refine g_aload_n 0 dX9_mark_205 rfl rfl ?_
                          refine mg_17 (show _ from h172) dX9_mark_206 rfl ?_
                          refine gi_icmp_ge 224 dX9_mark_209 (by decide) (by first | exact hM _ _ | exact bI_Rg _ | exact ⟨by omega, by omega⟩) (by first | exact hM _ _ | exact bI_Rg _ | exact ⟨by omega, by omega⟩) (fun c209 => ?_) (fun c209 => ?_)
                          · refine g_bipush (iI (-2)) dX9_mark_224 (by decide) ?_
                            refine mt_6 dX9_mark_226 (by omega) (by omega) ?_
                            refine g_aload_n 0 dX9_mark_227 rfl rfl ?_
                            refine g_iload dX9_mark_228 rfl ?_
                            refine mcI lkX9_163 (c_done Z o a _ _) dX9_mark_230 rfl (And.intro (Nat.le_of_ble_eq_true rfl) (Nat.le_of_ble_eq_true rfl)) rfl (Nat.le_of_ble_eq_true rfl) rfl rfl (Nat.le_of_ble_eq_true rfl) (Nat.le_of_ble_eq_true rfl) (fun z230 M230 h230 => ?_)
                            obtain ⟨q1, q2⟩ := h230
                            rw [q1, q2]
                            refine g_iret dX9_mark_233 rfl (Nat.le_of_ble_eq_true rfl) (Nat.le_of_ble_eq_true rfl) ⟨_, _, rfl, rfl, ?_⟩
                            unfold A_mark
                            rw [if_pos hp2]
                            rw [if_neg (by omega)]
                            rw [if_pos (by omega)]
                            rw [if_neg c79]
                            refine ⟨rfl, ?_⟩
                            rw [show bI (decide (h = 1 ∨ h = 3)) = 0 by rw [decide_eq_false (by omega)]; rfl]
                            rw [if_neg (by omega)]
                            rw [if_neg (by omega)]
                            have e1 : nmF D p f 0 = fF (ordF D (tkB D p)) (atF D (tkB D p) f) := by unfold nmF; rw [show f + 0 = f by omega]
                            have e2 : nmF D p f (n - 1) = fF (ordF D (tkB D p)) (atF D (tkB D p) (f + n - 1)) := by unfold nmF; rw [show f + (n - 1) = f + n - 1 by omega]
                            rw [e1, e2]
                            exact Pers_fin (Pers_ms (Pers_ms (Pers_ms (Pers_ms (Pers_ms hP110 _ _ _) _ _ _) _ _ _) _ _ _) _ _ _) _
                          · refine g_aload_n 0 dX9_mark_212 rfl rfl ?_
                            refine mg_16 dX9_mark_213 rfl ?_
                            refine g_iload dX9_mark_216 rfl ?_
                            refine g_iconst (iI 1) dX9_mark_218 rfl ?_
                            refine gi_add dX9_mark_219 ?_
                            refine ml_16 (show _ from OL_fF hO2 (show 0 ≤ atF D (tkB D p) (f + n - 1) + 1 by omega) (by omega)) dX9_mark_220 (by omega) (by omega) ?_
                            refine g_goto 226 dX9_mark_221 (by decide) ?_
                            refine mt_6 dX9_mark_226 (by omega) (by omega) ?_
                            refine g_aload_n 0 dX9_mark_227 rfl rfl ?_
                            refine g_iload dX9_mark_228 rfl ?_
                            refine mcI lkX9_163 (c_done Z o a _ _) dX9_mark_230 rfl (And.intro (Nat.le_of_ble_eq_true rfl) (Nat.le_of_ble_eq_true rfl)) rfl (Nat.le_of_ble_eq_true rfl) rfl rfl (Nat.le_of_ble_eq_true rfl) (Nat.le_of_ble_eq_true rfl) (fun z230 M230 h230 => ?_)
                            obtain ⟨q1, q2⟩ := h230
                            rw [q1, q2]
                            refine g_iret dX9_mark_233 rfl (Nat.le_of_ble_eq_true rfl) (Nat.le_of_ble_eq_true rfl) ⟨_, _, rfl, rfl, ?_⟩
                            unfold A_mark
                            rw [if_pos hp2]
                            rw [if_neg (by omega)]
                            rw [if_pos (by omega)]
                            rw [if_neg c79]
                            refine ⟨rfl, ?_⟩
                            rw [show bI (decide (h = 1 ∨ h = 3)) = 0 by rw [decide_eq_false (by omega)]; rfl]
                            rw [if_neg (by omega)]
                            rw [if_pos (by omega)]
                            have e1 : nmF D p f 0 = fF (ordF D (tkB D p)) (atF D (tkB D p) f) := by unfold nmF; rw [show f + 0 = f by omega]
                            have e2 : nmF D p f (n - 1) = fF (ordF D (tkB D p)) (atF D (tkB D p) (f + n - 1)) := by unfold nmF; rw [show f + (n - 1) = f + n - 1 by omega]
                            rw [e1, e2]
                            exact Pers_fin (Pers_ms (Pers_ms (Pers_ms (Pers_ms (Pers_ms hP110 _ _ _) _ _ _) _ _ _) _ _ _) _ _ _) _
                        · refine g_bipush (iI (-3)) dX9_mark_196 (by decide) ?_
                          refine g_goto 226 dX9_mark_198 (by decide) ?_
                          refine mt_6 dX9_mark_226 (by omega) (by omega) ?_
                          refine g_aload_n 0 dX9_mark_227 rfl rfl ?_
                          refine g_iload dX9_mark_228 rfl ?_
                          refine mcI lkX9_163 (c_done Z o a _ _) dX9_mark_230 rfl (And.intro (Nat.le_of_ble_eq_true rfl) (Nat.le_of_ble_eq_true rfl)) rfl (Nat.le_of_ble_eq_true rfl) rfl rfl (Nat.le_of_ble_eq_true rfl) (Nat.le_of_ble_eq_true rfl) (fun z230 M230 h230 => ?_)
                          obtain ⟨q1, q2⟩ := h230
                          rw [q1, q2]
                          refine g_iret dX9_mark_233 rfl (Nat.le_of_ble_eq_true rfl) (Nat.le_of_ble_eq_true rfl) ⟨_, _, rfl, rfl, ?_⟩
                          unfold A_mark
                          rw [if_pos hp2]
                          rw [if_neg (by omega)]
                          rw [if_pos (by omega)]
                          rw [if_neg c79]
                          refine ⟨rfl, ?_⟩
                          rw [show bI (decide (h = 1 ∨ h = 3)) = 0 by rw [decide_eq_false (by omega)]; rfl]
                          rw [if_pos (by omega)]
                          have e1 : nmF D p f 0 = fF (ordF D (tkB D p)) (atF D (tkB D p) f) := by unfold nmF; rw [show f + 0 = f by omega]
                          have e2 : nmF D p f (n - 1) = fF (ordF D (tkB D p)) (atF D (tkB D p) (f + n - 1)) := by unfold nmF; rw [show f + (n - 1) = f + n - 1 by omega]
                          rw [e1, e2]
                          exact Pers_fin (Pers_ms (Pers_ms (Pers_ms (Pers_ms (Pers_ms hP110 _ _ _) _ _ _) _ _ _) _ _ _) _ _ _) _
                      · refine g_iconst (iI 1) dX9_mark_178 rfl ?_
                        refine g_goto 183 dX9_mark_179 (by decide) ?_
                        refine mt_8 dX9_mark_183 (by omega) (by omega) (by first | exact Or.inl rfl | exact Or.inr rfl | omega) ?_
                        refine g_aload_n 0 dX9_mark_184 rfl rfl ?_
                        refine mg_6 dX9_mark_185 rfl ?_
                        refine g_iload dX9_mark_188 rfl ?_
                        refine g_iload dX9_mark_190 rfl ?_
                        refine g_iconst (iI 2) dX9_mark_192 rfl ?_
                        refine gi_icmp_ge 201 dX9_mark_193 (by decide) (by first | exact hM _ _ | exact bI_Rg _ | exact ⟨by omega, by omega⟩) (by first | exact hM _ _ | exact bI_Rg _ | exact ⟨by omega, by omega⟩) (fun c193 => ?_) (fun c193 => ?_)
                        · refine g_iload dX9_mark_201 rfl ?_
                          refine g_iconst (iI 1) dX9_mark_203 rfl ?_
                          refine gi_add dX9_mark_204 ?_
                          refine g_aload_n 0 dX9_mark_205 rfl rfl ?_
                          refine mg_17 (show _ from h172) dX9_mark_206 rfl ?_
                          refine gi_icmp_ge 224 dX9_mark_209 (by decide) (by first | exact hM _ _ | exact bI_Rg _ | exact ⟨by omega, by omega⟩) (by first | exact hM _ _ | exact bI_Rg _ | exact ⟨by omega, by omega⟩) (fun c209 => ?_) (fun c209 => ?_)
                          · refine g_bipush (iI (-2)) dX9_mark_224 (by decide) ?_
                            refine mt_6 dX9_mark_226 (by omega) (by omega) ?_
                            refine g_aload_n 0 dX9_mark_227 rfl rfl ?_
                            refine g_iload dX9_mark_228 rfl ?_
                            refine mcI lkX9_163 (c_done Z o a _ _) dX9_mark_230 rfl (And.intro (Nat.le_of_ble_eq_true rfl) (Nat.le_of_ble_eq_true rfl)) rfl (Nat.le_of_ble_eq_true rfl) rfl rfl (Nat.le_of_ble_eq_true rfl) (Nat.le_of_ble_eq_true rfl) (fun z230 M230 h230 => ?_)
                            obtain ⟨q1, q2⟩ := h230
                            rw [q1, q2]
                            refine g_iret dX9_mark_233 rfl (Nat.le_of_ble_eq_true rfl) (Nat.le_of_ble_eq_true rfl) ⟨_, _, rfl, rfl, ?_⟩
                            unfold A_mark
                            rw [if_pos hp2]
                            rw [if_neg (by omega)]
                            rw [if_pos (by omega)]
                            rw [if_neg c79]
                            refine ⟨rfl, ?_⟩
                            rw [show bI (decide (h = 1 ∨ h = 3)) = 1 by rw [decide_eq_true (by omega)]; rfl]
                            rw [if_neg (by omega)]
                            rw [if_neg (by omega)]
                            have e1 : nmF D p f 0 = fF (ordF D (tkB D p)) (atF D (tkB D p) f) := by unfold nmF; rw [show f + 0 = f by omega]
                            have e2 : nmF D p f (n - 1) = fF (ordF D (tkB D p)) (atF D (tkB D p) (f + n - 1)) := by unfold nmF; rw [show f + (n - 1) = f + n - 1 by omega]
                            rw [e1, e2]
                            exact Pers_fin (Pers_ms (Pers_ms (Pers_ms (Pers_ms (Pers_ms hP110 _ _ _) _ _ _) _ _ _) _ _ _) _ _ _) _
                          · refine g_aload_n 0 dX9_mark_212 rfl rfl ?_
                            refine mg_16 dX9_mark_213 rfl ?_
                            refine g_iload dX9_mark_216 rfl ?_
                            refine g_iconst (iI 1) dX9_mark_218 rfl ?_
                            refine gi_add dX9_mark_219 ?_
                            refine ml_16 (show _ from OL_fF hO2 (show 0 ≤ atF D (tkB D p) (f + n - 1) + 1 by omega) (by omega)) dX9_mark_220 (by omega) (by omega) ?_
                            refine g_goto 226 dX9_mark_221 (by decide) ?_
                            refine mt_6 dX9_mark_226 (by omega) (by omega) ?_
                            refine g_aload_n 0 dX9_mark_227 rfl rfl ?_
                            refine g_iload dX9_mark_228 rfl ?_
                            refine mcI lkX9_163 (c_done Z o a _ _) dX9_mark_230 rfl (And.intro (Nat.le_of_ble_eq_true rfl) (Nat.le_of_ble_eq_true rfl)) rfl (Nat.le_of_ble_eq_true rfl) rfl rfl (Nat.le_of_ble_eq_true rfl) (Nat.le_of_ble_eq_true rfl) (fun z230 M230 h230 => ?_)
                            obtain ⟨q1, q2⟩ := h230
                            rw [q1, q2]
                            refine g_iret dX9_mark_233 rfl (Nat.le_of_ble_eq_true rfl) (Nat.le_of_ble_eq_true rfl) ⟨_, _, rfl, rfl, ?_⟩
                            unfold A_mark
                            rw [if_pos hp2]
                            rw [if_neg (by omega)]
                            rw [if_pos (by omega)]
                            rw [if_neg c79]
                            refine ⟨rfl, ?_⟩
                            rw [show bI (decide (h = 1 ∨ h = 3)) = 1 by rw [decide_eq_true (by omega)]; rfl]
                            rw [if_neg (by omega)]
                            rw [if_pos (by omega)]
                            have e1 : nmF D p f 0 = fF (ordF D (tkB D p)) (atF D (tkB D p) f) := by unfold nmF; rw [show f + 0 = f by omega]
                            have e2 : nmF D p f (n - 1) = fF (ordF D (tkB D p)) (atF D (tkB D p) (f + n - 1)) := by unfold nmF; rw [show f + (n - 1) = f + n - 1 by omega]
                            rw [e1, e2]
                            exact Pers_fin (Pers_ms (Pers_ms (Pers_ms (Pers_ms (Pers_ms hP110 _ _ _) _ _ _) _ _ _) _ _ _) _ _ _) _
                        · refine g_bipush (iI (-3)) dX9_mark_196 (by decide) ?_
                          refine g_goto 226 dX9_mark_198 (by decide) ?_
                          refine mt_6 dX9_mark_226 (by omega) (by omega) ?_
                          refine g_aload_n 0 dX9_mark_227 rfl rfl ?_
                          refine g_iload dX9_mark_228 rfl ?_
                          refine mcI lkX9_163 (c_done Z o a _ _) dX9_mark_230 rfl (And.intro (Nat.le_of_ble_eq_true rfl) (Nat.le_of_ble_eq_true rfl)) rfl (Nat.le_of_ble_eq_true rfl) rfl rfl (Nat.le_of_ble_eq_true rfl) (Nat.le_of_ble_eq_true rfl) (fun z230 M230 h230 => ?_)
                          obtain ⟨q1, q2⟩ := h230
                          rw [q1, q2]
                          refine g_iret dX9_mark_233 rfl (Nat.le_of_ble_eq_true rfl) (Nat.le_of_ble_eq_true rfl) ⟨_, _, rfl, rfl, ?_⟩
                          unfold A_mark
                          rw [if_pos hp2]
                          rw [if_neg (by omega)]
                          rw [if_pos (by omega)]
                          rw [if_neg c79]
                          refine ⟨rfl, ?_⟩
                          rw [show bI (decide (h = 1 ∨ h = 3)) = 1 by rw [decide_eq_true (by omega)]; rfl]
                          rw [if_pos (by omega)]
                          have e1 : nmF D p f 0 = fF (ordF D (tkB D p)) (atF D (tkB D p) f) := by unfold nmF; rw [show f + 0 = f by omega]
                          have e2 : nmF D p f (n - 1) = fF (ordF D (tkB D p)) (atF D (tkB D p) (f + n - 1)) := by unfold nmF; rw [show f + (n - 1) = f + n - 1 by omega]
                          rw [e1, e2]
                          exact Pers_fin (Pers_ms (Pers_ms (Pers_ms (Pers_ms (Pers_ms hP110 _ _ _) _ _ _) _ _ _) _ _ _) _ _ _) _
                  · refine g_aload_n 0 dX9_mark_82 rfl rfl ?_
                    refine g_iconst (iI 2) dX9_mark_83 rfl ?_
                    refine mcI lkX9_150 (c_refuse Z o a _ _) dX9_mark_84 rfl (And.intro (Nat.le_of_ble_eq_true rfl) (Nat.le_of_ble_eq_true rfl)) rfl (Nat.le_of_ble_eq_true rfl) rfl rfl (Nat.le_of_ble_eq_true rfl) (Nat.le_of_ble_eq_true rfl) (fun z84 M84 h84 => ?_)
                    obtain ⟨q1, q2⟩ := h84
                    rw [q1, q2]
                    refine g_iret dX9_mark_87 rfl (Nat.le_of_ble_eq_true rfl) (Nat.le_of_ble_eq_true rfl) ⟨_, _, rfl, rfl, ?_⟩
                    unfold A_mark
                    rw [if_pos hp2]
                    rw [if_neg (by omega)]
                    rw [if_pos (by omega)]
                    rw [if_pos c79]
                    exact ⟨rfl, Pers_fin hP25 _⟩
                · refine g_aload_n 0 dX9_mark_66 rfl rfl ?_
                  refine g_iconst (iI 1) dX9_mark_67 rfl ?_
                  refine mcI lkX9_150 (c_refuse Z o a _ _) dX9_mark_68 rfl (And.intro (Nat.le_of_ble_eq_true rfl) (Nat.le_of_ble_eq_true rfl)) rfl (Nat.le_of_ble_eq_true rfl) rfl rfl (Nat.le_of_ble_eq_true rfl) (Nat.le_of_ble_eq_true rfl) (fun z68 M68 h68 => ?_)
                  obtain ⟨q1, q2⟩ := h68
                  rw [q1, q2]
                  refine g_iret dX9_mark_71 rfl (Nat.le_of_ble_eq_true rfl) (Nat.le_of_ble_eq_true rfl) ⟨_, _, rfl, rfl, ?_⟩
                  unfold A_mark
                  rw [if_pos hp2]
                  rw [if_neg (by omega)]
                  rw [if_neg (by omega)]
                  exact ⟨rfl, Pers_fin hP25 _⟩
    · refine g_aload_n 0 dX9_mark_17 rfl rfl ?_
      refine g_iconst (iI 5) dX9_mark_18 rfl ?_
      refine mcI lkX9_150 (c_refuse Z o a _ _) dX9_mark_19 rfl (And.intro (Nat.le_of_ble_eq_true rfl) (Nat.le_of_ble_eq_true rfl)) rfl (Nat.le_of_ble_eq_true rfl) rfl rfl (Nat.le_of_ble_eq_true rfl) (Nat.le_of_ble_eq_true rfl) (fun z19 M19 h19 => ?_)
      obtain ⟨q1, q2⟩ := h19
      rw [q1, q2]
      refine g_iret dX9_mark_22 rfl (Nat.le_of_ble_eq_true rfl) (Nat.le_of_ble_eq_true rfl) ⟨_, _, rfl, rfl, ?_⟩
      unfold A_mark
      rw [if_pos hp2]
      rw [if_pos (by omega)]
      exact ⟨rfl, Pers_fin hP _⟩
  · have hp2 := penB_f c4
    refine g_aload_n 0 dX9_mark_7 rfl rfl ?_
    refine g_iconst (iI 1) dX9_mark_8 rfl ?_
    refine mcI lkX9_150 (c_refuse Z o a _ _) dX9_mark_9 rfl (And.intro (Nat.le_of_ble_eq_true rfl) (Nat.le_of_ble_eq_true rfl)) rfl (Nat.le_of_ble_eq_true rfl) rfl rfl (Nat.le_of_ble_eq_true rfl) (Nat.le_of_ble_eq_true rfl) (fun z9 M9 h9 => ?_)
    obtain ⟨q1, q2⟩ := h9
    rw [q1, q2]
    refine g_iret dX9_mark_12 rfl (Nat.le_of_ble_eq_true rfl) (Nat.le_of_ble_eq_true rfl) ⟨_, _, rfl, rfl, ?_⟩
    unfold A_mark
    rw [if_neg hp2]
    exact ⟨rfl, Pers_fin hP _⟩
