/-! THE REFERENCE: type -/
def f3 (a b c : Int) (i : Int) : Int := if i = 0 then a else if i = 1 then b else c
def cl3 (a b c : Int) : Int := if a = -1 then 0 else if b = -1 then 1 else if c = -1 then 2 else 3
def inC (a b c : Int) (i : Int) : Bool := decide (0 ≤ f3 a b c i ∧ f3 a b c i ≤ 255)
def tyL (D : Mem) (s : Int) (g : Int → Int) : Nat → Mem
  | 0 => D
  | i + 1 => ms (ms (tyL D s g i) 5 (4 * s + i) (g i)) 4 (12 * s + i) (4 * s + i)
def goodB (D : Mem) (p q a b c : Int) : Bool := (decide (0 ≤ q ∧ q ≤ txtN D (tkB D p) ∧ a ≠ -1)) && allB (inC a b c) 0 (cl3 a b c).toNat
def lftX (D : Mem) (p q : Int) : Int := if q = 0 then -2 else fF (ordF D (tkB D p)) (atF D (tkB D p) (q - 1))
def A_type (D : Mem) (p q a b c : Int) : Int × Mem := if 0 ≤ p ∧ p < 6 then (if goodB D p q a b c = true then (if D 9 0 = 256 then (-1, ms D 13 0 2) else (D 9 0, ms (tyL (ms (mkD D p 0 (cl3 a b c) (stp D p)) 6 (D 9 0) (lftX D p q)) (D 9 0) (f3 a b c) (cl3 a b c).toNat) 13 0 0)) else (-1, ms D 13 0 1)) else (-1, ms D 13 0 1)
set_option maxHeartbeats 4000000 in
set_option maxRecDepth 100000 in
/-- type -/
theorem c_type (Z : LZ) (o : Nat) (a : Nat → Nat) {D M : Mem} (hP : Pers D M) (hM : RM D) (hD : okP D) (hO : okO D (D 9 0).toNat) (hst : ∀ s, 0 ≤ s → s < D 9 0 → 0 ≤ D 1 s ∧ D 1 s ≤ 100000) (p q c1 c2 c3 : Int) (hp : Rg p) (hq : Rg q) (hc1 : Rg c1) (hc2 : Rg c2) (hc3 : Rg c3)  : Tm Z o a jX9_type [p, q, c1, c2, c3] M (fun z M2 => z = (A_type D p q c1 c2 c3).1 ∧ Pers (A_type D p q c1 c2 c3).2 M2) := by
  refine tr_of pn_X9_type (Nat.le_of_ble_eq_true rfl) (vI_catO o _) ?_
  show G Z jX9_type E0 (QM Z jX9_type (pI Z o a (fun z M2 => z = (A_type D p q c1 c2 c3).1 ∧ Pers (A_type D p q c1 c2 c3).2 M2))) 0 [.ref o, .int (iI p), .int (iI q), .int (iI c1), .int (iI c2), .int (iI c3)] [] (mW Z o a M) 0 0
  have hn := hD.2.1
  have hf3 : ∀ i, Rg (f3 c1 c2 c3 i) := by
    intro i
    unfold f3
    split
    · exact hc1
    · split
      · exact hc2
      · exact hc3
  refine g_iload_n 1 dX9_type_0 rfl rfl ?_
  refine mcS lkX9_147 (c_isPen Z o a _ p (by first | assumption | exact ⟨by omega, by omega⟩)) dX9_type_1 rfl (And.intro (Nat.le_of_ble_eq_true rfl) (Nat.le_of_ble_eq_true rfl)) (Nat.le_of_ble_eq_true rfl) rfl rfl (Nat.le_of_ble_eq_true rfl) (Nat.le_of_ble_eq_true rfl) (fun z1 h1 => ?_)
  rw [h1]
  refine gi_if_ne 13 dX9_type_4 (by decide) (by first | exact hM _ _ | exact bI_Rg _ | exact ⟨by omega, by omega⟩) (fun c4 => ?_) (fun c4 => ?_)
  · have hp2 := penB_t c4
    refine g_aload_n 0 dX9_type_13 rfl rfl ?_
    refine g_iload_n 1 dX9_type_14 rfl rfl ?_
    refine mcI lkX9_153 (c_sheet Z o a hP hM hD hO p (by omega) (by omega)) dX9_type_15 rfl (And.intro (Nat.le_of_ble_eq_true rfl) (Nat.le_of_ble_eq_true rfl)) rfl (Nat.le_of_ble_eq_true rfl) rfl rfl (Nat.le_of_ble_eq_true rfl) (Nat.le_of_ble_eq_true rfl) (fun z15 M15 h15 => ?_)
    obtain ⟨q15, hF15, hS15⟩ := h15
    rw [q15]
    have hC15 := tkB_Cl hD p
    have hT15 := txtN_rg hD hO hC15
    have hL15 := ordF_len hD hO hC15
    refine g_istore dX9_type_18 (Nat.le_of_ble_eq_true rfl) (Nat.le_of_ble_eq_true rfl) rfl ?_
    dsimp only [sto]
    refine g_aload_n 0 dX9_type_20 rfl rfl ?_
    refine mg_24 dX9_type_21 rfl ?_
    refine g_iconst (iI 0) dX9_type_24 rfl ?_
    refine g_iload_n 3 dX9_type_25 rfl rfl ?_
    refine mt_24 dX9_type_26 (by omega) (by omega) ?_
    refine g_aload_n 0 dX9_type_27 rfl rfl ?_
    refine mg_24 dX9_type_28 rfl ?_
    refine g_iconst (iI 1) dX9_type_31 rfl ?_
    refine g_iload dX9_type_32 rfl ?_
    refine mt_24 dX9_type_34 (by omega) (by omega) ?_
    refine g_aload_n 0 dX9_type_35 rfl rfl ?_
    refine mg_24 dX9_type_36 rfl ?_
    refine g_iconst (iI 2) dX9_type_39 rfl ?_
    refine g_iload dX9_type_40 rfl ?_
    refine mt_24 dX9_type_42 (by omega) (by omega) ?_
    refine g_iconst (iI 0) dX9_type_43 rfl ?_
    refine g_istore dX9_type_44 (Nat.le_of_ble_eq_true rfl) (Nat.le_of_ble_eq_true rfl) rfl ?_
    dsimp only [sto]
    have hSr : Sh D (tkB D p) (ms (ms (ms M15 24 0 c1) 24 1 c2) 24 2 c3) := hS15.row (((((Fx.rf [24] M15).ms (r := 24) (by decide)).ms (r := 24) (by decide)).ms (r := 24) (by decide))) (by decide) (by decide) (by decide) (by decide) (by decide)
    have hPr : Pers D (ms (ms (ms M15 24 0 c1) 24 1 c2) 24 2 c3) := (((hP.fx hF15 (by decide)).ms (r := 24) (by decide)).ms (r := 24) (by decide)).ms (r := 24) (by decide)
    have h3 : ∀ j : Int, 0 ≤ j → j < 3 → ms (ms (ms M15 24 0 c1) 24 1 c2) 24 2 c3 24 j = f3 c1 c2 c3 j := by
      intro j a1 a2
      have hj : j = 0 ∨ j = 1 ∨ j = 2 := by omega
      rcases hj with e | e | e <;> subst e
      · rw [ms_off (by decide), ms_off (by decide), ms_at]; rfl
      · rw [ms_off (by decide), ms_at]; rfl
      · rw [ms_at]; rfl
    generalize ms (ms (ms M15 24 0 c1) 24 1 c2) 24 2 c3 = Mr at hSr hPr h3 ⊢
    have sec : ∀ (g : Int) (Ms : Mem), goodB D p q c1 c2 c3 = true → D 9 0 < 256 → Pers (ms (mkD D p 0 (cl3 c1 c2 c3) (stp D p)) 6 (D 9 0) (lftX D p q)) Ms → (∀ j : Int, 0 ≤ j → j < 3 → Ms 24 j = f3 c1 c2 c3 j) → G Z jX9_type E0 (QM Z jX9_type (pI Z o a (fun z M2 => z = (A_type D p q c1 c2 c3).1 ∧ Pers (A_type D p q c1 c2 c3).2 M2))) 198 [.ref o, .int (iI p), .int (iI q), .int (iI c1), .int (iI c2), .int (iI c3), .int (iI (txtN D (tkB D p))), .int (iI (cl3 c1 c2 c3)), .int (iI g), .int (iI (lftX D p q)), .int (iI (D 9 0)), .int (iI 0)] [] (mW Z o a Ms) 0 0 := by
      intro g Ms hgd h256 hPs h3s
      have hcl : 0 ≤ cl3 c1 c2 c3 ∧ cl3 c1 c2 c3 ≤ 3 := by unfold cl3; split <;> (try split) <;> (try split) <;> omega
      have loop2 : ∀ (fuel : Nat) (i : Int) (Mq : Mem), cl3 c1 c2 c3 - i < fuel → 0 ≤ i → i ≤ cl3 c1 c2 c3 → Pers (tyL (ms (mkD D p 0 (cl3 c1 c2 c3) (stp D p)) 6 (D 9 0) (lftX D p q)) (D 9 0) (f3 c1 c2 c3) i.toNat) Mq → (∀ j : Int, 0 ≤ j → j < 3 → Mq 24 j = f3 c1 c2 c3 j) → G Z jX9_type E0 (QM Z jX9_type (pI Z o a (fun z M2 => z = (A_type D p q c1 c2 c3).1 ∧ Pers (A_type D p q c1 c2 c3).2 M2))) 198 [.ref o, .int (iI p), .int (iI q), .int (iI c1), .int (iI c2), .int (iI c3), .int (iI (txtN D (tkB D p))), .int (iI (cl3 c1 c2 c3)), .int (iI g), .int (iI (lftX D p q)), .int (iI (D 9 0)), .int (iI i)] [] (mW Z o a Mq) 0 0 := by
        intro fuel
        induction fuel with
        | zero => intros; exfalso; omega
        | succ fuel ih =>
          intro i Mq hfu hi0 hi1 hPq h3
          refine g_iload dX9_type_198 rfl ?_
          refine g_iload dX9_type_200 rfl ?_
          refine gi_icmp_ge 250 dX9_type_202 (by decide) (by first | exact hM _ _ | exact bI_Rg _ | exact ⟨by omega, by omega⟩) (by first | exact hM _ _ | exact bI_Rg _ | exact ⟨by omega, by omega⟩) (fun c202 => ?_) (fun c202 => ?_)
          · refine g_aload_n 0 dX9_type_250 rfl rfl ?_
            refine g_iload dX9_type_251 rfl ?_
            refine mcI lkX9_163 (c_done Z o a _ _) dX9_type_253 rfl (And.intro (Nat.le_of_ble_eq_true rfl) (Nat.le_of_ble_eq_true rfl)) rfl (Nat.le_of_ble_eq_true rfl) rfl rfl (Nat.le_of_ble_eq_true rfl) (Nat.le_of_ble_eq_true rfl) (fun z253 M253 h253 => ?_)
            obtain ⟨q1, q2⟩ := h253
            rw [q1, q2]
            refine g_iret dX9_type_256 rfl (Nat.le_of_ble_eq_true rfl) (Nat.le_of_ble_eq_true rfl) ⟨_, _, rfl, rfl, ?_⟩
            unfold A_type
            rw [if_pos hp2, if_pos hgd, if_neg (by omega)]
            refine ⟨rfl, ?_⟩
            have e : i = cl3 c1 c2 c3 := by omega
            rw [e] at hPq
            exact Pers_fin hPq _
          · refine g_aload_n 0 dX9_type_205 rfl rfl ?_
            refine mg_5 dX9_type_206 rfl ?_
            refine g_iconst (iI 4) dX9_type_209 rfl ?_
            refine g_iload dX9_type_210 rfl ?_
            refine gi_mul dX9_type_212 ?_
            refine g_iload dX9_type_213 rfl ?_
            refine gi_add dX9_type_215 ?_
            refine g_aload_n 0 dX9_type_216 rfl rfl ?_
            refine mg_24 dX9_type_217 rfl ?_
            refine g_iload dX9_type_220 rfl ?_
            refine ml_24 (h3 i (by omega) (by omega)) dX9_type_222 (by omega) (by omega) ?_
            refine mt_5 dX9_type_223 (by omega) (by omega) ?_
            refine g_aload_n 0 dX9_type_224 rfl rfl ?_
            refine mg_4 dX9_type_225 rfl ?_
            refine g_bipush (iI 12) dX9_type_228 (by decide) ?_
            refine g_iload dX9_type_230 rfl ?_
            refine gi_mul dX9_type_232 ?_
            refine g_iload dX9_type_233 rfl ?_
            refine gi_add dX9_type_235 ?_
            refine g_iconst (iI 4) dX9_type_236 rfl ?_
            refine g_iload dX9_type_237 rfl ?_
            refine gi_mul dX9_type_239 ?_
            refine g_iload dX9_type_240 rfl ?_
            refine gi_add dX9_type_242 ?_
            refine mt_4 dX9_type_243 (by omega) (by omega) ?_
            refine gi_inc dX9_type_244 rfl (Nat.le_of_ble_eq_true rfl) rfl ?_
            dsimp only [sto]
            refine g_goto 198 dX9_type_247 (by decide) ?_
            exact ih _ _ (by omega) (by omega) (by omega) (by
              rw [show (i + 1).toNat = i.toNat + 1 by omega, tyL, show ((i.toNat : Nat) : Int) = i by omega]
              exact Pers_ms (Pers_ms hPq _ _ _) _ _ _) (fun j a1 a2 => by rw [ms_row (by decide), ms_row (by decide)]; exact h3 j a1 a2)
      exact loop2 ((cl3 c1 c2 c3).toNat + 1) 0 Ms (by omega) (by omega) (by omega) hPs h3s
    have aft : 0 ≤ cl3 c1 c2 c3 → cl3 c1 c2 c3 ≤ 3 → G Z jX9_type E0 (QM Z jX9_type (pI Z o a (fun z M2 => z = (A_type D p q c1 c2 c3).1 ∧ Pers (A_type D p q c1 c2 c3).2 M2))) 126 [.ref o, .int (iI p), .int (iI q), .int (iI c1), .int (iI c2), .int (iI c3), .int (iI (txtN D (tkB D p))), .int (iI (cl3 c1 c2 c3)), .int (iI (bI (goodB D p q c1 c2 c3)))] [] (mW Z o a Mr) 0 0 := by
      intro hcl0 hcl1
      refine g_iload dX9_type_126 rfl ?_
      refine gi_if_ne 137 dX9_type_128 (by decide) (by first | exact hM _ _ | exact bI_Rg _ | exact ⟨by omega, by omega⟩) (fun c128 => ?_) (fun c128 => ?_)
      · have hgd : goodB D p q c1 c2 c3 = true := by cases hb : goodB D p q c1 c2 c3 <;> simp_all [bI]
        have hgq : 0 ≤ q ∧ q ≤ txtN D (tkB D p) ∧ c1 ≠ -1 := by
          unfold goodB at hgd
          rw [Bool.and_eq_true, decide_eq_true_eq] at hgd
          exact hgd.1
        refine g_aload_n 0 dX9_type_137 rfl rfl ?_
        refine mg_9 (hPr.at 9 (by decide) _) dX9_type_138 rfl ?_
        refine g_sipush (iI 256) dX9_type_141 (by decide) ?_
        refine gi_icmp_ne 153 dX9_type_144 (by decide) (by first | exact hM _ _ | exact bI_Rg _ | exact ⟨by omega, by omega⟩) (by first | exact hM _ _ | exact bI_Rg _ | exact ⟨by omega, by omega⟩) (fun c144 => ?_) (fun c144 => ?_)
        · refine g_iload_n 2 dX9_type_153 rfl rfl ?_
          refine gi_if_ne 162 dX9_type_154 (by decide) (by first | exact hM _ _ | exact bI_Rg _ | exact ⟨by omega, by omega⟩) (fun c154 => ?_) (fun c154 => ?_)
          · refine g_aload_n 0 dX9_type_162 rfl rfl ?_
            refine mg_16 dX9_type_163 rfl ?_
            refine g_aload_n 0 dX9_type_166 rfl rfl ?_
            refine g_iload_n 2 dX9_type_167 rfl rfl ?_
            refine g_iconst (iI 1) dX9_type_168 rfl ?_
            refine gi_sub dX9_type_169 ?_
            refine mcI lkX9_156 (c_atPlaceF Z o a hPr hM hD hO hC15 hSr (q - 1) (by omega) (by omega)) dX9_type_170 rfl (And.intro (Nat.le_of_ble_eq_true rfl) (Nat.le_of_ble_eq_true rfl)) rfl (Nat.le_of_ble_eq_true rfl) rfl rfl (Nat.le_of_ble_eq_true rfl) (Nat.le_of_ble_eq_true rfl) (fun z170 M170 h170 => ?_)
            obtain ⟨q1, q2⟩ := h170
            rw [q1, q2]
            have hat := atF_in (D := D) (T := tkB D p) (x := q - 1) (by omega) (by omega)
            refine ml_16 (OL_fF hSr.2.2.1 hat.1 hat.2.1) dX9_type_173 hat.1 (by omega) ?_
            refine g_istore dX9_type_174 (Nat.le_of_ble_eq_true rfl) (Nat.le_of_ble_eq_true rfl) rfl ?_
            dsimp only [sto]
            refine g_aload_n 0 dX9_type_176 rfl rfl ?_
            refine g_iload_n 1 dX9_type_177 rfl rfl ?_
            refine g_iconst (iI 0) dX9_type_178 rfl ?_
            refine g_iload dX9_type_179 rfl ?_
            refine mcI lkX9_159 (c_make Z o a hPr hM hD hO (tkB D p) hSr.1 p 0 (cl3 c1 c2 c3) (by omega) (by omega) (by omega) (by exact ⟨by omega, by omega⟩) (by exact ⟨by omega, by omega⟩)) dX9_type_181 rfl (And.intro (Nat.le_of_ble_eq_true rfl) (Nat.le_of_ble_eq_true rfl)) rfl (Nat.le_of_ble_eq_true rfl) rfl rfl (Nat.le_of_ble_eq_true rfl) (Nat.le_of_ble_eq_true rfl) (fun z181 M181 h181 => ?_)
            obtain ⟨q181, hP181, hR181⟩ := h181
            rw [q181]
            refine g_istore dX9_type_184 (Nat.le_of_ble_eq_true rfl) (Nat.le_of_ble_eq_true rfl) rfl ?_
            dsimp only [sto]
            refine g_aload_n 0 dX9_type_186 rfl rfl ?_
            refine mg_6 dX9_type_187 rfl ?_
            refine g_iload dX9_type_190 rfl ?_
            refine g_iload dX9_type_192 rfl ?_
            refine mt_6 dX9_type_194 (by omega) (by omega) ?_
            refine g_iconst (iI 0) dX9_type_195 rfl ?_
            refine g_istore dX9_type_196 (Nat.le_of_ble_eq_true rfl) (Nat.le_of_ble_eq_true rfl) rfl ?_
            dsimp only [sto]
            have hlx : lftX D p q = fF (ordF D (tkB D p)) (atF D (tkB D p) (q - 1)) := by unfold lftX; rw [if_neg c154]
            rw [← hlx]
            exact sec (bI (goodB D p q c1 c2 c3)) _ hgd (by omega) (by
              rw [hlx]
              exact Pers_ms hP181 6 _ _) (fun j a1 a2 => by rw [ms_row (by decide), hR181 24 (by decide)]; exact h3 j a1 a2)
          · refine g_bipush (iI (-2)) dX9_type_157 (by decide) ?_
            refine g_goto 174 dX9_type_159 (by decide) ?_
            refine g_istore dX9_type_174 (Nat.le_of_ble_eq_true rfl) (Nat.le_of_ble_eq_true rfl) rfl ?_
            dsimp only [sto]
            refine g_aload_n 0 dX9_type_176 rfl rfl ?_
            refine g_iload_n 1 dX9_type_177 rfl rfl ?_
            refine g_iconst (iI 0) dX9_type_178 rfl ?_
            refine g_iload dX9_type_179 rfl ?_
            refine mcI lkX9_159 (c_make Z o a hPr hM hD hO (tkB D p) hSr.1 p 0 (cl3 c1 c2 c3) (by omega) (by omega) (by omega) (by exact ⟨by omega, by omega⟩) (by exact ⟨by omega, by omega⟩)) dX9_type_181 rfl (And.intro (Nat.le_of_ble_eq_true rfl) (Nat.le_of_ble_eq_true rfl)) rfl (Nat.le_of_ble_eq_true rfl) rfl rfl (Nat.le_of_ble_eq_true rfl) (Nat.le_of_ble_eq_true rfl) (fun z181 M181 h181 => ?_)
            obtain ⟨q181, hP181, hR181⟩ := h181
            rw [q181]
            refine g_istore dX9_type_184 (Nat.le_of_ble_eq_true rfl) (Nat.le_of_ble_eq_true rfl) rfl ?_
            dsimp only [sto]
            refine g_aload_n 0 dX9_type_186 rfl rfl ?_
            refine mg_6 dX9_type_187 rfl ?_
            refine g_iload dX9_type_190 rfl ?_
            refine g_iload dX9_type_192 rfl ?_
            refine mt_6 dX9_type_194 (by omega) (by omega) ?_
            refine g_iconst (iI 0) dX9_type_195 rfl ?_
            refine g_istore dX9_type_196 (Nat.le_of_ble_eq_true rfl) (Nat.le_of_ble_eq_true rfl) rfl ?_
            dsimp only [sto]
            have hlx : lftX D p q = -2 := by unfold lftX; rw [if_pos c154]
            rw [← hlx]
            exact sec (bI (goodB D p q c1 c2 c3)) _ hgd (by omega) (by
              rw [hlx]
              exact Pers_ms hP181 6 _ _) (fun j a1 a2 => by rw [ms_row (by decide), hR181 24 (by decide)]; exact h3 j a1 a2)
        · refine g_aload_n 0 dX9_type_147 rfl rfl ?_
          refine g_iconst (iI 2) dX9_type_148 rfl ?_
          refine mcI lkX9_150 (c_refuse Z o a _ _) dX9_type_149 rfl (And.intro (Nat.le_of_ble_eq_true rfl) (Nat.le_of_ble_eq_true rfl)) rfl (Nat.le_of_ble_eq_true rfl) rfl rfl (Nat.le_of_ble_eq_true rfl) (Nat.le_of_ble_eq_true rfl) (fun z149 M149 h149 => ?_)
          obtain ⟨q1, q2⟩ := h149
          rw [q1, q2]
          refine g_iret dX9_type_152 rfl (Nat.le_of_ble_eq_true rfl) (Nat.le_of_ble_eq_true rfl) ⟨_, _, rfl, rfl, ?_⟩
          unfold A_type
          rw [if_pos hp2]
          rw [if_pos hgd, if_pos c144]
          exact ⟨rfl, Pers_fin hPr _⟩
      · refine g_aload_n 0 dX9_type_131 rfl rfl ?_
        refine g_iconst (iI 1) dX9_type_132 rfl ?_
        refine mcI lkX9_150 (c_refuse Z o a _ _) dX9_type_133 rfl (And.intro (Nat.le_of_ble_eq_true rfl) (Nat.le_of_ble_eq_true rfl)) rfl (Nat.le_of_ble_eq_true rfl) rfl rfl (Nat.le_of_ble_eq_true rfl) (Nat.le_of_ble_eq_true rfl) (fun z133 M133 h133 => ?_)
        obtain ⟨q1, q2⟩ := h133
        rw [q1, q2]
        refine g_iret dX9_type_136 rfl (Nat.le_of_ble_eq_true rfl) (Nat.le_of_ble_eq_true rfl) ⟨_, _, rfl, rfl, ?_⟩
        unfold A_type
        rw [if_pos hp2]
        rw [bI_eq0.mp c128, if_neg (by decide)]
        exact ⟨rfl, Pers_fin hPr _⟩
    have loop : ∀ (fuel : Nat) (n g : Int), 3 - n < fuel → 0 ≤ n → n ≤ 3 → (∀ j : Int, 0 ≤ j → j < n → ¬ f3 c1 c2 c3 j = -1) → g = bI ((decide (0 ≤ q ∧ q ≤ txtN D (tkB D p) ∧ c1 ≠ -1)) && allB (inC c1 c2 c3) 0 n.toNat) → G Z jX9_type E0 (QM Z jX9_type (pI Z o a (fun z M2 => z = (A_type D p q c1 c2 c3).1 ∧ Pers (A_type D p q c1 c2 c3).2 M2))) 68 [.ref o, .int (iI p), .int (iI q), .int (iI c1), .int (iI c2), .int (iI c3), .int (iI (txtN D (tkB D p))), .int (iI n), .int (iI g)] [] (mW Z o a Mr) 0 0 := by
      intro fuel
      induction fuel with
      | zero => intros; exfalso; omega
      | succ fuel ih =>
        intro n g hfu hn0 hn1 hne hg
        refine g_iload dX9_type_68 rfl ?_
        refine g_iconst (iI 3) dX9_type_70 rfl ?_
        refine gi_icmp_ge 126 dX9_type_71 (by decide) (by first | exact hM _ _ | exact bI_Rg _ | exact ⟨by omega, by omega⟩) (by first | exact hM _ _ | exact bI_Rg _ | exact ⟨by omega, by omega⟩) (fun c71 => ?_) (fun c71 => ?_)
        · have hcl : cl3 c1 c2 c3 = n := by
            have h0 := hne 0
            have h1 := hne 1
            have h2 := hne 2
            unfold cl3
            have hn3 : n = 3 := by omega
            rw [if_neg (by simpa [f3] using h0 (by omega) (by omega)), if_neg (by simpa [f3] using h1 (by omega) (by omega)), if_neg (by simpa [f3] using h2 (by omega) (by omega)), hn3]
          have hgg : g = bI (goodB D p q c1 c2 c3) := by rw [hg]; unfold goodB; rw [hcl]
          rw [hgg, ← hcl]
          exact aft (by omega) (by omega)
        · refine g_aload_n 0 dX9_type_74 rfl rfl ?_
          refine mg_24 dX9_type_75 rfl ?_
          refine g_iload dX9_type_78 rfl ?_
          refine ml_24 (h3 n (by omega) (by omega)) dX9_type_80 (by omega) (by omega) ?_
          refine g_iconst (iI (-1)) dX9_type_81 rfl ?_
          refine gi_icmp_eq 126 dX9_type_82 (by decide) (hf3 n) (by exact ⟨by omega, by omega⟩) (fun c82 => ?_) (fun c82 => ?_)
          · have hcl : cl3 c1 c2 c3 = n := by
              have h0 := hne 0
              have h1 := hne 1
              have h2 := hne 2
              unfold cl3
              have hn3 : n = 0 ∨ n = 1 ∨ n = 2 := by omega
              rcases hn3 with e | e | e
              · subst e
                rw [if_pos (by simpa [f3] using c82)]
              · subst e
                rw [if_neg (by simpa [f3] using h0 (by omega) (by omega)), if_pos (by simpa [f3] using c82)]
              · subst e
                rw [if_neg (by simpa [f3] using h0 (by omega) (by omega)), if_neg (by simpa [f3] using h1 (by omega) (by omega)), if_pos (by simpa [f3] using c82)]
            have hgg : g = bI (goodB D p q c1 c2 c3) := by rw [hg]; unfold goodB; rw [hcl]
            rw [hgg, ← hcl]
            exact aft (by omega) (by omega)
          · refine g_iload dX9_type_85 rfl ?_
            refine gi_if_eq 117 dX9_type_87 (by decide) (by rw [hg]; exact bI_Rg _) (fun c87 => ?_) (fun c87 => ?_)
            · refine g_iconst (iI 0) dX9_type_117 rfl ?_
              refine g_istore dX9_type_118 (Nat.le_of_ble_eq_true rfl) (Nat.le_of_ble_eq_true rfl) rfl ?_
              dsimp only [sto]
              refine gi_inc dX9_type_120 rfl (Nat.le_of_ble_eq_true rfl) rfl ?_
              dsimp only [sto]
              refine g_goto 68 dX9_type_123 (by decide) ?_
              exact ih _ _ (by omega) (by omega) (by omega) (fun j a1 a2 => by
                by_cases e : j = n
                · subst e; exact c82
                · exact hne j a1 (by omega)) (by
                rw [show (n + 1).toNat = n.toNat + 1 by omega, allB, show (0 : Int) + ((n.toNat : Nat) : Int) = n by omega, ← Bool.and_assoc]
                exact bI_and_l (by rw [← hg]; exact c87))
            · refine g_aload_n 0 dX9_type_90 rfl rfl ?_
              refine mg_24 dX9_type_91 rfl ?_
              refine g_iload dX9_type_94 rfl ?_
              refine ml_24 (h3 n (by omega) (by omega)) dX9_type_96 (by omega) (by omega) ?_
              refine gi_if_lt 117 dX9_type_97 (by decide) (hf3 n) (fun c97 => ?_) (fun c97 => ?_)
              · refine g_iconst (iI 0) dX9_type_117 rfl ?_
                refine g_istore dX9_type_118 (Nat.le_of_ble_eq_true rfl) (Nat.le_of_ble_eq_true rfl) rfl ?_
                dsimp only [sto]
                refine gi_inc dX9_type_120 rfl (Nat.le_of_ble_eq_true rfl) rfl ?_
                dsimp only [sto]
                refine g_goto 68 dX9_type_123 (by decide) ?_
                exact ih _ _ (by omega) (by omega) (by omega) (fun j a1 a2 => by
                  by_cases e : j = n
                  · subst e; exact c82
                  · exact hne j a1 (by omega)) (by
                  rw [show (n + 1).toNat = n.toNat + 1 by omega, allB, show (0 : Int) + ((n.toNat : Nat) : Int) = n by omega, ← Bool.and_assoc]
                  exact bI_and_r (by unfold inC; rw [decide_eq_false (by omega)]; rfl))
              · refine g_aload_n 0 dX9_type_100 rfl rfl ?_
                refine mg_24 dX9_type_101 rfl ?_
                refine g_iload dX9_type_104 rfl ?_
                refine ml_24 (h3 n (by omega) (by omega)) dX9_type_106 (by omega) (by omega) ?_
                refine g_sipush (iI 255) dX9_type_107 (by decide) ?_
                refine gi_icmp_gt 117 dX9_type_110 (by decide) (hf3 n) (by exact ⟨by omega, by omega⟩) (fun c110 => ?_) (fun c110 => ?_)
                · refine g_iconst (iI 0) dX9_type_117 rfl ?_
                  refine g_istore dX9_type_118 (Nat.le_of_ble_eq_true rfl) (Nat.le_of_ble_eq_true rfl) rfl ?_
                  dsimp only [sto]
                  refine gi_inc dX9_type_120 rfl (Nat.le_of_ble_eq_true rfl) rfl ?_
                  dsimp only [sto]
                  refine g_goto 68 dX9_type_123 (by decide) ?_
                  exact ih _ _ (by omega) (by omega) (by omega) (fun j a1 a2 => by
                    by_cases e : j = n
                    · subst e; exact c82
                    · exact hne j a1 (by omega)) (by
                    rw [show (n + 1).toNat = n.toNat + 1 by omega, allB, show (0 : Int) + ((n.toNat : Nat) : Int) = n by omega, ← Bool.and_assoc]
                    exact bI_and_r (by unfold inC; rw [decide_eq_false (by omega)]; rfl))
                · refine g_iconst (iI 1) dX9_type_113 rfl ?_
                  refine g_goto 118 dX9_type_114 (by decide) ?_
                  refine g_istore dX9_type_118 (Nat.le_of_ble_eq_true rfl) (Nat.le_of_ble_eq_true rfl) rfl ?_
                  dsimp only [sto]
                  refine gi_inc dX9_type_120 rfl (Nat.le_of_ble_eq_true rfl) rfl ?_
                  dsimp only [sto]
                  refine g_goto 68 dX9_type_123 (by decide) ?_
                  exact ih _ _ (by omega) (by omega) (by omega) (fun j a1 a2 => by
                    by_cases e : j = n
                    · subst e; exact c82
                    · exact hne j a1 (by omega)) (by
                    rw [show (n + 1).toNat = n.toNat + 1 by omega, allB, show (0 : Int) + ((n.toNat : Nat) : Int) = n by omega, ← Bool.and_assoc]
                    exact bI_and_t (by rw [← hg]; exact c87) (by unfold inC; rw [decide_eq_true (by omega)]; decide))
    refine g_iload_n 2 dX9_type_46 rfl rfl ?_
    refine gi_if_lt 65 dX9_type_47 (by decide) (by first | exact hM _ _ | exact bI_Rg _ | exact ⟨by omega, by omega⟩) (fun c47 => ?_) (fun c47 => ?_)
    · refine g_iconst (iI 0) dX9_type_65 rfl ?_
      refine g_istore dX9_type_66 (Nat.le_of_ble_eq_true rfl) (Nat.le_of_ble_eq_true rfl) rfl ?_
      dsimp only [sto]
      exact loop 4 0 _ (by omega) (by omega) (by omega) (fun j a1 a2 => by omega) (by
        rw [decide_eq_false (by omega)]; rfl)
    · refine g_iload_n 2 dX9_type_50 rfl rfl ?_
      refine g_iload dX9_type_51 rfl ?_
      refine gi_icmp_gt 65 dX9_type_53 (by decide) (by first | exact hM _ _ | exact bI_Rg _ | exact ⟨by omega, by omega⟩) (by first | exact hM _ _ | exact bI_Rg _ | exact ⟨by omega, by omega⟩) (fun c53 => ?_) (fun c53 => ?_)
      · refine g_iconst (iI 0) dX9_type_65 rfl ?_
        refine g_istore dX9_type_66 (Nat.le_of_ble_eq_true rfl) (Nat.le_of_ble_eq_true rfl) rfl ?_
        dsimp only [sto]
        exact loop 4 0 _ (by omega) (by omega) (by omega) (fun j a1 a2 => by omega) (by
          rw [decide_eq_false (by omega)]; rfl)
      · refine g_iload_n 3 dX9_type_56 rfl rfl ?_
        refine g_iconst (iI (-1)) dX9_type_57 rfl ?_
        refine gi_icmp_eq 65 dX9_type_58 (by decide) (by first | exact hM _ _ | exact bI_Rg _ | exact ⟨by omega, by omega⟩) (by first | exact hM _ _ | exact bI_Rg _ | exact ⟨by omega, by omega⟩) (fun c58 => ?_) (fun c58 => ?_)
        · refine g_iconst (iI 0) dX9_type_65 rfl ?_
          refine g_istore dX9_type_66 (Nat.le_of_ble_eq_true rfl) (Nat.le_of_ble_eq_true rfl) rfl ?_
          dsimp only [sto]
          exact loop 4 0 _ (by omega) (by omega) (by omega) (fun j a1 a2 => by omega) (by
            rw [decide_eq_false (by omega)]; rfl)
        · refine g_iconst (iI 1) dX9_type_61 rfl ?_
          refine g_goto 66 dX9_type_62 (by decide) ?_
          refine g_istore dX9_type_66 (Nat.le_of_ble_eq_true rfl) (Nat.le_of_ble_eq_true rfl) rfl ?_
          dsimp only [sto]
          exact loop 4 0 _ (by omega) (by omega) (by omega) (fun j a1 a2 => by omega) (by
            rw [decide_eq_true (by omega)]; rfl)
  · have hp2 := penB_f c4
    refine g_aload_n 0 dX9_type_7 rfl rfl ?_
    refine g_iconst (iI 1) dX9_type_8 rfl ?_
    refine mcI lkX9_150 (c_refuse Z o a _ _) dX9_type_9 rfl (And.intro (Nat.le_of_ble_eq_true rfl) (Nat.le_of_ble_eq_true rfl)) rfl (Nat.le_of_ble_eq_true rfl) rfl rfl (Nat.le_of_ble_eq_true rfl) (Nat.le_of_ble_eq_true rfl) (fun z9 M9 h9 => ?_)
    obtain ⟨q1, q2⟩ := h9
    rw [q1, q2]
    refine g_iret dX9_type_12 rfl (Nat.le_of_ble_eq_true rfl) (Nat.le_of_ble_eq_true rfl) ⟨_, _, rfl, rfl, ?_⟩
    unfold A_type
    rw [if_neg hp2]
    exact ⟨rfl, Pers_fin hP _⟩
