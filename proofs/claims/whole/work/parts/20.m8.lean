/-! THE REFERENCE: marks -/
def fF (F : List Int) (i : Int) : Int := F.getD i.toNat 0
def inIx (F : List Int) (x : Int) : Int := lastIx (fF F) x F.length
theorem lastIx_congr {f g : Int → Int} {x : Int} : ∀ k : Nat, (∀ i : Int, 0 ≤ i → i < k → f i = g i) → lastIx f x k = lastIx g x k := by
  intro k
  induction k with
  | zero => intro _; rfl
  | succ k ih =>
    intro h
    unfold lastIx
    rw [h k (by omega) (by omega), ih (fun i a b => h i a (by omega))]
theorem OL_fF {Mx : Mem} {F : List Int} (h : OL Mx F) {i : Int} (h0 : 0 ≤ i) (h1 : i < F.length) : Mx 16 i = fF F i := by
  have hlt : i.toNat < F.length := by omega
  have := h.2 i.toNat _ (List.getElem?_eq_getElem hlt)
  rw [show ((i.toNat : Nat) : Int) = i by omega] at this
  rw [this]
  unfold fF
  rw [List.getD_eq_getElem?_getD, List.getElem?_eq_getElem hlt]
  rfl
theorem fF_mem {F : List Int} {i : Int} (h0 : 0 ≤ i) (h1 : i < F.length) : fF F i ∈ F := by
  have hlt : i.toNat < F.length := by omega
  unfold fF
  rw [List.getD_eq_getElem?_getD, List.getElem?_eq_getElem hlt]
  exact List.getElem_mem hlt
theorem Vi_fF {D : Mem} {T : Int → Bool} (i : Int) : Vi D T i = visB D T (fF (ordF D T) i) := rfl
theorem Sh.io {D : Mem} (hD : okP D) (hO : okO D (D 9 0).toNat) {T : Int → Bool} (hC : Cl D T) {Mx : Mem} (h : Sh D T Mx) : 0 ≤ Mx 17 0 ∧ Mx 17 0 ≤ 768 ∧ (∀ i, 0 ≤ i → i < Mx 17 0 → Rg (Mx 16 i)) := by
  have hl := ordF_len hD hO hC
  have hn := hD.2.1
  have h17 := h.2.2.1.1
  refine ⟨by omega, by omega, fun i h0 h1 => ?_⟩
  rw [OL_fF h.2.2.1 h0 (by omega)]
  have := ordF_mem hD hO (fF_mem (F := ordF D T) h0 (by omega))
  exact ⟨by omega, by omega⟩
theorem inIx_rg (F : List Int) (x : Int) : -1 ≤ inIx F x ∧ inIx F x < F.length := ⟨(lastIx_rg _ _ _).1, (lastIx_rg _ _ _).2.1⟩
theorem c_inOrderF (Z : LZ) (o : Nat) (a : Nat → Nat) {D M : Mem} (hP : Pers D M) (hM : RM D) (hD : okP D) (hO : okO D (D 9 0).toNat) {T : Int → Bool} (hC : Cl D T) (hS : Sh D T M) (x : Int) (hx : Rg x) : Tm Z o a jX9_inOrder [x] M (fun z M2 => z = inIx (ordF D T) x ∧ M2 = M) := by
  obtain ⟨h1, h2, h3⟩ := hS.io hD hO hC
  refine tr_post (c_inOrder Z o a hP hM x hx h1 h2 h3) ?_
  rintro r w ⟨z, M2, rfl, rfl, e1, e2⟩
  refine ⟨z, M2, rfl, rfl, ?_, e1⟩
  rw [e2]
  unfold inIx
  rw [hS.2.2.1.1, show ((ordF D T).length : Int).toNat = (ordF D T).length by omega]
  exact lastIx_congr _ (fun i a b => OL_fF hS.2.2.1 a b)
def coB (D : Mem) (F : List Int) (m i : Int) : Bool := (decide (inIx F (D 4 (12 * m)) ≤ i) && decide (i ≤ inIx F (D 4 (12 * m + 1)))) || ((decide (inIx F (D 4 (12 * m)) ≤ i) && decide (D 6 m ≠ -3)) && (decide (D 6 m = -2) || decide (i < inIx F (D 6 m))))
def tcB (D : Mem) (T : Int → Bool) (t i s : Int) : Bool := wkB D T s && (decide (D 2 s = 2) && (decide (D 7 s = t) && coB D (ordF D T) s i))
def ltF (D : Mem) (C : Int → Bool) : Nat → Int
  | 0 => -1
  | s + 1 => if C s = true ∧ (ltF D C s < 0 ∨ laterB D s (ltF D C s) = true) then (s : Int) else ltF D C s
theorem ltF_rg (D : Mem) (C : Int → Bool) : ∀ k : Nat, -1 ≤ ltF D C k ∧ ltF D C k < k := by
  intro k
  induction k with
  | zero => simp [ltF]
  | succ k ih => unfold ltF; split <;> omega
def hasT (D : Mem) (T : Int → Bool) (i t : Int) : Bool := decide (0 ≤ ltF D (tcB D T t i) (D 9 0).toNat) && decide (D 8 (ltF D (tcB D T t i) (D 9 0).toNat) = 1)
def p2 (k : Nat) : Int := 2 ^ k
def tinF (D : Mem) (T : Int → Bool) (i : Int) : Nat → Int
  | 0 => 0
  | t + 1 => tinF D T i t + (if hasT D T i t = true then p2 t else 0)
theorem shl_t {t : Int} (h0 : 0 ≤ t) (h1 : t < 4) : iI 1 <<< (iI t &&& 31) = iI (p2 t.toNat) := by
  have h : t = 0 ∨ t = 1 ∨ t = 2 ∨ t = 3 := by omega
  rcases h with rfl | rfl | rfl | rfl <;> decide
theorem tinF_rg (D : Mem) (T : Int → Bool) (i : Int) : 0 ≤ tinF D T i 4 ∧ tinF D T i 4 ≤ 15 := by
  simp only [tinF, p2]
  split <;> split <;> split <;> split <;> simp
set_option maxHeartbeats 4000000 in
set_option maxRecDepth 100000 in
/-- covers -/
theorem c_covers (Z : LZ) (o : Nat) (a : Nat → Nat) {D M : Mem} (hP : Pers D M) (hM : RM D) (hD : okP D) (hO : okO D (D 9 0).toNat) (T : Int → Bool) (hC : Cl D T) (hS : Sh D T M) (m i : Int) (hm0 : 0 ≤ m) (hm1 : m < D 9 0) (h2 : D 2 m = 2) (hi0 : 0 ≤ i) (hi1 : i < 1000)  : Tm Z o a jX9_covers [m, i] M (fun z M2 => z = bI (coB D (ordF D T) m i) ∧ M2 = M) := by
  refine tr_of pn_X9_covers (Nat.le_of_ble_eq_true rfl) (vI_catO o _) ?_
  show G Z jX9_covers E0 (QM Z jX9_covers (pI Z o a (fun z M2 => z = bI (coB D (ordF D T) m i) ∧ M2 = M))) 0 [.ref o, .int (iI m), .int (iI i)] [] (mW Z o a M) 0 0
  have hn := hD.2.1
  have hl := ordF_len hD hO hC
  have r1 := inIx_rg (ordF D T) (D 4 (12 * m))
  have r2 := inIx_rg (ordF D T) (D 4 (12 * m + 1))
  have r3 := inIx_rg (ordF D T) (D 6 m)
  refine g_aload_n 0 dX9_covers_0 rfl rfl ?_
  refine g_aload_n 0 dX9_covers_1 rfl rfl ?_
  refine mg_4 dX9_covers_2 rfl ?_
  refine g_bipush (iI 12) dX9_covers_5 (by decide) ?_
  refine g_iload_n 1 dX9_covers_7 rfl rfl ?_
  refine gi_mul dX9_covers_8 ?_
  refine ml_4 (hP.at 4 (by decide) _) dX9_covers_9 (by omega) (by omega) ?_
  refine mcI lkX9_138 (c_inOrderF Z o a hP hM hD hO hC hS _ (hM _ _)) dX9_covers_10 rfl (And.intro (Nat.le_of_ble_eq_true rfl) (Nat.le_of_ble_eq_true rfl)) rfl (Nat.le_of_ble_eq_true rfl) rfl rfl (Nat.le_of_ble_eq_true rfl) (Nat.le_of_ble_eq_true rfl) (fun z10 M10 h10 => ?_)
  obtain ⟨q1, q2⟩ := h10
  rw [q1, q2]
  refine g_istore_n 3 dX9_covers_13 rfl (Nat.le_of_ble_eq_true rfl) (Nat.le_of_ble_eq_true rfl) rfl ?_
  dsimp only [sto]
  refine g_aload_n 0 dX9_covers_14 rfl rfl ?_
  refine g_aload_n 0 dX9_covers_15 rfl rfl ?_
  refine mg_4 dX9_covers_16 rfl ?_
  refine g_bipush (iI 12) dX9_covers_19 (by decide) ?_
  refine g_iload_n 1 dX9_covers_21 rfl rfl ?_
  refine gi_mul dX9_covers_22 ?_
  refine g_iconst (iI 1) dX9_covers_23 rfl ?_
  refine gi_add dX9_covers_24 ?_
  refine ml_4 (hP.at 4 (by decide) _) dX9_covers_25 (by omega) (by omega) ?_
  refine mcI lkX9_138 (c_inOrderF Z o a hP hM hD hO hC hS _ (hM _ _)) dX9_covers_26 rfl (And.intro (Nat.le_of_ble_eq_true rfl) (Nat.le_of_ble_eq_true rfl)) rfl (Nat.le_of_ble_eq_true rfl) rfl rfl (Nat.le_of_ble_eq_true rfl) (Nat.le_of_ble_eq_true rfl) (fun z26 M26 h26 => ?_)
  obtain ⟨q1, q2⟩ := h26
  rw [q1, q2]
  refine g_istore dX9_covers_29 (Nat.le_of_ble_eq_true rfl) (Nat.le_of_ble_eq_true rfl) rfl ?_
  dsimp only [sto]
  refine g_iload_n 2 dX9_covers_31 rfl rfl ?_
  refine g_iload_n 3 dX9_covers_32 rfl rfl ?_
  refine gi_icmp_lt 44 dX9_covers_33 (by decide) (by first | exact hM _ _ | exact bI_Rg _ | exact ⟨by omega, by omega⟩) (by first | exact hM _ _ | exact bI_Rg _ | exact ⟨by omega, by omega⟩) (fun c33 => ?_) (fun c33 => ?_)
  · refine g_iload_n 2 dX9_covers_44 rfl rfl ?_
    refine g_iload_n 3 dX9_covers_45 rfl rfl ?_
    refine gi_icmp_lt 60 dX9_covers_46 (by decide) (by first | exact hM _ _ | exact bI_Rg _ | exact ⟨by omega, by omega⟩) (by first | exact hM _ _ | exact bI_Rg _ | exact ⟨by omega, by omega⟩) (fun c46 => ?_) (fun c46 => ?_)
    · refine g_iconst (iI 0) dX9_covers_60 rfl ?_
      refine g_zret dX9_covers_61 rfl (narrow_bool (by first | exact Or.inl rfl | exact Or.inr rfl | assumption | omega)) (Nat.le_of_ble_eq_true rfl) (Nat.le_of_ble_eq_true rfl) ⟨_, _, rfl, rfl, ?_⟩
      refine ⟨?_, rfl⟩
      unfold coB bI
      simp only [Bool.or_eq_true, Bool.and_eq_true, decide_eq_true_eq]
      first | (exfalso; omega) | rw [if_pos (by omega)] | rw [if_neg (by omega)]
    · refine g_aload_n 0 dX9_covers_49 rfl rfl ?_
      refine mg_6 dX9_covers_50 rfl ?_
      refine g_iload_n 1 dX9_covers_53 rfl rfl ?_
      refine ml_6 (hP.at 6 (by decide) _) dX9_covers_54 (by omega) (by omega) ?_
      refine g_bipush (iI (-3)) dX9_covers_55 (by decide) ?_
      refine gi_icmp_ne 62 dX9_covers_57 (by decide) (by first | exact hM _ _ | exact bI_Rg _ | exact ⟨by omega, by omega⟩) (by first | exact hM _ _ | exact bI_Rg _ | exact ⟨by omega, by omega⟩) (fun c57 => ?_) (fun c57 => ?_)
      · refine g_aload_n 0 dX9_covers_62 rfl rfl ?_
        refine mg_6 dX9_covers_63 rfl ?_
        refine g_iload_n 1 dX9_covers_66 rfl rfl ?_
        refine ml_6 (hP.at 6 (by decide) _) dX9_covers_67 (by omega) (by omega) ?_
        refine g_bipush (iI (-2)) dX9_covers_68 (by decide) ?_
        refine gi_icmp_eq 87 dX9_covers_70 (by decide) (by first | exact hM _ _ | exact bI_Rg _ | exact ⟨by omega, by omega⟩) (by first | exact hM _ _ | exact bI_Rg _ | exact ⟨by omega, by omega⟩) (fun c70 => ?_) (fun c70 => ?_)
        · refine g_iconst (iI 1) dX9_covers_87 rfl ?_
          refine g_goto 92 dX9_covers_88 (by decide) ?_
          refine g_zret dX9_covers_92 rfl (narrow_bool (by first | exact Or.inl rfl | exact Or.inr rfl | assumption | omega)) (Nat.le_of_ble_eq_true rfl) (Nat.le_of_ble_eq_true rfl) ⟨_, _, rfl, rfl, ?_⟩
          refine ⟨?_, rfl⟩
          unfold coB bI
          simp only [Bool.or_eq_true, Bool.and_eq_true, decide_eq_true_eq]
          first | (exfalso; omega) | rw [if_pos (by omega)] | rw [if_neg (by omega)]
        · refine g_iload_n 2 dX9_covers_73 rfl rfl ?_
          refine g_aload_n 0 dX9_covers_74 rfl rfl ?_
          refine g_aload_n 0 dX9_covers_75 rfl rfl ?_
          refine mg_6 dX9_covers_76 rfl ?_
          refine g_iload_n 1 dX9_covers_79 rfl rfl ?_
          refine ml_6 (hP.at 6 (by decide) _) dX9_covers_80 (by omega) (by omega) ?_
          refine mcI lkX9_138 (c_inOrderF Z o a hP hM hD hO hC hS _ (hM _ _)) dX9_covers_81 rfl (And.intro (Nat.le_of_ble_eq_true rfl) (Nat.le_of_ble_eq_true rfl)) rfl (Nat.le_of_ble_eq_true rfl) rfl rfl (Nat.le_of_ble_eq_true rfl) (Nat.le_of_ble_eq_true rfl) (fun z81 M81 h81 => ?_)
          obtain ⟨q1, q2⟩ := h81
          rw [q1, q2]
          refine gi_icmp_ge 91 dX9_covers_84 (by decide) (by first | exact hM _ _ | exact bI_Rg _ | exact ⟨by omega, by omega⟩) (by first | exact hM _ _ | exact bI_Rg _ | exact ⟨by omega, by omega⟩) (fun c84 => ?_) (fun c84 => ?_)
          · refine g_iconst (iI 0) dX9_covers_91 rfl ?_
            refine g_zret dX9_covers_92 rfl (narrow_bool (by first | exact Or.inl rfl | exact Or.inr rfl | assumption | omega)) (Nat.le_of_ble_eq_true rfl) (Nat.le_of_ble_eq_true rfl) ⟨_, _, rfl, rfl, ?_⟩
            refine ⟨?_, rfl⟩
            unfold coB bI
            simp only [Bool.or_eq_true, Bool.and_eq_true, decide_eq_true_eq]
            first | (exfalso; omega) | rw [if_pos (by omega)] | rw [if_neg (by omega)]
          · refine g_iconst (iI 1) dX9_covers_87 rfl ?_
            refine g_goto 92 dX9_covers_88 (by decide) ?_
            refine g_zret dX9_covers_92 rfl (narrow_bool (by first | exact Or.inl rfl | exact Or.inr rfl | assumption | omega)) (Nat.le_of_ble_eq_true rfl) (Nat.le_of_ble_eq_true rfl) ⟨_, _, rfl, rfl, ?_⟩
            refine ⟨?_, rfl⟩
            unfold coB bI
            simp only [Bool.or_eq_true, Bool.and_eq_true, decide_eq_true_eq]
            first | (exfalso; omega) | rw [if_pos (by omega)] | rw [if_neg (by omega)]
      · refine g_iconst (iI 0) dX9_covers_60 rfl ?_
        refine g_zret dX9_covers_61 rfl (narrow_bool (by first | exact Or.inl rfl | exact Or.inr rfl | assumption | omega)) (Nat.le_of_ble_eq_true rfl) (Nat.le_of_ble_eq_true rfl) ⟨_, _, rfl, rfl, ?_⟩
        refine ⟨?_, rfl⟩
        unfold coB bI
        simp only [Bool.or_eq_true, Bool.and_eq_true, decide_eq_true_eq]
        first | (exfalso; omega) | rw [if_pos (by omega)] | rw [if_neg (by omega)]
  · refine g_iload_n 2 dX9_covers_36 rfl rfl ?_
    refine g_iload dX9_covers_37 rfl ?_
    refine gi_icmp_gt 44 dX9_covers_39 (by decide) (by first | exact hM _ _ | exact bI_Rg _ | exact ⟨by omega, by omega⟩) (by first | exact hM _ _ | exact bI_Rg _ | exact ⟨by omega, by omega⟩) (fun c39 => ?_) (fun c39 => ?_)
    · refine g_iload_n 2 dX9_covers_44 rfl rfl ?_
      refine g_iload_n 3 dX9_covers_45 rfl rfl ?_
      refine gi_icmp_lt 60 dX9_covers_46 (by decide) (by first | exact hM _ _ | exact bI_Rg _ | exact ⟨by omega, by omega⟩) (by first | exact hM _ _ | exact bI_Rg _ | exact ⟨by omega, by omega⟩) (fun c46 => ?_) (fun c46 => ?_)
      · refine g_iconst (iI 0) dX9_covers_60 rfl ?_
        refine g_zret dX9_covers_61 rfl (narrow_bool (by first | exact Or.inl rfl | exact Or.inr rfl | assumption | omega)) (Nat.le_of_ble_eq_true rfl) (Nat.le_of_ble_eq_true rfl) ⟨_, _, rfl, rfl, ?_⟩
        refine ⟨?_, rfl⟩
        unfold coB bI
        simp only [Bool.or_eq_true, Bool.and_eq_true, decide_eq_true_eq]
        first | (exfalso; omega) | rw [if_pos (by omega)] | rw [if_neg (by omega)]
      · refine g_aload_n 0 dX9_covers_49 rfl rfl ?_
        refine mg_6 dX9_covers_50 rfl ?_
        refine g_iload_n 1 dX9_covers_53 rfl rfl ?_
        refine ml_6 (hP.at 6 (by decide) _) dX9_covers_54 (by omega) (by omega) ?_
        refine g_bipush (iI (-3)) dX9_covers_55 (by decide) ?_
        refine gi_icmp_ne 62 dX9_covers_57 (by decide) (by first | exact hM _ _ | exact bI_Rg _ | exact ⟨by omega, by omega⟩) (by first | exact hM _ _ | exact bI_Rg _ | exact ⟨by omega, by omega⟩) (fun c57 => ?_) (fun c57 => ?_)
        · refine g_aload_n 0 dX9_covers_62 rfl rfl ?_
          refine mg_6 dX9_covers_63 rfl ?_
          refine g_iload_n 1 dX9_covers_66 rfl rfl ?_
          refine ml_6 (hP.at 6 (by decide) _) dX9_covers_67 (by omega) (by omega) ?_
          refine g_bipush (iI (-2)) dX9_covers_68 (by decide) ?_
          refine gi_icmp_eq 87 dX9_covers_70 (by decide) (by first | exact hM _ _ | exact bI_Rg _ | exact ⟨by omega, by omega⟩) (by first | exact hM _ _ | exact bI_Rg _ | exact ⟨by omega, by omega⟩) (fun c70 => ?_) (fun c70 => ?_)
          · refine g_iconst (iI 1) dX9_covers_87 rfl ?_
            refine g_goto 92 dX9_covers_88 (by decide) ?_
            refine g_zret dX9_covers_92 rfl (narrow_bool (by first | exact Or.inl rfl | exact Or.inr rfl | assumption | omega)) (Nat.le_of_ble_eq_true rfl) (Nat.le_of_ble_eq_true rfl) ⟨_, _, rfl, rfl, ?_⟩
            refine ⟨?_, rfl⟩
            unfold coB bI
            simp only [Bool.or_eq_true, Bool.and_eq_true, decide_eq_true_eq]
            first | (exfalso; omega) | rw [if_pos (by omega)] | rw [if_neg (by omega)]
          · refine g_iload_n 2 dX9_covers_73 rfl rfl ?_
            refine g_aload_n 0 dX9_covers_74 rfl rfl ?_
            refine g_aload_n 0 dX9_covers_75 rfl rfl ?_
            refine mg_6 dX9_covers_76 rfl ?_
            refine g_iload_n 1 dX9_covers_79 rfl rfl ?_
            refine ml_6 (hP.at 6 (by decide) _) dX9_covers_80 (by omega) (by omega) ?_
            refine mcI lkX9_138 (c_inOrderF Z o a hP hM hD hO hC hS _ (hM _ _)) dX9_covers_81 rfl (And.intro (Nat.le_of_ble_eq_true rfl) (Nat.le_of_ble_eq_true rfl)) rfl (Nat.le_of_ble_eq_true rfl) rfl rfl (Nat.le_of_ble_eq_true rfl) (Nat.le_of_ble_eq_true rfl) (fun z81 M81 h81 => ?_)
            obtain ⟨q1, q2⟩ := h81
            rw [q1, q2]
            refine gi_icmp_ge 91 dX9_covers_84 (by decide) (by first | exact hM _ _ | exact bI_Rg _ | exact ⟨by omega, by omega⟩) (by first | exact hM _ _ | exact bI_Rg _ | exact ⟨by omega, by omega⟩) (fun c84 => ?_) (fun c84 => ?_)
            · refine g_iconst (iI 0) dX9_covers_91 rfl ?_
              refine g_zret dX9_covers_92 rfl (narrow_bool (by first | exact Or.inl rfl | exact Or.inr rfl | assumption | omega)) (Nat.le_of_ble_eq_true rfl) (Nat.le_of_ble_eq_true rfl) ⟨_, _, rfl, rfl, ?_⟩
              refine ⟨?_, rfl⟩
              unfold coB bI
              simp only [Bool.or_eq_true, Bool.and_eq_true, decide_eq_true_eq]
              first | (exfalso; omega) | rw [if_pos (by omega)] | rw [if_neg (by omega)]
            · refine g_iconst (iI 1) dX9_covers_87 rfl ?_
              refine g_goto 92 dX9_covers_88 (by decide) ?_
              refine g_zret dX9_covers_92 rfl (narrow_bool (by first | exact Or.inl rfl | exact Or.inr rfl | assumption | omega)) (Nat.le_of_ble_eq_true rfl) (Nat.le_of_ble_eq_true rfl) ⟨_, _, rfl, rfl, ?_⟩
              refine ⟨?_, rfl⟩
              unfold coB bI
              simp only [Bool.or_eq_true, Bool.and_eq_true, decide_eq_true_eq]
              first | (exfalso; omega) | rw [if_pos (by omega)] | rw [if_neg (by omega)]
        · refine g_iconst (iI 0) dX9_covers_60 rfl ?_
          refine g_zret dX9_covers_61 rfl (narrow_bool (by first | exact Or.inl rfl | exact Or.inr rfl | assumption | omega)) (Nat.le_of_ble_eq_true rfl) (Nat.le_of_ble_eq_true rfl) ⟨_, _, rfl, rfl, ?_⟩
          refine ⟨?_, rfl⟩
          unfold coB bI
          simp only [Bool.or_eq_true, Bool.and_eq_true, decide_eq_true_eq]
          first | (exfalso; omega) | rw [if_pos (by omega)] | rw [if_neg (by omega)]
    · refine g_iconst (iI 1) dX9_covers_42 rfl ?_
      refine g_zret dX9_covers_43 rfl (narrow_bool (by first | exact Or.inl rfl | exact Or.inr rfl | assumption | omega)) (Nat.le_of_ble_eq_true rfl) (Nat.le_of_ble_eq_true rfl) ⟨_, _, rfl, rfl, ?_⟩
      refine ⟨?_, rfl⟩
      unfold coB bI
      simp only [Bool.or_eq_true, Bool.and_eq_true, decide_eq_true_eq]
      first | (exfalso; omega) | rw [if_pos (by omega)] | rw [if_neg (by omega)]
set_option maxHeartbeats 4000000 in
set_option maxRecDepth 100000 in
/-- hasTint -/
theorem c_hasTint (Z : LZ) (o : Nat) (a : Nat → Nat) {D M : Mem} (hP : Pers D M) (hM : RM D) (hD : okP D) (hO : okO D (D 9 0).toNat) (T : Int → Bool) (hC : Cl D T) (hS : Sh D T M) (i t : Int) (hi0 : 0 ≤ i) (hi1 : i < 1000) (ht : Rg t)  : Tm Z o a jX9_hasTint [i, t] M (fun z M2 => z = bI (hasT D T i t) ∧ M2 = M) := by
  refine tr_of pn_X9_hasTint (Nat.le_of_ble_eq_true rfl) (vI_catO o _) ?_
  show G Z jX9_hasTint E0 (QM Z jX9_hasTint (pI Z o a (fun z M2 => z = bI (hasT D T i t) ∧ M2 = M))) 0 [.ref o, .int (iI i), .int (iI t)] [] (mW Z o a M) 0 0
  have hn := hD.2.1
  have loop : ∀ (fuel : Nat) (l s : Int), D 9 0 - s < fuel → 0 ≤ s → s ≤ D 9 0 → l = ltF D (tcB D T t i) s.toNat → G Z jX9_hasTint E0 (QM Z jX9_hasTint (pI Z o a (fun z M2 => z = bI (hasT D T i t) ∧ M2 = M))) 5 [.ref o, .int (iI i), .int (iI t), .int (iI l), .int (iI s)] [] (mW Z o a M) 0 0 := by
    intro fuel
    induction fuel with
    | zero => intros; exfalso; omega
    | succ fuel ih =>
      intro l s hfu hs0 hs1 hl
      have hlr := ltF_rg D (tcB D T t i) s.toNat
      by_cases hlt : s < D 9 0
      · refine g_iload dX9_hasTint_5 rfl ?_
        refine g_aload_n 0 dX9_hasTint_7 rfl rfl ?_
        refine mg_9 (hP.at 9 (by decide) _) dX9_hasTint_8 rfl ?_
        refine gi_icmp_ge 83 dX9_hasTint_11 (by decide) (by first | exact hM _ _ | exact bI_Rg _ | exact ⟨by omega, by omega⟩) (by first | exact hM _ _ | exact bI_Rg _ | exact ⟨by omega, by omega⟩) (fun c11 => ?_) (fun c11 => ?_)
        · exfalso; omega
        · refine g_aload_n 0 dX9_hasTint_14 rfl rfl ?_
          refine mg_15 dX9_hasTint_15 rfl ?_
          refine g_iload dX9_hasTint_18 rfl ?_
          refine ml_15 (hS.2.1 s (by omega) (by omega)) dX9_hasTint_20 (by omega) (by omega) ?_
          refine gi_if_eq 77 dX9_hasTint_21 (by decide) (by first | exact hM _ _ | exact bI_Rg _ | exact ⟨by omega, by omega⟩) (fun c21 => ?_) (fun c21 => ?_)
          · refine gi_inc dX9_hasTint_77 rfl (Nat.le_of_ble_eq_true rfl) rfl ?_
            dsimp only [sto]
            refine g_goto 5 dX9_hasTint_80 (by decide) ?_
            exact ih _ _ (by omega) (by omega) (by omega) (by
              rw [show (s + 1).toNat = s.toNat + 1 by omega, ltF, show ((s.toNat : Nat) : Int) = s by omega, ← hl]
              have ht : wkB D T s = true → D 2 s = 2 → D 7 s = t → coB D (ordF D T) s i = true → tcB D T t i s = true := by
                intro h1 h2 h3 h4
                unfold tcB
                rw [h1, h4, decide_eq_true h2, decide_eq_true h3]; rfl
              have hf : tcB D T t i s = true → wkB D T s = true ∧ D 2 s = 2 ∧ D 7 s = t ∧ coB D (ordF D T) s i = true := by
                intro h
                unfold tcB at h
                simpa using h
              have hb : ∀ b : Bool, ¬ bI b = 0 → b = true := by intro b h; cases b <;> simp_all [bI]
              rw [if_neg (fun h => by have h2 := (hf h.1).1; rw [h2] at c21; exact absurd c21 (by decide))])
          · refine g_aload_n 0 dX9_hasTint_24 rfl rfl ?_
            refine mg_2 dX9_hasTint_25 rfl ?_
            refine g_iload dX9_hasTint_28 rfl ?_
            refine ml_2 (hP.at 2 (by decide) _) dX9_hasTint_30 (by omega) (by omega) ?_
            refine g_iconst (iI 2) dX9_hasTint_31 rfl ?_
            refine gi_icmp_ne 77 dX9_hasTint_32 (by decide) (by first | exact hM _ _ | exact bI_Rg _ | exact ⟨by omega, by omega⟩) (by first | exact hM _ _ | exact bI_Rg _ | exact ⟨by omega, by omega⟩) (fun c32 => ?_) (fun c32 => ?_)
            · refine gi_inc dX9_hasTint_77 rfl (Nat.le_of_ble_eq_true rfl) rfl ?_
              dsimp only [sto]
              refine g_goto 5 dX9_hasTint_80 (by decide) ?_
              exact ih _ _ (by omega) (by omega) (by omega) (by
                rw [show (s + 1).toNat = s.toNat + 1 by omega, ltF, show ((s.toNat : Nat) : Int) = s by omega, ← hl]
                have ht : wkB D T s = true → D 2 s = 2 → D 7 s = t → coB D (ordF D T) s i = true → tcB D T t i s = true := by
                  intro h1 h2 h3 h4
                  unfold tcB
                  rw [h1, h4, decide_eq_true h2, decide_eq_true h3]; rfl
                have hf : tcB D T t i s = true → wkB D T s = true ∧ D 2 s = 2 ∧ D 7 s = t ∧ coB D (ordF D T) s i = true := by
                  intro h
                  unfold tcB at h
                  simpa using h
                have hb : ∀ b : Bool, ¬ bI b = 0 → b = true := by intro b h; cases b <;> simp_all [bI]
                rw [if_neg (fun h => c32 (hf h.1).2.1)])
            · refine g_aload_n 0 dX9_hasTint_35 rfl rfl ?_
              refine mg_7 dX9_hasTint_36 rfl ?_
              refine g_iload dX9_hasTint_39 rfl ?_
              refine ml_7 (hP.at 7 (by decide) _) dX9_hasTint_41 (by omega) (by omega) ?_
              refine g_iload_n 2 dX9_hasTint_42 rfl rfl ?_
              refine gi_icmp_ne 77 dX9_hasTint_43 (by decide) (by first | exact hM _ _ | exact bI_Rg _ | exact ⟨by omega, by omega⟩) (by first | exact hM _ _ | exact bI_Rg _ | exact ⟨by omega, by omega⟩) (fun c43 => ?_) (fun c43 => ?_)
              · refine gi_inc dX9_hasTint_77 rfl (Nat.le_of_ble_eq_true rfl) rfl ?_
                dsimp only [sto]
                refine g_goto 5 dX9_hasTint_80 (by decide) ?_
                exact ih _ _ (by omega) (by omega) (by omega) (by
                  rw [show (s + 1).toNat = s.toNat + 1 by omega, ltF, show ((s.toNat : Nat) : Int) = s by omega, ← hl]
                  have ht : wkB D T s = true → D 2 s = 2 → D 7 s = t → coB D (ordF D T) s i = true → tcB D T t i s = true := by
                    intro h1 h2 h3 h4
                    unfold tcB
                    rw [h1, h4, decide_eq_true h2, decide_eq_true h3]; rfl
                  have hf : tcB D T t i s = true → wkB D T s = true ∧ D 2 s = 2 ∧ D 7 s = t ∧ coB D (ordF D T) s i = true := by
                    intro h
                    unfold tcB at h
                    simpa using h
                  have hb : ∀ b : Bool, ¬ bI b = 0 → b = true := by intro b h; cases b <;> simp_all [bI]
                  rw [if_neg (fun h => c43 (hf h.1).2.2.1)])
              · refine g_aload_n 0 dX9_hasTint_46 rfl rfl ?_
                refine g_iload dX9_hasTint_47 rfl ?_
                refine g_iload_n 1 dX9_hasTint_49 rfl rfl ?_
                refine mcI lkX9_141 (c_covers Z o a hP hM hD hO T hC hS s i (by omega) (by omega) c32 hi0 hi1) dX9_hasTint_50 rfl (And.intro (Nat.le_of_ble_eq_true rfl) (Nat.le_of_ble_eq_true rfl)) rfl (Nat.le_of_ble_eq_true rfl) rfl rfl (Nat.le_of_ble_eq_true rfl) (Nat.le_of_ble_eq_true rfl) (fun z50 M50 h50 => ?_)
                obtain ⟨q1, q2⟩ := h50
                rw [q1, q2]
                refine gi_if_eq 77 dX9_hasTint_53 (by decide) (by first | exact hM _ _ | exact bI_Rg _ | exact ⟨by omega, by omega⟩) (fun c53 => ?_) (fun c53 => ?_)
                · refine gi_inc dX9_hasTint_77 rfl (Nat.le_of_ble_eq_true rfl) rfl ?_
                  dsimp only [sto]
                  refine g_goto 5 dX9_hasTint_80 (by decide) ?_
                  exact ih _ _ (by omega) (by omega) (by omega) (by
                    rw [show (s + 1).toNat = s.toNat + 1 by omega, ltF, show ((s.toNat : Nat) : Int) = s by omega, ← hl]
                    have ht : wkB D T s = true → D 2 s = 2 → D 7 s = t → coB D (ordF D T) s i = true → tcB D T t i s = true := by
                      intro h1 h2 h3 h4
                      unfold tcB
                      rw [h1, h4, decide_eq_true h2, decide_eq_true h3]; rfl
                    have hf : tcB D T t i s = true → wkB D T s = true ∧ D 2 s = 2 ∧ D 7 s = t ∧ coB D (ordF D T) s i = true := by
                      intro h
                      unfold tcB at h
                      simpa using h
                    have hb : ∀ b : Bool, ¬ bI b = 0 → b = true := by intro b h; cases b <;> simp_all [bI]
                    rw [if_neg (fun h => by have h2 := (hf h.1).2.2.2; rw [h2] at c53; exact absurd c53 (by decide))])
                · refine g_iload_n 3 dX9_hasTint_56 rfl rfl ?_
                  refine gi_if_lt 70 dX9_hasTint_57 (by decide) (by first | exact hM _ _ | exact bI_Rg _ | exact ⟨by omega, by omega⟩) (fun c57 => ?_) (fun c57 => ?_)
                  · refine g_iload dX9_hasTint_70 rfl ?_
                    refine g_goto 76 dX9_hasTint_72 (by decide) ?_
                    refine g_istore_n 3 dX9_hasTint_76 rfl (Nat.le_of_ble_eq_true rfl) (Nat.le_of_ble_eq_true rfl) rfl ?_
                    dsimp only [sto]
                    refine gi_inc dX9_hasTint_77 rfl (Nat.le_of_ble_eq_true rfl) rfl ?_
                    dsimp only [sto]
                    refine g_goto 5 dX9_hasTint_80 (by decide) ?_
                    exact ih _ _ (by omega) (by omega) (by omega) (by
                      rw [show (s + 1).toNat = s.toNat + 1 by omega, ltF, show ((s.toNat : Nat) : Int) = s by omega, ← hl]
                      have ht : wkB D T s = true → D 2 s = 2 → D 7 s = t → coB D (ordF D T) s i = true → tcB D T t i s = true := by
                        intro h1 h2 h3 h4
                        unfold tcB
                        rw [h1, h4, decide_eq_true h2, decide_eq_true h3]; rfl
                      have hf : tcB D T t i s = true → wkB D T s = true ∧ D 2 s = 2 ∧ D 7 s = t ∧ coB D (ordF D T) s i = true := by
                        intro h
                        unfold tcB at h
                        simpa using h
                      have hb : ∀ b : Bool, ¬ bI b = 0 → b = true := by intro b h; cases b <;> simp_all [bI]
                      rw [if_pos ⟨ht (hb _ c21) c32 c43 (hb _ c53), Or.inl c57⟩])
                  · refine g_aload_n 0 dX9_hasTint_60 rfl rfl ?_
                    refine g_iload dX9_hasTint_61 rfl ?_
                    refine g_iload_n 3 dX9_hasTint_63 rfl rfl ?_
                    refine mcI lkX9_108 (c_isLater Z o a hP hM s l (by omega) (by omega) (by omega) (by omega)) dX9_hasTint_64 rfl (And.intro (Nat.le_of_ble_eq_true rfl) (Nat.le_of_ble_eq_true rfl)) rfl (Nat.le_of_ble_eq_true rfl) rfl rfl (Nat.le_of_ble_eq_true rfl) (Nat.le_of_ble_eq_true rfl) (fun z64 M64 h64 => ?_)
                    obtain ⟨q1, q2⟩ := h64
                    rw [q1, q2]
                    refine gi_if_eq 75 dX9_hasTint_67 (by decide) (by first | exact hM _ _ | exact bI_Rg _ | exact ⟨by omega, by omega⟩) (fun c67 => ?_) (fun c67 => ?_)
                    · refine g_iload_n 3 dX9_hasTint_75 rfl rfl ?_
                      refine g_istore_n 3 dX9_hasTint_76 rfl (Nat.le_of_ble_eq_true rfl) (Nat.le_of_ble_eq_true rfl) rfl ?_
                      dsimp only [sto]
                      refine gi_inc dX9_hasTint_77 rfl (Nat.le_of_ble_eq_true rfl) rfl ?_
                      dsimp only [sto]
                      refine g_goto 5 dX9_hasTint_80 (by decide) ?_
                      exact ih _ _ (by omega) (by omega) (by omega) (by
                        rw [show (s + 1).toNat = s.toNat + 1 by omega, ltF, show ((s.toNat : Nat) : Int) = s by omega, ← hl]
                        have ht : wkB D T s = true → D 2 s = 2 → D 7 s = t → coB D (ordF D T) s i = true → tcB D T t i s = true := by
                          intro h1 h2 h3 h4
                          unfold tcB
                          rw [h1, h4, decide_eq_true h2, decide_eq_true h3]; rfl
                        have hf : tcB D T t i s = true → wkB D T s = true ∧ D 2 s = 2 ∧ D 7 s = t ∧ coB D (ordF D T) s i = true := by
                          intro h
                          unfold tcB at h
                          simpa using h
                        have hb : ∀ b : Bool, ¬ bI b = 0 → b = true := by intro b h; cases b <;> simp_all [bI]
                        rw [if_neg (fun h => by
                          rcases h.2 with h2 | h2
                          · omega
                          · rw [h2] at c67; exact absurd c67 (by decide))])
                    · refine g_iload dX9_hasTint_70 rfl ?_
                      refine g_goto 76 dX9_hasTint_72 (by decide) ?_
                      refine g_istore_n 3 dX9_hasTint_76 rfl (Nat.le_of_ble_eq_true rfl) (Nat.le_of_ble_eq_true rfl) rfl ?_
                      dsimp only [sto]
                      refine gi_inc dX9_hasTint_77 rfl (Nat.le_of_ble_eq_true rfl) rfl ?_
                      dsimp only [sto]
                      refine g_goto 5 dX9_hasTint_80 (by decide) ?_
                      exact ih _ _ (by omega) (by omega) (by omega) (by
                        rw [show (s + 1).toNat = s.toNat + 1 by omega, ltF, show ((s.toNat : Nat) : Int) = s by omega, ← hl]
                        have ht : wkB D T s = true → D 2 s = 2 → D 7 s = t → coB D (ordF D T) s i = true → tcB D T t i s = true := by
                          intro h1 h2 h3 h4
                          unfold tcB
                          rw [h1, h4, decide_eq_true h2, decide_eq_true h3]; rfl
                        have hf : tcB D T t i s = true → wkB D T s = true ∧ D 2 s = 2 ∧ D 7 s = t ∧ coB D (ordF D T) s i = true := by
                          intro h
                          unfold tcB at h
                          simpa using h
                        have hb : ∀ b : Bool, ¬ bI b = 0 → b = true := by intro b h; cases b <;> simp_all [bI]
                        rw [if_pos ⟨ht (hb _ c21) c32 c43 (hb _ c53), Or.inr (hb _ c67)⟩])
      · refine g_iload dX9_hasTint_5 rfl ?_
        refine g_aload_n 0 dX9_hasTint_7 rfl rfl ?_
        refine mg_9 (hP.at 9 (by decide) _) dX9_hasTint_8 rfl ?_
        refine gi_icmp_ge 83 dX9_hasTint_11 (by decide) (by first | exact hM _ _ | exact bI_Rg _ | exact ⟨by omega, by omega⟩) (by first | exact hM _ _ | exact bI_Rg _ | exact ⟨by omega, by omega⟩) (fun c11 => ?_) (fun c11 => ?_)
        · refine g_iload_n 3 dX9_hasTint_83 rfl rfl ?_
          refine gi_if_lt 100 dX9_hasTint_84 (by decide) (by exact ⟨by omega, by omega⟩) (fun c84 => ?_) (fun c84 => ?_)
          · refine g_iconst (iI 0) dX9_hasTint_100 rfl ?_
            refine g_zret dX9_hasTint_101 rfl (narrow_bool (by first | exact Or.inl rfl | exact Or.inr rfl | assumption | omega)) (Nat.le_of_ble_eq_true rfl) (Nat.le_of_ble_eq_true rfl) ⟨_, _, rfl, rfl, ?_⟩
            refine ⟨?_, rfl⟩
            have e : l = ltF D (tcB D T t i) (D 9 0).toNat := by rw [hl, show s = D 9 0 by omega]
            unfold hasT
            rw [← e]
            rcases hD.2.2.2.1 l with h8 | h8
            all_goals first
              | (rw [decide_eq_true (show 0 ≤ l by omega), decide_eq_true (show D 8 l = 1 by omega)]; rfl)
              | (rw [decide_eq_false (show ¬ 0 ≤ l by omega)]; rfl)
              | (rw [decide_eq_false (show ¬ D 8 l = 1 by omega)]; cases decide (0 ≤ l) <;> rfl)
              | (exfalso; omega)
          · refine g_aload_n 0 dX9_hasTint_87 rfl rfl ?_
            refine mg_8 dX9_hasTint_88 rfl ?_
            refine g_iload_n 3 dX9_hasTint_91 rfl rfl ?_
            refine ml_8 (hP.at 8 (by decide) _) dX9_hasTint_92 (by omega) (by omega) ?_
            refine gi_if_eq 100 dX9_hasTint_93 (by decide) (by first | exact hM _ _ | exact bI_Rg _ | exact ⟨by omega, by omega⟩) (fun c93 => ?_) (fun c93 => ?_)
            · refine g_iconst (iI 0) dX9_hasTint_100 rfl ?_
              refine g_zret dX9_hasTint_101 rfl (narrow_bool (by first | exact Or.inl rfl | exact Or.inr rfl | assumption | omega)) (Nat.le_of_ble_eq_true rfl) (Nat.le_of_ble_eq_true rfl) ⟨_, _, rfl, rfl, ?_⟩
              refine ⟨?_, rfl⟩
              have e : l = ltF D (tcB D T t i) (D 9 0).toNat := by rw [hl, show s = D 9 0 by omega]
              unfold hasT
              rw [← e]
              rcases hD.2.2.2.1 l with h8 | h8
              all_goals first
                | (rw [decide_eq_true (show 0 ≤ l by omega), decide_eq_true (show D 8 l = 1 by omega)]; rfl)
                | (rw [decide_eq_false (show ¬ 0 ≤ l by omega)]; rfl)
                | (rw [decide_eq_false (show ¬ D 8 l = 1 by omega)]; cases decide (0 ≤ l) <;> rfl)
                | (exfalso; omega)
            · refine g_iconst (iI 1) dX9_hasTint_96 rfl ?_
              refine g_goto 101 dX9_hasTint_97 (by decide) ?_
              refine g_zret dX9_hasTint_101 rfl (narrow_bool (by first | exact Or.inl rfl | exact Or.inr rfl | assumption | omega)) (Nat.le_of_ble_eq_true rfl) (Nat.le_of_ble_eq_true rfl) ⟨_, _, rfl, rfl, ?_⟩
              refine ⟨?_, rfl⟩
              have e : l = ltF D (tcB D T t i) (D 9 0).toNat := by rw [hl, show s = D 9 0 by omega]
              unfold hasT
              rw [← e]
              rcases hD.2.2.2.1 l with h8 | h8
              all_goals first
                | (rw [decide_eq_true (show 0 ≤ l by omega), decide_eq_true (show D 8 l = 1 by omega)]; rfl)
                | (rw [decide_eq_false (show ¬ 0 ≤ l by omega)]; rfl)
                | (rw [decide_eq_false (show ¬ D 8 l = 1 by omega)]; cases decide (0 ≤ l) <;> rfl)
                | (exfalso; omega)
        · exfalso; omega
  refine g_iconst (iI (-1)) dX9_hasTint_0 rfl ?_
  refine g_istore_n 3 dX9_hasTint_1 rfl (Nat.le_of_ble_eq_true rfl) (Nat.le_of_ble_eq_true rfl) rfl ?_
  dsimp only [sto]
  refine g_iconst (iI 0) dX9_hasTint_2 rfl ?_
  refine g_istore dX9_hasTint_3 (Nat.le_of_ble_eq_true rfl) (Nat.le_of_ble_eq_true rfl) rfl ?_
  dsimp only [sto]
  exact loop ((D 9 0).toNat + 1) (-1) 0 (by omega) (by omega) (by omega) rfl
set_option maxHeartbeats 4000000 in
set_option maxRecDepth 100000 in
/-- tintsOf -/
theorem c_tintsOf (Z : LZ) (o : Nat) (a : Nat → Nat) {D M : Mem} (hP : Pers D M) (hM : RM D) (hD : okP D) (hO : okO D (D 9 0).toNat) (T : Int → Bool) (hC : Cl D T) (hS : Sh D T M) (i : Int) (hi0 : 0 ≤ i) (hi1 : i < 1000)  : Tm Z o a jX9_tintsOf [i] M (fun z M2 => z = tinF D T i 4 ∧ M2 = M) := by
  refine tr_of pn_X9_tintsOf (Nat.le_of_ble_eq_true rfl) (vI_catO o _) ?_
  show G Z jX9_tintsOf E0 (QM Z jX9_tintsOf (pI Z o a (fun z M2 => z = tinF D T i 4 ∧ M2 = M))) 0 [.ref o, .int (iI i)] [] (mW Z o a M) 0 0
  have loop : ∀ (fuel : Nat) (c t : Int), 4 - t < fuel → 0 ≤ t → t ≤ 4 → c = tinF D T i t.toNat → G Z jX9_tintsOf E0 (QM Z jX9_tintsOf (pI Z o a (fun z M2 => z = tinF D T i 4 ∧ M2 = M))) 4 [.ref o, .int (iI i), .int (iI c), .int (iI t)] [] (mW Z o a M) 0 0 := by
    intro fuel
    induction fuel with
    | zero => intros; exfalso; omega
    | succ fuel ih =>
      intro c t hfu ht0 ht1 hc
      refine g_iload_n 3 dX9_tintsOf_4 rfl rfl ?_
      refine g_iconst (iI 4) dX9_tintsOf_5 rfl ?_
      refine gi_icmp_ge 34 dX9_tintsOf_6 (by decide) (by first | exact hM _ _ | exact bI_Rg _ | exact ⟨by omega, by omega⟩) (by first | exact hM _ _ | exact bI_Rg _ | exact ⟨by omega, by omega⟩) (fun c6 => ?_) (fun c6 => ?_)
      · refine g_iload_n 2 dX9_tintsOf_34 rfl rfl ?_
        refine g_iret dX9_tintsOf_35 rfl (Nat.le_of_ble_eq_true rfl) (Nat.le_of_ble_eq_true rfl) ⟨_, _, rfl, rfl, ?_⟩
        refine ⟨?_, rfl⟩
        rw [hc, show t = 4 by omega]
        rfl
      · refine g_iload_n 2 dX9_tintsOf_9 rfl rfl ?_
        refine g_aload_n 0 dX9_tintsOf_10 rfl rfl ?_
        refine g_iload_n 1 dX9_tintsOf_11 rfl rfl ?_
        refine g_iload_n 3 dX9_tintsOf_12 rfl rfl ?_
        refine mcI lkX9_144 (c_hasTint Z o a hP hM hD hO T hC hS i t hi0 hi1 (by exact ⟨by omega, by omega⟩)) dX9_tintsOf_13 rfl (And.intro (Nat.le_of_ble_eq_true rfl) (Nat.le_of_ble_eq_true rfl)) rfl (Nat.le_of_ble_eq_true rfl) rfl rfl (Nat.le_of_ble_eq_true rfl) (Nat.le_of_ble_eq_true rfl) (fun z13 M13 h13 => ?_)
        obtain ⟨q1, q2⟩ := h13
        rw [q1, q2]
        refine gi_if_eq 25 dX9_tintsOf_16 (by decide) (by first | exact hM _ _ | exact bI_Rg _ | exact ⟨by omega, by omega⟩) (fun c16 => ?_) (fun c16 => ?_)
        · refine g_iconst (iI 0) dX9_tintsOf_25 rfl ?_
          refine gi_add dX9_tintsOf_26 ?_
          refine g_istore_n 2 dX9_tintsOf_27 rfl (Nat.le_of_ble_eq_true rfl) (Nat.le_of_ble_eq_true rfl) rfl ?_
          dsimp only [sto]
          refine gi_inc dX9_tintsOf_28 rfl (Nat.le_of_ble_eq_true rfl) rfl ?_
          dsimp only [sto]
          refine g_goto 4 dX9_tintsOf_31 (by decide) ?_
          exact ih _ _ (by omega) (by omega) (by omega) (by
            rw [show (t + 1).toNat = t.toNat + 1 by omega, tinF, show ((t.toNat : Nat) : Int) = t by omega, ← hc]
            first
              | rw [bI_eq0.mp c16, if_neg (by decide)]
              | (have hb : hasT D T i t = true := by cases h : hasT D T i t <;> simp_all [bI]
                 rw [hb, if_pos rfl]))
        · refine g_iconst (iI 1) dX9_tintsOf_19 rfl ?_
          refine g_iload_n 3 dX9_tintsOf_20 rfl rfl ?_
          refine g_ishl dX9_tintsOf_21 ?_
          rw [shl_t (by omega) (by omega)]
          refine g_goto 26 dX9_tintsOf_22 (by decide) ?_
          refine gi_add dX9_tintsOf_26 ?_
          refine g_istore_n 2 dX9_tintsOf_27 rfl (Nat.le_of_ble_eq_true rfl) (Nat.le_of_ble_eq_true rfl) rfl ?_
          dsimp only [sto]
          refine gi_inc dX9_tintsOf_28 rfl (Nat.le_of_ble_eq_true rfl) rfl ?_
          dsimp only [sto]
          refine g_goto 4 dX9_tintsOf_31 (by decide) ?_
          exact ih _ _ (by omega) (by omega) (by omega) (by
            rw [show (t + 1).toNat = t.toNat + 1 by omega, tinF, show ((t.toNat : Nat) : Int) = t by omega, ← hc]
            first
              | rw [bI_eq0.mp c16, if_neg (by decide)]
              | (have hb : hasT D T i t = true := by cases h : hasT D T i t <;> simp_all [bI]
                 rw [hb, if_pos rfl]))
  refine g_iconst (iI 0) dX9_tintsOf_0 rfl ?_
  refine g_istore_n 2 dX9_tintsOf_1 rfl (Nat.le_of_ble_eq_true rfl) (Nat.le_of_ble_eq_true rfl) rfl ?_
  dsimp only [sto]
  refine g_iconst (iI 0) dX9_tintsOf_2 rfl ?_
  refine g_istore_n 3 dX9_tintsOf_3 rfl (Nat.le_of_ble_eq_true rfl) (Nat.le_of_ble_eq_true rfl) rfl ?_
  dsimp only [sto]
  exact loop 5 0 0 (by omega) (by omega) (by omega) rfl
