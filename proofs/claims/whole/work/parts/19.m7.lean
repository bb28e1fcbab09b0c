/-! THE REFERENCE: text -/
def ordF (D : Mem) (T : Int → Bool) : List Int := KD D T (D 9 0).toNat (-2)
def visB (D : Mem) (T : Int → Bool) (x : Int) : Bool := wkB D T (x / 4) && !(decide (0 < strikesF D (wkB D T) x))
def Vi (D : Mem) (T : Int → Bool) (i : Int) : Bool := visB D T ((ordF D T).getD i.toNat 0)
def txtN (D : Mem) (T : Int → Bool) : Int := cntB (Vi D T) (ordF D T).length
def TkR (D : Mem) (T : Int → Bool) (M : Mem) : Prop := ∀ t, 0 ≤ t → t < D 9 0 → M 14 t = bI (T t)
def WkR (D : Mem) (T : Int → Bool) (M : Mem) : Prop := ∀ t, 0 ≤ t → t < D 9 0 → M 15 t = bI (wkB D T t)
def SeR (D : Mem) (T : Int → Bool) (M : Mem) : Prop := ∀ (i : Nat) (x : Int), (ordF D T)[i]? = some x → M 18 i = bI (visB D T x)
def Sh (D : Mem) (T : Int → Bool) (M : Mem) : Prop := TkR D T M ∧ WkR D T M ∧ OL M (ordF D T) ∧ SeR D T M
/-- a set of slips that holds the put of each link of its puts -/
def Cl (D : Mem) (T : Int → Bool) : Prop := ∀ P : Int, 0 ≤ P → P < D 9 0 → D 2 P = 0 → T P = true → 0 ≤ D 6 P → T (D 6 P / 4) = true
theorem Cl_nat {D : Mem} (hD : okP D) {T : Int → Bool} (h : Cl D T) : ∀ P : Int, 0 ≤ P → P < (D 9 0).toNat → D 2 P = 0 → T P = true → 0 ≤ D 6 P → T (D 6 P / 4) = true := fun P h0 h1 => h P h0 (by have := hD.2.1; omega)
theorem ordF_eq {D : Mem} (hD : okP D) (hO : okO D (D 9 0).toNat) {T : Int → Bool} (hC : Cl D T) : ordF D T = (ordF D tT).filter (fun x => T (x / 4)) := kd_filter hO (Cl_nat hD hC) 300 (-2)
theorem ordF_len {D : Mem} (hD : okP D) (hO : okO D (D 9 0).toNat) {T : Int → Bool} (hC : Cl D T) : (ordF D T).length ≤ 768 := by
  have hn := hD.2.1
  rw [ordF_eq hD hO hC]
  have h1 := List.length_filter_le (fun x => T (x / 4)) (ordF D tT)
  have h2 := KD_len hO (by omega)
  unfold ordF at h1 ⊢
  omega
theorem ordF_mem {D : Mem} (hD : okP D) (hO : okO D (D 9 0).toNat) {T : Int → Bool} {x : Int} (h : x ∈ ordF D T) : 0 ≤ x ∧ x / 4 < D 9 0 ∧ D 2 (x / 4) = 0 ∧ T (x / 4) = true ∧ x % 4 < D 3 (x / 4) := by
  have hn := hD.2.1
  have := (kd_up hO 300 (-2) x h).1
  exact ⟨this.1, by omega, this.2.2.1, this.2.2.2.1, this.2.2.2.2⟩
theorem need_link {D : Mem} {P : Int} (h2 : D 2 P = 0) (h6 : 0 ≤ D 6 P) : D 6 P / 4 ∈ needL D P := by
  unfold needL
  refine List.mem_append_right _ ?_
  rw [if_neg (by omega), if_pos ⟨h6, by omega⟩]
  unfold ndx
  rw [if_pos (by omega)]
  simp
theorem tkB_Cl {D : Mem} (hD : okP D) (p : Int) : Cl D (tkB D p) := by
  intro P h0 h1 h2 hT h6
  rw [tkB_eq hD p h0 h1, Bool.and_eq_true] at hT
  exact List.all_eq_true.mp hT.2 _ (need_link h2 h6)
theorem Vi_at {D : Mem} {T : Int → Bool} {i : Nat} {x : Int} (h : (ordF D T)[i]? = some x) : Vi D T i = visB D T x := by
  unfold Vi
  rw [show ((i : Int)).toNat = i by omega, List.getD_eq_getElem?_getD, h]
  rfl
theorem Sh.row {D : Mem} {T : Int → Bool} {Mx My : Mem} {rs : List Nat} (h : Sh D T Mx) (hf : Fx rs Mx My) (h14 : 14 ∉ rs) (h15 : 15 ∉ rs) (h16 : 16 ∉ rs) (h17 : 17 ∉ rs) (h18 : 18 ∉ rs) : Sh D T My :=
  ⟨fun t a b => (hf.at 14 h14 t).trans (h.1 t a b), fun t a b => (hf.at 15 h15 t).trans (h.2.1 t a b), OL_row h.2.2.1 (hf 16 h16) (hf 17 h17), fun i x hx => (hf.at 18 h18 _).trans (h.2.2.2 i x hx)⟩
theorem Sh.vi {D : Mem} {T : Int → Bool} {Mx : Mem} (h : Sh D T Mx) : ∀ i, 0 ≤ i → i < Mx 17 0 → Mx 18 i = bI (Vi D T i) := by
  intro i h0 h1
  rw [h.2.2.1.1] at h1
  have hlt : i.toNat < (ordF D T).length := by omega
  have hx := List.getElem?_eq_getElem hlt
  have h2 := h.2.2.2 i.toNat _ hx
  have h3 := Vi_at hx
  rw [show ((i.toNat : Nat) : Int) = i by omega] at h2 h3
  rw [h2, h3]
set_option maxHeartbeats 4000000 in
set_option maxRecDepth 100000 in
/-- findText -/
theorem c_findText (Z : LZ) (o : Nat) (a : Nat → Nat) {D M : Mem} (hP : Pers D M) (hM : RM D) (hD : okP D) (hO : okO D (D 9 0).toNat) (T : Int → Bool) (hC : Cl D T) (hT : TkR D T M)  : Tm Z o a jX9_findText [] M (fun z M2 => z = txtN D T ∧ Fx [15, 16, 17, 18, 21, 22, 23] M M2 ∧ Sh D T M2) := by
  refine tr_of pn_X9_findText (Nat.le_of_ble_eq_true rfl) (vI_catO o _) ?_
  show G Z jX9_findText E0 (QM Z jX9_findText (pI Z o a (fun z M2 => z = txtN D T ∧ Fx [15, 16, 17, 18, 21, 22, 23] M M2 ∧ Sh D T M2))) 0 [.ref o] [] (mW Z o a M) 0 0
  have hn := hD.2.1
  have hlen := ordF_len hD hO hC
  have loop : ∀ (fuel : Nat) (c i : Int) (Mq : Mem), (ordF D T).length - i < fuel → 0 ≤ i → i ≤ (ordF D T).length → c = cntB (Vi D T) i.toNat → Fx [15, 16, 17, 18, 21, 22, 23] M Mq → TkR D T Mq → WkR D T Mq → OL Mq (ordF D T) → (∀ (j : Nat) (y : Int), j < i → (ordF D T)[j]? = some y → Mq 18 j = bI (visB D T y)) → G Z jX9_findText E0 (QM Z jX9_findText (pI Z o a (fun z M2 => z = txtN D T ∧ Fx [15, 16, 17, 18, 21, 22, 23] M M2 ∧ Sh D T M2))) 12 [.ref o, .int (iI c), .int (iI i)] [] (mW Z o a Mq) 0 0 := by
    intro fuel
    induction fuel with
    | zero => intros; exfalso; omega
    | succ fuel ih =>
      intro c i Mq hfu hi0 hi1 hc hF hTk hWk hOL hSe
      by_cases hlt : i < (ordF D T).length
      · have hcr := cntB_rg (Vi D T) i.toNat
        obtain ⟨x, hx⟩ : ∃ x, (ordF D T)[i.toNat]? = some x := ⟨_, List.getElem?_eq_getElem (by omega)⟩
        have hval : Mq 16 i = x := by
          have := hOL.2 i.toNat x hx
          rwa [show ((i.toNat : Nat) : Int) = i by omega] at this
        obtain ⟨m1, m2, m3, m4, m5⟩ := ordF_mem hD hO (List.mem_of_getElem? hx)
        have mid : ∀ v : Int, v = bI (visB D T x) → G Z jX9_findText E0 (QM Z jX9_findText (pI Z o a (fun z M2 => z = txtN D T ∧ Fx [15, 16, 17, 18, 21, 22, 23] M M2 ∧ Sh D T M2))) 59 [.ref o, .int (iI c), .int (iI i)] [.int (iI v), .int (iI i), .ref (a 18)] (mW Z o a Mq) 0 0 := by
          intro v hv
          subst hv
          refine mt_18 dX9_findText_59 (by omega) (by omega) (bI_01 _) ?_
          refine g_iload_n 1 dX9_findText_60 rfl rfl ?_
          refine g_aload_n 0 dX9_findText_61 rfl rfl ?_
          refine mg_18 dX9_findText_62 rfl ?_
          refine g_iload_n 2 dX9_findText_65 rfl rfl ?_
          refine ml_18 ms_at dX9_findText_66 (by omega) (by omega) ?_
          refine gi_if_eq 74 dX9_findText_67 (by decide) (by first | exact hM _ _ | exact bI_Rg _ | exact ⟨by omega, by omega⟩) (fun c67 => ?_) (fun c67 => ?_)
          · refine g_iconst (iI 0) dX9_findText_74 rfl ?_
            refine gi_add dX9_findText_75 ?_
            refine g_istore_n 1 dX9_findText_76 rfl (Nat.le_of_ble_eq_true rfl) (Nat.le_of_ble_eq_true rfl) rfl ?_
            dsimp only [sto]
            refine gi_inc dX9_findText_77 rfl (Nat.le_of_ble_eq_true rfl) rfl ?_
            dsimp only [sto]
            refine g_goto 12 dX9_findText_80 (by decide) ?_
            exact ih _ _ _ (by omega) (by omega) (by omega) (by
              rw [show (i + 1).toNat = i.toNat + 1 by omega, cntB, ← hc]
              have hv := Vi_at hx
              rw [hv]
              first | omega | (have := bI_1 c67; omega)) (hF.ms (by decide)) hTk hWk (OL_row hOL rfl rfl) (fun j y a1 a2 => by
              by_cases e : (j : Int) = i
              · have e2 : j = i.toNat := by omega
                rw [e2, hx] at a2
                cases a2
                rw [e, ms_at]
              · rw [ms_off e]; exact hSe j y (by omega) a2)
          · refine g_iconst (iI 1) dX9_findText_70 rfl ?_
            refine g_goto 75 dX9_findText_71 (by decide) ?_
            refine gi_add dX9_findText_75 ?_
            refine g_istore_n 1 dX9_findText_76 rfl (Nat.le_of_ble_eq_true rfl) (Nat.le_of_ble_eq_true rfl) rfl ?_
            dsimp only [sto]
            refine gi_inc dX9_findText_77 rfl (Nat.le_of_ble_eq_true rfl) rfl ?_
            dsimp only [sto]
            refine g_goto 12 dX9_findText_80 (by decide) ?_
            exact ih _ _ _ (by omega) (by omega) (by omega) (by
              rw [show (i + 1).toNat = i.toNat + 1 by omega, cntB, ← hc]
              have hv := Vi_at hx
              rw [hv]
              first | omega | (have := bI_1 c67; omega)) (hF.ms (by decide)) hTk hWk (OL_row hOL rfl rfl) (fun j y a1 a2 => by
              by_cases e : (j : Int) = i
              · have e2 : j = i.toNat := by omega
                rw [e2, hx] at a2
                cases a2
                rw [e, ms_at]
              · rw [ms_off e]; exact hSe j y (by omega) a2)
        refine g_iload_n 2 dX9_findText_12 rfl rfl ?_
        refine g_aload_n 0 dX9_findText_13 rfl rfl ?_
        refine mg_17 hOL.1 dX9_findText_14 rfl ?_
        refine gi_icmp_ge 83 dX9_findText_17 (by decide) (by first | exact hM _ _ | exact bI_Rg _ | exact ⟨by omega, by omega⟩) (by first | exact hM _ _ | exact bI_Rg _ | exact ⟨by omega, by omega⟩) (fun c17 => ?_) (fun c17 => ?_)
        · exfalso; omega
        · refine g_aload_n 0 dX9_findText_20 rfl rfl ?_
          refine mg_18 dX9_findText_21 rfl ?_
          refine g_iload_n 2 dX9_findText_24 rfl rfl ?_
          refine g_aload_n 0 dX9_findText_25 rfl rfl ?_
          refine mg_15 dX9_findText_26 rfl ?_
          refine g_aload_n 0 dX9_findText_29 rfl rfl ?_
          refine mg_16 dX9_findText_30 rfl ?_
          refine g_iload_n 2 dX9_findText_33 rfl rfl ?_
          refine ml_16 hval dX9_findText_34 (by omega) (by omega) ?_
          refine g_iconst (iI 4) dX9_findText_35 rfl ?_
          refine gi_div dX9_findText_36 (by omega) (by omega) (by decide) (by decide) ?_
          refine ml_15 (hWk _ (by omega) (by omega)) dX9_findText_37 (by omega) (by omega) ?_
          refine gi_if_eq 58 dX9_findText_38 (by decide) (by first | exact hM _ _ | exact bI_Rg _ | exact ⟨by omega, by omega⟩) (fun c38 => ?_) (fun c38 => ?_)
          · refine g_iconst (iI 0) dX9_findText_58 rfl ?_
            exact mid _ (by
              unfold visB
              first
                | exact bI_and_l c38
                | (rw [bI_eq0.mp c51]; cases hw : wkB D T (x / 4)
                   · rw [hw] at c38; exact absurd rfl c38
                   · rfl)
                | (cases hs : decide (0 < strikesF D (wkB D T) x)
                   · rw [hs] at c51; exact absurd rfl c51
                   · cases wkB D T (x / 4) <;> rfl))
          · refine g_aload_n 0 dX9_findText_41 rfl rfl ?_
            refine g_aload_n 0 dX9_findText_42 rfl rfl ?_
            refine mg_16 dX9_findText_43 rfl ?_
            refine g_iload_n 2 dX9_findText_46 rfl rfl ?_
            refine ml_16 hval dX9_findText_47 (by omega) (by omega) ?_
            refine mcI lkX9_128 (c_isStruck Z o a (hP.fx hF (by decide)) hM hD _ (by exact ⟨by omega, by omega⟩) (wkB D T) hWk) dX9_findText_48 rfl (And.intro (Nat.le_of_ble_eq_true rfl) (Nat.le_of_ble_eq_true rfl)) rfl (Nat.le_of_ble_eq_true rfl) rfl rfl (Nat.le_of_ble_eq_true rfl) (Nat.le_of_ble_eq_true rfl) (fun z48 M48 h48 => ?_)
            obtain ⟨q1, q2⟩ := h48
            rw [q1, q2]
            refine gi_if_ne 58 dX9_findText_51 (by decide) (by first | exact hM _ _ | exact bI_Rg _ | exact ⟨by omega, by omega⟩) (fun c51 => ?_) (fun c51 => ?_)
            · refine g_iconst (iI 0) dX9_findText_58 rfl ?_
              exact mid _ (by
                unfold visB
                first
                  | exact bI_and_l c38
                  | (rw [bI_eq0.mp c51]; cases hw : wkB D T (x / 4)
                     · rw [hw] at c38; exact absurd rfl c38
                     · rfl)
                  | (cases hs : decide (0 < strikesF D (wkB D T) x)
                     · rw [hs] at c51; exact absurd rfl c51
                     · cases wkB D T (x / 4) <;> rfl))
            · refine g_iconst (iI 1) dX9_findText_54 rfl ?_
              refine g_goto 59 dX9_findText_55 (by decide) ?_
              exact mid _ (by
                unfold visB
                first
                  | exact bI_and_l c38
                  | (rw [bI_eq0.mp c51]; cases hw : wkB D T (x / 4)
                     · rw [hw] at c38; exact absurd rfl c38
                     · rfl)
                  | (cases hs : decide (0 < strikesF D (wkB D T) x)
                     · rw [hs] at c51; exact absurd rfl c51
                     · cases wkB D T (x / 4) <;> rfl))
      · refine g_iload_n 2 dX9_findText_12 rfl rfl ?_
        refine g_aload_n 0 dX9_findText_13 rfl rfl ?_
        refine mg_17 hOL.1 dX9_findText_14 rfl ?_
        refine gi_icmp_ge 83 dX9_findText_17 (by decide) (by first | exact hM _ _ | exact bI_Rg _ | exact ⟨by omega, by omega⟩) (by first | exact hM _ _ | exact bI_Rg _ | exact ⟨by omega, by omega⟩) (fun c17 => ?_) (fun c17 => ?_)
        · refine g_iload_n 1 dX9_findText_83 rfl rfl ?_
          refine g_iret dX9_findText_84 rfl (Nat.le_of_ble_eq_true rfl) (Nat.le_of_ble_eq_true rfl) ⟨_, _, rfl, rfl, ?_⟩
          refine ⟨?_, hF, hTk, hWk, hOL, fun j y a => hSe j y (by have := (List.getElem?_eq_some_iff.mp a).1; omega) a⟩
          unfold txtN
          rw [hc, show i.toNat = (ordF D T).length by omega]
        · exfalso; omega
  refine g_aload_n 0 dX9_findText_0 rfl rfl ?_
  refine mcV lkX9_122 (c_findWorks Z o a hP hM hD T hT) dX9_findText_1 rfl (And.intro (Nat.le_of_ble_eq_true rfl) (Nat.le_of_ble_eq_true rfl)) rfl (Nat.le_of_ble_eq_true rfl) rfl rfl (Nat.le_of_ble_eq_true rfl) (Nat.le_of_ble_eq_true rfl) (fun M1 h1 => ?_)
  obtain ⟨hF1, hW1⟩ := h1
  refine g_aload_n 0 dX9_findText_4 rfl rfl ?_
  refine mcV lkX9_125 (c_findOrder Z o a (hP.fx hF1 (by decide)) hM hD hO T (fun t a1 a2 => (hF1.at 14 (by decide) t).trans (hT t a1 a2)) hlen) dX9_findText_5 rfl (And.intro (Nat.le_of_ble_eq_true rfl) (Nat.le_of_ble_eq_true rfl)) rfl (Nat.le_of_ble_eq_true rfl) rfl rfl (Nat.le_of_ble_eq_true rfl) (Nat.le_of_ble_eq_true rfl) (fun M5 h5 => ?_)
  obtain ⟨hF2, hOL⟩ := h5
  refine g_iconst (iI 0) dX9_findText_8 rfl ?_
  refine g_istore_n 1 dX9_findText_9 rfl (Nat.le_of_ble_eq_true rfl) (Nat.le_of_ble_eq_true rfl) rfl ?_
  dsimp only [sto]
  refine g_iconst (iI 0) dX9_findText_10 rfl ?_
  refine g_istore_n 2 dX9_findText_11 rfl (Nat.le_of_ble_eq_true rfl) (Nat.le_of_ble_eq_true rfl) rfl ?_
  dsimp only [sto]
  exact loop ((ordF D T).length + 1) 0 0 _ (by omega) (by omega) (by omega) rfl ((hF1.sub (by decide)).tr hF2 (by decide)) (fun t a1 a2 => (hF2.at 14 (by decide) t).trans ((hF1.at 14 (by decide) t).trans (hT t a1 a2))) (fun t a1 a2 => (hF2.at 15 (by decide) t).trans (hW1 t a1 a2)) hOL (fun j y a1 a2 => by omega)
set_option maxHeartbeats 4000000 in
set_option maxRecDepth 100000 in
/-- sheet -/
theorem c_sheet (Z : LZ) (o : Nat) (a : Nat → Nat) {D M : Mem} (hP : Pers D M) (hM : RM D) (hD : okP D) (hO : okO D (D 9 0).toNat) (p : Int) (h0 : 0 ≤ p) (h1 : p < 6)  : Tm Z o a jX9_sheet [p] M (fun z M2 => z = txtN D (tkB D p) ∧ Fx [14, 15, 16, 17, 18, 19, 20, 21, 22, 23] M M2 ∧ Sh D (tkB D p) M2) := by
  refine tr_of pn_X9_sheet (Nat.le_of_ble_eq_true rfl) (vI_catO o _) ?_
  show G Z jX9_sheet E0 (QM Z jX9_sheet (pI Z o a (fun z M2 => z = txtN D (tkB D p) ∧ Fx [14, 15, 16, 17, 18, 19, 20, 21, 22, 23] M M2 ∧ Sh D (tkB D p) M2))) 0 [.ref o, .int (iI p)] [] (mW Z o a M) 0 0
  refine g_aload_n 0 dX9_sheet_0 rfl rfl ?_
  refine g_iload_n 1 dX9_sheet_1 rfl rfl ?_
  refine mcI lkX9_131 (c_findTaken Z o a hP hM hD p h0 h1) dX9_sheet_2 rfl (And.intro (Nat.le_of_ble_eq_true rfl) (Nat.le_of_ble_eq_true rfl)) rfl (Nat.le_of_ble_eq_true rfl) rfl rfl (Nat.le_of_ble_eq_true rfl) (Nat.le_of_ble_eq_true rfl) (fun z2 M2 h2 => ?_)
  obtain ⟨q1, hF1, hT1⟩ := h2
  refine g_pop dX9_sheet_5 rfl ?_
  refine g_aload_n 0 dX9_sheet_6 rfl rfl ?_
  refine mcI lkX9_134 (c_findText Z o a (hP.fx hF1 (by decide)) hM hD hO (tkB D p) (tkB_Cl hD p) hT1) dX9_sheet_7 rfl (And.intro (Nat.le_of_ble_eq_true rfl) (Nat.le_of_ble_eq_true rfl)) rfl (Nat.le_of_ble_eq_true rfl) rfl rfl (Nat.le_of_ble_eq_true rfl) (Nat.le_of_ble_eq_true rfl) (fun z7 M7 h7 => ?_)
  obtain ⟨q2, hF2, hS⟩ := h7
  refine g_iret dX9_sheet_10 rfl (Nat.le_of_ble_eq_true rfl) (Nat.le_of_ble_eq_true rfl) ⟨_, _, rfl, rfl, ?_⟩
  exact ⟨q2, (hF1.sub (by decide)).tr hF2 (by decide), hS⟩
