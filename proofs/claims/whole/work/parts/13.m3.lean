/-! THE REFERENCE: taken and works -/
theorem bI_and_t {A B : Bool} (h : ¬ bI A = 0) (h2 : ¬ bI B = 0) : 1 = bI (A && B) := by cases A <;> cases B <;> simp_all [bI]
theorem bI_and_l {A B : Bool} (h : bI A = 0) : 0 = bI (A && B) := by cases A <;> cases B <;> simp_all [bI]
theorem bI_and_r {A B : Bool} (h : bI B = 0) : 0 = bI (A && B) := by cases A <;> cases B <;> simp_all [bI]
theorem bI_g0 {g : Int} {X : Bool} (h : g = 0) : 0 = bI (decide (g = 1) && X) := by subst h; rfl
theorem bI_gt {g : Int} {X : Bool} (hb : g = 0 ∨ g = 1) (h : ¬ g = 0) (h2 : ¬ bI X = 0) : 1 = bI (decide (g = 1) && X) := by
  rcases hb with rfl | rfl
  · exact absurd rfl h
  · cases X <;> simp_all [bI]
theorem bI_1 {A : Bool} (h : ¬ bI A = 0) : bI A = 1 := by cases A <;> simp_all [bI]
theorem take_all {T : Int → Bool} {l : List Int} {k : Nat} {x : Int} (h : l[k]? = some x) : (l.take (k + 1)).all T = ((l.take k).all T && T x) := by
  rw [List.take_add_one, h]
  simp [List.all_append]
def tkU (D : Mem) (p : Int) : Nat → Int → Bool
  | 0, _ => false
  | k + 1, x => decide (D 10 (256 * p + x) = 1) && (needL D x).all (tkU D p k)
def tkB (D : Mem) (p : Int) : Int → Bool := tkU D p 300
theorem all_congr {l : List Int} {S T : Int → Bool} (h : ∀ t ∈ l, S t = T t) : l.all S = l.all T := by
  induction l with
  | nil => rfl
  | cons a t ih =>
    simp only [List.all_cons]
    rw [h a List.mem_cons_self, ih (fun t ht => h t (List.mem_cons_of_mem _ ht))]
theorem tkU_st {D : Mem} (hD : okP D) (p : Int) : ∀ (k k2 : Nat) (x : Int), 0 ≤ x → x < D 9 0 → x < k → x < k2 → tkU D p k x = tkU D p k2 x := by
  intro k
  induction k with
  | zero => intro k2 x h0 _ h; exfalso; omega
  | succ k ih =>
    intro k2 x h0 h1 hk hk2
    cases k2 with
    | zero => exfalso; omega
    | succ k2 =>
      unfold tkU
      rw [all_congr (fun t ht => ih k2 t (need_lt hD h0 h1 t ht).1 (by have := need_lt hD h0 h1 t ht; omega) (by have := need_lt hD h0 h1 t ht; omega) (by have := need_lt hD h0 h1 t ht; omega))]
theorem tkB_eq {D : Mem} (hD : okP D) (p : Int) {x : Int} (h0 : 0 ≤ x) (h1 : x < D 9 0) : tkB D p x = (decide (D 10 (256 * p + x) = 1) && (needL D x).all (tkB D p)) := by
  have hn := hD.2.1
  unfold tkB
  rw [tkU_st hD p 300 301 x h0 h1 (by omega) (by omega)]
  rfl
def cntB (T : Int → Bool) : Nat → Int
  | 0 => 0
  | k + 1 => cntB T k + bI (T k)
theorem cntB_rg (T : Int → Bool) : ∀ k : Nat, 0 ≤ cntB T k ∧ cntB T k ≤ k := by
  intro k
  induction k with
  | zero => simp [cntB]
  | succ k ih => have := bI_01 (T k); simp only [cntB]; omega
def allB (P : Int → Bool) (lo : Int) : Nat → Bool
  | 0 => true
  | k + 1 => allB P lo k && P (lo + k)
theorem allB_congr {P S : Int → Bool} {lo : Int} : ∀ k : Nat, (∀ u, lo ≤ u → u < lo + k → P u = S u) → allB P lo k = allB S lo k := by
  intro k
  induction k with
  | zero => intro _; rfl
  | succ k ih =>
    intro h
    unfold allB
    rw [ih (fun u h1 h2 => h u h1 (by omega)), h (lo + k) (by omega) (by omega)]
def undB (D : Mem) (W : Int → Bool) (x u : Int) : Bool := !(decide (D 2 u = 3) && (decide (D 6 u = x) && W u))
theorem und_keep {A : Bool} {D : Mem} {W : Int → Bool} {s u : Int} (h : ¬ bI A = 0) (hx : ¬ D 2 u = 3 ∨ ¬ D 6 u = s ∨ bI (W u) = 0) : 1 = bI (A && undB D W s u) := by
  have hA : A = true := by cases A <;> simp_all [bI]
  subst hA
  unfold undB
  rcases hx with h1 | h1 | h1
  · rw [decide_eq_false h1]; rfl
  · rw [decide_eq_false h1]; cases decide (D 2 u = 3) <;> rfl
  · rw [bI_eq0.mp h1]; cases decide (D 2 u = 3) <;> cases decide (D 6 u = s) <;> rfl
theorem und_fall {A : Bool} {D : Mem} {W : Int → Bool} {s u : Int} (h2 : D 2 u = 3) (h6 : D 6 u = s) (h : ¬ bI (W u) = 0) : 0 = bI (A && undB D W s u) := by
  have hA : W u = true := by cases hw : W u <;> simp_all [bI]
  unfold undB
  rw [decide_eq_true h2, decide_eq_true h6, hA]
  cases A <;> rfl
def wkU (D : Mem) (T : Int → Bool) : Nat → Int → Bool
  | 0, _ => false
  | k + 1, x => T x && allB (undB D (wkU D T k) x) (x + 1) (D 9 0 - 1 - x).toNat
def wkB (D : Mem) (T : Int → Bool) : Int → Bool := wkU D T 300
theorem wkU_st {D : Mem} (T : Int → Bool) : ∀ (k k2 : Nat) (x : Int), x < D 9 0 → D 9 0 - x ≤ k → D 9 0 - x ≤ k2 → wkU D T k x = wkU D T k2 x := by
  intro k
  induction k with
  | zero => intro k2 x h1 h; exfalso; omega
  | succ k ih =>
    intro k2 x h1 hk hk2
    cases k2 with
    | zero => exfalso; omega
    | succ k2 =>
      unfold wkU
      rw [allB_congr (S := undB D (wkU D T k2) x) _ (fun u h1 h2 => by unfold undB; rw [ih k2 u (by omega) (by omega) (by omega)])]
theorem wkB_eq {D : Mem} (hD : okP D) (T : Int → Bool) {x : Int} (h0 : 0 ≤ x) (h1 : x < D 9 0) : wkB D T x = (T x && allB (undB D (wkB D T) x) (x + 1) (D 9 0 - 1 - x).toNat) := by
  have hn := hD.2.1
  unfold wkB
  rw [wkU_st T 300 301 x h1 (by omega) (by omega)]
  rfl
theorem needL_len {D : Mem} (hD : okP D) {s : Int} (h0 : 0 ≤ s) (h1 : s < D 9 0) : (needL D s).length ≤ 16 := by
  obtain ⟨hp0, hk0, hS0, hS1, hS2, hS3, hSg⟩ := hD.2.2.1 s h0 h1
  have a1 := ndx_len (latestF D (D 0 s) s.toNat)
  have a2 := sgN_len D s (D 3 s).toNat
  have a3 := ndx_len (D 6 s)
  have a4 := ndx_len (D 6 s / 4)
  have b1 : (if D 2 s = 1 ∨ D 2 s = 2 then sgN D s (D 3 s).toNat else []).length ≤ 12 := by
    split
    · next hk =>
      rcases hk with hk | hk
      · have := hS1 hk; omega
      · have := hS2 hk; omega
    · simp
  have b2 : (if D 2 s = 3 then ndx (D 6 s) else if 0 ≤ D 6 s ∧ D 2 s ≠ 1 then ndx (D 6 s / 4) else []).length ≤ 1 := by
    split
    · omega
    · split
      · omega
      · simp
  unfold needL needA
  simp only [List.length_append]
  omega
set_option maxHeartbeats 4000000 in
set_option maxRecDepth 100000 in
/-- hasNeeds -/
theorem c_hasNeeds (Z : LZ) (o : Nat) (a : Nat → Nat) {D M : Mem} (hP : Pers D M) (hM : RM D) (hD : okP D) (s : Int) (h0 : 0 ≤ s) (h1 : s < D 9 0) (T : Int → Bool) (hT : ∀ t, 0 ≤ t → t < s → M 14 t = bI (T t))  : Tm Z o a jX9_hasNeeds [s] M (fun z M2 => z = bI ((needL D s).all T) ∧ Fx [19, 20] M M2) := by
  refine tr_of pn_X9_hasNeeds (Nat.le_of_ble_eq_true rfl) (vI_catO o _) ?_
  show G Z jX9_hasNeeds E0 (QM Z jX9_hasNeeds (pI Z o a (fun z M2 => z = bI ((needL D s).all T) ∧ Fx [19, 20] M M2))) 0 [.ref o, .int (iI s)] [] (mW Z o a M) 0 0
  have hn := hD.2.1
  refine g_aload_n 0 dX9_hasNeeds_0 rfl rfl ?_
  refine g_iload_n 1 dX9_hasNeeds_1 rfl rfl ?_
  refine mcV lkX9_98 (c_findNeeds Z o a hP hM hD s h0 h1) dX9_hasNeeds_2 rfl (And.intro (Nat.le_of_ble_eq_true rfl) (Nat.le_of_ble_eq_true rfl)) rfl (Nat.le_of_ble_eq_true rfl) rfl rfl (Nat.le_of_ble_eq_true rfl) (Nat.le_of_ble_eq_true rfl) (fun M2 h2 => ?_)
  obtain ⟨hF, hN⟩ := h2
  generalize M2 = M1 at hF hN ⊢
  have hl : (needL D s).length ≤ 16 := needL_len hD h0 h1
  refine g_iconst (iI 1) dX9_hasNeeds_5 rfl ?_
  refine g_istore_n 2 dX9_hasNeeds_6 rfl (Nat.le_of_ble_eq_true rfl) (Nat.le_of_ble_eq_true rfl) rfl ?_
  dsimp only [sto]
  refine g_iconst (iI 0) dX9_hasNeeds_7 rfl ?_
  refine g_istore_n 3 dX9_hasNeeds_8 rfl (Nat.le_of_ble_eq_true rfl) (Nat.le_of_ble_eq_true rfl) rfl ?_
  dsimp only [sto]
  have loop : ∀ (fuel : Nat) (h i : Int), (needL D s).length - i < fuel → 0 ≤ i → i ≤ (needL D s).length → h = bI (((needL D s).take i.toNat).all T) → G Z jX9_hasNeeds E0 (QM Z jX9_hasNeeds (pI Z o a (fun z M2 => z = bI ((needL D s).all T) ∧ Fx [19, 20] M M2))) 9 [.ref o, .int (iI s), .int (iI h), .int (iI i)] [] (mW Z o a M1) 0 0 := by
    intro fuel
    induction fuel with
    | zero => intros; exfalso; omega
    | succ fuel ih =>
      intro h i hfu hi0 hi1 hh
      subst hh
      refine g_iload_n 3 dX9_hasNeeds_9 rfl rfl ?_
      refine g_aload_n 0 dX9_hasNeeds_10 rfl rfl ?_
      refine mg_20 hN.1 dX9_hasNeeds_11 rfl ?_
      refine gi_icmp_ge 47 dX9_hasNeeds_14 (by decide) (by first | exact hM _ _ | exact bI_Rg _ | exact ⟨by omega, by omega⟩) (by first | exact hM _ _ | exact bI_Rg _ | exact ⟨by omega, by omega⟩) (fun c14 => ?_) (fun c14 => ?_)
      · refine g_iload_n 2 dX9_hasNeeds_47 rfl rfl ?_
        refine g_zret dX9_hasNeeds_48 rfl (narrow_bool (bI_01 _)) (Nat.le_of_ble_eq_true rfl) (Nat.le_of_ble_eq_true rfl) ⟨_, _, rfl, rfl, ?_⟩
        refine ⟨?_, hF⟩
        rw [List.take_of_length_le (by omega)]
      · obtain ⟨x, hx⟩ : ∃ x, (needL D s)[i.toNat]? = some x := ⟨_, List.getElem?_eq_getElem (by omega)⟩
        have hval : M1 19 i = x := by
          have := hN.2 i.toNat x hx
          rwa [show ((i.toNat : Nat) : Int) = i by omega] at this
        have hb := need_lt hD h0 h1 x (List.mem_of_getElem? hx)
        refine g_iload_n 2 dX9_hasNeeds_17 rfl rfl ?_
        refine gi_if_eq 39 dX9_hasNeeds_18 (by decide) (by first | exact hM _ _ | exact bI_Rg _ | exact ⟨by omega, by omega⟩) (fun c18 => ?_) (fun c18 => ?_)
        · refine g_iconst (iI 0) dX9_hasNeeds_39 rfl ?_
          refine g_istore_n 2 dX9_hasNeeds_40 rfl (Nat.le_of_ble_eq_true rfl) (Nat.le_of_ble_eq_true rfl) rfl ?_
          dsimp only [sto]
          refine gi_inc dX9_hasNeeds_41 rfl (Nat.le_of_ble_eq_true rfl) rfl ?_
          dsimp only [sto]
          refine g_goto 9 dX9_hasNeeds_44 (by decide) ?_
          exact ih _ _ (by omega) (by omega) (by omega) (by
            rw [show (i + 1).toNat = i.toNat + 1 by omega, take_all hx]
            first | exact bI_and_t c18 c32 | exact bI_and_l c18 | exact bI_and_r c32)
        · refine g_aload_n 0 dX9_hasNeeds_21 rfl rfl ?_
          refine mg_14 dX9_hasNeeds_22 rfl ?_
          refine g_aload_n 0 dX9_hasNeeds_25 rfl rfl ?_
          refine mg_19 dX9_hasNeeds_26 rfl ?_
          refine g_iload_n 3 dX9_hasNeeds_29 rfl rfl ?_
          refine ml_19 hval dX9_hasNeeds_30 (by omega) (by omega) ?_
          refine ml_14 ((hF.at 14 (by decide) x).trans (hT x hb.1 hb.2)) dX9_hasNeeds_31 (by omega) (by omega) ?_
          refine gi_if_eq 39 dX9_hasNeeds_32 (by decide) (by first | exact hM _ _ | exact bI_Rg _ | exact ⟨by omega, by omega⟩) (fun c32 => ?_) (fun c32 => ?_)
          · refine g_iconst (iI 0) dX9_hasNeeds_39 rfl ?_
            refine g_istore_n 2 dX9_hasNeeds_40 rfl (Nat.le_of_ble_eq_true rfl) (Nat.le_of_ble_eq_true rfl) rfl ?_
            dsimp only [sto]
            refine gi_inc dX9_hasNeeds_41 rfl (Nat.le_of_ble_eq_true rfl) rfl ?_
            dsimp only [sto]
            refine g_goto 9 dX9_hasNeeds_44 (by decide) ?_
            exact ih _ _ (by omega) (by omega) (by omega) (by
              rw [show (i + 1).toNat = i.toNat + 1 by omega, take_all hx]
              first | exact bI_and_t c18 c32 | exact bI_and_l c18 | exact bI_and_r c32)
          · refine g_iconst (iI 1) dX9_hasNeeds_35 rfl ?_
            refine g_goto 40 dX9_hasNeeds_36 (by decide) ?_
            refine g_istore_n 2 dX9_hasNeeds_40 rfl (Nat.le_of_ble_eq_true rfl) (Nat.le_of_ble_eq_true rfl) rfl ?_
            dsimp only [sto]
            refine gi_inc dX9_hasNeeds_41 rfl (Nat.le_of_ble_eq_true rfl) rfl ?_
            dsimp only [sto]
            refine g_goto 9 dX9_hasNeeds_44 (by decide) ?_
            exact ih _ _ (by omega) (by omega) (by omega) (by
              rw [show (i + 1).toNat = i.toNat + 1 by omega, take_all hx]
              first | exact bI_and_t c18 c32 | exact bI_and_l c18 | exact bI_and_r c32)
  exact loop ((needL D s).length + 1) 1 0 (by omega) (by omega) (by omega) (by simp [bI])
set_option maxHeartbeats 4000000 in
set_option maxRecDepth 100000 in
/-- findTaken -/
theorem c_findTaken (Z : LZ) (o : Nat) (a : Nat → Nat) {D M : Mem} (hP : Pers D M) (hM : RM D) (hD : okP D) (p : Int) (h0 : 0 ≤ p) (h1 : p < 6)  : Tm Z o a jX9_findTaken [p] M (fun z M2 => z = cntB (tkB D p) (D 9 0).toNat ∧ Fx [14, 19, 20] M M2 ∧ ∀ t, 0 ≤ t → t < D 9 0 → M2 14 t = bI (tkB D p t)) := by
  refine tr_of pn_X9_findTaken (Nat.le_of_ble_eq_true rfl) (vI_catO o _) ?_
  show G Z jX9_findTaken E0 (QM Z jX9_findTaken (pI Z o a (fun z M2 => z = cntB (tkB D p) (D 9 0).toNat ∧ Fx [14, 19, 20] M M2 ∧ ∀ t, 0 ≤ t → t < D 9 0 → M2 14 t = bI (tkB D p t)))) 0 [.ref o, .int (iI p)] [] (mW Z o a M) 0 0
  have hn := hD.2.1
  have loop : ∀ (fuel : Nat) (c s : Int) (M1 : Mem), D 9 0 - s < fuel → 0 ≤ s → s ≤ D 9 0 → c = cntB (tkB D p) s.toNat → Fx [14, 19, 20] M M1 → (∀ t, 0 ≤ t → t < s → M1 14 t = bI (tkB D p t)) → G Z jX9_findTaken E0 (QM Z jX9_findTaken (pI Z o a (fun z M2 => z = cntB (tkB D p) (D 9 0).toNat ∧ Fx [14, 19, 20] M M2 ∧ ∀ t, 0 ≤ t → t < D 9 0 → M2 14 t = bI (tkB D p t)))) 4 [.ref o, .int (iI p), .int (iI c), .int (iI s)] [] (mW Z o a M1) 0 0 := by
    intro fuel
    induction fuel with
    | zero => intros; exfalso; omega
    | succ fuel ih =>
      intro c s M1 hfu hs0 hs1 hc hF hT
      have hcr := cntB_rg (tkB D p) s.toNat
      by_cases hlt : s < D 9 0
      · have mid : ∀ (M1 : Mem) (v : Int), Fx [14, 19, 20] M M1 → (∀ t, 0 ≤ t → t < s → M1 14 t = bI (tkB D p t)) → v = bI (tkB D p s) → G Z jX9_findTaken E0 (QM Z jX9_findTaken (pI Z o a (fun z M2 => z = cntB (tkB D p) (D 9 0).toNat ∧ Fx [14, 19, 20] M M2 ∧ ∀ t, 0 ≤ t → t < D 9 0 → M2 14 t = bI (tkB D p t)))) 45 [.ref o, .int (iI p), .int (iI c), .int (iI s)] [.int (iI v), .int (iI s), .ref (a 14)] (mW Z o a M1) 0 0 := by
          intro M1 v hF hT hv
          subst hv
          refine mt_14 dX9_findTaken_45 (by omega) (by omega) (bI_01 _) ?_
          refine g_iload_n 2 dX9_findTaken_46 rfl rfl ?_
          refine g_aload_n 0 dX9_findTaken_47 rfl rfl ?_
          refine mg_14 dX9_findTaken_48 rfl ?_
          refine g_iload_n 3 dX9_findTaken_51 rfl rfl ?_
          refine ml_14 ms_at dX9_findTaken_52 (by omega) (by omega) ?_
          refine gi_if_eq 60 dX9_findTaken_53 (by decide) (by first | exact hM _ _ | exact bI_Rg _ | exact ⟨by omega, by omega⟩) (fun c53 => ?_) (fun c53 => ?_)
          · refine g_iconst (iI 0) dX9_findTaken_60 rfl ?_
            refine gi_add dX9_findTaken_61 ?_
            refine g_istore_n 2 dX9_findTaken_62 rfl (Nat.le_of_ble_eq_true rfl) (Nat.le_of_ble_eq_true rfl) rfl ?_
            dsimp only [sto]
            refine gi_inc dX9_findTaken_63 rfl (Nat.le_of_ble_eq_true rfl) rfl ?_
            dsimp only [sto]
            refine g_goto 4 dX9_findTaken_66 (by decide) ?_
            exact ih _ _ _ (by omega) (by omega) (by omega) (by
              rw [show (s + 1).toNat = s.toNat + 1 by omega, cntB, show ((s.toNat : Nat) : Int) = s by omega, ← hc]
              first | omega | (have := bI_1 c53; omega)) (hF.ms (by decide)) (fun t ht0 ht1 => by
              by_cases e : t = s
              · subst e; exact ms_at
              · rw [ms_off e]; exact hT t ht0 (by omega))
          · refine g_iconst (iI 1) dX9_findTaken_56 rfl ?_
            refine g_goto 61 dX9_findTaken_57 (by decide) ?_
            refine gi_add dX9_findTaken_61 ?_
            refine g_istore_n 2 dX9_findTaken_62 rfl (Nat.le_of_ble_eq_true rfl) (Nat.le_of_ble_eq_true rfl) rfl ?_
            dsimp only [sto]
            refine gi_inc dX9_findTaken_63 rfl (Nat.le_of_ble_eq_true rfl) rfl ?_
            dsimp only [sto]
            refine g_goto 4 dX9_findTaken_66 (by decide) ?_
            exact ih _ _ _ (by omega) (by omega) (by omega) (by
              rw [show (s + 1).toNat = s.toNat + 1 by omega, cntB, show ((s.toNat : Nat) : Int) = s by omega, ← hc]
              first | omega | (have := bI_1 c53; omega)) (hF.ms (by decide)) (fun t ht0 ht1 => by
              by_cases e : t = s
              · subst e; exact ms_at
              · rw [ms_off e]; exact hT t ht0 (by omega))
        refine g_iload_n 3 dX9_findTaken_4 rfl rfl ?_
        refine g_aload_n 0 dX9_findTaken_5 rfl rfl ?_
        refine mg_9 ((hP.fx hF (by decide)).at 9 (by decide) _) dX9_findTaken_6 rfl ?_
        refine gi_icmp_ge 69 dX9_findTaken_9 (by decide) (by first | exact hM _ _ | exact bI_Rg _ | exact ⟨by omega, by omega⟩) (by first | exact hM _ _ | exact bI_Rg _ | exact ⟨by omega, by omega⟩) (fun c9 => ?_) (fun c9 => ?_)
        · exfalso; omega
        · refine g_aload_n 0 dX9_findTaken_12 rfl rfl ?_
          refine mg_14 dX9_findTaken_13 rfl ?_
          refine g_iload_n 3 dX9_findTaken_16 rfl rfl ?_
          refine g_aload_n 0 dX9_findTaken_17 rfl rfl ?_
          refine mg_10 dX9_findTaken_18 rfl ?_
          refine g_sipush (iI 256) dX9_findTaken_21 (by decide) ?_
          refine g_iload_n 1 dX9_findTaken_24 rfl rfl ?_
          refine gi_mul dX9_findTaken_25 ?_
          refine g_iload_n 3 dX9_findTaken_26 rfl rfl ?_
          refine gi_add dX9_findTaken_27 ?_
          refine ml_10 ((hP.fx hF (by decide)).at 10 (by decide) _) dX9_findTaken_28 (by omega) (by omega) ?_
          refine gi_if_eq 44 dX9_findTaken_29 (by decide) (hM _ _) (fun c29 => ?_) (fun c29 => ?_)
          · refine g_iconst (iI 0) dX9_findTaken_44 rfl ?_
            first
              | exact mid M34 _ (hF.tr hF34 (by decide)) (fun t ht0 ht1 => by rw [hF34.at 14 (by decide)]; exact hT t ht0 ht1) (by
                  rw [tkB_eq hD p (by omega) (by omega)]
                  first | exact bI_gt (hD.2.2.2.2 (256 * p + s)) c29 c37 | exact bI_g0 c29 | exact bI_and_r c37)
              | exact mid M1 _ hF hT (by
                  rw [tkB_eq hD p (by omega) (by omega)]
                  first | exact bI_gt (hD.2.2.2.2 (256 * p + s)) c29 c37 | exact bI_g0 c29 | exact bI_and_r c37)
          · refine g_aload_n 0 dX9_findTaken_32 rfl rfl ?_
            refine g_iload_n 3 dX9_findTaken_33 rfl rfl ?_
            refine mcI lkX9_101 (c_hasNeeds Z o a (hP.fx hF (by decide)) hM hD s (by omega) (by omega) (tkB D p) hT) dX9_findTaken_34 rfl (And.intro (Nat.le_of_ble_eq_true rfl) (Nat.le_of_ble_eq_true rfl)) rfl (Nat.le_of_ble_eq_true rfl) rfl rfl (Nat.le_of_ble_eq_true rfl) (Nat.le_of_ble_eq_true rfl) (fun z34 M34 h34 => ?_)
            obtain ⟨rfl, hF34⟩ := h34
            refine gi_if_eq 44 dX9_findTaken_37 (by decide) (by first | exact hM _ _ | exact bI_Rg _ | exact ⟨by omega, by omega⟩) (fun c37 => ?_) (fun c37 => ?_)
            · refine g_iconst (iI 0) dX9_findTaken_44 rfl ?_
              first
                | exact mid M34 _ (hF.tr hF34 (by decide)) (fun t ht0 ht1 => by rw [hF34.at 14 (by decide)]; exact hT t ht0 ht1) (by
                    rw [tkB_eq hD p (by omega) (by omega)]
                    first | exact bI_gt (hD.2.2.2.2 (256 * p + s)) c29 c37 | exact bI_g0 c29 | exact bI_and_r c37)
                | exact mid M1 _ hF hT (by
                    rw [tkB_eq hD p (by omega) (by omega)]
                    first | exact bI_gt (hD.2.2.2.2 (256 * p + s)) c29 c37 | exact bI_g0 c29 | exact bI_and_r c37)
            · refine g_iconst (iI 1) dX9_findTaken_40 rfl ?_
              refine g_goto 45 dX9_findTaken_41 (by decide) ?_
              first
                | exact mid M34 _ (hF.tr hF34 (by decide)) (fun t ht0 ht1 => by rw [hF34.at 14 (by decide)]; exact hT t ht0 ht1) (by
                    rw [tkB_eq hD p (by omega) (by omega)]
                    first | exact bI_gt (hD.2.2.2.2 (256 * p + s)) c29 c37 | exact bI_g0 c29 | exact bI_and_r c37)
                | exact mid M1 _ hF hT (by
                    rw [tkB_eq hD p (by omega) (by omega)]
                    first | exact bI_gt (hD.2.2.2.2 (256 * p + s)) c29 c37 | exact bI_g0 c29 | exact bI_and_r c37)
      · refine g_iload_n 3 dX9_findTaken_4 rfl rfl ?_
        refine g_aload_n 0 dX9_findTaken_5 rfl rfl ?_
        refine mg_9 ((hP.fx hF (by decide)).at 9 (by decide) _) dX9_findTaken_6 rfl ?_
        refine gi_icmp_ge 69 dX9_findTaken_9 (by decide) (by first | exact hM _ _ | exact bI_Rg _ | exact ⟨by omega, by omega⟩) (by first | exact hM _ _ | exact bI_Rg _ | exact ⟨by omega, by omega⟩) (fun c9 => ?_) (fun c9 => ?_)
        · refine g_iload_n 2 dX9_findTaken_69 rfl rfl ?_
          refine g_iret dX9_findTaken_70 rfl (Nat.le_of_ble_eq_true rfl) (Nat.le_of_ble_eq_true rfl) ⟨_, _, rfl, rfl, ?_⟩
          refine ⟨?_, hF, fun t a1 a2 => hT t a1 (by omega)⟩
          rw [hc, show s = D 9 0 by omega]
        · exfalso; omega
  refine g_iconst (iI 0) dX9_findTaken_0 rfl ?_
  refine g_istore_n 2 dX9_findTaken_1 rfl (Nat.le_of_ble_eq_true rfl) (Nat.le_of_ble_eq_true rfl) rfl ?_
  dsimp only [sto]
  refine g_iconst (iI 0) dX9_findTaken_2 rfl ?_
  refine g_istore_n 3 dX9_findTaken_3 rfl (Nat.le_of_ble_eq_true rfl) (Nat.le_of_ble_eq_true rfl) rfl ?_
  dsimp only [sto]
  exact loop ((D 9 0).toNat + 1) 0 0 M (by omega) (by omega) (by omega) rfl (Fx.rf _ _) (fun t h1 h2 => by omega)
set_option maxHeartbeats 4000000 in
set_option maxRecDepth 100000 in
/-- findWorks -/
theorem c_findWorks (Z : LZ) (o : Nat) (a : Nat → Nat) {D M : Mem} (hP : Pers D M) (hM : RM D) (hD : okP D) (T : Int → Bool) (hT : ∀ t, 0 ≤ t → t < D 9 0 → M 14 t = bI (T t))  : Tn Z o a jX9_findWorks [] M (fun M2 => Fx [15] M M2 ∧ ∀ t, 0 ≤ t → t < D 9 0 → M2 15 t = bI (wkB D T t)) := by
  refine tr_of pn_X9_findWorks (Nat.le_of_ble_eq_true rfl) (vI_catO o _) ?_
  show G Z jX9_findWorks E0 (QM Z jX9_findWorks (pV Z o a (fun M2 => Fx [15] M M2 ∧ ∀ t, 0 ≤ t → t < D 9 0 → M2 15 t = bI (wkB D T t)))) 0 [.ref o] [] (mW Z o a M) 0 0
  have hn := hD.2.1
  have loop : ∀ (fuel : Nat) (s : Int) (M1 : Mem), s + 1 < fuel → -1 ≤ s → s < D 9 0 → Fx [15] M M1 → (∀ t, s < t → t < D 9 0 → M1 15 t = bI (wkB D T t)) → G Z jX9_findWorks E0 (QM Z jX9_findWorks (pV Z o a (fun M2 => Fx [15] M M2 ∧ ∀ t, 0 ≤ t → t < D 9 0 → M2 15 t = bI (wkB D T t)))) 7 [.ref o, .int (iI s)] [] (mW Z o a M1) 0 0 := by
    intro fuel
    induction fuel with
    | zero => intros; exfalso; omega
    | succ fuel ih =>
      intro s M1 hfu hs0 hs1 hF hW
      by_cases hs : 0 ≤ s
      · have outn : ∀ (M2 : Mem) (xs : List Value), Fx [15] M M2 → (∀ t, s < t → t < D 9 0 → M2 15 t = bI (wkB D T t)) → M2 15 s = bI (wkB D T s) → G Z jX9_findWorks E0 (QM Z jX9_findWorks (pV Z o a (fun M2 => Fx [15] M M2 ∧ ∀ t, 0 ≤ t → t < D 9 0 → M2 15 t = bI (wkB D T t)))) 90 (.ref o :: .int (iI s) :: xs) [] (mW Z o a M2) 0 0 := by
          intro M2 xs hF hW hc
          refine gi_inc dX9_findWorks_90 rfl (Nat.le_of_ble_eq_true rfl) rfl ?_
          dsimp only [sto]
          refine g_goto 7 dX9_findWorks_93 (by decide) ?_
          refine g_drop (ls1 := [_, _]) (xs := xs) rfl ?_
          exact ih _ _ (by omega) (by omega) (by omega) hF (fun t h1 h2 => by
            by_cases e : t = s
            · subst e; exact hc
            · exact hW t (by omega) h2)
        have inn : ∀ (fuel : Nat) (u : Int) (M2 : Mem), D 9 0 - u < fuel → s + 1 ≤ u → u ≤ D 9 0 → Fx [15] M M2 → (∀ t, s < t → t < D 9 0 → M2 15 t = bI (wkB D T t)) → M2 15 s = bI (T s && allB (undB D (wkB D T) s) (s + 1) (u - s - 1).toNat) → G Z jX9_findWorks E0 (QM Z jX9_findWorks (pV Z o a (fun M2 => Fx [15] M M2 ∧ ∀ t, 0 ≤ t → t < D 9 0 → M2 15 t = bI (wkB D T t)))) 27 [.ref o, .int (iI s), .int (iI u)] [] (mW Z o a M2) 0 0 := by
          intro fuel
          induction fuel with
          | zero => intros; exfalso; omega
          | succ fuel ihi =>
            intro u M2 hfu hu0 hu1 hF hW hcur
            have mid : ∀ v : Int, v = bI ((T s && allB (undB D (wkB D T) s) (s + 1) (u - s - 1).toNat) && undB D (wkB D T) s u) → u < D 9 0 → G Z jX9_findWorks E0 (QM Z jX9_findWorks (pV Z o a (fun M2 => Fx [15] M M2 ∧ ∀ t, 0 ≤ t → t < D 9 0 → M2 15 t = bI (wkB D T t)))) 83 [.ref o, .int (iI s), .int (iI u)] [.int (iI v), .int (iI s), .ref (a 15)] (mW Z o a M2) 0 0 := by
              intro v hv hu
              refine mt_15 dX9_findWorks_83 (by omega) (by omega) (by rw [hv]; exact bI_01 _) ?_
              refine gi_inc dX9_findWorks_84 rfl (Nat.le_of_ble_eq_true rfl) rfl ?_
              dsimp only [sto]
              refine g_goto 27 dX9_findWorks_87 (by decide) ?_
              exact ihi _ _ (by omega) (by omega) (by omega) (hF.ms (by decide)) (fun t h1 h2 => by rw [ms_off (by omega)]; exact hW t h1 h2) (by
                rw [ms_at, hv, show (u + 1 - s - 1).toNat = (u - s - 1).toNat + 1 by omega, allB, show s + 1 + ((u - s - 1).toNat : Int) = u by omega, Bool.and_assoc])
            refine g_iload_n 2 dX9_findWorks_27 rfl rfl ?_
            refine g_aload_n 0 dX9_findWorks_28 rfl rfl ?_
            refine mg_9 ((hP.fx hF (by decide)).at 9 (by decide) _) dX9_findWorks_29 rfl ?_
            refine gi_icmp_ge 90 dX9_findWorks_32 (by decide) (by first | exact hM _ _ | exact bI_Rg _ | exact ⟨by omega, by omega⟩) (by first | exact hM _ _ | exact bI_Rg _ | exact ⟨by omega, by omega⟩) (fun c32 => ?_) (fun c32 => ?_)
            · exact outn M2 [_] hF hW (by rw [hcur, wkB_eq hD T (by omega) (by omega), show (u - s - 1).toNat = (D 9 0 - 1 - s).toNat by omega])
            · refine g_aload_n 0 dX9_findWorks_35 rfl rfl ?_
              refine mg_15 dX9_findWorks_36 rfl ?_
              refine g_iload_n 1 dX9_findWorks_39 rfl rfl ?_
              refine g_aload_n 0 dX9_findWorks_40 rfl rfl ?_
              refine mg_15 dX9_findWorks_41 rfl ?_
              refine g_iload_n 1 dX9_findWorks_44 rfl rfl ?_
              refine ml_15 hcur dX9_findWorks_45 (by omega) (by omega) ?_
              refine gi_if_eq 82 dX9_findWorks_46 (by decide) (by first | exact hM _ _ | exact bI_Rg _ | exact ⟨by omega, by omega⟩) (fun c46 => ?_) (fun c46 => ?_)
              · refine g_iconst (iI 0) dX9_findWorks_82 rfl ?_
                exact mid _ (by
                  first
                    | exact bI_and_l c46
                    | exact und_keep c46 (Or.inl c56)
                    | exact und_keep c46 (Or.inr (Or.inl c66))
                    | exact und_keep c46 (Or.inr (Or.inr c75))
                    | exact und_fall c56 c66 c75) (by omega)
              · refine g_aload_n 0 dX9_findWorks_49 rfl rfl ?_
                refine mg_2 dX9_findWorks_50 rfl ?_
                refine g_iload_n 2 dX9_findWorks_53 rfl rfl ?_
                refine ml_2 ((hP.fx hF (by decide)).at 2 (by decide) _) dX9_findWorks_54 (by omega) (by omega) ?_
                refine g_iconst (iI 3) dX9_findWorks_55 rfl ?_
                refine gi_icmp_ne 78 dX9_findWorks_56 (by decide) (by first | exact hM _ _ | exact bI_Rg _ | exact ⟨by omega, by omega⟩) (by first | exact hM _ _ | exact bI_Rg _ | exact ⟨by omega, by omega⟩) (fun c56 => ?_) (fun c56 => ?_)
                · refine g_iconst (iI 1) dX9_findWorks_78 rfl ?_
                  refine g_goto 83 dX9_findWorks_79 (by decide) ?_
                  exact mid _ (by
                    first
                      | exact bI_and_l c46
                      | exact und_keep c46 (Or.inl c56)
                      | exact und_keep c46 (Or.inr (Or.inl c66))
                      | exact und_keep c46 (Or.inr (Or.inr c75))
                      | exact und_fall c56 c66 c75) (by omega)
                · refine g_aload_n 0 dX9_findWorks_59 rfl rfl ?_
                  refine mg_6 dX9_findWorks_60 rfl ?_
                  refine g_iload_n 2 dX9_findWorks_63 rfl rfl ?_
                  refine ml_6 ((hP.fx hF (by decide)).at 6 (by decide) _) dX9_findWorks_64 (by omega) (by omega) ?_
                  refine g_iload_n 1 dX9_findWorks_65 rfl rfl ?_
                  refine gi_icmp_ne 78 dX9_findWorks_66 (by decide) (by first | exact hM _ _ | exact bI_Rg _ | exact ⟨by omega, by omega⟩) (by first | exact hM _ _ | exact bI_Rg _ | exact ⟨by omega, by omega⟩) (fun c66 => ?_) (fun c66 => ?_)
                  · refine g_iconst (iI 1) dX9_findWorks_78 rfl ?_
                    refine g_goto 83 dX9_findWorks_79 (by decide) ?_
                    exact mid _ (by
                      first
                        | exact bI_and_l c46
                        | exact und_keep c46 (Or.inl c56)
                        | exact und_keep c46 (Or.inr (Or.inl c66))
                        | exact und_keep c46 (Or.inr (Or.inr c75))
                        | exact und_fall c56 c66 c75) (by omega)
                  · refine g_aload_n 0 dX9_findWorks_69 rfl rfl ?_
                    refine mg_15 dX9_findWorks_70 rfl ?_
                    refine g_iload_n 2 dX9_findWorks_73 rfl rfl ?_
                    refine ml_15 (hW u (by omega) (by omega)) dX9_findWorks_74 (by omega) (by omega) ?_
                    refine gi_if_ne 82 dX9_findWorks_75 (by decide) (by first | exact hM _ _ | exact bI_Rg _ | exact ⟨by omega, by omega⟩) (fun c75 => ?_) (fun c75 => ?_)
                    · refine g_iconst (iI 0) dX9_findWorks_82 rfl ?_
                      exact mid _ (by
                        first
                          | exact bI_and_l c46
                          | exact und_keep c46 (Or.inl c56)
                          | exact und_keep c46 (Or.inr (Or.inl c66))
                          | exact und_keep c46 (Or.inr (Or.inr c75))
                          | exact und_fall c56 c66 c75) (by omega)
                    · refine g_iconst (iI 1) dX9_findWorks_78 rfl ?_
                      refine g_goto 83 dX9_findWorks_79 (by decide) ?_
                      exact mid _ (by
                        first
                          | exact bI_and_l c46
                          | exact und_keep c46 (Or.inl c56)
                          | exact und_keep c46 (Or.inr (Or.inl c66))
                          | exact und_keep c46 (Or.inr (Or.inr c75))
                          | exact und_fall c56 c66 c75) (by omega)
        refine g_iload_n 1 dX9_findWorks_7 rfl rfl ?_
        refine gi_if_lt 96 dX9_findWorks_8 (by decide) (by first | exact hM _ _ | exact bI_Rg _ | exact ⟨by omega, by omega⟩) (fun c8 => ?_) (fun c8 => ?_)
        · exfalso; omega
        · refine g_aload_n 0 dX9_findWorks_11 rfl rfl ?_
          refine mg_15 dX9_findWorks_12 rfl ?_
          refine g_iload_n 1 dX9_findWorks_15 rfl rfl ?_
          refine g_aload_n 0 dX9_findWorks_16 rfl rfl ?_
          refine mg_14 dX9_findWorks_17 rfl ?_
          refine g_iload_n 1 dX9_findWorks_20 rfl rfl ?_
          refine ml_14 ((hF.at 14 (by decide) s).trans (hT s (by omega) (by omega))) dX9_findWorks_21 (by omega) (by omega) ?_
          refine mt_15 dX9_findWorks_22 (by omega) (by omega) (bI_01 _) ?_
          refine g_iload_n 1 dX9_findWorks_23 rfl rfl ?_
          refine g_iconst (iI 1) dX9_findWorks_24 rfl ?_
          refine gi_add dX9_findWorks_25 ?_
          refine g_istore_n 2 dX9_findWorks_26 rfl (Nat.le_of_ble_eq_true rfl) (Nat.le_of_ble_eq_true rfl) rfl ?_
          dsimp only [sto]
          exact inn ((D 9 0).toNat + 1) _ _ (by omega) (by omega) (by omega) (hF.ms (by decide)) (fun t h1 h2 => by rw [ms_off (by omega)]; exact hW t h1 h2) (by rw [ms_at, show (s + 1 - s - 1).toNat = 0 by omega]; simp [allB])
      · refine g_iload_n 1 dX9_findWorks_7 rfl rfl ?_
        refine gi_if_lt 96 dX9_findWorks_8 (by decide) (by first | exact hM _ _ | exact bI_Rg _ | exact ⟨by omega, by omega⟩) (fun c8 => ?_) (fun c8 => ?_)
        · refine g_vret dX9_findWorks_96 rfl (Nat.le_of_ble_eq_true rfl) (Nat.le_of_ble_eq_true rfl) ⟨_, rfl, rfl, ?_⟩
          exact ⟨hF, fun t h1 h2 => hW t (by omega) h2⟩
        · exfalso; omega
  refine g_aload_n 0 dX9_findWorks_0 rfl rfl ?_
  refine mg_9 (hP.at 9 (by decide) _) dX9_findWorks_1 rfl ?_
  refine g_iconst (iI 1) dX9_findWorks_4 rfl ?_
  refine gi_sub dX9_findWorks_5 ?_
  refine g_istore_n 1 dX9_findWorks_6 rfl (Nat.le_of_ble_eq_true rfl) (Nat.le_of_ble_eq_true rfl) rfl ?_
  dsimp only [sto]
  exact loop ((D 9 0).toNat + 1) _ M (by omega) (by omega) (by omega) (Fx.rf _ _) (fun t h1 h2 => by omega)
