/-! THE REFERENCE: the rest that is asked -/
theorem lastIx_mem {f : Int → Int} {x : Int} : ∀ (k : Nat) (i : Int), 0 ≤ i → i < k → f i = x → 0 ≤ lastIx f x k := by
  intro k
  induction k with
  | zero => intro i h0 h1; omega
  | succ k ih =>
    intro i h0 h1 h
    unfold lastIx
    split
    · omega
    · next hne =>
      exact ih i h0 (by
        rcases Int.lt_or_le i k with h2 | h2
        · exact h2
        · exact absurd (by rw [show (k : Int) = i by omega]; exact h) hne) h
theorem inIx_mem {F : List Int} {x : Int} (h : x ∈ F) : 0 ≤ inIx F x := by
  obtain ⟨j, hj⟩ := List.getElem?_of_mem h
  have hlt := (List.getElem?_eq_some_iff.mp hj).1
  refine lastIx_mem _ (j : Int) (by omega) (by omega) ?_
  unfold fF
  rw [show ((j : Int)).toNat = j by omega, List.getD_eq_getElem?_getD, hj]
  rfl
def okC (D : Mem) : Prop := ∀ p c : Int, 0 ≤ p → p < 6 → 0 ≤ c → c < 3 → 0 ≤ D 12 (3 * p + c) → D 12 (3 * p + c) ≤ 1 ∧ (D 11 (3 * p + c) = -2 ∨ D 11 (3 * p + c) ∈ ordF D (tkB D p))
def A_where (D : Mem) (p c : Int) : Int := if (0 ≤ p ∧ p < 6) ∧ (0 ≤ c ∧ c < 3) ∧ 0 ≤ D 12 (3 * p + c) then (if D 11 (3 * p + c) = -2 then (if D 12 (3 * p + c) = 0 then 0 else txtN D (tkB D p)) else (if D 12 (3 * p + c) = 0 then cntB (Vi D (tkB D p)) (inIx (ordF D (tkB D p)) (D 11 (3 * p + c)) + 1).toNat else cntB (Vi D (tkB D p)) (inIx (ordF D (tkB D p)) (D 11 (3 * p + c))).toNat)) else -1
def lsS (T : Int → Bool) (l t : Int) : Int := if T t = false ∧ (l < 0 ∨ t < l) then t else l
def lsF (T : Int → Bool) (l : List Int) : Int := l.foldl (lsS T) (-1)
def A_lacks (D : Mem) (p s : Int) : Int := if (0 ≤ p ∧ p < 6) ∧ (0 ≤ s ∧ s < D 9 0) ∧ D 10 (256 * p + s) ≠ 0 then (if tkB D p s = true then -1 else lsF (tkB D p) (needL D s)) else -1
theorem lsF_take {T : Int → Bool} {l : List Int} {k : Nat} {x : Int} (h : l[k]? = some x) : lsF T (l.take (k + 1)) = lsS T (lsF T (l.take k)) x := by
  unfold lsF
  rw [List.take_add_one, h, List.foldl_append]
  rfl
theorem lsF_rg {T : Int → Bool} {b : Int} : ∀ (l : List Int), (∀ t ∈ l, 0 ≤ t ∧ t < b) → -1 ≤ lsF T l ∧ (lsF T l < b ∨ lsF T l = -1) := by
  have : ∀ (l : List Int) (a : Int), (∀ t ∈ l, 0 ≤ t ∧ t < b) → (-1 ≤ a ∧ (a < b ∨ a = -1)) → -1 ≤ l.foldl (lsS T) a ∧ (l.foldl (lsS T) a < b ∨ l.foldl (lsS T) a = -1) := by
    intro l
    induction l with
    | nil => intro a _ h; exact h
    | cons x r ih =>
      intro a h ha
      have hx := h x List.mem_cons_self
      refine ih _ (fun t ht => h t (List.mem_cons_of_mem _ ht)) ?_
      unfold lsS
      split <;> omega
  intro l h
  exact this l (-1) h (by omega)
def asT (D : Mem) (p v : Int) (s : Int) : Bool := tkB D p s && decide (D 1 s ≤ v)
theorem asT_Cl {D : Mem} (hD : okP D) (hO : okO D (D 9 0).toNat) (p v : Int) : Cl D (asT D p v) := by
  have hn := hD.2.1
  intro P h0 h1 h2 hT h6
  unfold asT at hT ⊢
  rw [Bool.and_eq_true, decide_eq_true_eq] at hT ⊢
  refine ⟨tkB_Cl hD p P h0 h1 h2 hT.1 h6, ?_⟩
  have := ((hO.1 P h0 (by omega) h2).2.2).resolve_left (by omega)
  have h3 := this.2
  omega
def A_asOf (D : Mem) (p v i : Int) : Int := if (0 ≤ p ∧ p < 6) ∧ 0 ≤ i ∧ i < txtN D (asT D p v) then D 5 (fF (ordF D (asT D p v)) (atF D (asT D p v) i)) else -1
def spF (D : Mem) (T : Int → Bool) (t : Int) : Nat → Int × Bool
  | 0 => (0, false)
  | i + 1 => if Vi D T i = true then ((spF D T t i).1 + bI (hasT D T i t && !(spF D T t i).2), hasT D T i t) else spF D T t i
theorem spF_rg (D : Mem) (T : Int → Bool) (t : Int) : ∀ i : Nat, 0 ≤ (spF D T t i).1 ∧ (spF D T t i).1 ≤ i := by
  intro i
  induction i with
  | zero => simp [spF]
  | succ i ih =>
    unfold spF
    split
    · have := bI_01 (hasT D T i t && !(spF D T t i).2); simp only; omega
    · omega
def A_spans (D : Mem) (p t : Int) : Int := if (0 ≤ p ∧ p < 6) ∧ 0 ≤ t ∧ t ≤ 3 then (spF D (tkB D p) t (ordF D (tkB D p)).length).1 else -1
def hiB (D : Mem) (T : Int → Bool) (s t : Int) : Bool := T t && laterB D s t
def hiP (D : Mem) (T : Int → Bool) (i s : Int) : Bool := T s && decide (cntB (hiB D T s) (D 9 0).toNat = i)
def fstF (Q : Int → Bool) : Nat → Int
  | 0 => -1
  | k + 1 => if 0 ≤ fstF Q k then fstF Q k else if Q k = true then (k : Int) else -1
theorem fstF_no {Q : Int → Bool} : ∀ k : Nat, (∀ s : Int, 0 ≤ s → s < k → Q s = false) → fstF Q k = -1 := by
  intro k
  induction k with
  | zero => intro _; rfl
  | succ k ih =>
    intro h
    unfold fstF
    rw [ih (fun s a b => h s a (by omega)), if_neg (by omega), h k (by omega) (by omega), if_neg (by decide)]
theorem fstF_at {Q : Int → Bool} {s : Int} (h0 : 0 ≤ s) (hs : Q s = true) (hno : ∀ t : Int, 0 ≤ t → t < s → Q t = false) : ∀ k : Nat, s < k → fstF Q k = s := by
  intro k
  induction k with
  | zero => intro h; omega
  | succ k ih =>
    intro h
    unfold fstF
    by_cases e : s = k
    · rw [fstF_no k (fun t a b => hno t a (by omega)), if_neg (by omega), ← e, hs, if_pos rfl]
    · rw [ih (by omega), if_pos h0]
def A_history (D : Mem) (p i : Int) : Int := if (0 ≤ p ∧ p < 6) ∧ 0 ≤ i ∧ i < cntB (tkB D p) (D 9 0).toNat then fstF (hiP D (tkB D p) i) (D 9 0).toNat else -1
set_option maxHeartbeats 4000000 in
set_option maxRecDepth 100000 in
/-- where -/
theorem c_where (Z : LZ) (o : Nat) (a : Nat → Nat) {D M : Mem} (hP : Pers D M) (hM : RM D) (hD : okP D) (hO : okO D (D 9 0).toNat) (hcu : okC D) (p c : Int) (hp : Rg p) (hc : Rg c)  : Tm Z o a jX9_where [p, c] M (fun z M2 => z = A_where D p c ∧ Pers D M2) := by
  refine tr_of pn_X9_where (Nat.le_of_ble_eq_true rfl) (vI_catO o _) ?_
  show G Z jX9_where E0 (QM Z jX9_where (pI Z o a (fun z M2 => z = A_where D p c ∧ Pers D M2))) 0 [.ref o, .int (iI p), .int (iI c)] [] (mW Z o a M) 0 0
  have hn := hD.2.1
  refine g_iload_n 1 dX9_where_0 rfl rfl ?_
  refine mcS lkX9_147 (c_isPen Z o a _ p (by first | assumption | exact ⟨by omega, by omega⟩)) dX9_where_1 rfl (And.intro (Nat.le_of_ble_eq_true rfl) (Nat.le_of_ble_eq_true rfl)) (Nat.le_of_ble_eq_true rfl) rfl rfl (Nat.le_of_ble_eq_true rfl) (Nat.le_of_ble_eq_true rfl) (fun z1 h1 => ?_)
  rw [h1]
  refine gi_if_eq 29 dX9_where_4 (by decide) (by first | exact hM _ _ | exact bI_Rg _ | exact ⟨by omega, by omega⟩) (fun c4 => ?_) (fun c4 => ?_)
  · have hp2 := penB_f c4
    refine g_iconst (iI (-1)) dX9_where_29 rfl ?_
    refine g_iret dX9_where_30 rfl (Nat.le_of_ble_eq_true rfl) (Nat.le_of_ble_eq_true rfl) ⟨_, _, rfl, rfl, ?_⟩
    refine ⟨?_, hP⟩
    unfold A_where
    rw [if_neg (by omega)]
  · have hp2 := penB_t c4
    refine g_iload_n 2 dX9_where_7 rfl rfl ?_
    refine gi_if_lt 29 dX9_where_8 (by decide) (by first | exact hM _ _ | exact bI_Rg _ | exact ⟨by omega, by omega⟩) (fun c8 => ?_) (fun c8 => ?_)
    · refine g_iconst (iI (-1)) dX9_where_29 rfl ?_
      refine g_iret dX9_where_30 rfl (Nat.le_of_ble_eq_true rfl) (Nat.le_of_ble_eq_true rfl) ⟨_, _, rfl, rfl, ?_⟩
      refine ⟨?_, hP⟩
      unfold A_where
      rw [if_neg (by omega)]
    · refine g_iload_n 2 dX9_where_11 rfl rfl ?_
      refine g_iconst (iI 3) dX9_where_12 rfl ?_
      refine gi_icmp_ge 29 dX9_where_13 (by decide) (by first | exact hM _ _ | exact bI_Rg _ | exact ⟨by omega, by omega⟩) (by first | exact hM _ _ | exact bI_Rg _ | exact ⟨by omega, by omega⟩) (fun c13 => ?_) (fun c13 => ?_)
      · refine g_iconst (iI (-1)) dX9_where_29 rfl ?_
        refine g_iret dX9_where_30 rfl (Nat.le_of_ble_eq_true rfl) (Nat.le_of_ble_eq_true rfl) ⟨_, _, rfl, rfl, ?_⟩
        refine ⟨?_, hP⟩
        unfold A_where
        rw [if_neg (by omega)]
      · refine g_aload_n 0 dX9_where_16 rfl rfl ?_
        refine mg_12 dX9_where_17 rfl ?_
        refine g_iconst (iI 3) dX9_where_20 rfl ?_
        refine g_iload_n 1 dX9_where_21 rfl rfl ?_
        refine gi_mul dX9_where_22 ?_
        refine g_iload_n 2 dX9_where_23 rfl rfl ?_
        refine gi_add dX9_where_24 ?_
        refine ml_12 (hP.at 12 (by decide) _) dX9_where_25 (by omega) (by omega) ?_
        refine gi_if_ge 31 dX9_where_26 (by decide) (by first | exact hM _ _ | exact bI_Rg _ | exact ⟨by omega, by omega⟩) (fun c26 => ?_) (fun c26 => ?_)
        · have hcu2 := hcu p c hp2.1 hp2.2 (by omega) (by omega) c26
          refine g_aload_n 0 dX9_where_31 rfl rfl ?_
          refine g_iload_n 1 dX9_where_32 rfl rfl ?_
          refine mcI lkX9_153 (c_sheet Z o a hP hM hD hO p (by omega) (by omega)) dX9_where_33 rfl (And.intro (Nat.le_of_ble_eq_true rfl) (Nat.le_of_ble_eq_true rfl)) rfl (Nat.le_of_ble_eq_true rfl) rfl rfl (Nat.le_of_ble_eq_true rfl) (Nat.le_of_ble_eq_true rfl) (fun z33 M33 h33 => ?_)
          obtain ⟨q33, hF33, hS33⟩ := h33
          rw [q33]
          have hC33 := tkB_Cl hD p
          have hT33 := txtN_rg hD hO hC33
          have hL33 := ordF_len hD hO hC33
          refine g_istore_n 3 dX9_where_36 rfl (Nat.le_of_ble_eq_true rfl) (Nat.le_of_ble_eq_true rfl) rfl ?_
          dsimp only [sto]
          refine g_aload_n 0 dX9_where_37 rfl rfl ?_
          refine mg_11 dX9_where_38 rfl ?_
          refine g_iconst (iI 3) dX9_where_41 rfl ?_
          refine g_iload_n 1 dX9_where_42 rfl rfl ?_
          refine gi_mul dX9_where_43 ?_
          refine g_iload_n 2 dX9_where_44 rfl rfl ?_
          refine gi_add dX9_where_45 ?_
          refine ml_11 ((hP.fx hF33 (by decide)).at 11 (by decide) _) dX9_where_46 (by omega) (by omega) ?_
          refine g_istore dX9_where_47 (Nat.le_of_ble_eq_true rfl) (Nat.le_of_ble_eq_true rfl) rfl ?_
          dsimp only [sto]
          refine g_aload_n 0 dX9_where_49 rfl rfl ?_
          refine mg_12 dX9_where_50 rfl ?_
          refine g_iconst (iI 3) dX9_where_53 rfl ?_
          refine g_iload_n 1 dX9_where_54 rfl rfl ?_
          refine gi_mul dX9_where_55 ?_
          refine g_iload_n 2 dX9_where_56 rfl rfl ?_
          refine gi_add dX9_where_57 ?_
          refine ml_12 ((hP.fx hF33 (by decide)).at 12 (by decide) _) dX9_where_58 (by omega) (by omega) ?_
          refine g_istore dX9_where_59 (Nat.le_of_ble_eq_true rfl) (Nat.le_of_ble_eq_true rfl) rfl ?_
          dsimp only [sto]
          refine g_iload dX9_where_61 rfl ?_
          refine g_bipush (iI (-2)) dX9_where_63 (by decide) ?_
          refine gi_icmp_ne 79 dX9_where_65 (by decide) (by first | exact hM _ _ | exact bI_Rg _ | exact ⟨by omega, by omega⟩) (by first | exact hM _ _ | exact bI_Rg _ | exact ⟨by omega, by omega⟩) (fun c65 => ?_) (fun c65 => ?_)
          · have hix := inIx_rg (ordF D (tkB D p)) (D 11 (3 * p + c))
            have hix2 := inIx_mem (hcu2.2.resolve_left c65)
            refine g_aload_n 0 dX9_where_79 rfl rfl ?_
            refine g_iload dX9_where_80 rfl ?_
            refine mcI lkX9_138 (c_inOrderF Z o a (hP.fx hF33 (by decide)) hM hD hO hC33 hS33 _ (hM _ _)) dX9_where_82 rfl (And.intro (Nat.le_of_ble_eq_true rfl) (Nat.le_of_ble_eq_true rfl)) rfl (Nat.le_of_ble_eq_true rfl) rfl rfl (Nat.le_of_ble_eq_true rfl) (Nat.le_of_ble_eq_true rfl) (fun z82 M82 h82 => ?_)
            obtain ⟨q1, q2⟩ := h82
            rw [q1, q2]
            refine g_istore dX9_where_85 (Nat.le_of_ble_eq_true rfl) (Nat.le_of_ble_eq_true rfl) rfl ?_
            dsimp only [sto]
            refine g_iload dX9_where_87 rfl ?_
            refine gi_if_ne 103 dX9_where_89 (by decide) (by first | exact hM _ _ | exact bI_Rg _ | exact ⟨by omega, by omega⟩) (fun c89 => ?_) (fun c89 => ?_)
            · refine g_aload_n 0 dX9_where_103 rfl rfl ?_
              refine g_iload dX9_where_104 rfl ?_
              refine mcI lkX9_182 (c_seenAhead Z o a (hP.fx hF33 (by decide)) hM _ (by omega) (by omega) (Vi D (tkB D p)) (fun i a1 a2 => hS33.vi i a1 (by rw [hS33.2.2.1.1]; omega))) dX9_where_106 rfl (And.intro (Nat.le_of_ble_eq_true rfl) (Nat.le_of_ble_eq_true rfl)) rfl (Nat.le_of_ble_eq_true rfl) rfl rfl (Nat.le_of_ble_eq_true rfl) (Nat.le_of_ble_eq_true rfl) (fun z106 M106 h106 => ?_)
              obtain ⟨q4, q5⟩ := h106
              rw [q4, q5]
              refine g_iret dX9_where_109 rfl (Nat.le_of_ble_eq_true rfl) (Nat.le_of_ble_eq_true rfl) ⟨_, _, rfl, rfl, ?_⟩
              refine ⟨?_, (hP.fx hF33 (by decide))⟩
              unfold A_where
              rw [if_pos ⟨hp2, by omega, c26⟩]
              rw [if_neg c65]
              rw [if_neg c89]
            · refine g_aload_n 0 dX9_where_92 rfl rfl ?_
              refine g_iload dX9_where_93 rfl ?_
              refine g_iconst (iI 1) dX9_where_95 rfl ?_
              refine gi_add dX9_where_96 ?_
              refine mcI lkX9_182 (c_seenAhead Z o a (hP.fx hF33 (by decide)) hM _ (by omega) (by omega) (Vi D (tkB D p)) (fun i a1 a2 => hS33.vi i a1 (by rw [hS33.2.2.1.1]; omega))) dX9_where_97 rfl (And.intro (Nat.le_of_ble_eq_true rfl) (Nat.le_of_ble_eq_true rfl)) rfl (Nat.le_of_ble_eq_true rfl) rfl rfl (Nat.le_of_ble_eq_true rfl) (Nat.le_of_ble_eq_true rfl) (fun z97 M97 h97 => ?_)
              obtain ⟨q4, q5⟩ := h97
              rw [q4, q5]
              refine g_goto 109 dX9_where_100 (by decide) ?_
              refine g_iret dX9_where_109 rfl (Nat.le_of_ble_eq_true rfl) (Nat.le_of_ble_eq_true rfl) ⟨_, _, rfl, rfl, ?_⟩
              refine ⟨?_, (hP.fx hF33 (by decide))⟩
              unfold A_where
              rw [if_pos ⟨hp2, by omega, c26⟩]
              rw [if_neg c65]
              rw [if_pos c89]
          · refine g_iload dX9_where_68 rfl ?_
            refine gi_if_ne 77 dX9_where_70 (by decide) (by first | exact hM _ _ | exact bI_Rg _ | exact ⟨by omega, by omega⟩) (fun c70 => ?_) (fun c70 => ?_)
            · refine g_iload_n 3 dX9_where_77 rfl rfl ?_
              refine g_iret dX9_where_78 rfl (Nat.le_of_ble_eq_true rfl) (Nat.le_of_ble_eq_true rfl) ⟨_, _, rfl, rfl, ?_⟩
              refine ⟨?_, (hP.fx hF33 (by decide))⟩
              unfold A_where
              rw [if_pos ⟨hp2, by omega, c26⟩]
              rw [if_pos c65]
              rw [if_neg c70]
            · refine g_iconst (iI 0) dX9_where_73 rfl ?_
              refine g_goto 78 dX9_where_74 (by decide) ?_
              refine g_iret dX9_where_78 rfl (Nat.le_of_ble_eq_true rfl) (Nat.le_of_ble_eq_true rfl) ⟨_, _, rfl, rfl, ?_⟩
              refine ⟨?_, (hP.fx hF33 (by decide))⟩
              unfold A_where
              rw [if_pos ⟨hp2, by omega, c26⟩]
              rw [if_pos c65]
              rw [if_pos c70]
        · refine g_iconst (iI (-1)) dX9_where_29 rfl ?_
          refine g_iret dX9_where_30 rfl (Nat.le_of_ble_eq_true rfl) (Nat.le_of_ble_eq_true rfl) ⟨_, _, rfl, rfl, ?_⟩
          refine ⟨?_, hP⟩
          unfold A_where
          rw [if_neg (by omega)]
set_option maxHeartbeats 4000000 in
set_option maxRecDepth 100000 in
/-- lacks -/
theorem c_lacks (Z : LZ) (o : Nat) (a : Nat → Nat) {D M : Mem} (hP : Pers D M) (hM : RM D) (hD : okP D) (hO : okO D (D 9 0).toNat) (p s : Int) (hp : Rg p) (hs : Rg s)  : Tm Z o a jX9_lacks [p, s] M (fun z M2 => z = A_lacks D p s ∧ Pers D M2) := by
  refine tr_of pn_X9_lacks (Nat.le_of_ble_eq_true rfl) (vI_catO o _) ?_
  show G Z jX9_lacks E0 (QM Z jX9_lacks (pI Z o a (fun z M2 => z = A_lacks D p s ∧ Pers D M2))) 0 [.ref o, .int (iI p), .int (iI s)] [] (mW Z o a M) 0 0
  have hn := hD.2.1
  refine g_iload_n 1 dX9_lacks_0 rfl rfl ?_
  refine mcS lkX9_147 (c_isPen Z o a _ p (by first | assumption | exact ⟨by omega, by omega⟩)) dX9_lacks_1 rfl (And.intro (Nat.le_of_ble_eq_true rfl) (Nat.le_of_ble_eq_true rfl)) (Nat.le_of_ble_eq_true rfl) rfl rfl (Nat.le_of_ble_eq_true rfl) (Nat.le_of_ble_eq_true rfl) (fun z1 h1 => ?_)
  rw [h1]
  refine gi_if_eq 30 dX9_lacks_4 (by decide) (by first | exact hM _ _ | exact bI_Rg _ | exact ⟨by omega, by omega⟩) (fun c4 => ?_) (fun c4 => ?_)
  · have hp2 := penB_f c4
    refine g_iconst (iI (-1)) dX9_lacks_30 rfl ?_
    refine g_iret dX9_lacks_31 rfl (Nat.le_of_ble_eq_true rfl) (Nat.le_of_ble_eq_true rfl) ⟨_, _, rfl, rfl, ?_⟩
    refine ⟨?_, hP⟩
    unfold A_lacks
    rw [if_neg (fun h => hp2 h.1)]
  · have hp2 := penB_t c4
    refine g_aload_n 0 dX9_lacks_7 rfl rfl ?_
    refine g_iload_n 2 dX9_lacks_8 rfl rfl ?_
    refine mcI lkX9_170 (c_isSlip Z o a hP hM s (by first | assumption | exact ⟨by omega, by omega⟩)) dX9_lacks_9 rfl (And.intro (Nat.le_of_ble_eq_true rfl) (Nat.le_of_ble_eq_true rfl)) rfl (Nat.le_of_ble_eq_true rfl) rfl rfl (Nat.le_of_ble_eq_true rfl) (Nat.le_of_ble_eq_true rfl) (fun z9 M9 h9 => ?_)
    obtain ⟨q1, q2⟩ := h9
    rw [q1, q2]
    refine gi_if_eq 30 dX9_lacks_12 (by decide) (by first | exact hM _ _ | exact bI_Rg _ | exact ⟨by omega, by omega⟩) (fun c12 => ?_) (fun c12 => ?_)
    · have hs2 := slipB_f c12
      refine g_iconst (iI (-1)) dX9_lacks_30 rfl ?_
      refine g_iret dX9_lacks_31 rfl (Nat.le_of_ble_eq_true rfl) (Nat.le_of_ble_eq_true rfl) ⟨_, _, rfl, rfl, ?_⟩
      refine ⟨?_, hP⟩
      unfold A_lacks
      rw [if_neg (fun h => hs2 h.2.1)]
    · have hs2 := slipB_t c12
      refine g_aload_n 0 dX9_lacks_15 rfl rfl ?_
      refine mg_10 dX9_lacks_16 rfl ?_
      refine g_sipush (iI 256) dX9_lacks_19 (by decide) ?_
      refine g_iload_n 1 dX9_lacks_22 rfl rfl ?_
      refine gi_mul dX9_lacks_23 ?_
      refine g_iload_n 2 dX9_lacks_24 rfl rfl ?_
      refine gi_add dX9_lacks_25 ?_
      refine ml_10 (hP.at 10 (by decide) _) dX9_lacks_26 (by omega) (by omega) ?_
      refine gi_if_ne 32 dX9_lacks_27 (by decide) (by first | exact hM _ _ | exact bI_Rg _ | exact ⟨by omega, by omega⟩) (fun c27 => ?_) (fun c27 => ?_)
      · have hg := c27
        refine g_aload_n 0 dX9_lacks_32 rfl rfl ?_
        refine g_iload_n 1 dX9_lacks_33 rfl rfl ?_
        refine mcI lkX9_131 (c_findTaken Z o a hP hM hD p (by omega) (by omega)) dX9_lacks_34 rfl (And.intro (Nat.le_of_ble_eq_true rfl) (Nat.le_of_ble_eq_true rfl)) rfl (Nat.le_of_ble_eq_true rfl) rfl rfl (Nat.le_of_ble_eq_true rfl) (Nat.le_of_ble_eq_true rfl) (fun z34 M34 h34 => ?_)
        obtain ⟨q34, hF1, hT1⟩ := h34
        refine g_pop dX9_lacks_37 rfl ?_
        refine g_aload_n 0 dX9_lacks_38 rfl rfl ?_
        refine mg_14 dX9_lacks_39 rfl ?_
        refine g_iload_n 2 dX9_lacks_42 rfl rfl ?_
        refine ml_14 (hT1 s (by omega) (by omega)) dX9_lacks_43 (by omega) (by omega) ?_
        refine gi_if_eq 49 dX9_lacks_44 (by decide) (by first | exact hM _ _ | exact bI_Rg _ | exact ⟨by omega, by omega⟩) (fun c44 => ?_) (fun c44 => ?_)
        · have htk := bI_eq0.mp c44
          refine g_aload_n 0 dX9_lacks_49 rfl rfl ?_
          refine g_iload_n 2 dX9_lacks_50 rfl rfl ?_
          refine mcV lkX9_98 (c_findNeeds Z o a (hP.fx hF1 (by decide)) hM hD s (by omega) (by omega)) dX9_lacks_51 rfl (And.intro (Nat.le_of_ble_eq_true rfl) (Nat.le_of_ble_eq_true rfl)) rfl (Nat.le_of_ble_eq_true rfl) rfl rfl (Nat.le_of_ble_eq_true rfl) (Nat.le_of_ble_eq_true rfl) (fun M51 h51 => ?_)
          obtain ⟨hF2, hN⟩ := h51
          generalize M51 = Mq at hF2 hN ⊢
          refine g_iconst (iI (-1)) dX9_lacks_54 rfl ?_
          refine g_istore_n 3 dX9_lacks_55 rfl (Nat.le_of_ble_eq_true rfl) (Nat.le_of_ble_eq_true rfl) rfl ?_
          dsimp only [sto]
          refine g_iconst (iI 0) dX9_lacks_56 rfl ?_
          refine g_istore dX9_lacks_57 (Nat.le_of_ble_eq_true rfl) (Nat.le_of_ble_eq_true rfl) rfl ?_
          dsimp only [sto]
          have hl16 := needL_len hD hs2.1 hs2.2
          have loop : ∀ (fuel : Nat) (l i : Int), (needL D s).length - i < fuel → 0 ≤ i → i ≤ (needL D s).length → l = lsF (tkB D p) ((needL D s).take i.toNat) → G Z jX9_lacks E0 (QM Z jX9_lacks (pI Z o a (fun z M2 => z = A_lacks D p s ∧ Pers D M2))) 59 [.ref o, .int (iI p), .int (iI s), .int (iI l), .int (iI i)] [] (mW Z o a Mq) 0 0 := by
            intro fuel
            induction fuel with
            | zero => intros; exfalso; omega
            | succ fuel ih =>
              intro l i hfu hi0 hi1 hl
              have hlr := lsF_rg (T := tkB D p) (b := s) ((needL D s).take i.toNat) (fun t ht => need_lt hD hs2.1 hs2.2 t (List.mem_of_mem_take ht))
              rw [← hl] at hlr
              refine g_iload dX9_lacks_59 rfl ?_
              refine g_aload_n 0 dX9_lacks_61 rfl rfl ?_
              refine mg_20 hN.1 dX9_lacks_62 rfl ?_
              refine gi_icmp_ge 128 dX9_lacks_65 (by decide) (by first | exact hM _ _ | exact bI_Rg _ | exact ⟨by omega, by omega⟩) (by first | exact hM _ _ | exact bI_Rg _ | exact ⟨by omega, by omega⟩) (fun c65 => ?_) (fun c65 => ?_)
              · refine g_iload_n 3 dX9_lacks_128 rfl rfl ?_
                refine g_iret dX9_lacks_129 rfl (Nat.le_of_ble_eq_true rfl) (Nat.le_of_ble_eq_true rfl) ⟨_, _, rfl, rfl, ?_⟩
                refine ⟨?_, ((hP.fx hF1 (by decide)).fx hF2 (by decide))⟩
                unfold A_lacks
                rw [if_pos ⟨hp2, hs2, hg⟩, htk, if_neg (by decide), hl, List.take_of_length_le (by omega)]
              · obtain ⟨x, hx⟩ : ∃ x, (needL D s)[i.toNat]? = some x := ⟨_, List.getElem?_eq_getElem (by omega)⟩
                have hval : Mq 19 i = x := by
                  have := hN.2 i.toNat x hx
                  rwa [show ((i.toNat : Nat) : Int) = i by omega] at this
                have hb := need_lt hD hs2.1 hs2.2 x (List.mem_of_getElem? hx)
                refine g_aload_n 0 dX9_lacks_68 rfl rfl ?_
                refine mg_14 dX9_lacks_69 rfl ?_
                refine g_aload_n 0 dX9_lacks_72 rfl rfl ?_
                refine mg_19 dX9_lacks_73 rfl ?_
                refine g_iload dX9_lacks_76 rfl ?_
                refine ml_19 hval dX9_lacks_78 (by omega) (by omega) ?_
                refine ml_14 ((hF2.at 14 (by decide) x).trans (hT1 x hb.1 (by omega))) dX9_lacks_79 (by omega) (by omega) ?_
                refine gi_if_ne 102 dX9_lacks_80 (by decide) (by first | exact hM _ _ | exact bI_Rg _ | exact ⟨by omega, by omega⟩) (fun c80 => ?_) (fun c80 => ?_)
                · refine g_iconst (iI 0) dX9_lacks_102 rfl ?_
                  refine g_istore dX9_lacks_103 (Nat.le_of_ble_eq_true rfl) (Nat.le_of_ble_eq_true rfl) rfl ?_
                  dsimp only [sto]
                  refine g_iload dX9_lacks_105 rfl ?_
                  refine gi_if_eq 120 dX9_lacks_107 (by decide) (by first | exact hM _ _ | exact bI_Rg _ | exact ⟨by omega, by omega⟩) (fun c107 => ?_) (fun c107 => ?_)
                  · refine g_iload_n 3 dX9_lacks_120 rfl rfl ?_
                    refine g_istore_n 3 dX9_lacks_121 rfl (Nat.le_of_ble_eq_true rfl) (Nat.le_of_ble_eq_true rfl) rfl ?_
                    dsimp only [sto]
                    refine gi_inc dX9_lacks_122 rfl (Nat.le_of_ble_eq_true rfl) rfl ?_
                    dsimp only [sto]
                    refine g_goto 59 dX9_lacks_125 (by decide) ?_
                    refine g_drop (ls1 := [_, _, _, _, _]) (xs := [_]) rfl ?_
                    exact ih _ _ (by omega) (by omega) (by omega) (by
                      rw [show (i + 1).toNat = i.toNat + 1 by omega, lsF_take hx, ← hl]
                      unfold lsS
                      rw [if_neg (fun h => c80 (by rw [h.1]; rfl))])
                  · exfalso; omega
                · refine g_iload_n 3 dX9_lacks_83 rfl rfl ?_
                  refine gi_if_lt 98 dX9_lacks_84 (by decide) (by first | exact hM _ _ | exact bI_Rg _ | exact ⟨by omega, by omega⟩) (fun c84 => ?_) (fun c84 => ?_)
                  · refine g_iconst (iI 1) dX9_lacks_98 rfl ?_
                    refine g_goto 103 dX9_lacks_99 (by decide) ?_
                    refine g_istore dX9_lacks_103 (Nat.le_of_ble_eq_true rfl) (Nat.le_of_ble_eq_true rfl) rfl ?_
                    dsimp only [sto]
                    refine g_iload dX9_lacks_105 rfl ?_
                    refine gi_if_eq 120 dX9_lacks_107 (by decide) (by first | exact hM _ _ | exact bI_Rg _ | exact ⟨by omega, by omega⟩) (fun c107 => ?_) (fun c107 => ?_)
                    · exfalso; omega
                    · refine g_aload_n 0 dX9_lacks_110 rfl rfl ?_
                      refine mg_19 dX9_lacks_111 rfl ?_
                      refine g_iload dX9_lacks_114 rfl ?_
                      refine ml_19 hval dX9_lacks_116 (by omega) (by omega) ?_
                      refine g_goto 121 dX9_lacks_117 (by decide) ?_
                      refine g_istore_n 3 dX9_lacks_121 rfl (Nat.le_of_ble_eq_true rfl) (Nat.le_of_ble_eq_true rfl) rfl ?_
                      dsimp only [sto]
                      refine gi_inc dX9_lacks_122 rfl (Nat.le_of_ble_eq_true rfl) rfl ?_
                      dsimp only [sto]
                      refine g_goto 59 dX9_lacks_125 (by decide) ?_
                      refine g_drop (ls1 := [_, _, _, _, _]) (xs := [_]) rfl ?_
                      exact ih _ _ (by omega) (by omega) (by omega) (by
                        rw [show (i + 1).toNat = i.toNat + 1 by omega, lsF_take hx, ← hl]
                        unfold lsS
                        rw [if_pos ⟨bI_eq0.mp c80, by omega⟩])
                  · refine g_aload_n 0 dX9_lacks_87 rfl rfl ?_
                    refine mg_19 dX9_lacks_88 rfl ?_
                    refine g_iload dX9_lacks_91 rfl ?_
                    refine ml_19 hval dX9_lacks_93 (by omega) (by omega) ?_
                    refine g_iload_n 3 dX9_lacks_94 rfl rfl ?_
                    refine gi_icmp_ge 102 dX9_lacks_95 (by decide) (by first | exact hM _ _ | exact bI_Rg _ | exact ⟨by omega, by omega⟩) (by first | exact hM _ _ | exact bI_Rg _ | exact ⟨by omega, by omega⟩) (fun c95 => ?_) (fun c95 => ?_)
                    · refine g_iconst (iI 0) dX9_lacks_102 rfl ?_
                      refine g_istore dX9_lacks_103 (Nat.le_of_ble_eq_true rfl) (Nat.le_of_ble_eq_true rfl) rfl ?_
                      dsimp only [sto]
                      refine g_iload dX9_lacks_105 rfl ?_
                      refine gi_if_eq 120 dX9_lacks_107 (by decide) (by first | exact hM _ _ | exact bI_Rg _ | exact ⟨by omega, by omega⟩) (fun c107 => ?_) (fun c107 => ?_)
                      · refine g_iload_n 3 dX9_lacks_120 rfl rfl ?_
                        refine g_istore_n 3 dX9_lacks_121 rfl (Nat.le_of_ble_eq_true rfl) (Nat.le_of_ble_eq_true rfl) rfl ?_
                        dsimp only [sto]
                        refine gi_inc dX9_lacks_122 rfl (Nat.le_of_ble_eq_true rfl) rfl ?_
                        dsimp only [sto]
                        refine g_goto 59 dX9_lacks_125 (by decide) ?_
                        refine g_drop (ls1 := [_, _, _, _, _]) (xs := [_]) rfl ?_
                        exact ih _ _ (by omega) (by omega) (by omega) (by
                          rw [show (i + 1).toNat = i.toNat + 1 by omega, lsF_take hx, ← hl]
                          unfold lsS
                          rw [if_neg (by omega)])
                      · exfalso; omega
                    · refine g_iconst (iI 1) dX9_lacks_98 rfl ?_
                      refine g_goto 103 dX9_lacks_99 (by decide) ?_
                      refine g_istore dX9_lacks_103 (Nat.le_of_ble_eq_true rfl) (Nat.le_of_ble_eq_true rfl) rfl ?_
                      dsimp only [sto]
                      refine g_iload dX9_lacks_105 rfl ?_
                      refine gi_if_eq 120 dX9_lacks_107 (by decide) (by first | exact hM _ _ | exact bI_Rg _ | exact ⟨by omega, by omega⟩) (fun c107 => ?_) (fun c107 => ?_)
                      · exfalso; omega
                      · refine g_aload_n 0 dX9_lacks_110 rfl rfl ?_
                        refine mg_19 dX9_lacks_111 rfl ?_
                        refine g_iload dX9_lacks_114 rfl ?_
                        refine ml_19 hval dX9_lacks_116 (by omega) (by omega) ?_
                        refine g_goto 121 dX9_lacks_117 (by decide) ?_
                        refine g_istore_n 3 dX9_lacks_121 rfl (Nat.le_of_ble_eq_true rfl) (Nat.le_of_ble_eq_true rfl) rfl ?_
                        dsimp only [sto]
                        refine gi_inc dX9_lacks_122 rfl (Nat.le_of_ble_eq_true rfl) rfl ?_
                        dsimp only [sto]
                        refine g_goto 59 dX9_lacks_125 (by decide) ?_
                        refine g_drop (ls1 := [_, _, _, _, _]) (xs := [_]) rfl ?_
                        exact ih _ _ (by omega) (by omega) (by omega) (by
                          rw [show (i + 1).toNat = i.toNat + 1 by omega, lsF_take hx, ← hl]
                          unfold lsS
                          rw [if_pos ⟨bI_eq0.mp c80, by omega⟩])
          exact loop ((needL D s).length + 1) (-1) 0 (by omega) (by omega) (by omega) (by simp [lsF])
        · refine g_iconst (iI (-1)) dX9_lacks_47 rfl ?_
          refine g_iret dX9_lacks_48 rfl (Nat.le_of_ble_eq_true rfl) (Nat.le_of_ble_eq_true rfl) ⟨_, _, rfl, rfl, ?_⟩
          refine ⟨?_, (hP.fx hF1 (by decide))⟩
          unfold A_lacks
          rw [if_pos ⟨hp2, hs2, hg⟩, show tkB D p s = true by cases h : tkB D p s <;> simp_all [bI], if_pos rfl]
      · refine g_iconst (iI (-1)) dX9_lacks_30 rfl ?_
        refine g_iret dX9_lacks_31 rfl (Nat.le_of_ble_eq_true rfl) (Nat.le_of_ble_eq_true rfl) ⟨_, _, rfl, rfl, ?_⟩
        refine ⟨?_, hP⟩
        unfold A_lacks
        rw [if_neg (fun h => h.2.2 c27)]
set_option maxHeartbeats 4000000 in
set_option maxRecDepth 100000 in
/-- asOf -/
theorem c_asOf (Z : LZ) (o : Nat) (a : Nat → Nat) {D M : Mem} (hP : Pers D M) (hM : RM D) (hD : okP D) (hO : okO D (D 9 0).toNat) (p v i : Int) (hp : Rg p) (hv : Rg v) (hi : Rg i)  : Tm Z o a jX9_asOf [p, v, i] M (fun z M2 => z = A_asOf D p v i ∧ Pers D M2) := by
  refine tr_of pn_X9_asOf (Nat.le_of_ble_eq_true rfl) (vI_catO o _) ?_
  show G Z jX9_asOf E0 (QM Z jX9_asOf (pI Z o a (fun z M2 => z = A_asOf D p v i ∧ Pers D M2))) 0 [.ref o, .int (iI p), .int (iI v), .int (iI i)] [] (mW Z o a M) 0 0
  have hn := hD.2.1
  refine g_iload_n 1 dX9_asOf_0 rfl rfl ?_
  refine mcS lkX9_147 (c_isPen Z o a _ p (by first | assumption | exact ⟨by omega, by omega⟩)) dX9_asOf_1 rfl (And.intro (Nat.le_of_ble_eq_true rfl) (Nat.le_of_ble_eq_true rfl)) (Nat.le_of_ble_eq_true rfl) rfl rfl (Nat.le_of_ble_eq_true rfl) (Nat.le_of_ble_eq_true rfl) (fun z1 h1 => ?_)
  rw [h1]
  refine gi_if_ne 9 dX9_asOf_4 (by decide) (by first | exact hM _ _ | exact bI_Rg _ | exact ⟨by omega, by omega⟩) (fun c4 => ?_) (fun c4 => ?_)
  · have hp2 := penB_t c4
    refine g_aload_n 0 dX9_asOf_9 rfl rfl ?_
    refine g_iload_n 1 dX9_asOf_10 rfl rfl ?_
    refine mcI lkX9_131 (c_findTaken Z o a hP hM hD p (by omega) (by omega)) dX9_asOf_11 rfl (And.intro (Nat.le_of_ble_eq_true rfl) (Nat.le_of_ble_eq_true rfl)) rfl (Nat.le_of_ble_eq_true rfl) rfl rfl (Nat.le_of_ble_eq_true rfl) (Nat.le_of_ble_eq_true rfl) (fun z11 M11 h11 => ?_)
    obtain ⟨q11, hF1, hT1⟩ := h11
    generalize M11 = Mz at hF1 hT1 ⊢
    refine g_pop dX9_asOf_14 rfl ?_
    refine g_iconst (iI 0) dX9_asOf_15 rfl ?_
    refine g_istore dX9_asOf_16 (Nat.le_of_ble_eq_true rfl) (Nat.le_of_ble_eq_true rfl) rfl ?_
    dsimp only [sto]
    have hC := asT_Cl hD hO p v
    have hLn := ordF_len hD hO hC
    have hTn := txtN_rg hD hO hC
    have loop : ∀ (fuel : Nat) (s : Int) (Mq : Mem), D 9 0 - s < fuel → 0 ≤ s → s ≤ D 9 0 → Fx [14, 19, 20] M Mq → (∀ t, 0 ≤ t → t < s → Mq 14 t = bI (asT D p v t)) → (∀ t, s ≤ t → t < D 9 0 → Mq 14 t = bI (tkB D p t)) → G Z jX9_asOf E0 (QM Z jX9_asOf (pI Z o a (fun z M2 => z = A_asOf D p v i ∧ Pers D M2))) 18 [.ref o, .int (iI p), .int (iI v), .int (iI i), .int (iI s)] [] (mW Z o a Mq) 0 0 := by
      intro fuel
      induction fuel with
      | zero => intros; exfalso; omega
      | succ fuel ih =>
        intro s Mq hfu hs0 hs1 hF hlo hhi
        by_cases hlt : s < D 9 0
        · have mid : ∀ w : Int, w = bI (asT D p v s) → G Z jX9_asOf E0 (QM Z jX9_asOf (pI Z o a (fun z M2 => z = A_asOf D p v i ∧ Pers D M2))) 59 [.ref o, .int (iI p), .int (iI v), .int (iI i), .int (iI s)] [.int (iI w), .int (iI s), .ref (a 14)] (mW Z o a Mq) 0 0 := by
            intro w hw
            refine mt_14 dX9_asOf_59 (by omega) (by omega) (by rw [hw]; exact bI_01 _) ?_
            refine gi_inc dX9_asOf_60 rfl (Nat.le_of_ble_eq_true rfl) rfl ?_
            dsimp only [sto]
            refine g_goto 18 dX9_asOf_63 (by decide) ?_
            exact ih _ _ (by omega) (by omega) (by omega) (hF.ms (by decide)) (fun t a1 a2 => by
              by_cases e : t = s
              · subst e; rw [ms_at, hw]
              · rw [ms_off e]; exact hlo t a1 (by omega)) (fun t a1 a2 => by rw [ms_off (by omega)]; exact hhi t (by omega) a2)
          refine g_iload dX9_asOf_18 rfl ?_
          refine g_aload_n 0 dX9_asOf_20 rfl rfl ?_
          refine mg_9 ((hP.fx hF (by decide)).at 9 (by decide) _) dX9_asOf_21 rfl ?_
          refine gi_icmp_ge 66 dX9_asOf_24 (by decide) (by first | exact hM _ _ | exact bI_Rg _ | exact ⟨by omega, by omega⟩) (by first | exact hM _ _ | exact bI_Rg _ | exact ⟨by omega, by omega⟩) (fun c24 => ?_) (fun c24 => ?_)
          · exfalso; omega
          · refine g_aload_n 0 dX9_asOf_27 rfl rfl ?_
            refine mg_14 dX9_asOf_28 rfl ?_
            refine g_iload dX9_asOf_31 rfl ?_
            refine g_aload_n 0 dX9_asOf_33 rfl rfl ?_
            refine mg_14 dX9_asOf_34 rfl ?_
            refine g_iload dX9_asOf_37 rfl ?_
            refine ml_14 (hhi s (by omega) (by omega)) dX9_asOf_39 (by omega) (by omega) ?_
            refine gi_if_eq 58 dX9_asOf_40 (by decide) (by first | exact hM _ _ | exact bI_Rg _ | exact ⟨by omega, by omega⟩) (fun c40 => ?_) (fun c40 => ?_)
            · refine g_iconst (iI 0) dX9_asOf_58 rfl ?_
              exact mid _ (by
                unfold asT
                exact bI_and_l c40)
            · refine g_aload_n 0 dX9_asOf_43 rfl rfl ?_
              refine mg_1 dX9_asOf_44 rfl ?_
              refine g_iload dX9_asOf_47 rfl ?_
              refine ml_1 ((hP.fx hF (by decide)).at 1 (by decide) _) dX9_asOf_49 (by omega) (by omega) ?_
              refine g_iload_n 2 dX9_asOf_50 rfl rfl ?_
              refine gi_icmp_gt 58 dX9_asOf_51 (by decide) (by first | exact hM _ _ | exact bI_Rg _ | exact ⟨by omega, by omega⟩) (by first | exact hM _ _ | exact bI_Rg _ | exact ⟨by omega, by omega⟩) (fun c51 => ?_) (fun c51 => ?_)
              · refine g_iconst (iI 0) dX9_asOf_58 rfl ?_
                exact mid _ (by
                  unfold asT
                  rw [decide_eq_false (by omega)]; cases tkB D p s <;> rfl)
              · refine g_iconst (iI 1) dX9_asOf_54 rfl ?_
                refine g_goto 59 dX9_asOf_55 (by decide) ?_
                exact mid _ (by
                  unfold asT
                  rw [decide_eq_true (show D 1 s ≤ v by omega), show tkB D p s = true by cases h : tkB D p s <;> simp_all [bI]]; rfl)
        · refine g_iload dX9_asOf_18 rfl ?_
          refine g_aload_n 0 dX9_asOf_20 rfl rfl ?_
          refine mg_9 ((hP.fx hF (by decide)).at 9 (by decide) _) dX9_asOf_21 rfl ?_
          refine gi_icmp_ge 66 dX9_asOf_24 (by decide) (by first | exact hM _ _ | exact bI_Rg _ | exact ⟨by omega, by omega⟩) (by first | exact hM _ _ | exact bI_Rg _ | exact ⟨by omega, by omega⟩) (fun c24 => ?_) (fun c24 => ?_)
          · refine g_aload_n 0 dX9_asOf_66 rfl rfl ?_
            refine mcI lkX9_134 (c_findText Z o a (hP.fx hF (by decide)) hM hD hO (asT D p v) hC (fun t a1 a2 => hlo t a1 (by omega))) dX9_asOf_67 rfl (And.intro (Nat.le_of_ble_eq_true rfl) (Nat.le_of_ble_eq_true rfl)) rfl (Nat.le_of_ble_eq_true rfl) rfl rfl (Nat.le_of_ble_eq_true rfl) (Nat.le_of_ble_eq_true rfl) (fun z67 M67 h67 => ?_)
            obtain ⟨q67, hF67, hS67⟩ := h67
            rw [q67]
            refine g_istore dX9_asOf_70 (Nat.le_of_ble_eq_true rfl) (Nat.le_of_ble_eq_true rfl) rfl ?_
            dsimp only [sto]
            refine g_iload_n 3 dX9_asOf_72 rfl rfl ?_
            refine gi_if_lt 100 dX9_asOf_73 (by decide) (by first | exact hM _ _ | exact bI_Rg _ | exact ⟨by omega, by omega⟩) (fun c73 => ?_) (fun c73 => ?_)
            · refine g_iconst (iI (-1)) dX9_asOf_100 rfl ?_
              refine g_iret dX9_asOf_101 rfl (Nat.le_of_ble_eq_true rfl) (Nat.le_of_ble_eq_true rfl) ⟨_, _, rfl, rfl, ?_⟩
              refine ⟨?_, ((hP.fx hF (by decide)).fx hF67 (by decide))⟩
              unfold A_asOf
              rw [if_neg (by omega)]
            · refine g_iload_n 3 dX9_asOf_76 rfl rfl ?_
              refine g_iload dX9_asOf_77 rfl ?_
              refine gi_icmp_ge 100 dX9_asOf_79 (by decide) (by first | exact hM _ _ | exact bI_Rg _ | exact ⟨by omega, by omega⟩) (by first | exact hM _ _ | exact bI_Rg _ | exact ⟨by omega, by omega⟩) (fun c79 => ?_) (fun c79 => ?_)
              · refine g_iconst (iI (-1)) dX9_asOf_100 rfl ?_
                refine g_iret dX9_asOf_101 rfl (Nat.le_of_ble_eq_true rfl) (Nat.le_of_ble_eq_true rfl) ⟨_, _, rfl, rfl, ?_⟩
                refine ⟨?_, ((hP.fx hF (by decide)).fx hF67 (by decide))⟩
                unfold A_asOf
                rw [if_neg (by omega)]
              · refine g_aload_n 0 dX9_asOf_82 rfl rfl ?_
                refine mg_5 dX9_asOf_83 rfl ?_
                refine g_aload_n 0 dX9_asOf_86 rfl rfl ?_
                refine mg_16 dX9_asOf_87 rfl ?_
                refine g_aload_n 0 dX9_asOf_90 rfl rfl ?_
                refine g_iload_n 3 dX9_asOf_91 rfl rfl ?_
                refine mcI lkX9_156 (c_atPlaceF Z o a ((hP.fx hF (by decide)).fx hF67 (by decide)) hM hD hO hC hS67 i (by omega) (by omega)) dX9_asOf_92 rfl (And.intro (Nat.le_of_ble_eq_true rfl) (Nat.le_of_ble_eq_true rfl)) rfl (Nat.le_of_ble_eq_true rfl) rfl rfl (Nat.le_of_ble_eq_true rfl) (Nat.le_of_ble_eq_true rfl) (fun z92 M92 h92 => ?_)
                obtain ⟨q1, q2⟩ := h92
                rw [q1, q2]
                have hat := atF_in (D := D) (T := asT D p v) (x := i) (by omega) (by omega)
                have hfo := fF_ord hD hO (T := asT D p v) hat.1 hat.2.1
                refine ml_16 (OL_fF hS67.2.2.1 (by omega) (by omega)) dX9_asOf_95 (by omega) (by omega) ?_
                refine ml_5 (((hP.fx hF (by decide)).fx hF67 (by decide)).at 5 (by decide) _) dX9_asOf_96 (by omega) (by omega) ?_
                refine g_goto 101 dX9_asOf_97 (by decide) ?_
                refine g_iret dX9_asOf_101 rfl (Nat.le_of_ble_eq_true rfl) (Nat.le_of_ble_eq_true rfl) ⟨_, _, rfl, rfl, ?_⟩
                refine ⟨?_, ((hP.fx hF (by decide)).fx hF67 (by decide))⟩
                unfold A_asOf
                rw [if_pos ⟨hp2, by omega, by omega⟩]
          · exfalso; omega
    exact loop ((D 9 0).toNat + 1) 0 Mz (by omega) (by omega) (by omega) hF1 (fun t a1 a2 => by omega) (fun t a1 a2 => hT1 t a1 a2)
  · have hp2 := penB_f c4
    refine g_iconst (iI (-1)) dX9_asOf_7 rfl ?_
    refine g_iret dX9_asOf_8 rfl (Nat.le_of_ble_eq_true rfl) (Nat.le_of_ble_eq_true rfl) ⟨_, _, rfl, rfl, ?_⟩
    refine ⟨?_, hP⟩
    unfold A_asOf
    rw [if_neg (fun h => hp2 h.1)]
