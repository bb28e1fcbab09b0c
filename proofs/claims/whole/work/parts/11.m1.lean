/-! THE REFERENCE, its leaves -/
def bI (b : Bool) : Int := if b then 1 else 0
theorem bI_01 (b : Bool) : bI b = 0 ∨ bI b = 1 := by cases b <;> simp [bI]
theorem bI_t : bI true = 1 := rfl
theorem bI_f : bI false = 0 := rfl
theorem bI_Rg (b : Bool) : Rg (bI b) := by cases b <;> exact ⟨by decide, by decide⟩
theorem bI_eq0 {b : Bool} : bI b = 0 ↔ b = false := by cases b <;> simp [bI]
def latestF (M : Mem) (pen : Int) : Nat → Int
  | 0 => -1
  | t + 1 => if M 0 t = pen then (t : Int) else latestF M pen t
def laterB (M : Mem) (s t : Int) : Bool := if M 1 s = M 1 t then decide (M 0 t < M 0 s) else decide (M 1 t < M 1 s)
def needF (M : Mem) (x : Int) : Mem := if 0 ≤ x then ms (ms M 19 (M 20 0) x) 20 0 (M 20 0 + 1) else M
theorem latestF_rg (D : Mem) (p : Int) : ∀ t : Nat, -1 ≤ latestF D p t ∧ latestF D p t < t ∧ (0 ≤ latestF D p t → D 0 (latestF D p t) = p) := by
  intro t
  induction t with
  | zero => simp [latestF]
  | succ t ih =>
    unfold latestF
    split
    · refine ⟨by omega, by omega, fun _ => by assumption⟩
    · exact ⟨by omega, by omega, ih.2.2⟩
def penB (p : Int) : Bool := decide (0 ≤ p ∧ p < 6)
def slipB (M : Mem) (s : Int) : Bool := decide (0 ≤ s ∧ s < M 9 0)
set_option maxHeartbeats 4000000 in
set_option maxRecDepth 100000 in
/-- refuse -/
theorem c_refuse (Z : LZ) (o : Nat) (a : Nat → Nat) (M : Mem) (w : Int)  : Tm Z o a jX9_refuse [w] M (fun z M2 => z = -1 ∧ M2 = ms M 13 0 w) := by
  refine tr_of pn_X9_refuse (Nat.le_of_ble_eq_true rfl) (vI_catO o _) ?_
  show G Z jX9_refuse E0 (QM Z jX9_refuse (pI Z o a (fun z M2 => z = -1 ∧ M2 = ms M 13 0 w))) 0 [.ref o, .int (iI w)] [] (mW Z o a M) 0 0
  refine g_aload_n 0 dX9_refuse_0 rfl rfl ?_
  refine g_iload_n 1 dX9_refuse_1 rfl rfl ?_
  refine mp_13 dX9_refuse_2 rfl ?_
  refine g_iconst (iI (-1)) dX9_refuse_5 rfl ?_
  refine g_iret dX9_refuse_6 rfl (Nat.le_of_ble_eq_true rfl) (Nat.le_of_ble_eq_true rfl) ⟨_, _, rfl, rfl, ?_⟩
  exact ⟨rfl, rfl⟩
set_option maxHeartbeats 4000000 in
set_option maxRecDepth 100000 in
/-- done -/
theorem c_done (Z : LZ) (o : Nat) (a : Nat → Nat) (M : Mem) (w : Int)  : Tm Z o a jX9_done [w] M (fun z M2 => z = w ∧ M2 = ms M 13 0 0) := by
  refine tr_of pn_X9_done (Nat.le_of_ble_eq_true rfl) (vI_catO o _) ?_
  show G Z jX9_done E0 (QM Z jX9_done (pI Z o a (fun z M2 => z = w ∧ M2 = ms M 13 0 0))) 0 [.ref o, .int (iI w)] [] (mW Z o a M) 0 0
  refine g_aload_n 0 dX9_done_0 rfl rfl ?_
  refine g_iconst (iI 0) dX9_done_1 rfl ?_
  refine mp_13 dX9_done_2 rfl ?_
  refine g_iload_n 1 dX9_done_5 rfl rfl ?_
  refine g_iret dX9_done_6 rfl (Nat.le_of_ble_eq_true rfl) (Nat.le_of_ble_eq_true rfl) ⟨_, _, rfl, rfl, ?_⟩
  exact ⟨rfl, rfl⟩
set_option maxHeartbeats 4000000 in
set_option maxRecDepth 100000 in
/-- isPen -/
theorem c_isPen (Z : LZ) (o : Nat) (a : Nat → Nat) (M : Mem) (p : Int) (hp : Rg p)  : Ts Z o a jX9_isPen [p] M (fun z => z = bI (penB p)) := by
  refine tr_of pn_X9_isPen (Nat.le_of_ble_eq_true rfl) (vI_cat _) ?_
  show G Z jX9_isPen E0 (QM Z jX9_isPen (pS Z o a M (fun z => z = bI (penB p)))) 0 [.int (iI p)] [] (mW Z o a M) 0 0
  refine g_iload_n 0 dX9_isPen_0 rfl rfl ?_
  refine gi_if_lt 14 dX9_isPen_1 (by decide) (by first | exact hM _ _ | exact bI_Rg _ | exact ⟨by omega, by omega⟩) (fun c1 => ?_) (fun c1 => ?_)
  · refine g_iconst (iI 0) dX9_isPen_14 rfl ?_
    refine g_zret dX9_isPen_15 rfl (narrow_bool (by first | exact Or.inl rfl | exact Or.inr rfl | assumption | omega)) (Nat.le_of_ble_eq_true rfl) (Nat.le_of_ble_eq_true rfl) ⟨_, rfl, rfl, ?_⟩
    simp [bI, penB]; omega
  · refine g_iload_n 0 dX9_isPen_4 rfl rfl ?_
    refine g_bipush (iI 6) dX9_isPen_5 (by decide) ?_
    refine gi_icmp_ge 14 dX9_isPen_7 (by decide) (by first | exact hM _ _ | exact bI_Rg _ | exact ⟨by omega, by omega⟩) (by first | exact hM _ _ | exact bI_Rg _ | exact ⟨by omega, by omega⟩) (fun c7 => ?_) (fun c7 => ?_)
    · refine g_iconst (iI 0) dX9_isPen_14 rfl ?_
      refine g_zret dX9_isPen_15 rfl (narrow_bool (by first | exact Or.inl rfl | exact Or.inr rfl | assumption | omega)) (Nat.le_of_ble_eq_true rfl) (Nat.le_of_ble_eq_true rfl) ⟨_, rfl, rfl, ?_⟩
      simp [bI, penB]; omega
    · refine g_iconst (iI 1) dX9_isPen_10 rfl ?_
      refine g_goto 15 dX9_isPen_11 (by decide) ?_
      refine g_zret dX9_isPen_15 rfl (narrow_bool (by first | exact Or.inl rfl | exact Or.inr rfl | assumption | omega)) (Nat.le_of_ble_eq_true rfl) (Nat.le_of_ble_eq_true rfl) ⟨_, rfl, rfl, ?_⟩
      simp [bI, penB]; omega
set_option maxHeartbeats 4000000 in
set_option maxRecDepth 100000 in
/-- isSlip -/
theorem c_isSlip (Z : LZ) (o : Nat) (a : Nat → Nat) {D M : Mem} (hP : Pers D M) (hM : RM D) (s : Int) (hs : Rg s)  : Tm Z o a jX9_isSlip [s] M (fun z M2 => z = bI (slipB D s) ∧ M2 = M) := by
  refine tr_of pn_X9_isSlip (Nat.le_of_ble_eq_true rfl) (vI_catO o _) ?_
  show G Z jX9_isSlip E0 (QM Z jX9_isSlip (pI Z o a (fun z M2 => z = bI (slipB D s) ∧ M2 = M))) 0 [.ref o, .int (iI s)] [] (mW Z o a M) 0 0
  refine g_iload_n 1 dX9_isSlip_0 rfl rfl ?_
  refine gi_if_lt 16 dX9_isSlip_1 (by decide) (by first | exact hM _ _ | exact bI_Rg _ | exact ⟨by omega, by omega⟩) (fun c1 => ?_) (fun c1 => ?_)
  · refine g_iconst (iI 0) dX9_isSlip_16 rfl ?_
    refine g_zret dX9_isSlip_17 rfl (narrow_bool (by first | exact Or.inl rfl | exact Or.inr rfl | assumption | omega)) (Nat.le_of_ble_eq_true rfl) (Nat.le_of_ble_eq_true rfl) ⟨_, _, rfl, rfl, ?_⟩
    refine ⟨?_, rfl⟩
    simp [bI, slipB]; omega
  · refine g_iload_n 1 dX9_isSlip_4 rfl rfl ?_
    refine g_aload_n 0 dX9_isSlip_5 rfl rfl ?_
    refine mg_9 (hP.at 9 (by decide) _) dX9_isSlip_6 rfl ?_
    refine gi_icmp_ge 16 dX9_isSlip_9 (by decide) (by first | exact hM _ _ | exact bI_Rg _ | exact ⟨by omega, by omega⟩) (by first | exact hM _ _ | exact bI_Rg _ | exact ⟨by omega, by omega⟩) (fun c9 => ?_) (fun c9 => ?_)
    · refine g_iconst (iI 0) dX9_isSlip_16 rfl ?_
      refine g_zret dX9_isSlip_17 rfl (narrow_bool (by first | exact Or.inl rfl | exact Or.inr rfl | assumption | omega)) (Nat.le_of_ble_eq_true rfl) (Nat.le_of_ble_eq_true rfl) ⟨_, _, rfl, rfl, ?_⟩
      refine ⟨?_, rfl⟩
      simp [bI, slipB]; omega
    · refine g_iconst (iI 1) dX9_isSlip_12 rfl ?_
      refine g_goto 17 dX9_isSlip_13 (by decide) ?_
      refine g_zret dX9_isSlip_17 rfl (narrow_bool (by first | exact Or.inl rfl | exact Or.inr rfl | assumption | omega)) (Nat.le_of_ble_eq_true rfl) (Nat.le_of_ble_eq_true rfl) ⟨_, _, rfl, rfl, ?_⟩
      refine ⟨?_, rfl⟩
      simp [bI, slipB]; omega
set_option maxHeartbeats 4000000 in
set_option maxRecDepth 100000 in
/-- isLater -/
theorem c_isLater (Z : LZ) (o : Nat) (a : Nat → Nat) {D M : Mem} (hP : Pers D M) (hM : RM D) (s t : Int) (hs : 0 ≤ s) (hs2 : s < 256) (ht : 0 ≤ t) (ht2 : t < 256)  : Tm Z o a jX9_isLater [s, t] M (fun z M2 => z = bI (laterB D s t) ∧ M2 = M) := by
  refine tr_of pn_X9_isLater (Nat.le_of_ble_eq_true rfl) (vI_catO o _) ?_
  show G Z jX9_isLater E0 (QM Z jX9_isLater (pI Z o a (fun z M2 => z = bI (laterB D s t) ∧ M2 = M))) 0 [.ref o, .int (iI s), .int (iI t)] [] (mW Z o a M) 0 0
  refine g_aload_n 0 dX9_isLater_0 rfl rfl ?_
  refine mg_1 dX9_isLater_1 rfl ?_
  refine g_iload_n 1 dX9_isLater_4 rfl rfl ?_
  refine ml_1 (hP.at 1 (by decide) _) dX9_isLater_5 (by omega) (by omega) ?_
  refine g_aload_n 0 dX9_isLater_6 rfl rfl ?_
  refine mg_1 dX9_isLater_7 rfl ?_
  refine g_iload_n 2 dX9_isLater_10 rfl rfl ?_
  refine ml_1 (hP.at 1 (by decide) _) dX9_isLater_11 (by omega) (by omega) ?_
  refine gi_icmp_eq 38 dX9_isLater_12 (by decide) (by first | exact hM _ _ | exact bI_Rg _ | exact ⟨by omega, by omega⟩) (by first | exact hM _ _ | exact bI_Rg _ | exact ⟨by omega, by omega⟩) (fun c12 => ?_) (fun c12 => ?_)
  · refine g_aload_n 0 dX9_isLater_38 rfl rfl ?_
    refine mg_0 dX9_isLater_39 rfl ?_
    refine g_iload_n 1 dX9_isLater_42 rfl rfl ?_
    refine ml_0 (hP.at 0 (by decide) _) dX9_isLater_43 (by omega) (by omega) ?_
    refine g_aload_n 0 dX9_isLater_44 rfl rfl ?_
    refine mg_0 dX9_isLater_45 rfl ?_
    refine g_iload_n 2 dX9_isLater_48 rfl rfl ?_
    refine ml_0 (hP.at 0 (by decide) _) dX9_isLater_49 (by omega) (by omega) ?_
    refine gi_icmp_le 57 dX9_isLater_50 (by decide) (by first | exact hM _ _ | exact bI_Rg _ | exact ⟨by omega, by omega⟩) (by first | exact hM _ _ | exact bI_Rg _ | exact ⟨by omega, by omega⟩) (fun c50 => ?_) (fun c50 => ?_)
    · refine g_iconst (iI 0) dX9_isLater_57 rfl ?_
      refine g_zret dX9_isLater_58 rfl (narrow_bool (by first | exact Or.inl rfl | exact Or.inr rfl | assumption | omega)) (Nat.le_of_ble_eq_true rfl) (Nat.le_of_ble_eq_true rfl) ⟨_, _, rfl, rfl, ?_⟩
      refine ⟨?_, rfl⟩
      unfold bI laterB
      simp [*]
    · refine g_iconst (iI 1) dX9_isLater_53 rfl ?_
      refine g_goto 58 dX9_isLater_54 (by decide) ?_
      refine g_zret dX9_isLater_58 rfl (narrow_bool (by first | exact Or.inl rfl | exact Or.inr rfl | assumption | omega)) (Nat.le_of_ble_eq_true rfl) (Nat.le_of_ble_eq_true rfl) ⟨_, _, rfl, rfl, ?_⟩
      refine ⟨?_, rfl⟩
      unfold bI laterB
      simp [*]
  · refine g_aload_n 0 dX9_isLater_15 rfl rfl ?_
    refine mg_1 dX9_isLater_16 rfl ?_
    refine g_iload_n 1 dX9_isLater_19 rfl rfl ?_
    refine ml_1 (hP.at 1 (by decide) _) dX9_isLater_20 (by omega) (by omega) ?_
    refine g_aload_n 0 dX9_isLater_21 rfl rfl ?_
    refine mg_1 dX9_isLater_22 rfl ?_
    refine g_iload_n 2 dX9_isLater_25 rfl rfl ?_
    refine ml_1 (hP.at 1 (by decide) _) dX9_isLater_26 (by omega) (by omega) ?_
    refine gi_icmp_le 34 dX9_isLater_27 (by decide) (by first | exact hM _ _ | exact bI_Rg _ | exact ⟨by omega, by omega⟩) (by first | exact hM _ _ | exact bI_Rg _ | exact ⟨by omega, by omega⟩) (fun c27 => ?_) (fun c27 => ?_)
    · refine g_iconst (iI 0) dX9_isLater_34 rfl ?_
      refine g_goto 58 dX9_isLater_35 (by decide) ?_
      refine g_zret dX9_isLater_58 rfl (narrow_bool (by first | exact Or.inl rfl | exact Or.inr rfl | assumption | omega)) (Nat.le_of_ble_eq_true rfl) (Nat.le_of_ble_eq_true rfl) ⟨_, _, rfl, rfl, ?_⟩
      refine ⟨?_, rfl⟩
      unfold bI laterB
      simp [*]
    · refine g_iconst (iI 1) dX9_isLater_30 rfl ?_
      refine g_goto 58 dX9_isLater_31 (by decide) ?_
      refine g_zret dX9_isLater_58 rfl (narrow_bool (by first | exact Or.inl rfl | exact Or.inr rfl | assumption | omega)) (Nat.le_of_ble_eq_true rfl) (Nat.le_of_ble_eq_true rfl) ⟨_, _, rfl, rfl, ?_⟩
      refine ⟨?_, rfl⟩
      unfold bI laterB
      simp [*]
set_option maxHeartbeats 4000000 in
set_option maxRecDepth 100000 in
/-- latestOf -/
theorem c_latestOf (Z : LZ) (o : Nat) (a : Nat → Nat) {D M : Mem} (hP : Pers D M) (hM : RM D) (pen b : Int) (hp : Rg pen) (h0 : 0 ≤ b) (h1 : b ≤ 256)  : Tm Z o a jX9_latestOf [pen, b] M (fun z M2 => M2 = M ∧ z = latestF D pen b.toNat) := by
  refine tr_of pn_X9_latestOf (Nat.le_of_ble_eq_true rfl) (vI_catO o _) ?_
  show G Z jX9_latestOf E0 (QM Z jX9_latestOf (pI Z o a (fun z M2 => M2 = M ∧ z = latestF D pen b.toNat))) 0 [.ref o, .int (iI pen), .int (iI b)] [] (mW Z o a M) 0 0
  have loop : ∀ (fuel : Nat) (f t : Int), b - t < fuel → 0 ≤ t → t ≤ b → f = latestF D pen t.toNat → G Z jX9_latestOf E0 (QM Z jX9_latestOf (pI Z o a (fun z M2 => M2 = M ∧ z = latestF D pen b.toNat))) 5 [.ref o, .int (iI pen), .int (iI b), .int (iI f), .int (iI t)] [] (mW Z o a M) 0 0 := by
    intro fuel
    induction fuel with
    | zero => intros; exfalso; omega
    | succ fuel ih =>
      intro f t hfu ht0 ht1 hf
      refine g_iload dX9_latestOf_5 rfl ?_
      refine g_iload_n 2 dX9_latestOf_7 rfl rfl ?_
      refine gi_icmp_ge 35 dX9_latestOf_8 (by decide) (by first | exact hM _ _ | exact bI_Rg _ | exact ⟨by omega, by omega⟩) (by first | exact hM _ _ | exact bI_Rg _ | exact ⟨by omega, by omega⟩) (fun c8 => ?_) (fun c8 => ?_)
      · refine g_iload_n 3 dX9_latestOf_35 rfl rfl ?_
        refine g_iret dX9_latestOf_36 rfl (Nat.le_of_ble_eq_true rfl) (Nat.le_of_ble_eq_true rfl) ⟨_, _, rfl, rfl, ?_⟩
        refine ⟨rfl, ?_⟩
        have : t = b := by omega
        subst this
        exact hf
      · refine g_aload_n 0 dX9_latestOf_11 rfl rfl ?_
        refine mg_0 dX9_latestOf_12 rfl ?_
        refine g_iload dX9_latestOf_15 rfl ?_
        refine ml_0 (hP.at 0 (by decide) _) dX9_latestOf_17 (by omega) (by omega) ?_
        refine g_iload_n 1 dX9_latestOf_18 rfl rfl ?_
        refine gi_icmp_ne 27 dX9_latestOf_19 (by decide) (by first | exact hM _ _ | exact bI_Rg _ | exact ⟨by omega, by omega⟩) (by first | exact hM _ _ | exact bI_Rg _ | exact ⟨by omega, by omega⟩) (fun c19 => ?_) (fun c19 => ?_)
        · refine g_iload_n 3 dX9_latestOf_27 rfl rfl ?_
          refine g_istore_n 3 dX9_latestOf_28 rfl (Nat.le_of_ble_eq_true rfl) (Nat.le_of_ble_eq_true rfl) rfl ?_
          dsimp only [sto]
          refine gi_inc dX9_latestOf_29 rfl (Nat.le_of_ble_eq_true rfl) rfl ?_
          dsimp only [sto]
          refine g_goto 5 dX9_latestOf_32 (by decide) ?_
          exact ih _ _ (by omega) (by omega) (by omega) (by
            rw [show (t + 1).toNat = t.toNat + 1 by omega, latestF, show ((t.toNat : Nat) : Int) = t by omega]
            first | rw [if_pos (by omega)] | (rw [if_neg (by omega)]; exact hf))
        · refine g_iload dX9_latestOf_22 rfl ?_
          refine g_goto 28 dX9_latestOf_24 (by decide) ?_
          refine g_istore_n 3 dX9_latestOf_28 rfl (Nat.le_of_ble_eq_true rfl) (Nat.le_of_ble_eq_true rfl) rfl ?_
          dsimp only [sto]
          refine gi_inc dX9_latestOf_29 rfl (Nat.le_of_ble_eq_true rfl) rfl ?_
          dsimp only [sto]
          refine g_goto 5 dX9_latestOf_32 (by decide) ?_
          exact ih _ _ (by omega) (by omega) (by omega) (by
            rw [show (t + 1).toNat = t.toNat + 1 by omega, latestF, show ((t.toNat : Nat) : Int) = t by omega]
            first | rw [if_pos (by omega)] | (rw [if_neg (by omega)]; exact hf))
  refine g_iconst (iI (-1)) dX9_latestOf_0 rfl ?_
  refine g_istore_n 3 dX9_latestOf_1 rfl (Nat.le_of_ble_eq_true rfl) (Nat.le_of_ble_eq_true rfl) rfl ?_
  dsimp only [sto]
  refine g_iconst (iI 0) dX9_latestOf_2 rfl ?_
  refine g_istore dX9_latestOf_3 (Nat.le_of_ble_eq_true rfl) (Nat.le_of_ble_eq_true rfl) rfl ?_
  dsimp only [sto]
  exact loop (b.toNat + 1) (-1) 0 (by omega) (by omega) (by omega) rfl
set_option maxHeartbeats 4000000 in
set_option maxRecDepth 100000 in
/-- need -/
theorem c_need (Z : LZ) (o : Nat) (a : Nat → Nat) (M : Mem) (x : Int) (hx : Rg x) (h0 : 0 ≤ M 20 0) (h1 : M 20 0 < 16)  : Tn Z o a jX9_need [x] M (fun M2 => M2 = needF M x) := by
  refine tr_of pn_X9_need (Nat.le_of_ble_eq_true rfl) (vI_catO o _) ?_
  show G Z jX9_need E0 (QM Z jX9_need (pV Z o a (fun M2 => M2 = needF M x))) 0 [.ref o, .int (iI x)] [] (mW Z o a M) 0 0
  refine g_iload_n 1 dX9_need_0 rfl rfl ?_
  refine gi_if_lt 24 dX9_need_1 (by decide) (by first | exact hM _ _ | exact bI_Rg _ | exact ⟨by omega, by omega⟩) (fun c1 => ?_) (fun c1 => ?_)
  · refine g_vret dX9_need_24 rfl (Nat.le_of_ble_eq_true rfl) (Nat.le_of_ble_eq_true rfl) ⟨_, rfl, rfl, ?_⟩
    unfold needF
    first | (rw [if_pos (by omega)]; rfl) | (rw [if_neg (by omega)])
  · refine g_aload_n 0 dX9_need_4 rfl rfl ?_
    refine mg_19 dX9_need_5 rfl ?_
    refine g_aload_n 0 dX9_need_8 rfl rfl ?_
    refine mg_20 rfl dX9_need_9 rfl ?_
    refine g_iload_n 1 dX9_need_12 rfl rfl ?_
    refine mt_19 dX9_need_13 (by omega) (by omega) ?_
    refine g_aload_n 0 dX9_need_14 rfl rfl ?_
    refine g_dup dX9_need_15 rfl ?_
    refine mg_20 rfl dX9_need_16 rfl ?_
    refine g_iconst (iI 1) dX9_need_19 rfl ?_
    refine gi_add dX9_need_20 ?_
    refine mp_20 dX9_need_21 rfl ?_
    refine g_vret dX9_need_24 rfl (Nat.le_of_ble_eq_true rfl) (Nat.le_of_ble_eq_true rfl) ⟨_, rfl, rfl, ?_⟩
    unfold needF
    first | (rw [if_pos (by omega)]; rfl) | (rw [if_neg (by omega)])
