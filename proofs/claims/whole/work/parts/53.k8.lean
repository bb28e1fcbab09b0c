/-! THE CLASS: findOrder; the order has each sign once -/
theorem fF_snoc {F : List Int} {x k : Int} (h0 : 0 ≤ k) (h1 : k ≤ F.length) : fF (F ++ [x]) k = if k = F.length then x else fF F k := by
  unfold fF
  rw [List.getD_eq_getElem?_getD, List.getD_eq_getElem?_getD]
  split
  · rename_i e
    rw [List.getElem?_append_right (by omega), show k.toNat - F.length = 0 by omega]
    rfl
  · rw [List.getElem?_append_left (by omega)]
theorem inIx_snoc (F : List Int) (x y : Int) : inIx (F ++ [x]) y = if x = y then (F.length : Int) else inIx F y := by
  unfold inIx
  rw [List.length_append, List.length_singleton]
  conv => lhs; unfold lastIx
  rw [fF_snoc (by omega) (by omega), if_pos rfl]
  split
  · rfl
  · refine lastIx_congr _ (fun i a b => ?_)
    rw [fF_snoc a (by omega), if_neg (by omega)]
theorem fF_get {F : List Int} {k : Nat} (h : k < F.length) : F[k] = fF F k := by
  unfold fF
  rw [List.getD_eq_getElem?_getD, show ((k : Int)).toNat = k by omega, List.getElem?_eq_getElem h]
  rfl
theorem take_fF {F : List Int} {k : Nat} (h : k < F.length) : F.take (k + 1) = F.take k ++ [fF F k] := by
  rw [← fF_get h]
  exact (List.take_append_getElem h).symm
def OI (F0 : List Int) (T : Int → Bool) (i : Nat) (C : Mem) : Prop := C 77 0 = ((F0.take i).filter (fun x => T (x / 4))).length ∧ (∀ k : Int, 0 ≤ k → k < ((F0.take i).filter (fun x => T (x / 4))).length → C 71 k = fF ((F0.take i).filter (fun x => T (x / 4))) k) ∧ (∀ x : Int, 0 ≤ x → x < 1024 → (x ∈ F0.take i → C 72 x = inIx ((F0.take i).filter (fun x => T (x / 4))) x) ∧ (x ∉ F0 → C 72 x = -1))
theorem OI_no {F0 : List Int} {T : Int → Bool} {i : Nat} {C : Mem} (h : OI F0 T i C) (hi : i < F0.length) (ht : T (fF F0 i / 4) = false) : OI F0 T (i + 1) (ms C 72 (fF F0 i) (-1)) := by
  have e : (F0.take (i + 1)).filter (fun x => T (x / 4)) = (F0.take i).filter (fun x => T (x / 4)) := by
    rw [take_fF hi, List.filter_append]
    simp [ht]
  unfold OI
  rw [e]
  refine ⟨by rw [ms_row (by decide)]; exact h.1, fun k a b => by rw [ms_row (by decide)]; exact h.2.1 k a b, fun x a b => ?_⟩
  by_cases q : x = fF F0 i
  · rw [q, ms_at]
    refine ⟨fun _ => (inIx_out (fun g => ?_)).symm, fun _ => rfl⟩
    have := (List.mem_filter.mp g).2
    simp [ht] at this
  · rw [ms_off q]
    refine ⟨fun g => (h.2.2 x a b).1 ?_, (h.2.2 x a b).2⟩
    rw [take_fF hi, List.mem_append, List.mem_singleton] at g
    rcases g with g | g
    · exact g
    · exact absurd g q
theorem OI_yes {F0 : List Int} {T : Int → Bool} {i : Nat} {C : Mem} (h : OI F0 T i C) (hi : i < F0.length) (ht : T (fF F0 i / 4) = true) : OI F0 T (i + 1) (ms (ms (ms C 72 (fF F0 i) (C 77 0)) 71 (C 77 0) (fF F0 i)) 77 0 (C 77 0 + 1)) := by
  have e : (F0.take (i + 1)).filter (fun x => T (x / 4)) = (F0.take i).filter (fun x => T (x / 4)) ++ [fF F0 i] := by
    rw [take_fF hi, List.filter_append]
    simp [ht]
  unfold OI
  rw [e, List.length_append, List.length_singleton]
  refine ⟨by rw [ms_at, h.1]; omega, fun k a b => ?_, fun x a b => ?_⟩
  · rw [ms_row (by decide), fF_snoc a (by omega)]
    have h1 := h.1
    split
    · rw [show k = C 77 0 by omega, ms_at]
    · rw [ms_off (by omega), ms_row (by decide)]
      exact h.2.1 k a (by omega)
  · rw [ms_row (by decide), ms_row (by decide), inIx_snoc]
    by_cases q : x = fF F0 i
    · rw [q, ms_at, if_pos rfl]
      exact ⟨fun _ => h.1, fun g => absurd (fF_mem (F := F0) (by omega) (by omega)) g⟩
    · rw [ms_off q, if_neg (fun g => q g.symm)]
      refine ⟨fun g => (h.2.2 x a b).1 ?_, (h.2.2 x a b).2⟩
      rw [take_fF hi, List.mem_append, List.mem_singleton] at g
      rcases g with g | g
      · exact g
      · exact absurd g q
theorem OI_len {F0 : List Int} {T : Int → Bool} {i : Nat} {C : Mem} (h : OI F0 T i C) (hl : F0.length ≤ 768) : 0 ≤ C 77 0 ∧ C 77 0 ≤ i := by
  have e := h.1
  have g1 := List.length_filter_le (fun x => T (x / 4)) (F0.take i)
  have g2 : (F0.take i).length ≤ i := by rw [List.length_take]; omega
  omega
theorem OI_end {D C : Mem} (hG : Good D) {T : Int → Bool} (hC : Cl D T) (h : OI (ordF D tT) T (ordF D tT).length C) : Od D T C := by
  unfold OI at h
  rw [List.take_length, ← ordF_eq hG.1 hG.2.1 hC] at h
  refine ⟨⟨h.1, h.2.1⟩, fun x a b => ?_⟩
  by_cases q : x ∈ ordF D tT
  · exact (h.2.2 x a b).1 q
  · rw [(h.2.2 x a b).2 q, inIx_out (fun g => q (ord_tT hG hC g))]
theorem tT_Cl (D : Mem) : Cl D tT := fun _ _ _ _ _ _ => rfl
theorem nmP_nd (D : Mem) (P : Int) : (nmP D P).Nodup := by
  unfold nmP
  refine List.Pairwise.map _ (fun a b h => ?_) List.nodup_range
  show ¬ (4 * P + (a : Int) = 4 * P + (b : Int))
  intro g
  exact h (by omega)
theorem sk_nd {D : Mem} {P : Int} {l : List Int} (h : l.Nodup) (hd : ∀ x ∈ l, x ∉ nmP D P) : (sk D P l).Nodup := by
  have e : l.takeWhile (fun y => laterB D (y / 4) P) ++ l.dropWhile (fun y => laterB D (y / 4) P) = l := List.takeWhile_append_dropWhile
  have h2 := h
  rw [← e] at h2
  have hm : ∀ x, x ∈ l ↔ x ∈ l.takeWhile (fun y => laterB D (y / 4) P) ∨ x ∈ l.dropWhile (fun y => laterB D (y / 4) P) := fun x => by rw [← List.mem_append, e]
  rw [List.nodup_append] at h2
  obtain ⟨h3, h4, h5⟩ := h2
  unfold sk
  rw [List.nodup_append, List.nodup_append]
  refine ⟨h3, ⟨nmP_nd D P, h4, fun x hx y hy g => ?_⟩, fun x hx y hy g => ?_⟩
  · subst g
    exact hd x ((hm x).mpr (Or.inr hy)) hx
  · subst g
    rcases List.mem_append.mp hy with q | q
    · exact hd x ((hm x).mpr (Or.inl hx)) q
    · exact h5 x hx x q rfl
theorem sk_mem {D : Mem} {P : Int} {l : List Int} {x : Int} : x ∈ sk D P l ↔ x ∈ l ∨ x ∈ nmP D P := by
  have e : l.takeWhile (fun y => laterB D (y / 4) P) ++ l.dropWhile (fun y => laterB D (y / 4) P) = l := List.takeWhile_append_dropWhile
  have hm : x ∈ l ↔ x ∈ l.takeWhile (fun y => laterB D (y / 4) P) ∨ x ∈ l.dropWhile (fun y => laterB D (y / 4) P) := by rw [← List.mem_append, e]
  unfold sk
  rw [List.mem_append, List.mem_append, hm]
  constructor
  · rintro (h | h | h)
    · exact Or.inl (Or.inl h)
    · exact Or.inr h
    · exact Or.inl (Or.inr h)
  · rintro ((h | h) | h)
    · exact Or.inl h
    · exact Or.inr (Or.inr h)
    · exact Or.inr (Or.inl h)
theorem insA_mem {D : Mem} {P L : Int} {x : Int} : ∀ {l : List Int}, x ∈ insA D P L l → x ∈ l ∨ x ∈ nmP D P := by
  intro l
  induction l with
  | nil => intro h; simp only [insA, List.not_mem_nil] at h
  | cons y t ih =>
    intro h
    unfold insA at h
    split at h
    · rcases List.mem_cons.mp h with g | g
      · exact Or.inl (by rw [g]; exact List.mem_cons_self)
      · rcases sk_mem.mp g with g | g
        · exact Or.inl (List.mem_cons_of_mem _ g)
        · exact Or.inr g
    · rcases List.mem_cons.mp h with g | g
      · exact Or.inl (by rw [g]; exact List.mem_cons_self)
      · rcases ih g with g | g
        · exact Or.inl (List.mem_cons_of_mem _ g)
        · exact Or.inr g
theorem insA_nd {D : Mem} {P L : Int} : ∀ {l : List Int}, l.Nodup → (∀ x ∈ l, x ∉ nmP D P) → (insA D P L l).Nodup := by
  intro l
  induction l with
  | nil => intro _ _; simp only [insA]; exact List.nodup_nil
  | cons y t ih =>
    intro h hd
    rw [List.nodup_cons] at h
    unfold insA
    split
    · rw [List.nodup_cons]
      refine ⟨fun g => ?_, sk_nd h.2 (fun x hx => hd x (List.mem_cons_of_mem _ hx))⟩
      rcases sk_mem.mp g with g | g
      · exact h.1 g
      · exact hd y List.mem_cons_self g
    · rw [List.nodup_cons]
      refine ⟨fun g => ?_, ih h.2 (fun x hx => hd x (List.mem_cons_of_mem _ hx))⟩
      rcases insA_mem g with g | g
      · exact h.1 g
      · exact hd y List.mem_cons_self g
theorem KD_nd {D : Mem} : ∀ {N : Nat}, okO D N → N ≤ 256 → (KD D tT N (-2)).Nodup := by
  intro N
  induction N with
  | zero =>
    intro hO _
    rw [KD_eq hO (by omega) (by omega)]
    rw [show chl D tT 0 (-2) = [] from rfl]
    exact List.nodup_nil
  | succ k ih =>
    intro hO hN
    have ih2 := ih (hO.mono (by omega)) (by omega)
    have hd : D 2 k = 0 → ∀ x ∈ KD D tT k (-2), x ∉ nmP D k := by
      intro h2 x hx g
      have g1 := (mem_nmP (by omega) (by have := hO.1 k (by omega) (by omega) h2; omega)).mp g
      have g2 := (kd_up (hO.mono (Nat.le_succ k)) _ _ _ hx).1
      omega
    by_cases h2 : D 2 k = 0
    · rw [KD_new hO (by omega) h2]
      split
      · exact sk_nd ih2 (hd h2)
      · exact insA_nd ih2 (hd h2)
    · have : KD D tT (k + 1) (-2) = KD D tT k (-2) := kd_new0 h2 300 (-2)
      rw [this]
      exact ih2
theorem ordF_nd {D : Mem} (hG : Good D) {T : Int → Bool} (hC : Cl D T) : (ordF D T).Nodup := by
  rw [ordF_eq hG.1 hG.2.1 hC]
  exact List.Pairwise.sublist List.filter_sublist (KD_nd hG.2.1 (by have := hG.1.2.1; omega))
theorem nd_fF {F : List Int} (h : F.Nodup) {i : Nat} (hi : i < F.length) {j : Nat} (hj : j < F.length) (e : fF F i = fF F j) : i = j := by
  rw [← fF_get hi, ← fF_get hj] at e
  exact (List.getElem_inj h).mp e
theorem inIx_at {F : List Int} (h : F.Nodup) {k : Int} (h0 : 0 ≤ k) (h1 : k < F.length) : inIx F (fF F k) = k := by
  have g := inIx_mem (fF_mem (F := F) h0 h1)
  have g1 := inIx_rg F (fF F k)
  have g2 := inIx_fF g
  have := nd_fF h (i := (inIx F (fF F k)).toNat) (by omega) (j := k.toNat) (by omega) (by rw [show (((inIx F (fF F k)).toNat : Nat) : Int) = inIx F (fF F k) by omega, show ((k.toNat : Nat) : Int) = k by omega]; exact g2)
  omega
set_option maxHeartbeats 4000000 in
set_option maxRecDepth 100000 in
theorem k_X3_findOrder (Z : LZ) (a : Nat → Nat) (C : Mem) (fS fA : Nat → Option Nat) {D : Mem} (sa sb : Nat → Nat) (N : Nat) (hG : Good D) (hB : Bk D C fS fA sa N) (hX : SpI D C) (T : Int → Bool) (hC : Cl D T) (hS : Sd D T N C) : Tr Z jX3_findOrder [.ref (a 102)] (cW Z a C fS fA (sW Z D sa sb N)) (fun r w => ∃ C3 : Mem, r = none ∧ w = cW Z a C3 fS fA (sW Z D sa sb N) ∧ ((∀ q : Nat, q ≠ 71 → q ≠ 72 → q ≠ 77 → C3 q = C q) ∧ Od D T C3 ∧ SpI D C3)) := by
  refine tr_of pn_X3_findOrder (Nat.le_of_ble_eq_true rfl) (by intro v h; simp only [List.mem_cons, List.not_mem_nil, or_false] at h; rw [h]; rfl) ?_
  have hn := hB.n
  have h9 := hB.d9
  have hl := ordF_len hG.1 hG.2.1 (tT_Cl D)
  have hnd := ordF_nd hG (tT_Cl D)
  have loop : ∀ (fuel : Nat) (C2 : Mem) (i : Nat), (ordF D tT).length - i < fuel → i ≤ (ordF D tT).length → (∀ q : Nat, q ≠ 71 → q ≠ 72 → q ≠ 77 → C2 q = C q) → OI (ordF D tT) T i C2 → G Z jX3_findOrder E0 (QM Z jX3_findOrder (fun r w => ∃ C3 : Mem, r = none ∧ w = cW Z a C3 fS fA (sW Z D sa sb N) ∧ ((∀ q : Nat, q ≠ 71 → q ≠ 72 → q ≠ 77 → C3 q = C q) ∧ Od D T C3 ∧ SpI D C3))) 7 [.ref (a 102), .int (iI (i : Int))] [] (cW Z a C2 fS fA (sW Z D sa sb N)) 0 0 := by
    intro fuel
    induction fuel with
    | zero => intros; exfalso; omega
    | succ fuel ih =>
      intro C2 i hf h1 hq hO
      refine g_iload_n 1 dX3_findOrder_7 rfl rfl ?_
      refine g_aload_n 0 dX3_findOrder_8 rfl rfl ?_
      refine cg_rd_book dX3_findOrder_9 flX3_33 ?_
      refine cg_bk_orderSize ((congrFun (hq 2 (by decide) (by decide) (by decide)) _).trans (hB.ord.1)) dX3_findOrder_12 flX3_146 ?_
      refine gi_icmp_ge 86 dX3_findOrder_15 (by decide) (by first | exact bI_Rg _ | assumption | exact ⟨by omega, by omega⟩) (by first | exact bI_Rg _ | assumption | exact ⟨by omega, by omega⟩) (fun c15 => ?_) (fun c15 => ?_)
      · refine g_vret dX3_findOrder_86 rfl (Nat.le_of_ble_eq_true rfl) (Nat.le_of_ble_eq_true rfl) ⟨C2, rfl, rfl, hq, ?_, ?_⟩
        · exact OI_end hG hC (by rw [show (ordF D tT).length = i by omega]; exact hO)
        · intro x a b g
          exact (hO.2.2 x a b).2 g
      · have hi : i < (ordF D tT).length := by omega
        have hm := fF_ord hG.1 hG.2.1 (T := tT) (i := i) (by omega) (by omega)
        have hpt : ptF (fF (ordF D tT) i) = fF (ordF D tT) i / 4 := by unfold ptF; rw [if_neg (by omega)]
        have hs : (fF (ordF D tT) i / 4).toNat < N := by omega
        have hst := hS _ hs
        rw [show (((fF (ordF D tT) i / 4).toNat : Nat) : Int) = fF (ordF D tT) i / 4 by omega] at hst
        have hol := OI_len hO hl
        refine g_aload_n 0 dX3_findOrder_18 rfl rfl ?_
        refine cg_rd_book dX3_findOrder_19 flX3_33 ?_
        refine cg_bk_order dX3_findOrder_22 flX3_147 ?_
        refine g_iload_n 1 dX3_findOrder_25 rfl rfl ?_
        refine ca_3 ((congrFun (hq 3 (by decide) (by decide) (by decide)) _).trans (hB.ord.2 i (by omega) (by omega))) dX3_findOrder_26 (by omega) (by omega) ?_
        refine g_istore_n 2 dX3_findOrder_27 rfl (Nat.le_of_ble_eq_true rfl) (Nat.le_of_ble_eq_true rfl) rfl ?_
        dsimp only [sto]
        refine g_aload_n 0 dX3_findOrder_28 rfl rfl ?_
        refine cg_rd_standing dX3_findOrder_29 flX3_9 ?_
        refine g_iload_n 2 dX3_findOrder_32 rfl rfl ?_
        refine ckN (by first | exact bI_Rg _ | assumption | exact ⟨by omega, by omega⟩) lknX3_148 dX3_findOrder_33 (And.intro (Nat.le_of_ble_eq_true rfl) (Nat.le_of_ble_eq_true rfl)) (Nat.le_of_ble_eq_true rfl) (Nat.le_of_ble_eq_true rfl) (Nat.le_of_ble_eq_true rfl) ?_
        rw [hpt]
        refine ca_70 (congrFun (hq 70 (by decide) (by decide) (by decide)) _) dX3_findOrder_36 (by omega) (by omega) ?_
        refine gi_if_ne 50 dX3_findOrder_37 (by decide) (by rw [hst]; split <;> first | exact ⟨by decide, by decide⟩ | (split <;> exact ⟨by decide, by decide⟩)) (fun c37 => ?_) (fun c37 => ?_)
        · refine g_aload_n 0 dX3_findOrder_50 rfl rfl ?_
          refine cg_rd_spots dX3_findOrder_51 flX3_18 ?_
          refine g_iload_n 2 dX3_findOrder_54 rfl rfl ?_
          refine g_aload_n 0 dX3_findOrder_55 rfl rfl ?_
          refine cg_rd_orderSize rfl dX3_findOrder_56 flX3_88 ?_
          refine ct_72 dX3_findOrder_59 (by omega) (by omega) ?_
          refine g_aload_n 0 dX3_findOrder_60 rfl rfl ?_
          refine cg_rd_order dX3_findOrder_61 flX3_15 ?_
          refine g_aload_n 0 dX3_findOrder_64 rfl rfl ?_
          refine cg_rd_orderSize (ms_row (show (77 : Nat) ≠ 72 by decide)) dX3_findOrder_65 flX3_88 ?_
          refine g_iload_n 2 dX3_findOrder_68 rfl rfl ?_
          refine ct_71 dX3_findOrder_69 (by omega) (by omega) ?_
          refine g_aload_n 0 dX3_findOrder_70 rfl rfl ?_
          refine g_dup dX3_findOrder_71 rfl ?_
          refine cg_rd_orderSize rfl dX3_findOrder_72 flX3_88 ?_
          refine g_iconst (iI 1) dX3_findOrder_75 rfl ?_
          refine gi_add dX3_findOrder_76 ?_
          refine cp_rd_orderSize dX3_findOrder_77 flX3_88 ?_
          refine gi_inc dX3_findOrder_80 rfl (Nat.le_of_ble_eq_true rfl) rfl ?_
          dsimp only [sto]
          refine g_goto 7 dX3_findOrder_83 (by decide) ?_
          rw [ms_row (show (77 : Nat) ≠ 71 by decide), ms_row (show (77 : Nat) ≠ 72 by decide)]
          refine g_cut 2 ?_
          refine ih _ (i + 1) (by omega) (by omega) (fun q h1 h2 h3 => (ms_ne h3).trans ((ms_ne h1).trans ((ms_ne h2).trans (hq q h1 h2 h3)))) (OI_yes hO hi ?_)
          cases e : T (fF (ordF D tT) i / 4)
          · rw [e, if_neg (by decide)] at hst
            exact absurd hst c37
          · rfl
        · refine g_aload_n 0 dX3_findOrder_40 rfl rfl ?_
          refine cg_rd_spots dX3_findOrder_41 flX3_18 ?_
          refine g_iload_n 2 dX3_findOrder_44 rfl rfl ?_
          refine g_iconst (iI (-1)) dX3_findOrder_45 rfl ?_
          refine ct_72 dX3_findOrder_46 (by omega) (by omega) ?_
          refine g_goto 80 dX3_findOrder_47 (by decide) ?_
          refine gi_inc dX3_findOrder_80 rfl (Nat.le_of_ble_eq_true rfl) rfl ?_
          dsimp only [sto]
          refine g_goto 7 dX3_findOrder_83 (by decide) ?_
          refine g_cut 2 ?_
          refine ih (ms C2 72 (fF (ordF D tT) i) (-1)) (i + 1) (by omega) (by omega) (fun q h1 h2 h3 => (ms_ne h2).trans (hq q h1 h2 h3)) (OI_no hO hi ?_)
          cases e : T (fF (ordF D tT) i / 4)
          · rfl
          · rw [e, if_pos rfl] at hst
            exfalso
            split at hst <;> omega
  refine g_aload_n 0 dX3_findOrder_0 rfl rfl ?_
  refine g_iconst (iI 0) dX3_findOrder_1 rfl ?_
  refine cp_rd_orderSize dX3_findOrder_2 flX3_88 ?_
  refine g_iconst (iI 0) dX3_findOrder_5 rfl ?_
  refine g_istore_n 1 dX3_findOrder_6 rfl (Nat.le_of_ble_eq_true rfl) (Nat.le_of_ble_eq_true rfl) rfl ?_
  dsimp only [sto]
  refine loop ((ordF D tT).length + 1) (ms C 77 0 0) 0 (by omega) (by omega) (fun q h1 h2 h3 => ms_ne h3) ⟨by rw [ms_at]; rfl, fun k a b => ?_, fun x a b => ⟨fun g => ?_, fun g => ?_⟩⟩
  · simp at b
    omega
  · simp at g
  · rw [ms_row (by decide)]
    exact hX x a b g
