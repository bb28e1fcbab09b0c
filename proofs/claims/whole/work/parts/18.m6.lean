/-! THE REFERENCE: findOrder -/
def rst (D : Mem) (T : Int → Bool) (N : Nat) (q : Int × Int) : List Int := ((nmP D q.1).drop q.2.toNat).flatMap (fun y => y :: KD D T N y)
def pnd (D : Mem) (T : Int → Bool) (N : Nat) (B : List (Int × Int)) : List Int := B.reverse.flatMap (rst D T N)
def okB (D : Mem) (q : Int × Int) : Prop := 0 ≤ q.1 ∧ q.1 < D 9 0 ∧ D 2 q.1 = 0 ∧ 0 ≤ q.2 ∧ q.2 < D 3 q.1 ∧ D 3 q.1 ≤ 3
theorem nmP_get {D : Mem} {P : Int} {i : Nat} (h : (i : Int) < D 3 P) : (nmP D P)[i]? = some (4 * P + i) := by
  unfold nmP
  rw [List.getElem?_map, List.getElem?_range (by omega)]
  rfl
theorem rst_cons {D : Mem} {T : Int → Bool} {N : Nat} {P at_ : Int} (h0 : 0 ≤ at_) (h1 : at_ < D 3 P) : rst D T N (P, at_) = (4 * P + at_) :: (KD D T N (4 * P + at_) ++ rst D T N (P, at_ + 1)) := by
  unfold rst
  have hg := nmP_get (D := D) (P := P) (i := at_.toNat) (by omega)
  rw [show ((at_.toNat : Nat) : Int) = at_ by omega] at hg
  have hlt := (List.getElem?_eq_some_iff.mp hg).1
  have hge := (List.getElem?_eq_some_iff.mp hg).2
  simp only
  rw [List.drop_eq_getElem_cons hlt, hge, List.flatMap_cons, show (at_ + 1).toNat = at_.toNat + 1 by omega]
  simp
theorem rst_nil {D : Mem} {T : Int → Bool} {N : Nat} {P at_ : Int} (h : D 3 P ≤ at_) : rst D T N (P, at_) = [] := by
  unfold rst
  rw [List.drop_of_length_le]
  · rfl
  · have := nmP_len (D := D) P
    simp only
    omega
theorem pnd_app (D : Mem) (T : Int → Bool) (N : Nat) (B C : List (Int × Int)) : pnd D T N (B ++ C) = pnd D T N C ++ pnd D T N B := by
  unfold pnd
  rw [List.reverse_append, List.flatMap_append]
theorem pnd_one (D : Mem) (T : Int → Bool) (N : Nat) (q : Int × Int) : pnd D T N [q] = rst D T N q := by
  unfold pnd; simp
theorem pnd_kids {D : Mem} {T : Int → Bool} {N : Nat} (hO : okO D N) (hN : N ≤ 256) {L : Int} (hL : -2 ≤ L) : pnd D T N ((pls D T L N).reverse.map z0) = KD D T N L := by
  rw [KD_eq hO hN hL]
  unfold pnd chl
  rw [← List.map_reverse, List.reverse_reverse, List.flatMap_map]
  have : ∀ l : List Int, l.flatMap (fun P => rst D T N (z0 P)) = (l.flatMap (nmP D)).flatMap (fun y => y :: KD D T N y) := by
    intro l
    induction l with
    | nil => rfl
    | cons P t ih =>
      rw [List.flatMap_cons, List.flatMap_cons, List.flatMap_append, ih]
      rfl
  exact this _
theorem pnd_len {D : Mem} {T : Int → Bool} {N : Nat} : ∀ B : List (Int × Int), (∀ q ∈ B, okB D q) → B.length ≤ (pnd D T N B).length := by
  intro B
  induction B with
  | nil => intro _; simp
  | cons q t ih =>
    intro h
    have h1 := ih (fun r hr => h r (List.mem_cons_of_mem _ hr))
    obtain ⟨P, at_⟩ := q
    have hq := h (P, at_) List.mem_cons_self
    rw [show (P, at_) :: t = [(P, at_)] ++ t from rfl, pnd_app, pnd_one, rst_cons hq.2.2.2.1 hq.2.2.2.2.1]
    simp only [List.length_append, List.length_cons, List.length_nil]
    omega
theorem pls_ok {D : Mem} (hD : okP D) {T : Int → Bool} {L : Int} : ∀ q ∈ (pls D T L (D 9 0).toNat).reverse.map z0, okB D q := by
  intro q hq
  have hn := hD.2.1
  obtain ⟨s, hs, rfl⟩ := List.mem_map.mp hq
  have hm := mem_pls.mp (List.mem_reverse.mp hs)
  have hk := (cand_iff.mp hm.2.2).2.1
  have h3 := (hD.2.2.1 s hm.1 (by omega)).2.2.1 hk
  exact ⟨hm.1, by simp [z0]; omega, hk, by simp [z0], by simp [z0]; omega, by simp [z0]; omega⟩
theorem OL_0 (Mx : Mem) : OL (ms Mx 17 0 0) [] := ⟨ms_at, fun j x h => by simp at h⟩
theorem OL_add {Mx My : Mem} {F : List Int} {x : Int} (h : OL Mx F) (h17 : My 17 0 = F.length + 1) (h16 : ∀ j, My 16 j = upI (Mx 16) F.length x j) : OL My (F ++ [x]) := by
  refine ⟨by rw [h17]; simp, fun j y hy => ?_⟩
  rw [h16]
  by_cases hj : j < F.length
  · rw [List.getElem?_append_left hj] at hy
    rw [upI_ne (by omega)]
    exact h.2 j y hy
  · rw [List.getElem?_append_right (by omega)] at hy
    have h0 : j - F.length = 0 := by
      rcases Nat.eq_zero_or_pos (j - F.length) with e | e
      · exact e
      · rw [List.getElem?_eq_none (by simp; omega)] at hy; cases hy
    rw [h0] at hy
    simp at hy
    rw [show (j : Int) = (F.length : Int) by omega, upI_eq, hy]
theorem OL_row {Mx My : Mem} {F : List Int} (h : OL Mx F) (h16 : My 16 = Mx 16) (h17 : My 17 = Mx 17) : OL My F := ⟨by rw [h17]; exact h.1, fun j x hx => by rw [h16]; exact h.2 j x hx⟩
theorem PL_row {Mx My : Mem} {B : List (Int × Int)} (h : PL Mx B) (h1 : My 21 = Mx 21) (h2 : My 22 = Mx 22) (h3 : My 23 = Mx 23) : PL My B := ⟨by rw [h3]; exact h.1, fun j x hx => by rw [h1, h2]; exact h.2 j x hx⟩
theorem PL_top {Mx My : Mem} {B : List (Int × Int)} {P at_ v : Int} (h : PL Mx (B ++ [(P, at_)])) (h1 : My 21 = Mx 21) (h2 : My 22 = upI (Mx 22) B.length v) (h3 : My 23 = Mx 23) : PL My (B ++ [(P, v)]) := by
  refine ⟨by rw [h3, h.1]; simp, fun j q hq => ?_⟩
  rw [h1, h2]
  by_cases hj : j < B.length
  · rw [List.getElem?_append_left hj] at hq
    rw [upI_ne (by omega)]
    exact h.2 j q (by rw [List.getElem?_append_left hj]; exact hq)
  · rw [List.getElem?_append_right (by omega)] at hq
    have h0 : j - B.length = 0 := by
      rcases Nat.eq_zero_or_pos (j - B.length) with e | e
      · exact e
      · rw [List.getElem?_eq_none (by simp; omega)] at hq; cases hq
    rw [h0] at hq
    simp at hq
    subst hq
    have := h.2 j (P, at_) (by rw [List.getElem?_append_right (by omega), h0]; rfl)
    rw [show (j : Int) = (B.length : Int) by omega] at this ⊢
    rw [upI_eq]
    exact ⟨this.1, rfl⟩
theorem PL_pop {Mx My : Mem} {B : List (Int × Int)} {q : Int × Int} (h : PL Mx (B ++ [q])) (h1 : My 21 = Mx 21) (h2 : My 22 = Mx 22) (h3 : My 23 0 = B.length) : PL My B := by
  refine ⟨h3, fun j r hr => ?_⟩
  have hj := (List.getElem?_eq_some_iff.mp hr).1
  rw [h1, h2]
  exact h.2 j r (by rw [List.getElem?_append_left hj]; exact hr)
set_option maxHeartbeats 4000000 in
set_option maxRecDepth 100000 in
/-- findOrder -/
theorem c_findOrder (Z : LZ) (o : Nat) (a : Nat → Nat) {D M : Mem} (hP : Pers D M) (hM : RM D) (hD : okP D) (hO : okO D (D 9 0).toNat) (T : Int → Bool) (hT : ∀ t, 0 ≤ t → t < D 9 0 → M 14 t = bI (T t)) (hlen : (KD D T (D 9 0).toNat (-2)).length ≤ 768)  : Tn Z o a jX9_findOrder [] M (fun M2 => Fx [16, 17, 21, 22, 23] M M2 ∧ OL M2 (KD D T (D 9 0).toNat (-2))) := by
  refine tr_of pn_X9_findOrder (Nat.le_of_ble_eq_true rfl) (vI_catO o _) ?_
  show G Z jX9_findOrder E0 (QM Z jX9_findOrder (pV Z o a (fun M2 => Fx [16, 17, 21, 22, 23] M M2 ∧ OL M2 (KD D T (D 9 0).toNat (-2))))) 0 [.ref o] [] (mW Z o a M) 0 0
  have hn := hD.2.1
  have loop : ∀ (fuel : Nat) (O : List Int) (B : List (Int × Int)) (Mq : Mem), (pnd D T (D 9 0).toNat B).length < fuel → Fx [16, 17, 21, 22, 23] M Mq → OL Mq O → PL Mq B → (KD D T (D 9 0).toNat (-2)) = O ++ pnd D T (D 9 0).toNat B → (∀ q ∈ B, okB D q) → G Z jX9_findOrder E0 (QM Z jX9_findOrder (pV Z o a (fun M2 => Fx [16, 17, 21, 22, 23] M M2 ∧ OL M2 (KD D T (D 9 0).toNat (-2))))) 16 [.ref o] [] (mW Z o a Mq) 0 0 := by
    intro fuel
    induction fuel with
    | zero => intros; exfalso; omega
    | succ fuel ih =>
      intro O B Mq hfu hF hOL hPL hFeq hok
      rcases List.eq_nil_or_concat B with hB | ⟨B0, q, hB⟩
      · subst hB
        have h23 : Mq 23 0 = 0 := by rw [hPL.1]; rfl
        refine g_aload_n 0 dX9_findOrder_16 rfl rfl ?_
        refine mg_23 h23 dX9_findOrder_17 rfl ?_
        refine gi_if_le 122 dX9_findOrder_20 (by decide) (by first | exact hM _ _ | exact bI_Rg _ | exact ⟨by omega, by omega⟩) (fun c20 => ?_) (fun c20 => ?_)
        · refine g_vret dX9_findOrder_122 rfl (Nat.le_of_ble_eq_true rfl) (Nat.le_of_ble_eq_true rfl) ⟨_, rfl, rfl, ?_⟩
          refine ⟨hF, ?_⟩
          rw [hFeq]
          simpa [pnd] using hOL
        · exfalso; omega
      · obtain ⟨P, t⟩ := q
        rw [List.concat_eq_append] at hB
        subst hB
        have hq := hok (P, t) (by simp)
        unfold okB at hq
        simp only at hq
        have hlB := pnd_len (T := T) (N := (D 9 0).toNat) _ hok
        have hll := congrArg List.length hFeq
        simp only [List.length_append, List.length_cons, List.length_nil] at hlB hll
        have hcons := congrArg List.length (pnd_app D T (D 9 0).toNat B0 [(P, t)])
        rw [pnd_one, rst_cons hq.2.2.2.1 hq.2.2.2.2.1] at hcons
        simp only [List.length_append, List.length_cons] at hcons
        have h23 : Mq 23 0 = (B0.length : Int) + 1 := by rw [hPL.1]; simp
        have hp : Mq 21 B0.length = P ∧ Mq 22 B0.length = t := hPL.2 B0.length (P, t) (by simp)
        have hp1 : Mq 21 ((B0.length : Int) + 1 - 1) = P := by rw [show ((B0.length : Int) + 1 - 1) = B0.length by omega]; exact hp.1
        have hp2 : Mq 22 ((B0.length : Int) + 1 - 1) = t := by rw [show ((B0.length : Int) + 1 - 1) = B0.length by omega]; exact hp.2
        have mid : ∀ (Mr : Mem) (B1 : List (Int × Int)), Fx [16, 17, 21, 22, 23] M Mr → OL Mr O → PL Mr B1 → (KD D T (D 9 0).toNat (-2)) = O ++ ((4 * P + t) :: (KD D T (D 9 0).toNat (4 * P + t) ++ pnd D T (D 9 0).toNat B1)) → (∀ q ∈ B1, okB D q) → G Z jX9_findOrder E0 (QM Z jX9_findOrder (pV Z o a (fun M2 => Fx [16, 17, 21, 22, 23] M M2 ∧ OL M2 (KD D T (D 9 0).toNat (-2))))) 86 [.ref o, .int (iI P), .int (iI t)] [] (mW Z o a Mr) 0 0 := by
          intro Mr B1 hF hOL hPL hFeq2 hok1
          have hok2 : ∀ q ∈ B1 ++ (pls D T (4 * P + t) (D 9 0).toNat).reverse.map z0, okB D q := by
            intro r hr
            rcases List.mem_append.mp hr with h | h
            · exact hok1 r h
            · exact pls_ok hD r h
          have hk := pnd_kids (T := T) hO (by omega) (L := 4 * P + t) (by omega)
          have hl2 := pnd_len (T := T) (N := (D 9 0).toNat) _ hok2
          rw [pnd_app, hk] at hl2
          have hl3 := congrArg List.length hFeq2
          simp only [List.length_append, List.length_cons, List.length_map, List.length_reverse] at hl2 hl3
          have hFeq2 : (KD D T (D 9 0).toNat (-2)) = (O ++ [4 * P + t]) ++ pnd D T (D 9 0).toNat (B1 ++ (pls D T (4 * P + t) (D 9 0).toNat).reverse.map z0) := by
            rw [hFeq2, pnd_app, hk]; simp
          have hl4 := congrArg List.length hFeq2
          simp only [List.length_append, List.length_cons, List.length_nil] at hl4
          refine g_aload_n 0 dX9_findOrder_86 rfl rfl ?_
          refine mg_16 dX9_findOrder_87 rfl ?_
          refine g_aload_n 0 dX9_findOrder_90 rfl rfl ?_
          refine mg_17 hOL.1 dX9_findOrder_91 rfl ?_
          refine g_iconst (iI 4) dX9_findOrder_94 rfl ?_
          refine g_iload_n 1 dX9_findOrder_95 rfl rfl ?_
          refine gi_mul dX9_findOrder_96 ?_
          refine g_iload_n 2 dX9_findOrder_97 rfl rfl ?_
          refine gi_add dX9_findOrder_98 ?_
          refine mt_16 dX9_findOrder_99 (by omega) (by omega) ?_
          refine g_aload_n 0 dX9_findOrder_100 rfl rfl ?_
          refine g_dup dX9_findOrder_101 rfl ?_
          refine mg_17 ((ms_row (by decide)).trans hOL.1) dX9_findOrder_102 rfl ?_
          refine g_iconst (iI 1) dX9_findOrder_105 rfl ?_
          refine gi_add dX9_findOrder_106 ?_
          refine mp_17 dX9_findOrder_107 rfl ?_
          refine g_aload_n 0 dX9_findOrder_110 rfl rfl ?_
          refine g_iconst (iI 4) dX9_findOrder_111 rfl ?_
          refine g_iload_n 1 dX9_findOrder_112 rfl rfl ?_
          refine gi_mul dX9_findOrder_113 ?_
          refine g_iload_n 2 dX9_findOrder_114 rfl rfl ?_
          refine gi_add dX9_findOrder_115 ?_
          refine mcV lkX9_115 (c_pilePuts Z o a (((hP.fx hF (by decide)).ms (r := 16) (by decide)).ms (r := 17) (by decide)) hM hD _ (by exact ⟨by omega, by omega⟩) T (fun u a1 a2 => (((hF.ms (r := 16) (by decide)).ms (r := 17) (by decide)).at 14 (by decide) u).trans (hT u a1 a2)) B1 (PL_row hPL rfl rfl rfl) (by omega)) dX9_findOrder_116 rfl (And.intro (Nat.le_of_ble_eq_true rfl) (Nat.le_of_ble_eq_true rfl)) rfl (Nat.le_of_ble_eq_true rfl) rfl rfl (Nat.le_of_ble_eq_true rfl) (Nat.le_of_ble_eq_true rfl) (fun M116 h116 => ?_)
          obtain ⟨hF2, hPL2⟩ := h116
          refine g_goto 16 dX9_findOrder_119 (by decide) ?_
          refine g_drop (ls1 := [_]) (xs := [_, _]) rfl ?_
          exact ih _ _ _ (by omega) (hF.ms (r := 16) (by decide) |>.ms (r := 17) (by decide) |>.tr hF2 (by decide)) (OL_row (OL_add hOL ms_at (fun j => rfl)) (hF2 16 (by decide)) (hF2 17 (by decide))) hPL2 hFeq2 hok2
        refine g_aload_n 0 dX9_findOrder_16 rfl rfl ?_
        refine mg_23 h23 dX9_findOrder_17 rfl ?_
        refine gi_if_le 122 dX9_findOrder_20 (by decide) (by first | exact hM _ _ | exact bI_Rg _ | exact ⟨by omega, by omega⟩) (fun c20 => ?_) (fun c20 => ?_)
        · exfalso; omega
        · refine g_aload_n 0 dX9_findOrder_23 rfl rfl ?_
          refine mg_21 dX9_findOrder_24 rfl ?_
          refine g_aload_n 0 dX9_findOrder_27 rfl rfl ?_
          refine mg_23 h23 dX9_findOrder_28 rfl ?_
          refine g_iconst (iI 1) dX9_findOrder_31 rfl ?_
          refine gi_sub dX9_findOrder_32 ?_
          refine ml_21 hp1 dX9_findOrder_33 (by omega) (by omega) ?_
          refine g_istore_n 1 dX9_findOrder_34 rfl (Nat.le_of_ble_eq_true rfl) (Nat.le_of_ble_eq_true rfl) rfl ?_
          dsimp only [sto]
          refine g_aload_n 0 dX9_findOrder_35 rfl rfl ?_
          refine mg_22 dX9_findOrder_36 rfl ?_
          refine g_aload_n 0 dX9_findOrder_39 rfl rfl ?_
          refine mg_23 h23 dX9_findOrder_40 rfl ?_
          refine g_iconst (iI 1) dX9_findOrder_43 rfl ?_
          refine gi_sub dX9_findOrder_44 ?_
          refine ml_22 hp2 dX9_findOrder_45 (by omega) (by omega) ?_
          refine g_istore_n 2 dX9_findOrder_46 rfl (Nat.le_of_ble_eq_true rfl) (Nat.le_of_ble_eq_true rfl) rfl ?_
          dsimp only [sto]
          refine g_iload_n 2 dX9_findOrder_47 rfl rfl ?_
          refine g_iconst (iI 1) dX9_findOrder_48 rfl ?_
          refine gi_add dX9_findOrder_49 ?_
          refine g_aload_n 0 dX9_findOrder_50 rfl rfl ?_
          refine mg_3 dX9_findOrder_51 rfl ?_
          refine g_iload_n 1 dX9_findOrder_54 rfl rfl ?_
          refine ml_3 ((hP.fx hF (by decide)).at 3 (by decide) _) dX9_findOrder_55 (by omega) (by omega) ?_
          refine gi_icmp_ge 76 dX9_findOrder_56 (by decide) (by first | exact hM _ _ | exact bI_Rg _ | exact ⟨by omega, by omega⟩) (by first | exact hM _ _ | exact bI_Rg _ | exact ⟨by omega, by omega⟩) (fun c56 => ?_) (fun c56 => ?_)
          · refine g_aload_n 0 dX9_findOrder_76 rfl rfl ?_
            refine g_dup dX9_findOrder_77 rfl ?_
            refine mg_23 h23 dX9_findOrder_78 rfl ?_
            refine g_iconst (iI 1) dX9_findOrder_81 rfl ?_
            refine gi_sub dX9_findOrder_82 ?_
            refine mp_23 dX9_findOrder_83 rfl ?_
            first
              | exact mid _ (B0 ++ [(P, t + 1)]) (hF.ms (by decide)) (OL_row hOL rfl rfl) (PL_top hPL rfl (by
                  show upI (Mq 22) ((B0.length : Int) + 1 - 1) (t + 1) = _
                  rw [show ((B0.length : Int) + 1 - 1) = B0.length by omega]) rfl) (by
                  rw [hFeq, pnd_app, pnd_one, rst_cons hq.2.2.2.1 hq.2.2.2.2.1, pnd_app, pnd_one]
                  simp) (fun r hr => by
                  rcases List.mem_append.mp hr with h | h
                  · exact hok r (List.mem_append_left _ h)
                  · rw [List.mem_singleton.mp h]; exact ⟨hq.1, hq.2.1, hq.2.2.1, by simp; omega, by simp; omega, hq.2.2.2.2.2⟩)
              | exact mid _ B0 (hF.ms (by decide)) (OL_row hOL rfl rfl) (PL_pop hPL rfl rfl (by rw [ms_at]; omega)) (by
                  rw [hFeq, pnd_app, pnd_one, rst_cons hq.2.2.2.1 hq.2.2.2.2.1, rst_nil (P := P) (at_ := t + 1) (by omega)]
                  simp) (fun r hr => hok r (List.mem_append_left _ hr))
          · refine g_aload_n 0 dX9_findOrder_59 rfl rfl ?_
            refine mg_22 dX9_findOrder_60 rfl ?_
            refine g_aload_n 0 dX9_findOrder_63 rfl rfl ?_
            refine mg_23 h23 dX9_findOrder_64 rfl ?_
            refine g_iconst (iI 1) dX9_findOrder_67 rfl ?_
            refine gi_sub dX9_findOrder_68 ?_
            refine g_iload_n 2 dX9_findOrder_69 rfl rfl ?_
            refine g_iconst (iI 1) dX9_findOrder_70 rfl ?_
            refine gi_add dX9_findOrder_71 ?_
            refine mt_22 dX9_findOrder_72 (by omega) (by omega) ?_
            refine g_goto 86 dX9_findOrder_73 (by decide) ?_
            first
              | exact mid _ (B0 ++ [(P, t + 1)]) (hF.ms (by decide)) (OL_row hOL rfl rfl) (PL_top hPL rfl (by
                  show upI (Mq 22) ((B0.length : Int) + 1 - 1) (t + 1) = _
                  rw [show ((B0.length : Int) + 1 - 1) = B0.length by omega]) rfl) (by
                  rw [hFeq, pnd_app, pnd_one, rst_cons hq.2.2.2.1 hq.2.2.2.2.1, pnd_app, pnd_one]
                  simp) (fun r hr => by
                  rcases List.mem_append.mp hr with h | h
                  · exact hok r (List.mem_append_left _ h)
                  · rw [List.mem_singleton.mp h]; exact ⟨hq.1, hq.2.1, hq.2.2.1, by simp; omega, by simp; omega, hq.2.2.2.2.2⟩)
              | exact mid _ B0 (hF.ms (by decide)) (OL_row hOL rfl rfl) (PL_pop hPL rfl rfl (by rw [ms_at]; omega)) (by
                  rw [hFeq, pnd_app, pnd_one, rst_cons hq.2.2.2.1 hq.2.2.2.2.1, rst_nil (P := P) (at_ := t + 1) (by omega)]
                  simp) (fun r hr => hok r (List.mem_append_left _ hr))
  refine g_aload_n 0 dX9_findOrder_0 rfl rfl ?_
  refine g_iconst (iI 0) dX9_findOrder_1 rfl ?_
  refine mp_17 dX9_findOrder_2 rfl ?_
  refine g_aload_n 0 dX9_findOrder_5 rfl rfl ?_
  refine g_iconst (iI 0) dX9_findOrder_6 rfl ?_
  refine mp_23 dX9_findOrder_7 rfl ?_
  refine g_aload_n 0 dX9_findOrder_10 rfl rfl ?_
  refine g_bipush (iI (-2)) dX9_findOrder_11 (by decide) ?_
  refine mcV lkX9_115 (c_pilePuts Z o a ((hP.ms (r := 17) (by decide)).ms (r := 23) (by decide)) hM hD (-2) (by exact ⟨by omega, by omega⟩) T (fun u a1 a2 => (((Fx.rf [17, 23] M).ms (r := 17) (by decide)).ms (r := 23) (by decide)).at 14 (by decide) u |>.trans (hT u a1 a2)) [] ⟨ms_at, fun j q h => by simp at h⟩ (by
  have h1 := pnd_len (T := T) (N := (D 9 0).toNat) _ (pls_ok hD (T := T) (L := -2))
  rw [pnd_kids hO (by omega) (by omega)] at h1
  simp at h1 ⊢
  omega)) dX9_findOrder_13 rfl (And.intro (Nat.le_of_ble_eq_true rfl) (Nat.le_of_ble_eq_true rfl)) rfl (Nat.le_of_ble_eq_true rfl) rfl rfl (Nat.le_of_ble_eq_true rfl) (Nat.le_of_ble_eq_true rfl) (fun M13 h13 => ?_)
  obtain ⟨hF2, hPL2⟩ := h13
  exact loop _ [] _ _ (Nat.lt_succ_self _) (((((Fx.rf [16, 17, 21, 22, 23] M).ms (r := 17) (by decide)).ms (r := 23) (by decide))).tr hF2 (by decide)) (OL_row (OL_0 M) (hF2 16 (by decide)) (hF2 17 (by decide))) hPL2 (by
    rw [List.nil_append, List.nil_append, pnd_kids hO (by omega) (by omega)]) (by rw [List.nil_append]; exact pls_ok hD)
