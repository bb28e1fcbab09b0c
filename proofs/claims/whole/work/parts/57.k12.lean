/-! THE CLASS: history, unlike -/
theorem cntB_range (P : Int → Bool) : ∀ N : Nat, cntB P N = (((List.range N).countP (fun s : Nat => P s) : Nat) : Int) := by
  intro N
  induction N with
  | zero => rfl
  | succ k ih =>
    rw [List.range_succ, List.countP_append]
    unfold cntB
    rw [ih]
    cases h : P k
    · simp [bI, h]
    · simp [bI, h]
theorem age_nd {D : Mem} {L : List Nat} (h : L.Pairwise (fun s t : Nat => Lat D t s)) : L.Nodup := List.Pairwise.imp (fun {a b} hab e => by subst e; exact Lat_ir hab) h
theorem age_perm {L : List Nat} {N : Nat} (hnd : L.Nodup) (h1 : ∀ s ∈ L, s < N) (h2 : ∀ s : Nat, s < N → s ∈ L) : L.Perm (List.range N) := (List.perm_ext_iff_of_nodup hnd List.nodup_range).mpr (fun s => ⟨fun h => List.mem_range.mpr (h1 s h), fun h => h2 s (List.mem_range.mp h)⟩)
def cnL (T : Int → Bool) (l : List Nat) : Int := ((l.countP (fun s : Nat => T s) : Nat) : Int)
theorem cnL_snoc (T : Int → Bool) (l : List Nat) (m : Nat) : cnL T (l ++ [m]) = cnL T l + bI (T m) := by
  unfold cnL
  rw [List.countP_append]
  cases h : T m
  · simp [bI, h]
  · simp [bI, h]
theorem cnL_all {L : List Nat} {N : Nat} (T : Int → Bool) (hp : L.Perm (List.range N)) : cnL T L = cntB T N := by
  rw [cntB_range]
  unfold cnL
  rw [hp.countP_eq]
theorem cnL_mono (T : Int → Bool) (l r : List Nat) : cnL T l ≤ cnL T (l ++ r) := by
  unfold cnL
  rw [List.countP_append]
  omega
theorem hi_cnt {D : Mem} {L : List Nat} {N k : Nat} (T : Int → Bool) (hL : L.Pairwise (fun s t : Nat => Lat D t s)) (hp : L.Perm (List.range N)) (hk : k < L.length) : cntB (hiB D T (L[k] : Nat)) N = cnL T (L.take k) := by
  rw [← cnL_all _ hp]
  have e : L = L.take k ++ (L[k] :: L.drop (k + 1)) := by
    rw [List.getElem_cons_drop, List.take_append_drop]
  have hL2 := hL
  rw [e, List.pairwise_append, List.pairwise_cons] at hL2
  obtain ⟨h1, ⟨h2, h3⟩, h4⟩ := hL2
  have hcong := congrArg (cnL (hiB D T (L[k] : Nat))) e
  rw [hcong]
  unfold cnL
  rw [List.countP_append, List.countP_cons]
  have c1 : (L.take k).countP (fun s : Nat => hiB D T (L[k] : Nat) s) = (L.take k).countP (fun s : Nat => T s) := by
    refine List.countP_congr (fun s hs => ?_)
    have : laterB D (L[k] : Nat) s = true := laterB_iff.mpr (h4 s hs _ List.mem_cons_self)
    unfold hiB
    rw [this, Bool.and_true]
  have c2 : (L.drop (k + 1)).countP (fun s : Nat => hiB D T (L[k] : Nat) s) = 0 := by
    rw [List.countP_eq_zero]
    intro s hs
    have g := h2 s hs
    have : laterB D (L[k] : Nat) s = false := laterB_not.mpr (fun q => Lat_ir (Lat_tr g q))
    unfold hiB
    rw [this, Bool.and_false]
    decide
  have c3 : hiB D T (L[k] : Nat) (L[k] : Nat) = false := by
    have : laterB D (L[k] : Nat) (L[k] : Nat) = false := laterB_not.mpr (fun q => Lat_ir q)
    unfold hiB
    rw [this, Bool.and_false]
  rw [c1, c2, c3]
  simp
theorem hist_at {D : Mem} {L : List Nat} {N k : Nat} (T : Int → Bool) (hL : L.Pairwise (fun s t : Nat => Lat D t s)) (hp : L.Perm (List.range N)) (hk : k < L.length) (hT : T (L[k] : Nat) = true) (h9 : (D 9 0).toNat = N) : fstF (hiP D T (cnL T (L.take k))) N = (L[k] : Nat) := by
  have hlen : L[k] < N := List.mem_range.mp (hp.mem_iff.mp (List.getElem_mem hk))
  refine fstF_at (by omega) ?_ (fun t h0 h1 => ?_) N (by omega)
  · unfold hiP
    rw [hT, h9, hi_cnt T hL hp hk, decide_eq_true rfl]
    rfl
  · cases q : hiP D T (cnL T (L.take k)) t
    · rfl
    · exfalso
      unfold hiP at q
      rw [Bool.and_eq_true, h9, decide_eq_true_eq] at q
      have hm : t.toNat ∈ L := hp.mem_iff.mpr (List.mem_range.mpr (by omega))
      obtain ⟨j, hj, ej⟩ := List.getElem_of_mem hm
      have et : t = (L[j] : Nat) := by omega
      rw [et, hi_cnt T hL hp hj] at q
      rcases Nat.lt_trichotomy j k with g | g | g
      · have e1 : L.take k = (L.take j ++ [L[j]]) ++ (L.take k).drop (j + 1) := by
          have e2 : L.take j ++ [L[j]] = (L.take k).take (j + 1) := by
            rw [List.take_append_getElem hj, List.take_take, Nat.min_eq_left (by omega)]
          rw [e2, List.take_append_drop]
        have g1 := cnL_mono T (L.take j ++ [L[j]]) ((L.take k).drop (j + 1))
        rw [← e1, cnL_snoc, q.1] at g1
        have : bI true = 1 := rfl
        omega
      · subst g
        omega
      · have e1 : L.take j = (L.take k ++ [L[k]]) ++ (L.take j).drop (k + 1) := by
          have e2 : L.take k ++ [L[k]] = (L.take j).take (k + 1) := by
            rw [List.take_append_getElem hk, List.take_take, Nat.min_eq_left (by omega)]
          rw [e2, List.take_append_drop]
        have g1 := cnL_mono T (L.take k ++ [L[k]]) ((L.take j).drop (k + 1))
        rw [← e1, cnL_snoc, hT] at g1
        have : bI true = 1 := rfl
        omega
set_option maxHeartbeats 4000000 in
set_option maxRecDepth 100000 in
theorem k_X8_history (Z : LZ) (a : Nat → Nat) (C : Mem) (fS fA : Nat → Option Nat) {D : Mem} (sa sb : Nat → Nat) (N : Nat) (hG : Good D) (hI : Inv D) (hR : Rel D C fS fA sa N) (p x : Int) (hp : Rg p) (hx : Rg x) : Tr Z jX8_history [.ref (a 99), .int (iI p), .int (iI x)] (cW Z a C fS fA (sW Z D sa sb N)) (fun r w => ∃ C2 : Mem, r = some (.int (iI (A_history D p x))) ∧ w = cW Z a C2 fS fA (sW Z D sa sb N) ∧ Rel D C2 fS fA sa N) := by
  refine tr_of pn_X8_history (Nat.le_of_ble_eq_true rfl) (by intro v h; simp only [List.mem_cons, List.not_mem_nil, or_false] at h; rcases h with h | h | h <;> rw [h] <;> rfl) ?_
  have hB := hR.1
  have hn := hB.n
  have h9 := hB.d9
  have hM := hG.1.1
  obtain ⟨A, hA1, hA2, hA3, hA4⟩ := hB.age
  have hA5 : ∀ s ∈ A, s < N := fun s hs => by
    obtain ⟨k, hk, e⟩ := List.getElem_of_mem hs
    exact (hA2 k s (by rw [List.getElem?_eq_getElem hk, e])).1
  have hpm := age_perm (age_nd hA3) hA5 hA4
  refine g_aload_n 0 dX8_history_0 rfl rfl ?_
  refine g_iload_n 1 dX8_history_1 rfl rfl ?_
  refine ckE lkX8_42 (k_X8_sheetOf Z a C fS fA _ p hp) dX8_history_2 (And.intro (Nat.le_of_ble_eq_true rfl) (Nat.le_of_ble_eq_true rfl)) (ci := 7) (q0 := 0) rfl rfl (Nat.le_of_ble_eq_true rfl) rfl rfl (Nat.le_of_ble_eq_true rfl) (Nat.le_of_ble_eq_true rfl) rfl ?_
  by_cases hPp : 0 ≤ p ∧ p < 6
  · rw [if_pos hPp]
    have hnp : p.toNat < 6 := by omega
    have hep : ((p.toNat : Nat) : Int) = p := by omega
    refine g_astore_n 3 dX8_history_5 rfl (Nat.le_of_ble_eq_true rfl) (Nat.le_of_ble_eq_true rfl) rfl ?_
    dsimp only [sto]
    refine g_aload_n 3 dX8_history_6 rfl rfl ?_
    refine g_ifnull dX8_history_7 ?_
    refine g_iload_n 2 dX8_history_10 rfl rfl ?_
    refine gi_if_ge 16 dX8_history_11 (by decide) (by first | exact bI_Rg _ | assumption | exact ⟨by omega, by omega⟩) (fun c11 => ?_) (fun c11 => ?_)
    · refine g_iconst (iI 0) dX8_history_16 rfl ?_
      refine g_istore dX8_history_17 (Nat.le_of_ble_eq_true rfl) (Nat.le_of_ble_eq_true rfl) rfl ?_
      dsimp only [sto]
      refine g_iconst (iI 0) dX8_history_19 rfl ?_
      refine g_istore dX8_history_20 (Nat.le_of_ble_eq_true rfl) (Nat.le_of_ble_eq_true rfl) rfl ?_
      dsimp only [sto]
      have loop : ∀ (fuel : Nat) (k : Nat), N - k < fuel → k ≤ N → cnL (tkB D p) (A.take k) ≤ x → G Z jX8_history E0 (QM Z jX8_history (fun r w => ∃ C2 : Mem, r = some (.int (iI (A_history D p x))) ∧ w = cW Z a C2 fS fA (sW Z D sa sb N) ∧ Rel D C2 fS fA sa N)) 22 [.ref (a 99), .int (iI p), .int (iI x), .ref (a (110 + p.toNat)), .int (iI (cnL (tkB D p) (A.take k))), .int (iI (k : Int))] [] (cW Z a C fS fA (sW Z D sa sb N)) 0 0 := by
        intro fuel
        induction fuel with
        | zero => intros; exfalso; omega
        | succ fuel ih =>
          intro k hf h1 hle
          refine g_iload dX8_history_22 rfl ?_
          refine g_aload_n 0 dX8_history_24 rfl rfl ?_
          refine cg_mp_book dX8_history_25 flX8_12 ?_
          refine cg_bk_count hB.c1 dX8_history_28 flX8_74 ?_
          refine gi_icmp_ge 76 dX8_history_31 (by decide) (by first | exact bI_Rg _ | assumption | exact ⟨by omega, by omega⟩) (by first | exact bI_Rg _ | assumption | exact ⟨by omega, by omega⟩) (fun c31 => ?_) (fun c31 => ?_)
          · refine g_iconst (iI (-1)) dX8_history_76 rfl ?_
            refine g_iret dX8_history_77 rfl (Nat.le_of_ble_eq_true rfl) (Nat.le_of_ble_eq_true rfl) ⟨C, ?_, rfl, hR⟩
            unfold A_history
            rw [if_neg (fun q => ?_)]
            rw [show A.take k = A from List.take_of_length_le (by omega), cnL_all _ hpm] at hle
            rw [show (D 9 0).toNat = N by omega] at q
            omega
          · have hi : k < A.length := by omega
            have hAi := hA2 k A[k] (List.getElem?_eq_getElem hi)
            have hs := hAi.1
            have htk : A.take (k + 1) = A.take k ++ [A[k]] := (List.take_append_getElem hi).symm
            have hg := cnL_snoc (tkB D p) (A.take k) A[k]
            have htt : decide (C (20 + p.toNat) ((A[k] : Nat) : Int) = 2) = tkB D p (A[k] : Nat) := by
              have := hB.tk hG.1 hnp hs
              rw [hep] at this
              simp only [this, Bool.decide_eq_true]
            have hrg := hB.hrg hnp (A[k] : Nat) (by omega) (by omega)
            have hc0 : 0 ≤ cnL (tkB D p) (A.take k) ∧ cnL (tkB D p) (A.take k) ≤ k := by
              unfold cnL
              have := List.countP_le_length (p := fun s : Nat => tkB D p s) (l := A.take k)
              rw [List.length_take] at this
              omega
            refine g_aload_n 0 dX8_history_34 rfl rfl ?_
            refine cg_mp_book dX8_history_35 flX8_12 ?_
            refine cg_bk_byAge dX8_history_38 flX8_218 ?_
            refine g_iload dX8_history_41 rfl ?_
            refine ca_byAge (s := A[k]) hAi.2 dX8_history_43 (by omega) (by omega) ?_
            refine g_astore dX8_history_44 (Nat.le_of_ble_eq_true rfl) (Nat.le_of_ble_eq_true rfl) rfl ?_
            dsimp only [sto]
            refine g_aload_n 3 dX8_history_46 rfl rfl ?_
            refine g_aload dX8_history_47 rfl ?_
            refine ckE lkX8_145 (k_X4_hasTaken Z a C fS fA sa sb N hn p.toNat A[k] hnp hs ⟨by omega, by omega⟩) dX8_history_49 (And.intro (Nat.le_of_ble_eq_true rfl) (Nat.le_of_ble_eq_true rfl)) (ci := 4) rfl (he_sh p.toNat hnp) (Nat.le_of_ble_eq_true rfl) rfl rfl (Nat.le_of_ble_eq_true rfl) (Nat.le_of_ble_eq_true rfl) rfl ?_
            refine gi_if_eq 70 dX8_history_52 (by decide) (bI_Rg _) (fun c52 => ?_) (fun c52 => ?_)
            · refine gi_inc dX8_history_70 rfl (Nat.le_of_ble_eq_true rfl) rfl ?_
              dsimp only [sto]
              refine g_goto 22 dX8_history_73 (by decide) ?_
              rw [htt] at c52
              have g := ih (k + 1) (by omega) (by omega) (by rw [htk, hg, bI_eq0.mp c52]; simp [bI]; exact hle)
              rw [htk, hg, bI_eq0.mp c52] at g
              refine g_cut 6 ?_
              simpa [bI] using g
            · refine g_iload dX8_history_55 rfl ?_
              refine g_iload_n 2 dX8_history_57 rfl rfl ?_
              refine gi_icmp_ne 67 dX8_history_58 (by decide) ⟨by omega, by omega⟩ hx (fun c58 => ?_) (fun c58 => ?_)
              · refine gi_inc dX8_history_67 rfl (Nat.le_of_ble_eq_true rfl) rfl ?_
                dsimp only [sto]
                refine gi_inc dX8_history_70 rfl (Nat.le_of_ble_eq_true rfl) rfl ?_
                dsimp only [sto]
                refine g_goto 22 dX8_history_73 (by decide) ?_
                rw [htt] at c52
                have g := ih (k + 1) (by omega) (by omega) (by rw [htk, hg, bI_1 c52]; omega)
                rw [htk, hg, bI_1 c52] at g
                exact g_cut 6 g
              · refine g_aload dX8_history_61 rfl ?_
                refine cg_sl_number hs dX8_history_63 flX8_124 ?_
                refine g_iret dX8_history_66 rfl (Nat.le_of_ble_eq_true rfl) (Nat.le_of_ble_eq_true rfl) ⟨C, ?_, rfl, hR⟩
                rw [htt] at c52
                unfold A_history
                have hTk : tkB D p (A[k] : Nat) = true := by
                  cases e : tkB D p (A[k] : Nat)
                  · rw [e] at c52; exact absurd rfl c52
                  · rfl
                have hm := cnL_mono (tkB D p) (A.take (k + 1)) (A.drop (k + 1))
                rw [List.take_append_drop, cnL_all _ hpm, htk, hg, hTk] at hm
                have : bI true = 1 := rfl
                rw [show (D 9 0).toNat = N by omega, if_pos ⟨hPp, by omega, by omega⟩, ← c58, hist_at _ hA3 hpm hi hTk (by omega)]
      exact loop (N + 1) 0 (by omega) (by omega) (by simp [cnL]; omega)
    · refine g_iconst (iI (-1)) dX8_history_14 rfl ?_
      refine g_iret dX8_history_15 rfl (Nat.le_of_ble_eq_true rfl) (Nat.le_of_ble_eq_true rfl) ⟨C, ?_, rfl, hR⟩
      unfold A_history
      rw [if_neg (by omega)]
  · rw [if_neg hPp]
    refine g_astore_nN 3 dX8_history_5 rfl (Nat.le_of_ble_eq_true rfl) (Nat.le_of_ble_eq_true rfl) rfl ?_
    dsimp only [sto]
    refine g_aload_nN 3 dX8_history_6 rfl rfl ?_
    refine g_ifnullN 14 dX8_history_7 (by decide) ?_
    refine g_iconst (iI (-1)) dX8_history_14 rfl ?_
    refine g_iret dX8_history_15 rfl (Nat.le_of_ble_eq_true rfl) (Nat.le_of_ble_eq_true rfl) ⟨C, ?_, rfl, hR⟩
    unfold A_history
    rw [if_neg (by omega)]
set_option maxHeartbeats 4000000 in
set_option maxRecDepth 100000 in
theorem k_X8_haveSameTaken (Z : LZ) (a : Nat → Nat) (C : Mem) (fS fA : Nat → Option Nat) {D : Mem} (sa sb : Nat → Nat) (N : Nat) (hG : Good D) (hB : Bk D C fS fA sa N) (p q : Nat) (hp : p < 6) (hq : q < 6) : Tr Z jX8_haveSameTaken [.ref (a 99), .ref (a (110 + p)), .ref (a (110 + q))] (cW Z a C fS fA (sW Z D sa sb N)) (fun r w => r = some (.int (iI (bI (allB (sameB (tkB D p) (tkB D q)) 0 N)))) ∧ w = cW Z a C fS fA (sW Z D sa sb N)) := by
  refine tr_of pn_X8_haveSameTaken (Nat.le_of_ble_eq_true rfl) (by intro v h; simp only [List.mem_cons, List.not_mem_nil, or_false] at h; rcases h with h | h | h <;> rw [h] <;> rfl) ?_
  have hn := hB.n
  have h9 := hB.d9
  have loop : ∀ (fuel : Nat) (i : Nat), N - i < fuel → i ≤ N → allB (sameB (tkB D p) (tkB D q)) 0 i = true → G Z jX8_haveSameTaken E0 (QM Z jX8_haveSameTaken (fun r w => r = some (.int (iI (bI (allB (sameB (tkB D p) (tkB D q)) 0 N)))) ∧ w = cW Z a C fS fA (sW Z D sa sb N))) 2 [.ref (a 99), .ref (a (110 + p)), .ref (a (110 + q)), .int (iI (i : Int))] [] (cW Z a C fS fA (sW Z D sa sb N)) 0 0 := by
    intro fuel
    induction fuel with
    | zero => intros; exfalso; omega
    | succ fuel ih =>
      intro i hf h1 hal
      refine g_iload_n 3 dX8_haveSameTaken_2 rfl rfl ?_
      refine g_aload_n 0 dX8_haveSameTaken_3 rfl rfl ?_
      refine cg_mp_book dX8_haveSameTaken_4 flX8_12 ?_
      refine cg_bk_count hB.c1 dX8_haveSameTaken_7 flX8_74 ?_
      refine gi_icmp_ge 50 dX8_haveSameTaken_10 (by decide) (by first | exact bI_Rg _ | assumption | exact ⟨by omega, by omega⟩) (by first | exact bI_Rg _ | assumption | exact ⟨by omega, by omega⟩) (fun c10 => ?_) (fun c10 => ?_)
      · refine g_iconst (iI 1) dX8_haveSameTaken_50 rfl ?_
        refine g_zret dX8_haveSameTaken_51 rfl (narrow_bool (by first | exact Or.inl rfl | exact Or.inr rfl | assumption | omega)) (Nat.le_of_ble_eq_true rfl) (Nat.le_of_ble_eq_true rfl) ⟨?_, rfl⟩
        rw [show N = i by omega, hal]
        rfl
      · have hi : i < N := by omega
        have g1 : decide (C (20 + p) (i : Int) = 2) = tkB D p i := by simp only [hB.tk hG.1 hp hi, Bool.decide_eq_true]
        have g2 : decide (C (20 + q) (i : Int) = 2) = tkB D q i := by simp only [hB.tk hG.1 hq hi, Bool.decide_eq_true]
        have r1 := hB.hrg hp i (by omega) (by omega)
        have r2 := hB.hrg hq i (by omega) (by omega)
        refine g_aload_n 1 dX8_haveSameTaken_13 rfl rfl ?_
        refine g_aload_n 0 dX8_haveSameTaken_14 rfl rfl ?_
        refine cg_mp_book dX8_haveSameTaken_15 flX8_12 ?_
        refine cg_bk_slips dX8_haveSameTaken_18 flX8_141 ?_
        refine g_iload_n 3 dX8_haveSameTaken_21 rfl rfl ?_
        refine ca_slips (s := i) (hB.sl i hi) dX8_haveSameTaken_22 (by omega) (by omega) ?_
        refine ckE lkX8_145 (k_X4_hasTaken Z a C fS fA sa sb N hn p i hp hi ⟨by omega, by omega⟩) dX8_haveSameTaken_23 (And.intro (Nat.le_of_ble_eq_true rfl) (Nat.le_of_ble_eq_true rfl)) (ci := 4) rfl (he_sh p hp) (Nat.le_of_ble_eq_true rfl) rfl rfl (Nat.le_of_ble_eq_true rfl) (Nat.le_of_ble_eq_true rfl) rfl ?_
        rw [g1]
        refine g_aload_n 2 dX8_haveSameTaken_26 rfl rfl ?_
        refine g_aload_n 0 dX8_haveSameTaken_27 rfl rfl ?_
        refine cg_mp_book dX8_haveSameTaken_28 flX8_12 ?_
        refine cg_bk_slips dX8_haveSameTaken_31 flX8_141 ?_
        refine g_iload_n 3 dX8_haveSameTaken_34 rfl rfl ?_
        refine ca_slips (s := i) (hB.sl i hi) dX8_haveSameTaken_35 (by omega) (by omega) ?_
        refine ckE lkX8_145 (k_X4_hasTaken Z a C fS fA sa sb N hn q i hq hi ⟨by omega, by omega⟩) dX8_haveSameTaken_36 (And.intro (Nat.le_of_ble_eq_true rfl) (Nat.le_of_ble_eq_true rfl)) (ci := 4) rfl (he_sh q hq) (Nat.le_of_ble_eq_true rfl) rfl rfl (Nat.le_of_ble_eq_true rfl) (Nat.le_of_ble_eq_true rfl) rfl ?_
        rw [g2]
        refine gi_icmp_eq 44 dX8_haveSameTaken_39 (by decide) (bI_Rg _) (bI_Rg _) (fun c39 => ?_) (fun c39 => ?_)
        · refine gi_inc dX8_haveSameTaken_44 rfl (Nat.le_of_ble_eq_true rfl) rfl ?_
          dsimp only [sto]
          refine g_goto 2 dX8_haveSameTaken_47 (by decide) ?_
          refine ih (i + 1) (by omega) (by omega) ?_
          unfold allB
          rw [hal]
          unfold sameB
          rw [decide_eq_true (by rw [Int.zero_add]; cases e1 : tkB D p i <;> cases e2 : tkB D q i <;> simp_all [bI])]
          rfl
        · refine g_iconst (iI 0) dX8_haveSameTaken_42 rfl ?_
          refine g_zret dX8_haveSameTaken_43 rfl (narrow_bool (by first | exact Or.inl rfl | exact Or.inr rfl | assumption | omega)) (Nat.le_of_ble_eq_true rfl) (Nat.le_of_ble_eq_true rfl) ⟨?_, rfl⟩
          have : allB (sameB (tkB D p) (tkB D q)) 0 N = false := by
            cases e : allB (sameB (tkB D p) (tkB D q)) 0 N
            · rfl
            · have g := (allB_iff _).mp e i (by omega) (by omega)
              unfold sameB at g
              exact absurd (by rw [of_decide_eq_true g]) c39
          rw [this]
          rfl
  refine g_iconst (iI 0) dX8_haveSameTaken_0 rfl ?_
  refine g_istore_n 3 dX8_haveSameTaken_1 rfl (Nat.le_of_ble_eq_true rfl) (Nat.le_of_ble_eq_true rfl) rfl ?_
  dsimp only [sto]
  exact loop (N + 1) 0 (by omega) (by omega) rfl
theorem unF_run {B : Int → Bool} {j : Int} (hj : B j = false) : ∀ (k : Nat) (n : Int), n ≤ j → j - n ≤ k → (∀ i : Int, n ≤ i → i < j → B i = true) → unF B k n = j := by
  intro k
  induction k with
  | zero => intro n h1 h2 _; unfold unF; omega
  | succ k ih =>
    intro n h1 h2 h3
    unfold unF
    by_cases e : n = j
    · rw [e, hj, if_neg (by decide)]
    · rw [h3 n (by omega) (by omega), if_pos rfl]
      exact ih (n + 1) (by omega) (by omega) (fun i a b => h3 i (by omega) b)
theorem nm_rg {D : Mem} (hG : Good D) {T : Int → Bool} {x : Int} (h0 : 0 ≤ x) (h1 : x < txtN D T) : (0 ≤ nmX D T x ∧ nmX D T x < 1024) ∧ 0 ≤ tnX D T x ∧ tnX D T x ≤ 15 := by
  have hat := atF_in (D := D) (T := T) h0 h1
  exact ⟨ord_lt hG (fF_mem hat.1 hat.2.1), tinF_rg D T _⟩
theorem Rd_paint {D C C2 : Mem} {T : Int → Bool} {N : Nat} (h : Rd D T N C) (hq : ∀ q : Nat, q ≠ 76 → C2 q = C q) : Rd D T N C2 := by
  unfold Rd Sd Od Kd Vd at h ⊢
  rw [hq 70 (by decide), hq 77 (by decide), hq 71 (by decide), hq 72 (by decide), hq 73 (by decide), hq 74 (by decide), hq 78 (by decide), hq 75 (by decide)]
  exact h
theorem Rel_paint {D C C2 : Mem} {fS fA : Nat → Option Nat} {sa : Nat → Nat} {N : Nat} (h : Rel D C fS fA sa N) (hq : ∀ q : Nat, q ≠ 76 → C2 q = C q) : Rel D C2 fS fA sa N := ⟨h.1.keep (fun r hr => hq r (by omega)), fun x a b c => by rw [hq 72 (by decide)]; exact h.2 x a b c⟩
set_option maxHeartbeats 4000000 in
set_option maxRecDepth 100000 in
theorem k_X8_placesAlike (Z : LZ) (a : Nat → Nat) (C : Mem) (fS fA : Nat → Option Nat) {D : Mem} (sa sb : Nat → Nat) (N : Nat) (hG : Good D) (hI : Inv D) (hR : Rel D C fS fA sa N) (p q : Nat) (hp : p < 6) (hq : q < 6) : Tr Z jX8_placesAlike [.ref (a 99), .ref (a (110 + p)), .ref (a (110 + q))] (cW Z a C fS fA (sW Z D sa sb N)) (fun r w => ∃ C3 : Mem, r = some (.int (iI (unF (eqX D (tkB D p) (tkB D q)) 800 0))) ∧ w = cW Z a C3 fS fA (sW Z D sa sb N) ∧ Rel D C3 fS fA sa N) := by
  refine tr_of pn_X8_placesAlike (Nat.le_of_ble_eq_true rfl) (by intro v h; simp only [List.mem_cons, List.not_mem_nil, or_false] at h; rcases h with h | h | h <;> rw [h] <;> rfl) ?_
  have hB := hR.1
  have hn := hB.n
  have h9 := hB.d9
  have hM := hG.1.1
  have hlp := ordF_len hG.1 hG.2.1 (tkB_Cl hG.1 p)
  have htp := txtN_rg hG.1 hG.2.1 (tkB_Cl hG.1 p)
  have hlq := ordF_len hG.1 hG.2.1 (tkB_Cl hG.1 q)
  have htq := txtN_rg hG.1 hG.2.1 (tkB_Cl hG.1 q)
  have loop2 : ∀ (C2 : Mem), Rel D C2 fS fA sa N → Rd D (tkB D q) N C2 → Pt D (tkB D q) C2 → (∀ i : Int, 0 ≤ i → i < txtN D (tkB D p) → C2 80 i = nmX D (tkB D p) i * 16 + tnX D (tkB D p) i) → ∀ (fuel : Nat) (j : Int), 1000 - j < fuel → 0 ≤ j → (∀ i : Int, 0 ≤ i → i < j → eqX D (tkB D p) (tkB D q) i = true) → G Z jX8_placesAlike E0 (QM Z jX8_placesAlike (fun r w => ∃ C3 : Mem, r = some (.int (iI (unF (eqX D (tkB D p) (tkB D q)) 800 0))) ∧ w = cW Z a C3 fS fA (sW Z D sa sb N) ∧ Rel D C3 fS fA sa N)) 90 [.ref (a 99), .ref (a (110 + p)), .ref (a (110 + q)), .int (iI (if txtN D (tkB D q) < txtN D (tkB D p) then txtN D (tkB D q) else txtN D (tkB D p))), .int (iI j)] [] (cW Z a C2 fS fA (sW Z D sa sb N)) 0 0 := by
    intro C2 hrl dq hpq hlk fuel
    induction fuel with
    | zero => intros; exfalso
              rename_i j h1 h2 h3
              have : j ≤ 768 := by
                apply Classical.byContradiction
                intro g
                have := h3 768 (by omega) (by omega)
                unfold eqX at this
                have := of_decide_eq_true this
                omega
              omega
    | succ fuel ih =>
      intro j hf h0 hall
      have hj8 : j ≤ 768 := by
        apply Classical.byContradiction
        intro g
        have := hall 768 (by omega) (by omega)
        unfold eqX at this
        have := of_decide_eq_true this
        omega
      refine g_iload dX8_placesAlike_90 rfl ?_
      refine g_iload_n 3 dX8_placesAlike_92 rfl rfl ?_
      refine gi_icmp_ge 121 dX8_placesAlike_93 (by decide) ⟨by omega, by omega⟩ (by split <;> exact ⟨by omega, by omega⟩) (fun c91 => ?_) (fun c91 => ?_)
      · refine g_iload dX8_placesAlike_121 rfl ?_
        refine g_iret dX8_placesAlike_123 rfl (Nat.le_of_ble_eq_true rfl) (Nat.le_of_ble_eq_true rfl) ⟨C2, ?_, rfl, hrl⟩
        rw [unF_run (j := j) ?_ 800 0 h0 (by omega) hall]
        unfold eqX
        refine decide_eq_false (fun g => ?_)
        split at c91 <;> omega
      · have hj1 : j < txtN D (tkB D p) ∧ j < txtN D (tkB D q) := by
          split at c91 <;> omega
        have n1 := nm_rg hG (T := tkB D p) h0 hj1.1
        have n2 := nm_rg hG (T := tkB D q) h0 hj1.2
        refine g_aload_n 0 dX8_placesAlike_96 rfl rfl ?_
        refine cg_mp_looks dX8_placesAlike_97 flX8_34 ?_
        refine g_iload dX8_placesAlike_100 rfl ?_
        refine ca_80 (hlk j h0 hj1.1) dX8_placesAlike_102 (by omega) (by omega) ?_
        refine g_aload_n 0 dX8_placesAlike_103 rfl rfl ?_
        refine cg_mp_reading dX8_placesAlike_104 flX8_30 ?_
        refine g_iload dX8_placesAlike_107 rfl ?_
        refine ckE lkX8_244 (k_X3_lookAt Z a C2 fS fA sa sb N hG (tkB_Cl hG.1 q) dq hpq j h0 hj1.2) dX8_placesAlike_109 (And.intro (Nat.le_of_ble_eq_true rfl) (Nat.le_of_ble_eq_true rfl)) (ci := 3) (q0 := 30) rfl rfl (Nat.le_of_ble_eq_true rfl) rfl rfl (Nat.le_of_ble_eq_true rfl) (Nat.le_of_ble_eq_true rfl) rfl ?_
        refine gi_icmp_ne 121 dX8_placesAlike_112 (by decide) ⟨by omega, by omega⟩ ⟨by omega, by omega⟩ (fun c110 => ?_) (fun c110 => ?_)
        · refine g_iload dX8_placesAlike_121 rfl ?_
          refine g_iret dX8_placesAlike_123 rfl (Nat.le_of_ble_eq_true rfl) (Nat.le_of_ble_eq_true rfl) ⟨C2, ?_, rfl, hrl⟩
          rw [unF_run (j := j) ?_ 800 0 h0 (by omega) hall]
          unfold eqX
          refine decide_eq_false (fun g => ?_)
          omega
        · refine gi_inc dX8_placesAlike_115 rfl (Nat.le_of_ble_eq_true rfl) rfl ?_
          dsimp only [sto]
          refine g_goto 90 dX8_placesAlike_118 (by decide) ?_
          refine ih (j + 1) (by omega) (by omega) (fun i a b => ?_)
          by_cases e : i = j
          · rw [e]
            unfold eqX
            exact decide_eq_true ⟨hj1, by omega, by omega⟩
          · exact hall i a (by omega)
  have loop : ∀ (fuel : Nat) (C2 : Mem) (i : Nat), txtN D (tkB D p) - i < fuel → (i : Int) ≤ txtN D (tkB D p) → Rel D C2 fS fA sa N → Rd D (tkB D p) N C2 → Pt D (tkB D p) C2 → (∀ k : Int, 0 ≤ k → k < i → C2 80 k = nmX D (tkB D p) k * 16 + tnX D (tkB D p) k) → G Z jX8_placesAlike E0 (QM Z jX8_placesAlike (fun r w => ∃ C3 : Mem, r = some (.int (iI (unF (eqX D (tkB D p) (tkB D q)) 800 0))) ∧ w = cW Z a C3 fS fA (sW Z D sa sb N) ∧ Rel D C3 fS fA sa N)) 29 [.ref (a 99), .ref (a (110 + p)), .ref (a (110 + q)), .int (iI (txtN D (tkB D p))), .int (iI (i : Int))] [] (cW Z a C2 fS fA (sW Z D sa sb N)) 0 0 := by
    intro fuel
    induction fuel with
    | zero => intros; exfalso; omega
    | succ fuel ih =>
      intro C2 i hf h1 hrl dp hpp hlk
      refine g_iload dX8_placesAlike_29 rfl ?_
      refine g_iload_n 3 dX8_placesAlike_31 rfl rfl ?_
      refine gi_icmp_ge 57 dX8_placesAlike_32 (by decide) (by first | exact bI_Rg _ | assumption | exact ⟨by omega, by omega⟩) (by first | exact bI_Rg _ | assumption | exact ⟨by omega, by omega⟩) (fun c31 => ?_) (fun c31 => ?_)
      · refine g_aload_n 0 dX8_placesAlike_57 rfl rfl ?_
        refine cg_mp_reading dX8_placesAlike_58 flX8_30 ?_
        refine g_aload_n 2 dX8_placesAlike_61 rfl rfl ?_
        refine g_sipush (iI 256) dX8_placesAlike_62 (by decide) ?_
        refine ckX lkX8_50 (k_X3_read Z a C2 fS fA sa sb N hG hI.1 hrl.1 hrl.2 (tkB D q) (tkB_Cl hG.1 q) (tk_U hG h9 q) q hq 256 ⟨by decide, by decide⟩ (tk_T hG h9 hn rfl)) dX8_placesAlike_65 (And.intro (Nat.le_of_ble_eq_true rfl) (Nat.le_of_ble_eq_true rfl)) (ci := 3) (q0 := 30) rfl rfl (Nat.le_of_ble_eq_true rfl) rfl rfl (Nat.le_of_ble_eq_true rfl) (Nat.le_of_ble_eq_true rfl) rfl (fun C63 h63 => ?_)
        have r63 : Rel D C63 fS fA sa N := hrl.rd h63.1 h63.2.1
        have d63 := h63.2.2
        refine g_aload_n 0 dX8_placesAlike_68 rfl rfl ?_
        refine cg_mp_reading dX8_placesAlike_69 flX8_30 ?_
        refine ckX lkX8_188 (k_X3_paint Z a C63 fS fA sa sb N hG hI.2.2.1 r63.1 (tkB_Cl hG.1 q) (tk_M hG h9 q) d63) dX8_placesAlike_72 (And.intro (Nat.le_of_ble_eq_true rfl) (Nat.le_of_ble_eq_true rfl)) (ci := 3) (q0 := 30) rfl rfl (Nat.le_of_ble_eq_true rfl) rfl rfl (Nat.le_of_ble_eq_true rfl) (Nat.le_of_ble_eq_true rfl) rfl (fun C70 h70 => ?_)
        have r70 := Rel_paint r63 h70.1
        have d70 := Rd_paint d63 h70.1
        refine g_iload_n 3 dX8_placesAlike_75 rfl rfl ?_
        refine g_aload_n 0 dX8_placesAlike_76 rfl rfl ?_
        refine cg_mp_reading dX8_placesAlike_77 flX8_30 ?_
        refine cg_rd_textSize d70.2.2.2.2.1 dX8_placesAlike_80 flX8_58 ?_
        refine g_mmin dX8_placesAlike_83 lkmX8_247 mst_min min_ mcd_min (Nat.le_of_ble_eq_true rfl) (Nat.le_of_ble_eq_true rfl) (Nat.le_of_ble_eq_true rfl) (Nat.le_of_ble_eq_true rfl) (by first | exact bI_Rg _ | assumption | exact ⟨by omega, by omega⟩) (by first | exact bI_Rg _ | assumption | exact ⟨by omega, by omega⟩) ?_
        refine g_istore_n 3 dX8_placesAlike_86 rfl (Nat.le_of_ble_eq_true rfl) (Nat.le_of_ble_eq_true rfl) rfl ?_
        dsimp only [sto]
        refine g_iconst (iI 0) dX8_placesAlike_87 rfl ?_
        refine g_istore dX8_placesAlike_88 (Nat.le_of_ble_eq_true rfl) (Nat.le_of_ble_eq_true rfl) rfl ?_
        dsimp only [sto]
        exact loop2 C70 r70 d70 h70.2 (fun i a b => by rw [h70.1 80 (by decide), h63.1 80 (Or.inr rfl)]; exact hlk i a (by omega)) 1001 0 (by omega) (by omega) (fun i a b => by omega)
      · refine g_aload_n 0 dX8_placesAlike_35 rfl rfl ?_
        refine cg_mp_looks dX8_placesAlike_36 flX8_34 ?_
        refine g_iload dX8_placesAlike_39 rfl ?_
        refine g_aload_n 0 dX8_placesAlike_41 rfl rfl ?_
        refine cg_mp_reading dX8_placesAlike_42 flX8_30 ?_
        refine g_iload dX8_placesAlike_45 rfl ?_
        refine ckE lkX8_244 (k_X3_lookAt Z a C2 fS fA sa sb N hG (tkB_Cl hG.1 p) dp hpp i (by omega) (by omega)) dX8_placesAlike_47 (And.intro (Nat.le_of_ble_eq_true rfl) (Nat.le_of_ble_eq_true rfl)) (ci := 3) (q0 := 30) rfl rfl (Nat.le_of_ble_eq_true rfl) rfl rfl (Nat.le_of_ble_eq_true rfl) (Nat.le_of_ble_eq_true rfl) rfl ?_
        refine ct_80 dX8_placesAlike_50 (by omega) (by omega) ?_
        refine gi_inc dX8_placesAlike_51 rfl (Nat.le_of_ble_eq_true rfl) rfl ?_
        dsimp only [sto]
        refine g_goto 29 dX8_placesAlike_54 (by decide) ?_
        refine ih (ms C2 80 i _) (i + 1) (by omega) (by omega) ?_ ?_ ?_ (fun k a b => ?_)
        · exact ⟨hrl.1.keep (PsC.ms (PsC.refl _) (by omega)), fun x a b c => by rw [ms_row (by decide)]; exact hrl.2 x a b c⟩
        · unfold Rd Sd Od Kd Vd at dp ⊢
          simp only [ms_row (show (70 : Nat) ≠ 80 by decide), ms_row (show (77 : Nat) ≠ 80 by decide), ms_row (show (71 : Nat) ≠ 80 by decide), ms_row (show (72 : Nat) ≠ 80 by decide), ms_row (show (73 : Nat) ≠ 80 by decide), ms_row (show (74 : Nat) ≠ 80 by decide), ms_row (show (78 : Nat) ≠ 80 by decide), ms_row (show (75 : Nat) ≠ 80 by decide)]
          exact dp
        · intro k a b
          rw [ms_row (by decide)]
          exact hpp k a b
        · by_cases e : k = i
          · rw [e, ms_at]
          · rw [ms_off e]
            exact hlk k a (by omega)
  refine g_aload_n 0 dX8_placesAlike_0 rfl rfl ?_
  refine cg_mp_reading dX8_placesAlike_1 flX8_30 ?_
  refine g_aload_n 1 dX8_placesAlike_4 rfl rfl ?_
  refine g_sipush (iI 256) dX8_placesAlike_5 (by decide) ?_
  refine ckX lkX8_50 (k_X3_read Z a C fS fA sa sb N hG hI.1 hR.1 hR.2 (tkB D p) (tkB_Cl hG.1 p) (tk_U hG h9 p) p hp 256 ⟨by decide, by decide⟩ (tk_T hG h9 hn rfl)) dX8_placesAlike_8 (And.intro (Nat.le_of_ble_eq_true rfl) (Nat.le_of_ble_eq_true rfl)) (ci := 3) (q0 := 30) rfl rfl (Nat.le_of_ble_eq_true rfl) rfl rfl (Nat.le_of_ble_eq_true rfl) (Nat.le_of_ble_eq_true rfl) rfl (fun C7 h7 => ?_)
  have r7 : Rel D C7 fS fA sa N := hR.rd h7.1 h7.2.1
  have d7 := h7.2.2
  refine g_aload_n 0 dX8_placesAlike_11 rfl rfl ?_
  refine cg_mp_reading dX8_placesAlike_12 flX8_30 ?_
  refine ckX lkX8_188 (k_X3_paint Z a C7 fS fA sa sb N hG hI.2.2.1 r7.1 (tkB_Cl hG.1 p) (tk_M hG h9 p) d7) dX8_placesAlike_15 (And.intro (Nat.le_of_ble_eq_true rfl) (Nat.le_of_ble_eq_true rfl)) (ci := 3) (q0 := 30) rfl rfl (Nat.le_of_ble_eq_true rfl) rfl rfl (Nat.le_of_ble_eq_true rfl) (Nat.le_of_ble_eq_true rfl) rfl (fun C14 h14 => ?_)
  have r14 := Rel_paint r7 h14.1
  have d14 := Rd_paint d7 h14.1
  refine g_aload_n 0 dX8_placesAlike_18 rfl rfl ?_
  refine cg_mp_reading dX8_placesAlike_19 flX8_30 ?_
  refine cg_rd_textSize d14.2.2.2.2.1 dX8_placesAlike_22 flX8_58 ?_
  refine g_istore_n 3 dX8_placesAlike_25 rfl (Nat.le_of_ble_eq_true rfl) (Nat.le_of_ble_eq_true rfl) rfl ?_
  dsimp only [sto]
  refine g_iconst (iI 0) dX8_placesAlike_26 rfl ?_
  refine g_istore dX8_placesAlike_27 (Nat.le_of_ble_eq_true rfl) (Nat.le_of_ble_eq_true rfl) rfl ?_
  dsimp only [sto]
  exact loop ((txtN D (tkB D p)).toNat + 1) C14 0 (by omega) (by omega) r14 d14 h14.2 (fun k a b => by omega)
set_option maxHeartbeats 4000000 in
set_option maxRecDepth 100000 in
theorem k_X8_unlike (Z : LZ) (a : Nat → Nat) (C : Mem) (fS fA : Nat → Option Nat) {D : Mem} (sa sb : Nat → Nat) (N : Nat) (hG : Good D) (hI : Inv D) (hR : Rel D C fS fA sa N) (p q : Int) (hp : Rg p) (hq : Rg q) : Tr Z jX8_unlike [.ref (a 99), .int (iI p), .int (iI q)] (cW Z a C fS fA (sW Z D sa sb N)) (fun r w => ∃ C2 : Mem, r = some (.int (iI (A_unlike D p q))) ∧ w = cW Z a C2 fS fA (sW Z D sa sb N) ∧ Rel D C2 fS fA sa N) := by
  refine tr_of pn_X8_unlike (Nat.le_of_ble_eq_true rfl) (by intro v h; simp only [List.mem_cons, List.not_mem_nil, or_false] at h; rcases h with h | h | h <;> rw [h] <;> rfl) ?_
  have hB := hR.1
  have hn := hB.n
  have h9 := hB.d9
  have hM := hG.1.1
  refine g_aload_n 0 dX8_unlike_0 rfl rfl ?_
  refine g_iload_n 1 dX8_unlike_1 rfl rfl ?_
  refine ckE lkX8_42 (k_X8_sheetOf Z a C fS fA _ p hp) dX8_unlike_2 (And.intro (Nat.le_of_ble_eq_true rfl) (Nat.le_of_ble_eq_true rfl)) (ci := 7) (q0 := 0) rfl rfl (Nat.le_of_ble_eq_true rfl) rfl rfl (Nat.le_of_ble_eq_true rfl) (Nat.le_of_ble_eq_true rfl) rfl ?_
  by_cases hPp : 0 ≤ p ∧ p < 6
  · rw [if_pos hPp]
    have hnp : p.toNat < 6 := by omega
    have hep : ((p.toNat : Nat) : Int) = p := by omega
    refine g_astore_n 3 dX8_unlike_5 rfl (Nat.le_of_ble_eq_true rfl) (Nat.le_of_ble_eq_true rfl) rfl ?_
    dsimp only [sto]
    refine g_aload_n 0 dX8_unlike_6 rfl rfl ?_
    refine g_iload_n 2 dX8_unlike_7 rfl rfl ?_
    refine ckE lkX8_42 (k_X8_sheetOf Z a C fS fA _ q hq) dX8_unlike_8 (And.intro (Nat.le_of_ble_eq_true rfl) (Nat.le_of_ble_eq_true rfl)) (ci := 7) (q0 := 0) rfl rfl (Nat.le_of_ble_eq_true rfl) rfl rfl (Nat.le_of_ble_eq_true rfl) (Nat.le_of_ble_eq_true rfl) rfl ?_
    by_cases hPq : 0 ≤ q ∧ q < 6
    · rw [if_pos hPq]
      have hnq : q.toNat < 6 := by omega
      have heq : ((q.toNat : Nat) : Int) = q := by omega
      refine g_astore dX8_unlike_11 (Nat.le_of_ble_eq_true rfl) (Nat.le_of_ble_eq_true rfl) rfl ?_
      dsimp only [sto]
      refine g_aload_n 3 dX8_unlike_13 rfl rfl ?_
      refine g_ifnull dX8_unlike_14 ?_
      refine g_aload dX8_unlike_17 rfl ?_
      refine g_ifnonnull 24 dX8_unlike_19 (by decide) ?_
      refine g_aload_n 0 dX8_unlike_24 rfl rfl ?_
      refine g_aload_n 3 dX8_unlike_25 rfl rfl ?_
      refine g_aload dX8_unlike_26 rfl ?_
      refine ckE lkX8_221 (k_X8_haveSameTaken Z a C fS fA sa sb N hG hB p.toNat q.toNat hnp hnq) dX8_unlike_28 (And.intro (Nat.le_of_ble_eq_true rfl) (Nat.le_of_ble_eq_true rfl)) (ci := 7) (q0 := 0) rfl rfl (Nat.le_of_ble_eq_true rfl) rfl rfl (Nat.le_of_ble_eq_true rfl) (Nat.le_of_ble_eq_true rfl) rfl ?_
      rw [hep, heq]
      refine gi_if_eq 38 dX8_unlike_31 (by decide) (bI_Rg _) (fun c31 => ?_) (fun c31 => ?_)
      · refine g_iconst (iI 1) dX8_unlike_38 rfl ?_
        refine g_aload_n 0 dX8_unlike_39 rfl rfl ?_
        refine g_aload_n 3 dX8_unlike_40 rfl rfl ?_
        refine g_aload dX8_unlike_41 rfl ?_
        refine ckY lkX8_225 (k_X8_placesAlike Z a C fS fA sa sb N hG hI hR p.toNat q.toNat hnp hnq) dX8_unlike_43 (And.intro (Nat.le_of_ble_eq_true rfl) (Nat.le_of_ble_eq_true rfl)) (ci := 7) (q0 := 0) rfl rfl (Nat.le_of_ble_eq_true rfl) rfl rfl (Nat.le_of_ble_eq_true rfl) (Nat.le_of_ble_eq_true rfl) rfl (fun C43 h43 => ?_)
        refine gi_add dX8_unlike_46 ?_
        refine g_iret dX8_unlike_47 rfl (Nat.le_of_ble_eq_true rfl) (Nat.le_of_ble_eq_true rfl) ⟨_, ?_, rfl, by first | exact h43 | exact hR⟩
        unfold A_unlike
        rw [if_pos ⟨hPp, hPq⟩, show (D 9 0).toNat = N by omega, if_neg (by rw [bI_eq0.mp c31]; decide), hep, heq, Int.add_comm]
      · refine g_iconst (iI 0) dX8_unlike_34 rfl ?_
        refine g_goto 47 dX8_unlike_35 (by decide) ?_
        refine g_iret dX8_unlike_47 rfl (Nat.le_of_ble_eq_true rfl) (Nat.le_of_ble_eq_true rfl) ⟨_, ?_, rfl, by first | exact h43 | exact hR⟩
        unfold A_unlike
        rw [if_pos ⟨hPp, hPq⟩, show (D 9 0).toNat = N by omega, if_pos (bI_true c31)]
    · rw [if_neg hPq]
      refine g_astoreN dX8_unlike_11 (Nat.le_of_ble_eq_true rfl) (Nat.le_of_ble_eq_true rfl) rfl ?_
      dsimp only [sto]
      refine g_aload_n 3 dX8_unlike_13 rfl rfl ?_
      refine g_ifnull dX8_unlike_14 ?_
      refine g_aloadN dX8_unlike_17 rfl ?_
      refine g_ifnonnullN dX8_unlike_19 ?_
      refine g_iconst (iI (-1)) dX8_unlike_22 rfl ?_
      refine g_iret dX8_unlike_23 rfl (Nat.le_of_ble_eq_true rfl) (Nat.le_of_ble_eq_true rfl) ⟨_, ?_, rfl, by first | exact h43 | exact hR⟩
      unfold A_unlike
      rw [if_neg (by omega)]
  · rw [if_neg hPp]
    refine g_astore_nN 3 dX8_unlike_5 rfl (Nat.le_of_ble_eq_true rfl) (Nat.le_of_ble_eq_true rfl) rfl ?_
    dsimp only [sto]
    refine g_aload_n 0 dX8_unlike_6 rfl rfl ?_
    refine g_iload_n 2 dX8_unlike_7 rfl rfl ?_
    refine ckE lkX8_42 (k_X8_sheetOf Z a C fS fA _ q hq) dX8_unlike_8 (And.intro (Nat.le_of_ble_eq_true rfl) (Nat.le_of_ble_eq_true rfl)) (ci := 7) (q0 := 0) rfl rfl (Nat.le_of_ble_eq_true rfl) rfl rfl (Nat.le_of_ble_eq_true rfl) (Nat.le_of_ble_eq_true rfl) rfl ?_
    by_cases hPq : 0 ≤ q ∧ q < 6
    · rw [if_pos hPq]
      have hnq : q.toNat < 6 := by omega
      have heq : ((q.toNat : Nat) : Int) = q := by omega
      refine g_astore dX8_unlike_11 (Nat.le_of_ble_eq_true rfl) (Nat.le_of_ble_eq_true rfl) rfl ?_
      dsimp only [sto]
      refine g_aload_nN 3 dX8_unlike_13 rfl rfl ?_
      refine g_ifnullN 22 dX8_unlike_14 (by decide) ?_
      refine g_iconst (iI (-1)) dX8_unlike_22 rfl ?_
      refine g_iret dX8_unlike_23 rfl (Nat.le_of_ble_eq_true rfl) (Nat.le_of_ble_eq_true rfl) ⟨_, ?_, rfl, by first | exact h43 | exact hR⟩
      unfold A_unlike
      rw [if_neg (by omega)]
    · rw [if_neg hPq]
      refine g_astoreN dX8_unlike_11 (Nat.le_of_ble_eq_true rfl) (Nat.le_of_ble_eq_true rfl) rfl ?_
      dsimp only [sto]
      refine g_aload_nN 3 dX8_unlike_13 rfl rfl ?_
      refine g_ifnullN 22 dX8_unlike_14 (by decide) ?_
      refine g_iconst (iI (-1)) dX8_unlike_22 rfl ?_
      refine g_iret dX8_unlike_23 rfl (Nat.le_of_ble_eq_true rfl) (Nat.le_of_ble_eq_true rfl) ⟨_, ?_, rfl, by first | exact h43 | exact hR⟩
      unfold A_unlike
      rw [if_neg (by omega)]
