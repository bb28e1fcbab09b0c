/-! THE CLASS: lacks, constructors -/
set_option maxHeartbeats 4000000 in
set_option maxRecDepth 100000 in
theorem k_X8_lacks (Z : LZ) (a : Nat → Nat) (C : Mem) (fS fA : Nat → Option Nat) {D : Mem} (sa sb : Nat → Nat) (N : Nat) (hG : Good D) (hI : Inv D) (hR : Rel D C fS fA sa N) (p s : Int) (hp : Rg p) (hs : Rg s) : Tr Z jX8_lacks [.ref (a 99), .int (iI p), .int (iI s)] (cW Z a C fS fA (sW Z D sa sb N)) (fun r w => ∃ C2 : Mem, r = some (.int (iI (A_lacks D p s))) ∧ w = cW Z a C2 fS fA (sW Z D sa sb N) ∧ Rel D C2 fS fA sa N) := by
  refine tr_of pn_X8_lacks (Nat.le_of_ble_eq_true rfl) (by intro v h; simp only [List.mem_cons, List.not_mem_nil, or_false] at h; rcases h with h | h | h <;> rw [h] <;> rfl) ?_
  have hB := hR.1
  have hn := hB.n
  have h9 := hB.d9
  have hM := hG.1.1
  refine g_aload_n 0 dX8_lacks_0 rfl rfl ?_
  refine g_iload_n 1 dX8_lacks_1 rfl rfl ?_
  refine ckE lkX8_42 (k_X8_sheetOf Z a C fS fA _ p hp) dX8_lacks_2 (And.intro (Nat.le_of_ble_eq_true rfl) (Nat.le_of_ble_eq_true rfl)) (ci := 7) (q0 := 0) rfl rfl (Nat.le_of_ble_eq_true rfl) rfl rfl (Nat.le_of_ble_eq_true rfl) (Nat.le_of_ble_eq_true rfl) rfl ?_
  by_cases hPp : 0 ≤ p ∧ p < 6
  · rw [if_pos hPp]
    have hnp : p.toNat < 6 := by omega
    have hep : ((p.toNat : Nat) : Int) = p := by omega
    refine g_astore_n 3 dX8_lacks_5 rfl (Nat.le_of_ble_eq_true rfl) (Nat.le_of_ble_eq_true rfl) rfl ?_
    dsimp only [sto]
    refine g_aload_n 0 dX8_lacks_6 rfl rfl ?_
    refine cg_mp_book dX8_lacks_7 flX8_12 ?_
    refine g_iload_n 2 dX8_lacks_10 rfl rfl ?_
    refine ckE lkX8_109 (k_X0_find Z a C fS fA sa sb N hn hB.c1 hB.sl s hs) dX8_lacks_11 (And.intro (Nat.le_of_ble_eq_true rfl) (Nat.le_of_ble_eq_true rfl)) (ci := 0) (q0 := 1) rfl rfl (Nat.le_of_ble_eq_true rfl) rfl rfl (Nat.le_of_ble_eq_true rfl) (Nat.le_of_ble_eq_true rfl) rfl ?_
    by_cases hFs : 0 ≤ s ∧ s < N
    · rw [if_pos hFs]
      have hss : s.toNat < N := by omega
      have hfs : ((s.toNat : Nat) : Int) = s := by omega
      have hSs := hG.s hB hss
      refine g_astore dX8_lacks_14 (Nat.le_of_ble_eq_true rfl) (Nat.le_of_ble_eq_true rfl) rfl ?_
      dsimp only [sto]
      refine g_aload_n 3 dX8_lacks_16 rfl rfl ?_
      refine g_ifnull dX8_lacks_17 ?_
      refine g_aload dX8_lacks_20 rfl ?_
      refine g_ifnull dX8_lacks_22 ?_
      have hb := hB.held p.toNat s.toNat hnp (by omega)
      rw [if_pos hss, hfs, hep] at hb
      have hrg := hdF_rg D p s
      refine g_aload_n 3 dX8_lacks_25 rfl rfl ?_
      refine cg_sh_held p.toNat hnp dX8_lacks_26 flX8_148 ?_
      refine g_aload dX8_lacks_29 rfl ?_
      refine cg_sl_number hss dX8_lacks_31 flX8_124 ?_
      refine ca_held p.toNat hnp rfl dX8_lacks_34 (by omega) (by omega) ?_
      refine g_iconst (iI 1) dX8_lacks_35 rfl ?_
      refine gi_icmp_eq 41 dX8_lacks_36 (by decide) (by rw [hfs, hb]; exact ⟨by omega, by omega⟩) ⟨by decide, by decide⟩ (fun c36 => ?_) (fun c36 => ?_)
      · refine g_aload_n 3 dX8_lacks_41 rfl rfl ?_
        refine g_aload dX8_lacks_42 rfl ?_
        refine ckE lkX8_151 (k_X4_leastMissing Z a C fS fA sa sb N hM p.toNat s.toNat hnp hss hn hSs (fun t x y => by have := hB.hrg hnp t x y; exact ⟨by omega, by omega⟩)) dX8_lacks_44 (And.intro (Nat.le_of_ble_eq_true rfl) (Nat.le_of_ble_eq_true rfl)) (ci := 4) rfl (he_sh p.toNat hnp) (Nat.le_of_ble_eq_true rfl) rfl rfl (Nat.le_of_ble_eq_true rfl) (Nat.le_of_ble_eq_true rfl) rfl ?_
        refine g_iret dX8_lacks_47 rfl (Nat.le_of_ble_eq_true rfl) (Nat.le_of_ble_eq_true rfl) ⟨C, ?_, rfl, hR⟩
        rw [hfs, hb] at c36
        unfold hdF at c36
        unfold A_lacks
        have e : ¬ D 10 (256 * p + s) = 0 := fun q => by rw [if_pos q] at c36; omega
        have g : tkB D p s = false := by
          cases g : tkB D p s
          · rfl
          · rw [if_neg e, g, if_pos rfl] at c36; omega
        rw [if_pos ⟨hPp, by omega, e⟩, g, if_neg (by decide), lm_ls (T := tkB D p) hSs (by omega) (fun t a b => ?_), hfs]
        have h2 := hB.tk hG.1 hnp (s := t.toNat) (by omega)
        rw [show ((t.toNat : Nat) : Int) = t by omega, hep] at h2
        exact h2
      · refine g_iconst (iI (-1)) dX8_lacks_39 rfl ?_
        refine g_iret dX8_lacks_40 rfl (Nat.le_of_ble_eq_true rfl) (Nat.le_of_ble_eq_true rfl) ⟨C, ?_, rfl, hR⟩
        rw [hfs, hb] at c36
        unfold A_lacks
        unfold hdF at c36
        by_cases e : D 10 (256 * p + s) = 0
        · rw [if_neg (by omega)]
        · rw [if_pos ⟨hPp, by omega, e⟩]
          rw [if_neg e] at c36
          cases g : tkB D p s
          · rw [g, if_neg (by decide)] at c36; exact absurd rfl c36
          · rw [if_pos rfl]
    · rw [if_neg hFs]
      refine g_astoreN dX8_lacks_14 (Nat.le_of_ble_eq_true rfl) (Nat.le_of_ble_eq_true rfl) rfl ?_
      dsimp only [sto]
      refine g_aload_n 3 dX8_lacks_16 rfl rfl ?_
      refine g_ifnull dX8_lacks_17 ?_
      refine g_aloadN dX8_lacks_20 rfl ?_
      refine g_ifnullN 39 dX8_lacks_22 (by decide) ?_
      refine g_iconst (iI (-1)) dX8_lacks_39 rfl ?_
      refine g_iret dX8_lacks_40 rfl (Nat.le_of_ble_eq_true rfl) (Nat.le_of_ble_eq_true rfl) ⟨C, ?_, rfl, hR⟩
      unfold A_lacks
      rw [if_neg (by omega)]
  · rw [if_neg hPp]
    refine g_astore_nN 3 dX8_lacks_5 rfl (Nat.le_of_ble_eq_true rfl) (Nat.le_of_ble_eq_true rfl) rfl ?_
    dsimp only [sto]
    refine g_aload_n 0 dX8_lacks_6 rfl rfl ?_
    refine cg_mp_book dX8_lacks_7 flX8_12 ?_
    refine g_iload_n 2 dX8_lacks_10 rfl rfl ?_
    refine ckE lkX8_109 (k_X0_find Z a C fS fA sa sb N hn hB.c1 hB.sl s hs) dX8_lacks_11 (And.intro (Nat.le_of_ble_eq_true rfl) (Nat.le_of_ble_eq_true rfl)) (ci := 0) (q0 := 1) rfl rfl (Nat.le_of_ble_eq_true rfl) rfl rfl (Nat.le_of_ble_eq_true rfl) (Nat.le_of_ble_eq_true rfl) rfl ?_
    by_cases hFs : 0 ≤ s ∧ s < N
    · rw [if_pos hFs]
      have hss : s.toNat < N := by omega
      have hfs : ((s.toNat : Nat) : Int) = s := by omega
      have hSs := hG.s hB hss
      refine g_astore dX8_lacks_14 (Nat.le_of_ble_eq_true rfl) (Nat.le_of_ble_eq_true rfl) rfl ?_
      dsimp only [sto]
      refine g_aload_nN 3 dX8_lacks_16 rfl rfl ?_
      refine g_ifnullN 39 dX8_lacks_17 (by decide) ?_
      refine g_iconst (iI (-1)) dX8_lacks_39 rfl ?_
      refine g_iret dX8_lacks_40 rfl (Nat.le_of_ble_eq_true rfl) (Nat.le_of_ble_eq_true rfl) ⟨C, ?_, rfl, hR⟩
      unfold A_lacks
      rw [if_neg (by omega)]
    · rw [if_neg hFs]
      refine g_astoreN dX8_lacks_14 (Nat.le_of_ble_eq_true rfl) (Nat.le_of_ble_eq_true rfl) rfl ?_
      dsimp only [sto]
      refine g_aload_nN 3 dX8_lacks_16 rfl rfl ?_
      refine g_ifnullN 39 dX8_lacks_17 (by decide) ?_
      refine g_iconst (iI (-1)) dX8_lacks_39 rfl ?_
      refine g_iret dX8_lacks_40 rfl (Nat.le_of_ble_eq_true rfl) (Nat.le_of_ble_eq_true rfl) ⟨C, ?_, rfl, hR⟩
      unfold A_lacks
      rw [if_neg (by omega)]
section NRow
variable {Z : LZ} {J : MD} {E : State → Array Value → (Nat → Prop) → Prop} {Q : List Frame → Array Value → State → (Nat → Prop) → State → Prop} {pc : Nat} {ls st : List Value} {k n : Nat} {ws : va_W}
def lkIN (own : String) (i : Nat) (host : String) (J2 : MD) (n : Nat) : Prop := Cond.methodLinkNest own i J2.1 host ∈ NWs ∧ Cond.instanceMethod J2.1 ∈ WT ∧ Cond.initialized J2.1.cls ∈ WT ∧ cdW J2 ∈ WT ∧ nDesc J2.1 n ∧ J2.1.name = "<init>" ∧ J2.2.2.2.1 = none
theorem g_callIN {post : Option Value → va_W → Prop} {J2 : MD} {As : List Value} {b i : Nat} {host : String} {wc wr : va_W} (ic ir : List Nat) (hlk : lkIN J.1.cls i host J2 As.length) (hT : Tr Z J2 (.ref b :: As) wc post) (d : decode J.2.1 pc = .ok (.invokespecial i, 3)) (hfit : fitR J J2)
    (hC : ic.map (fun i => ws[i]?) = wc.map some) (hR : ir.map (fun i => ws[i]?) = wr.map some) (hn : va_nd ir = true) (hdis : ∀ i ∈ ir, i ∉ ic) (hnc : va_nd ic = true) (hst : (st.map fun v => v.category).sum ≤ 8) (h1 : k + J2.2.2.2.2.cells ≤ J.2.2.2.2.cells) (h2 : n + J2.2.2.2.2.slots ≤ J.2.2.2.2.slots)
    (K : ∀ (r : Option Value) (w2 : va_W), post r w2 → G Z J E Q (pc + 3) ls (r.toList ++ st) (wr ++ w2) (k + J2.2.2.2.2.cells) (n + J2.2.2.2.2.slots)) {st2 : List Value} (hs : As.reverse ++ .ref b :: st = st2) : G Z J E Q pc ls st2 ws k n := by
  intro p l e s m args below meth c A H locs lsA C hE hP hD hS hL
  subst hs
  obtain ⟨l1, l2, l4, l5, l6, l7, l8⟩ := hlk
  have hPc : va_P Z.1 vwCl wc H := by
    intro j q hq
    have h1 : (ic.map (fun i => ws[i]?))[j]? = some (some q) := by rw [hC, List.getElem?_map, hq]; rfl
    rw [List.getElem?_map] at h1
    cases hi : ic[j]? with
    | none => rw [hi] at h1; cases h1
    | some i => rw [hi] at h1; exact hP i q (Option.some.inj h1)
  have hDc := hD.sub ic hnc hC
  have hFc := va_free (wc := wc) hD hS C.hA ic hC
  have hM := hT l H.size
  have l5' := l5
  unfold cdW at l5'
  rw [l8] at hM l5'
  refine va_callg (va_runIN (As := As) (rest := st) ⟨C.ex, C.by, C.ml, C.ow, C.ts⟩ hM ⟨va_cnB As.length C.ts (wt_GI_cons l5' wt_GI) rfl rfl rfl (C.en.2.1 _ l1) (C.ts _ l4) l6 hfit, l7, C.ts _ l2⟩ ⟨pcB, fun U hU hW => ⟨rfl, by rw [hU], by rw [hU]; exact hPc, C.en.warm hW, hDc.weaken (fun _ _ _ _ => trivial)⟩⟩ rfl rfl (hL.size) rfl (lv_room hst) d ⟨h1, h2⟩) hS (fun q _ h => hFc q h) hFc (fun r w2 H1 locs1 hp hP1 hD1 hz hk1 hS1 => ?_)
  obtain ⟨hP2, hD2⟩ := va_join (wr := wr) (w1 := w2) hP hD ic ir hC hR hn hdis hk1 hFc hP1 hD1
  exact K r w2 hp p l e s m args below meth c A H1 locs1 lsA C hE hP2 hD2 hS1 hL
end NRow
theorem lkinX8_11 : lkIN RX8 11 "ManyPens" jX0_init 0 := ⟨by decide +kernel, wt_of 69 (by decide +kernel) rfl, inX0, cd_X0_init, ⟨by decide +kernel, by decide +kernel, by decide +kernel⟩, rfl, rfl⟩
set_option maxHeartbeats 4000000 in
set_option maxRecDepth 100000 in
theorem k_initB (Z : LZ) (b : Nat) : Tr Z jX0_init [.ref b] [(b, .inr (0, [.null, .null, .null, .int (iI 0), .int (iI 0)]))] (fun r w => ∃ q1 q2 q3 : Nat, r = none ∧ w = [(b, .inr (0, [.ref q1, .ref q2, .ref q3, .int (iI 0), .int (iI 0)])), (q1, .inl (Z.2 2, 256, .inr (.inr (.inr (.inr (fun _ => none)))))), (q2, .inl (Z.2 2, 256, .inr (.inr (.inr (.inr (fun _ => none)))))), (q3, .inl (Z.2 0, 768, .inl (rowI (fun _ => 0))))]) := by
  refine tr_of pn_X0_init (Nat.le_of_ble_eq_true rfl) (by intro v h; simp only [List.mem_cons, List.not_mem_nil, or_false] at h; rw [h]; rfl) ?_
  refine g_aload_n 0 dX0_init_0 rfl rfl ?_
  refine g_objInit dX0_init_1 oi_X0 (Nat.le_of_ble_eq_true rfl) (Nat.le_of_ble_eq_true rfl) ?_
  refine g_aload_n 0 dX0_init_4 rfl rfl ?_
  refine g_sipush (iI (256 : Nat)) dX0_init_5 (by decide) ?_
  refine g_newq2 256 dX0_init_8 clX0_9 (by decide) (Nat.le_of_ble_eq_true rfl) (Nat.le_of_ble_eq_true rfl) (fun q1 => ?_)
  refine g_putF 0 0 0 tyX0 (ws2 := [(b, .inr (0, [.ref q1, .null, .null, .int (iI 0), .int (iI 0)])), (q1, .inl (Z.2 2, 256, .inr (.inr (.inr (.inr (fun _ => none))))))]) dX0_init_11 rfl fwX0 tyX0_ok nmX0 (by decide) flX0_11 rfl rfl rfl rfl rfl rfl (Nat.le_of_ble_eq_true rfl) rfl ?_
  refine g_aload_n 0 dX0_init_14 rfl rfl ?_
  refine g_sipush (iI (256 : Nat)) dX0_init_15 (by decide) ?_
  refine g_newq2 256 dX0_init_18 clX0_9 (by decide) (Nat.le_of_ble_eq_true rfl) (Nat.le_of_ble_eq_true rfl) (fun q2 => ?_)
  refine g_putF 0 0 1 tyX0 (ws2 := [(b, .inr (0, [.ref q1, .ref q2, .null, .int (iI 0), .int (iI 0)])), (q1, .inl (Z.2 2, 256, .inr (.inr (.inr (.inr (fun _ => none)))))), (q2, .inl (Z.2 2, 256, .inr (.inr (.inr (.inr (fun _ => none))))))]) dX0_init_21 rfl fwX0 tyX0_ok nmX0 (by decide) flX0_17 rfl rfl rfl rfl rfl rfl (Nat.le_of_ble_eq_true rfl) rfl ?_
  refine g_aload_n 0 dX0_init_24 rfl rfl ?_
  refine g_sipush (iI (768 : Nat)) dX0_init_25 (by decide) ?_
  refine g_newI 768 dX0_init_28 (by decide) (Nat.le_of_ble_eq_true rfl) (Nat.le_of_ble_eq_true rfl) (fun q3 => ?_)
  refine g_putF 0 0 2 tyX0 (ws2 := [(b, .inr (0, [.ref q1, .ref q2, .ref q3, .int (iI 0), .int (iI 0)])), (q1, .inl (Z.2 2, 256, .inr (.inr (.inr (.inr (fun _ => none)))))), (q2, .inl (Z.2 2, 256, .inr (.inr (.inr (.inr (fun _ => none)))))), (q3, .inl (Z.2 0, 768, .inl (rowI (fun _ => 0))))]) dX0_init_30 rfl fwX0 tyX0_ok nmX0 (by decide) flX0_20 rfl rfl rfl rfl rfl rfl (Nat.le_of_ble_eq_true rfl) rfl ?_
  exact g_vret dX0_init_33 rfl (Nat.le_of_ble_eq_true rfl) (Nat.le_of_ble_eq_true rfl) ⟨q1, q2, q3, rfl, rfl⟩
set_option maxHeartbeats 4000000 in
set_option maxRecDepth 100000 in
theorem k_initS (Z : LZ) (b : Nat) (p : Int) : Tr Z jX4_init [.ref b, .int (iI p)] [(b, .inr (4, [.int (iI 0), .null, .null, .null, .int (iI 0), .int (iI 0)]))] (fun r w => ∃ q1 q2 q3 : Nat, r = none ∧ w = [(b, .inr (4, [.int (iI p), .ref q1, .ref q2, .ref q3, .int (iI 0), .int (iI (-1))])), (q1, .inl (Z.2 0, 256, .inl (rowI (fun _ => 0)))), (q2, .inl (Z.2 0, 3, .inl (rowI (fun _ => 0)))), (q3, .inl (Z.2 0, 3, .inl (rowI (fun x => if 0 ≤ x ∧ x < 3 then -1 else 0))))]) := by
  refine tr_of pn_X4_init (Nat.le_of_ble_eq_true rfl) (by intro v h; simp only [List.mem_cons, List.not_mem_nil, or_false] at h; rcases h with h | h <;> rw [h] <;> rfl) ?_
  refine g_aload_n 0 dX4_init_0 rfl rfl ?_
  refine g_objInit dX4_init_1 oi_X4 (Nat.le_of_ble_eq_true rfl) (Nat.le_of_ble_eq_true rfl) ?_
  refine g_aload_n 0 dX4_init_4 rfl rfl ?_
  refine g_sipush (iI (256 : Nat)) dX4_init_5 (by decide) ?_
  refine g_newI 256 dX4_init_8 (by decide) (Nat.le_of_ble_eq_true rfl) (Nat.le_of_ble_eq_true rfl) (fun q1 => ?_)
  refine g_putF 4 0 1 tyX4 (ws2 := [(b, .inr (4, [.int (iI 0), .ref q1, .null, .null, .int (iI 0), .int (iI 0)])), (q1, .inl (Z.2 0, 256, .inl (rowI (fun _ => 0))))]) dX4_init_10 rfl fwX4 tyX4_ok nmX4 (by decide) flX4_9 rfl rfl rfl rfl rfl rfl (Nat.le_of_ble_eq_true rfl) rfl ?_
  refine g_aload_n 0 dX4_init_13 rfl rfl ?_
  refine g_iconst (iI (3 : Nat)) dX4_init_14 rfl ?_
  refine g_newI 3 dX4_init_15 (by decide) (Nat.le_of_ble_eq_true rfl) (Nat.le_of_ble_eq_true rfl) (fun q2 => ?_)
  refine g_putF 4 0 2 tyX4 (ws2 := [(b, .inr (4, [.int (iI 0), .ref q1, .ref q2, .null, .int (iI 0), .int (iI 0)])), (q1, .inl (Z.2 0, 256, .inl (rowI (fun _ => 0)))), (q2, .inl (Z.2 0, 3, .inl (rowI (fun _ => 0))))]) dX4_init_17 rfl fwX4 tyX4_ok nmX4 (by decide) flX4_15 rfl rfl rfl rfl rfl rfl (Nat.le_of_ble_eq_true rfl) rfl ?_
  refine g_aload_n 0 dX4_init_20 rfl rfl ?_
  refine g_iconst (iI (3 : Nat)) dX4_init_21 rfl ?_
  refine g_newI 3 dX4_init_22 (by decide) (Nat.le_of_ble_eq_true rfl) (Nat.le_of_ble_eq_true rfl) (fun q3 => ?_)
  refine g_putF 4 0 3 tyX4 (ws2 := [(b, .inr (4, [.int (iI 0), .ref q1, .ref q2, .ref q3, .int (iI 0), .int (iI 0)])), (q1, .inl (Z.2 0, 256, .inl (rowI (fun _ => 0)))), (q2, .inl (Z.2 0, 3, .inl (rowI (fun _ => 0)))), (q3, .inl (Z.2 0, 3, .inl (rowI (fun _ => 0))))]) dX4_init_24 rfl fwX4 tyX4_ok nmX4 (by decide) flX4_18 rfl rfl rfl rfl rfl rfl (Nat.le_of_ble_eq_true rfl) rfl ?_
  refine g_aload_n 0 dX4_init_27 rfl rfl ?_
  refine g_iconst (iI (-1)) dX4_init_28 rfl ?_
  refine g_put 4 0 5 tyX4 (ws2 := [(b, .inr (4, [.int (iI 0), .ref q1, .ref q2, .ref q3, .int (iI 0), .int (iI (-1))])), (q1, .inl (Z.2 0, 256, .inl (rowI (fun _ => 0)))), (q2, .inl (Z.2 0, 3, .inl (rowI (fun _ => 0)))), (q3, .inl (Z.2 0, 3, .inl (rowI (fun _ => 0))))]) dX4_init_29 rfl fwX4 tyX4_ok nmX4 (by decide) flX4_21 rfl rfl rfl rfl (Nat.le_of_ble_eq_true rfl) rfl ?_
  refine g_aload_n 0 dX4_init_32 rfl rfl ?_
  refine g_iload_n 1 dX4_init_33 rfl rfl ?_
  refine g_putF 4 0 0 tyX4 (ws2 := [(b, .inr (4, [.int (iI p), .ref q1, .ref q2, .ref q3, .int (iI 0), .int (iI (-1))])), (q1, .inl (Z.2 0, 256, .inl (rowI (fun _ => 0)))), (q2, .inl (Z.2 0, 3, .inl (rowI (fun _ => 0)))), (q3, .inl (Z.2 0, 3, .inl (rowI (fun _ => 0))))]) dX4_init_34 rfl fwX4 tyX4_ok nmX4 (by decide) flX4_25 rfl rfl rfl rfl rfl rfl (Nat.le_of_ble_eq_true rfl) rfl ?_
  refine g_aload_n 0 dX4_init_37 rfl rfl ?_
  refine g_get 4 0 3 dX4_init_38 rfl fwX4 (by decide) flX4_18 rfl rfl ?_
  refine g_iconst (iI (-1)) dX4_init_41 rfl ?_
  refine g_callS (wr := [(b, .inr (4, [.int (iI p), .ref q1, .ref q2, .ref q3, .int (iI 0), .int (iI (-1))])), (q1, .inl (Z.2 0, 256, .inl (rowI (fun _ => 0)))), (q2, .inl (Z.2 0, 3, .inl (rowI (fun _ => 0))))]) [3] [0, 1, 2] lkX4_28 (k_fill Z q3 3 (by decide) (fun _ => 0) (-1)) dX4_init_42 (And.intro (Nat.le_of_ble_eq_true rfl) (Nat.le_of_ble_eq_true rfl)) rfl rfl rfl (by decide) rfl (Nat.le_of_ble_eq_true rfl) (Nat.le_of_ble_eq_true rfl) (Nat.le_of_ble_eq_true rfl) (fun r w2 h => ?_) rfl
  obtain ⟨rfl, rfl⟩ := h
  exact g_vret dX4_init_45 rfl (Nat.le_of_ble_eq_true rfl) (Nat.le_of_ble_eq_true rfl) ⟨q1, q2, q3, rfl, rfl⟩
set_option maxHeartbeats 4000000 in
set_option maxRecDepth 100000 in
theorem k_initR (Z : LZ) (b c : Nat) : Tr Z jX3_init [.ref b, .ref c] [(b, .inr (3, [.null, .null, .null, .null, .null, .null, .null, .null, .int (iI 0), .int (iI 0)]))] (fun r w => ∃ q1 q2 q3 q4 q5 q6 q7 : Nat, r = none ∧ w = [(b, .inr (3, [.ref c, .ref q1, .ref q2, .ref q3, .ref q4, .ref q5, .ref q6, .ref q7, .int (iI 0), .int (iI 0)])), (q1, .inl (Z.2 0, 256, .inl (rowI (fun _ => 0)))), (q2, .inl (Z.2 0, 768, .inl (rowI (fun _ => 0)))), (q3, .inl (Z.2 0, 1024, .inl (rowI (fun x => if 0 ≤ x ∧ x < 1024 then -1 else 0)))), (q4, .inl (Z.2 0, 768, .inl (rowI (fun _ => 0)))), (q5, .inl (Z.2 0, 769, .inl (rowI (fun _ => 0)))), (q6, .inl (Z.2 0, 768, .inl (rowI (fun _ => 0)))), (q7, .inl (Z.2 0, 768, .inl (rowI (fun _ => 0))))]) := by
  refine tr_of pn_X3_init (Nat.le_of_ble_eq_true rfl) (by intro v h; simp only [List.mem_cons, List.not_mem_nil, or_false] at h; rcases h with h | h <;> rw [h] <;> rfl) ?_
  refine g_aload_n 0 dX3_init_0 rfl rfl ?_
  refine g_objInit dX3_init_1 oi_X3 (Nat.le_of_ble_eq_true rfl) (Nat.le_of_ble_eq_true rfl) ?_
  refine g_aload_n 0 dX3_init_4 rfl rfl ?_
  refine g_sipush (iI (256 : Nat)) dX3_init_5 (by decide) ?_
  refine g_newI 256 dX3_init_8 (by decide) (Nat.le_of_ble_eq_true rfl) (Nat.le_of_ble_eq_true rfl) (fun q1 => ?_)
  refine g_putF 3 0 1 tyX3 (ws2 := [(b, .inr (3, [.null, .ref q1, .null, .null, .null, .null, .null, .null, .int (iI 0), .int (iI 0)])), (q1, .inl (Z.2 0, 256, .inl (rowI (fun _ => 0))))]) dX3_init_10 rfl fwX3 tyX3_ok nmX3 (by decide) flX3_9 rfl rfl rfl rfl rfl rfl (Nat.le_of_ble_eq_true rfl) rfl ?_
  refine g_aload_n 0 dX3_init_13 rfl rfl ?_
  refine g_sipush (iI (768 : Nat)) dX3_init_14 (by decide) ?_
  refine g_newI 768 dX3_init_17 (by decide) (Nat.le_of_ble_eq_true rfl) (Nat.le_of_ble_eq_true rfl) (fun q2 => ?_)
  refine g_putF 3 0 2 tyX3 (ws2 := [(b, .inr (3, [.null, .ref q1, .ref q2, .null, .null, .null, .null, .null, .int (iI 0), .int (iI 0)])), (q1, .inl (Z.2 0, 256, .inl (rowI (fun _ => 0)))), (q2, .inl (Z.2 0, 768, .inl (rowI (fun _ => 0))))]) dX3_init_19 rfl fwX3 tyX3_ok nmX3 (by decide) flX3_15 rfl rfl rfl rfl rfl rfl (Nat.le_of_ble_eq_true rfl) rfl ?_
  refine g_aload_n 0 dX3_init_22 rfl rfl ?_
  refine g_sipush (iI (1024 : Nat)) dX3_init_23 (by decide) ?_
  refine g_newI 1024 dX3_init_26 (by decide) (Nat.le_of_ble_eq_true rfl) (Nat.le_of_ble_eq_true rfl) (fun q3 => ?_)
  refine g_putF 3 0 3 tyX3 (ws2 := [(b, .inr (3, [.null, .ref q1, .ref q2, .ref q3, .null, .null, .null, .null, .int (iI 0), .int (iI 0)])), (q1, .inl (Z.2 0, 256, .inl (rowI (fun _ => 0)))), (q2, .inl (Z.2 0, 768, .inl (rowI (fun _ => 0)))), (q3, .inl (Z.2 0, 1024, .inl (rowI (fun _ => 0))))]) dX3_init_28 rfl fwX3 tyX3_ok nmX3 (by decide) flX3_18 rfl rfl rfl rfl rfl rfl (Nat.le_of_ble_eq_true rfl) rfl ?_
  refine g_aload_n 0 dX3_init_31 rfl rfl ?_
  refine g_sipush (iI (768 : Nat)) dX3_init_32 (by decide) ?_
  refine g_newI 768 dX3_init_35 (by decide) (Nat.le_of_ble_eq_true rfl) (Nat.le_of_ble_eq_true rfl) (fun q4 => ?_)
  refine g_putF 3 0 4 tyX3 (ws2 := [(b, .inr (3, [.null, .ref q1, .ref q2, .ref q3, .ref q4, .null, .null, .null, .int (iI 0), .int (iI 0)])), (q1, .inl (Z.2 0, 256, .inl (rowI (fun _ => 0)))), (q2, .inl (Z.2 0, 768, .inl (rowI (fun _ => 0)))), (q3, .inl (Z.2 0, 1024, .inl (rowI (fun _ => 0)))), (q4, .inl (Z.2 0, 768, .inl (rowI (fun _ => 0))))]) dX3_init_37 rfl fwX3 tyX3_ok nmX3 (by decide) flX3_21 rfl rfl rfl rfl rfl rfl (Nat.le_of_ble_eq_true rfl) rfl ?_
  refine g_aload_n 0 dX3_init_40 rfl rfl ?_
  refine g_sipush (iI (769 : Nat)) dX3_init_41 (by decide) ?_
  refine g_newI 769 dX3_init_44 (by decide) (Nat.le_of_ble_eq_true rfl) (Nat.le_of_ble_eq_true rfl) (fun q5 => ?_)
  refine g_putF 3 0 5 tyX3 (ws2 := [(b, .inr (3, [.null, .ref q1, .ref q2, .ref q3, .ref q4, .ref q5, .null, .null, .int (iI 0), .int (iI 0)])), (q1, .inl (Z.2 0, 256, .inl (rowI (fun _ => 0)))), (q2, .inl (Z.2 0, 768, .inl (rowI (fun _ => 0)))), (q3, .inl (Z.2 0, 1024, .inl (rowI (fun _ => 0)))), (q4, .inl (Z.2 0, 768, .inl (rowI (fun _ => 0)))), (q5, .inl (Z.2 0, 769, .inl (rowI (fun _ => 0))))]) dX3_init_46 rfl fwX3 tyX3_ok nmX3 (by decide) flX3_24 rfl rfl rfl rfl rfl rfl (Nat.le_of_ble_eq_true rfl) rfl ?_
  refine g_aload_n 0 dX3_init_49 rfl rfl ?_
  refine g_sipush (iI (768 : Nat)) dX3_init_50 (by decide) ?_
  refine g_newI 768 dX3_init_53 (by decide) (Nat.le_of_ble_eq_true rfl) (Nat.le_of_ble_eq_true rfl) (fun q6 => ?_)
  refine g_putF 3 0 6 tyX3 (ws2 := [(b, .inr (3, [.null, .ref q1, .ref q2, .ref q3, .ref q4, .ref q5, .ref q6, .null, .int (iI 0), .int (iI 0)])), (q1, .inl (Z.2 0, 256, .inl (rowI (fun _ => 0)))), (q2, .inl (Z.2 0, 768, .inl (rowI (fun _ => 0)))), (q3, .inl (Z.2 0, 1024, .inl (rowI (fun _ => 0)))), (q4, .inl (Z.2 0, 768, .inl (rowI (fun _ => 0)))), (q5, .inl (Z.2 0, 769, .inl (rowI (fun _ => 0)))), (q6, .inl (Z.2 0, 768, .inl (rowI (fun _ => 0))))]) dX3_init_55 rfl fwX3 tyX3_ok nmX3 (by decide) flX3_27 rfl rfl rfl rfl rfl rfl (Nat.le_of_ble_eq_true rfl) rfl ?_
  refine g_aload_n 0 dX3_init_58 rfl rfl ?_
  refine g_sipush (iI (768 : Nat)) dX3_init_59 (by decide) ?_
  refine g_newI 768 dX3_init_62 (by decide) (Nat.le_of_ble_eq_true rfl) (Nat.le_of_ble_eq_true rfl) (fun q7 => ?_)
  refine g_putF 3 0 7 tyX3 (ws2 := [(b, .inr (3, [.null, .ref q1, .ref q2, .ref q3, .ref q4, .ref q5, .ref q6, .ref q7, .int (iI 0), .int (iI 0)])), (q1, .inl (Z.2 0, 256, .inl (rowI (fun _ => 0)))), (q2, .inl (Z.2 0, 768, .inl (rowI (fun _ => 0)))), (q3, .inl (Z.2 0, 1024, .inl (rowI (fun _ => 0)))), (q4, .inl (Z.2 0, 768, .inl (rowI (fun _ => 0)))), (q5, .inl (Z.2 0, 769, .inl (rowI (fun _ => 0)))), (q6, .inl (Z.2 0, 768, .inl (rowI (fun _ => 0)))), (q7, .inl (Z.2 0, 768, .inl (rowI (fun _ => 0))))]) dX3_init_64 rfl fwX3 tyX3_ok nmX3 (by decide) flX3_30 rfl rfl rfl rfl rfl rfl (Nat.le_of_ble_eq_true rfl) rfl ?_
  refine g_aload_n 0 dX3_init_67 rfl rfl ?_
  refine g_aload_n 1 dX3_init_68 rfl rfl ?_
  refine g_putF 3 0 0 tyX3 (ws2 := [(b, .inr (3, [.ref c, .ref q1, .ref q2, .ref q3, .ref q4, .ref q5, .ref q6, .ref q7, .int (iI 0), .int (iI 0)])), (q1, .inl (Z.2 0, 256, .inl (rowI (fun _ => 0)))), (q2, .inl (Z.2 0, 768, .inl (rowI (fun _ => 0)))), (q3, .inl (Z.2 0, 1024, .inl (rowI (fun _ => 0)))), (q4, .inl (Z.2 0, 768, .inl (rowI (fun _ => 0)))), (q5, .inl (Z.2 0, 769, .inl (rowI (fun _ => 0)))), (q6, .inl (Z.2 0, 768, .inl (rowI (fun _ => 0)))), (q7, .inl (Z.2 0, 768, .inl (rowI (fun _ => 0))))]) dX3_init_69 rfl fwX3 tyX3_ok nmX3 (by decide) flX3_33 rfl rfl rfl rfl rfl rfl (Nat.le_of_ble_eq_true rfl) rfl ?_
  refine g_aload_n 0 dX3_init_72 rfl rfl ?_
  refine g_get 3 0 3 dX3_init_73 rfl fwX3 (by decide) flX3_18 rfl rfl ?_
  refine g_iconst (iI (-1)) dX3_init_76 rfl ?_
  refine g_callS (wr := [(b, .inr (3, [.ref c, .ref q1, .ref q2, .ref q3, .ref q4, .ref q5, .ref q6, .ref q7, .int (iI 0), .int (iI 0)])), (q1, .inl (Z.2 0, 256, .inl (rowI (fun _ => 0)))), (q2, .inl (Z.2 0, 768, .inl (rowI (fun _ => 0)))), (q4, .inl (Z.2 0, 768, .inl (rowI (fun _ => 0)))), (q5, .inl (Z.2 0, 769, .inl (rowI (fun _ => 0)))), (q6, .inl (Z.2 0, 768, .inl (rowI (fun _ => 0)))), (q7, .inl (Z.2 0, 768, .inl (rowI (fun _ => 0))))]) [3] [0, 1, 2, 4, 5, 6, 7] lkX3_37 (k_fill Z q3 1024 (by decide) (fun _ => 0) (-1)) dX3_init_77 (And.intro (Nat.le_of_ble_eq_true rfl) (Nat.le_of_ble_eq_true rfl)) rfl rfl rfl (by decide) rfl (Nat.le_of_ble_eq_true rfl) (Nat.le_of_ble_eq_true rfl) (Nat.le_of_ble_eq_true rfl) (fun r w2 h => ?_) rfl
  obtain ⟨rfl, rfl⟩ := h
  refine g_sub (ws2 := [(b, .inr (3, [.ref c, .ref q1, .ref q2, .ref q3, .ref q4, .ref q5, .ref q6, .ref q7, .int (iI 0), .int (iI 0)])), (q1, .inl (Z.2 0, 256, .inl (rowI (fun _ => 0)))), (q2, .inl (Z.2 0, 768, .inl (rowI (fun _ => 0)))), (q3, .inl (Z.2 0, 1024, .inl (rowI (fun x => if 0 ≤ x ∧ x < 1024 then -1 else 0)))), (q4, .inl (Z.2 0, 768, .inl (rowI (fun _ => 0)))), (q5, .inl (Z.2 0, 769, .inl (rowI (fun _ => 0)))), (q6, .inl (Z.2 0, 768, .inl (rowI (fun _ => 0)))), (q7, .inl (Z.2 0, 768, .inl (rowI (fun _ => 0))))]) [0, 1, 2, 7, 3, 4, 5, 6] rfl rfl ?_
  exact g_vret dX3_init_80 rfl (Nat.le_of_ble_eq_true rfl) (Nat.le_of_ble_eq_true rfl) ⟨q1, q2, q3, q4, q5, q6, q7, rfl, rfl⟩
