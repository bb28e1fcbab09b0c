/-! THE CLASS: add, enter -/
theorem newl_mem {E : Mem} {N : Nat} {F : List Int} {x : Int} (h : x ∈ F) : x ∈ newl E N F := by
  unfold newl
  split
  · exact sk_mem.mpr (Or.inl h)
  · have : ∀ {l : List Int}, x ∈ l → x ∈ insA E N (E 6 N) l := by
      intro l
      induction l with
      | nil => intro h; cases h
      | cons y t ih =>
        intro h
        unfold insA
        split
        · rcases List.mem_cons.mp h with q | q
          · rw [q]; exact List.mem_cons_self
          · exact List.mem_cons_of_mem _ (sk_mem.mpr (Or.inl q))
        · rcases List.mem_cons.mp h with q | q
          · rw [q]; exact List.mem_cons_self
          · exact List.mem_cons_of_mem _ (ih q)
    exact this h
theorem ord_grow {D E : Mem} {p : Int} {N : Nat} (hx : Ext D E p) (h9 : D 9 0 = N) (hN : N < 256) (hO : okO E (N + 1)) {x : Int} (h : x ∈ ordF D tT) : x ∈ ordF E tT := by
  rw [ord_new hx h9 hN hO]
  split
  · exact newl_mem h
  · exact h
theorem Lat_ext {D E : Mem} {p : Int} (hx : Ext D E p) {s t : Int} (a : 0 ≤ s) (b : s < D 9 0) (c : 0 ≤ t) (d : t < D 9 0) : Lat E s t ↔ Lat D s t := by
  unfold Lat
  rw [hx.2.1 1 (by decide) s a b, hx.2.1 1 (by decide) t c d, hx.2.1 0 (by decide) s a b, hx.2.1 0 (by decide) t c d]
theorem newl_len {E : Mem} {N : Nat} {F : List Int} (hlf : E 6 N = -2 ∨ E 6 N ∈ F) (h3 : 0 ≤ E 3 N) : ((newl E N F).length : Int) = F.length + E 3 N := by
  have hn := nmP_len (D := E) N
  have hsk : ∀ l : List Int, ((sk E N l).length : Int) = l.length + E 3 N := by
    intro l
    rw [sk_len]
    omega
  unfold newl
  split
  · exact hsk F
  · rename_i hne
    have hin : E 6 N ∈ F := by
      rcases hlf with q | q
      · exact absurd q hne
      · exact q
    have : ∀ {l : List Int}, E 6 N ∈ l → ((insA E N (E 6 N) l).length : Int) = l.length + E 3 N := by
      intro l
      induction l with
      | nil => intro h; cases h
      | cons y t ih =>
        intro h
        unfold insA
        split
        · rw [List.length_cons, List.length_cons]
          have := hsk t
          omega
        · rename_i g
          rcases List.mem_cons.mp h with q | q
          · exact absurd q.symm g
          · rw [List.length_cons, List.length_cons]
            have := ih q
            omega
    exact this hin
set_option maxHeartbeats 4000000 in
set_option maxRecDepth 100000 in
theorem k_X0_add (Z : LZ) (a : Nat → Nat) (C : Mem) (fS fA : Nat → Option Nat) {D : Mem} (sa sb : Nat → Nat) (N : Nat) {E : Mem} (hGE : Good E) (hG : Good D) {p : Int} (hx : Ext D E p) (hB : Bk D C fS fA sa N) (hN : N < 256) : Tr Z jX0_add [.ref (a 100), .ref (sa N)] (cW Z a C fS fA (sW Z E sa sb (N + 1))) (fun r w => ∃ (C2 : Mem) (f1 f2 : Nat → Option Nat), r = none ∧ w = cW Z a C2 f1 f2 (sW Z E sa sb (N + 1)) ∧ ((∀ q : Nat, q ≠ 1 → q ≠ 2 → q ≠ 3 → C2 q = C q) ∧ C2 1 0 = N + 1 ∧ (∀ s : Nat, s < N + 1 → f1 s = some (sa s)) ∧ Age E f2 sa (N + 1) ∧ (C2 2 0 = (ordF E tT).length ∧ ∀ k : Int, 0 ≤ k → k < (ordF E tT).length → C2 3 k = fF (ordF E tT) k))) := by
  refine tr_of pn_X0_add (Nat.le_of_ble_eq_true rfl) (by intro v h; simp only [List.mem_cons, List.not_mem_nil, or_false] at h; rcases h with h | h <;> rw [h] <;> rfl) ?_
  have h9 := hB.d9
  have h9E : E 9 0 = N + 1 := by rw [hx.1, h9]
  have hM := hGE.1.1
  have hO : okO E (N + 1) := by
    have := hGE.2.1
    rw [h9E, show ((N : Int) + 1).toNat = N + 1 by omega] at this
    exact this
  have hS : ∀ s : Nat, s < N + 1 → okS E s := fun s hs => hGE.1.2.2.1 s (by omega) (by omega)
  have hr : ∀ s : Nat, s < N + 1 → 0 ≤ E 2 s ∧ E 2 s ≤ 3 := fun s hs => (hS s hs).2.1
  have hsN : N < N + 1 := by omega
  have hord := ord_new hx h9 hN hO
  obtain ⟨A, hA1, hA2, hA3, hA4⟩ := hB.age
  have hA5 : ∀ s ∈ A, s < N := fun s hs => by
    obtain ⟨k, hk, e⟩ := List.getElem_of_mem hs
    exact (hA2 k s (by rw [List.getElem?_eq_getElem hk, e])).1
  have hA3E : A.Pairwise (fun s t : Nat => Lat E t s) := List.Pairwise.imp_of_mem (fun {s t} hs ht h => (Lat_ext hx (by omega) (by have := hA5 t ht; omega) (by omega) (by have := hA5 s hs; omega)).mpr h) hA3
  have hfu : decide (256 ≤ C 1 0) = false := decide_eq_false (by rw [hB.c1]; omega)
  have hup : ∀ s : Nat, s < N + 1 → va_up fS N (some (sa N)) s = some (sa s) := by
    intro s hs
    by_cases e : s = N
    · rw [e, vup_at]
    · rw [vup_ne e]; exact hB.sl s (by omega)
  refine g_aload_n 0 dX0_add_0 rfl rfl ?_
  refine ckE lkX0_28 (k_X0_isFull Z a C fS fA _ (by rw [hB.c1]; exact ⟨by omega, by omega⟩)) dX0_add_1 (And.intro (Nat.le_of_ble_eq_true rfl) (Nat.le_of_ble_eq_true rfl)) (ci := 0) (q0 := 1) rfl rfl (Nat.le_of_ble_eq_true rfl) rfl rfl (Nat.le_of_ble_eq_true rfl) (Nat.le_of_ble_eq_true rfl) rfl ?_
  rw [hfu]
  refine gi_if_eq 8 dX0_add_4 (by decide) ⟨by decide, by decide⟩ (fun _ => ?_) (fun cc => absurd cc (by decide))
  refine g_aload_n 0 dX0_add_8 rfl rfl ?_
  refine cg_bk_slips dX0_add_9 flX0_11 ?_
  refine g_aload_n 0 dX0_add_12 rfl rfl ?_
  refine cg_bk_count hB.c1 dX0_add_13 flX0_24 ?_
  refine g_aload_n 1 dX0_add_16 rfl rfl ?_
  refine ct_slips hsN (hr N hsN) dX0_add_17 (by omega) (by omega) ?_
  refine g_aload_n 0 dX0_add_18 rfl rfl ?_
  refine g_aload_n 1 dX0_add_19 rfl rfl ?_
  refine ckB lkX0_32 (k_X0_insertByAge Z a C (va_up fS N (some (sa N))) fA sa sb N hM hr hN hB.c1 hO A hA1 hA2 hA3E hA4) dX0_add_20 (And.intro (Nat.le_of_ble_eq_true rfl) (Nat.le_of_ble_eq_true rfl)) (ci := 0) (q0 := 1) rfl rfl (Nat.le_of_ble_eq_true rfl) rfl rfl (Nat.le_of_ble_eq_true rfl) (Nat.le_of_ble_eq_true rfl) rfl (fun C20 f20 h20 => ?_)
  obtain ⟨e20, a20⟩ := h20
  subst e20
  refine g_aload_n 0 dX0_add_23 rfl rfl ?_
  refine g_dup dX0_add_24 rfl ?_
  refine cg_bk_count hB.c1 dX0_add_25 flX0_24 ?_
  refine g_iconst (iI 1) dX0_add_28 rfl ?_
  refine gi_add dX0_add_29 ?_
  refine cp_bk_count dX0_add_30 flX0_24 ?_
  refine g_aload_n 1 dX0_add_33 rfl rfl ?_
  by_cases hk34 : E 2 N = 0
  · refine cy_put hsN hk34 dX0_add_34 clX0_36 ?_
    refine gi_if_eq 50 dX0_add_37 (by decide) ⟨by decide, by decide⟩ (fun cc => absurd cc (by decide)) (fun _ => ?_)
    refine g_aload_n 1 dX0_add_40 rfl rfl ?_
    refine cz_put hsN hk34 dX0_add_41 clX0_36 ?_
    have hnn : (ms C20 1 0 ((N : Int) + 1)) 2 0 = (ordF D tT).length ∧ ∀ k : Int, 0 ≤ k → k < (ordF D tT).length → (ms C20 1 0 ((N : Int) + 1)) 3 k = fF (ordF D tT) k := by
      rw [ms_ne (show (2 : Nat) ≠ 1 by decide), ms_ne (show (3 : Nat) ≠ 1 by decide)]
      exact hB.ord
    have hmem : ∀ x ∈ ordF D tT, 0 ≤ x ∧ x / 4 < N := fun x hx2 => by have := ordF_mem hG.1 hG.2.1 hx2; omega
    have hl := ordF_len hG.1 hG.2.1 (tT_Cl D)
    have hlE := ordF_len hGE.1 hGE.2.1 (tT_Cl E)
    have hp3 := (hS N hsN).2.2.1 hk34
    have hlf : E 6 N = -2 ∨ E 6 N ∈ ordF D tT := by
      rcases hp3.2.2 with q | q
      · exact Or.inl q
      · right
        have q2 := (nameOK_ext hx (s := N) (by omega)).mp q
        exact (mem_ordF hG.1 hG.2.1 (tT_Cl D)).mpr ⟨q2.1, by omega, q2.2.2.1, rfl, q2.2.2.2⟩
    rw [if_pos hk34] at hord
    have hle : ((ordF D tT).length : Int) + E 3 N ≤ 768 := by
      have hlen : ((newl E N (ordF D tT)).length : Int) = (ordF D tT).length + E 3 N := newl_len hlf (by omega)
      rw [hord] at hlE
      omega
    refine g_astore_n 2 dX0_add_44 rfl (Nat.le_of_ble_eq_true rfl) (Nat.le_of_ble_eq_true rfl) rfl ?_
    dsimp only [sto]
    refine g_aload_n 0 dX0_add_45 rfl rfl ?_
    refine g_aload_n 2 dX0_add_46 rfl rfl ?_
    refine ckX lkX0_38 (k_X0_insertSigns Z a (ms C20 1 0 ((N : Int) + 1)) (va_up fS N (some (sa N))) f20 sa sb N hM hr hN hk34 hup (ordF D tT) hnn.1 hnn.2 hmem hl hlf ⟨hp3.1, hp3.2.1⟩ hle) dX0_add_47 (And.intro (Nat.le_of_ble_eq_true rfl) (Nat.le_of_ble_eq_true rfl)) (ci := 0) (q0 := 1) rfl rfl (Nat.le_of_ble_eq_true rfl) rfl rfl (Nat.le_of_ble_eq_true rfl) (Nat.le_of_ble_eq_true rfl) rfl (fun C47 h47 => ?_)
    refine g_vret dX0_add_50 rfl (Nat.le_of_ble_eq_true rfl) (Nat.le_of_ble_eq_true rfl) ⟨_, _, _, rfl, rfl, ?_⟩
    refine ⟨fun q q1 q2 q3 => (h47.1 q q2 q3).trans (ms_ne q1), ?_, hup, a20, ?_⟩
    · rw [h47.1 1 (by decide) (by decide), ms_at]
    · rw [hord]
      exact h47.2
  · refine cn_put hsN hk34 (hr N hsN) dX0_add_34 clX0_36 ?_
    refine gi_if_eq 50 dX0_add_37 (by decide) ⟨by decide, by decide⟩ (fun _ => ?_) (fun cc => absurd cc (by decide))
    refine g_vret dX0_add_50 rfl (Nat.le_of_ble_eq_true rfl) (Nat.le_of_ble_eq_true rfl) ⟨_, _, _, rfl, rfl, ?_⟩
    refine ⟨fun q q1 q2 q3 => ms_ne q1, ms_at, hup, a20, ?_⟩
    rw [hord, if_neg hk34, ms_ne (show (2 : Nat) ≠ 1 by decide), ms_ne (show (3 : Nat) ≠ 1 by decide)]
    exact hB.ord
theorem Rel_new {D E C C2 : Mem} {fS fA f1 f2 : Nat → Option Nat} {sa : Nat → Nat} {N : Nat} {p : Nat} (hp : p < 6) (hGE : Good E) (hG : Good D) (hx : Ext D E p) (hR : Rel D C fS fA sa N) (hN : N < 256) (hst : E 1 N = mxF D (tkB D p) N + 1) (htk : tkB E p N = true) (hc : ∀ q : Nat, q ≠ 0 → q ≠ 1 → q ≠ 2 → q ≠ 3 → q ≠ 20 + p → q ≠ 50 + p → q ≠ 60 + p → C2 q = C q) (h0 : C2 0 0 = E 13 0) (h1 : C2 1 0 = N + 1) (hs1 : ∀ s : Nat, s < N + 1 → f1 s = some (sa s)) (hage : Age E f2 sa (N + 1)) (hord : C2 2 0 = (ordF E tT).length ∧ ∀ k : Int, 0 ≤ k → k < (ordF E tT).length → C2 3 k = fF (ordF E tT) k) (hh : ∀ s : Nat, s ≠ N → C2 (20 + p) s = C (20 + p) s) (hhN : C2 (20 + p) N = 2) (hm : C2 (50 + p) 0 = E 1 N) (hl : C2 (60 + p) 0 = N) : Rel E C2 f1 f2 sa (N + 1) := by
  obtain ⟨hB, hX⟩ := hR
  have h9 := hB.d9
  have h9E : E 9 0 = N + 1 := by rw [hx.1, h9]
  have hO : okO E (N + 1) := by
    have := hGE.2.1
    rw [h9E, show ((N : Int) + 1).toNat = N + 1 by omega] at this
    exact this
  have hE10 : ∀ q : Nat, q < 6 → E 10 (256 * q + N) = bI (decide ((q : Int) = p)) := by
    intro q hq
    have := hx.2.2.2.2.2.1 q (by omega) (by omega)
    rwa [h9] at this
  have hold : ∀ q s : Nat, q < 6 → s < N → hdF E q s = hdF D q s := by
    intro q s hq hs
    unfold hdF
    rw [hx.2.2.2.2.1 q s (by omega) (by omega) (by omega) (by omega), tkB_ext hG.1 hx (by omega) (by omega) (by omega) (by omega)]
  have hp1 := hGE.2.2.1 N (by omega) (by omega)
  refine ⟨⟨⟨by rw [h9E]; rfl, by omega⟩, h1, h0, hs1, hage, hord, fun q s a b => ?_, fun q c a b => ?_, fun q a => ?_, fun q a => ?_⟩, fun x a b c => ?_⟩
  · by_cases e : q = p
    · subst e
      by_cases es : s = N
      · subst es
        rw [hhN, if_pos (by omega)]
        unfold hdF
        rw [hE10 q a, decide_eq_true rfl, htk]
        rfl
      · rw [hh s es, hB.held q s a b]
        by_cases g : s < N
        · rw [if_pos g, if_pos (by omega), hold q s a g]
        · rw [if_neg g, if_neg (by omega)]
    · rw [hc (20 + q) (by omega) (by omega) (by omega) (by omega) (by omega) (by omega) (by omega), hB.held q s a b]
      by_cases g : s < N
      · rw [if_pos g, if_pos (by omega), hold q s a g]
      · rw [if_neg g]
        split
        · have es : s = N := by omega
          subst es
          unfold hdF
          rw [hE10 q a, decide_eq_false (by omega)]
          rfl
        · rfl
  · rw [hc (40 + q) (by omega) (by omega) (by omega) (by omega) (by omega) (by omega) (by omega), hc (30 + q) (by omega) (by omega) (by omega) (by omega) (by omega) (by omega) (by omega), hx.2.2.2.2.2.2.2.1, hx.2.2.2.2.2.2.2.2]
    exact hB.cur q c a b
  · have hcong : mxF E (tkB E q) N = mxF D (tkB D q) N := mxF_congr N (fun s x y => tkB_ext hG.1 hx (by omega) (by omega) x (by omega)) (fun s x y => hx.2.1 1 (by decide) s x (by omega))
    unfold mxF
    rw [hcong]
    by_cases e : q = p
    · subst e
      rw [hm, htk, if_pos ⟨rfl, by omega⟩]
    · have hf : tkB E q N = false := by
        have := tkB_newN hGE.1 hG.1 hx (q := q) (by omega) (by omega) (by omega)
        rwa [h9] at this
      rw [hf, if_neg (by rintro ⟨g, _⟩; cases g), hc (50 + q) (by omega) (by omega) (by omega) (by omega) (by omega) (by omega) (by omega)]
      exact hB.mx q a
  · have hcong : latestF E q N = latestF D q N := latestF_congr N (fun t x y => hx.2.1 0 (by decide) t x (by omega))
    have hE0 : E 0 N = p := by have := hx.2.2.2.2.2.2.1; rwa [h9] at this
    unfold latestF
    rw [hcong, hE0]
    by_cases e : q = p
    · subst e
      rw [hl, if_pos rfl]
    · rw [if_neg (by omega), hc (60 + q) (by omega) (by omega) (by omega) (by omega) (by omega) (by omega) (by omega)]
      exact hB.lt q a
  · rw [hc 72 (by decide) (by decide) (by decide) (by decide) (by omega) (by omega) (by omega)]
    exact hX x a b (fun g => c (ord_grow hx h9 hN hO g))
set_option maxHeartbeats 4000000 in
set_option maxRecDepth 100000 in
theorem k_X8_enter (Z : LZ) (a : Nat → Nat) (C : Mem) (fS fA : Nat → Option Nat) {D : Mem} (sa sb : Nat → Nat) (N : Nat) {E : Mem} (hGE : Good E) (hG : Good D) {p : Nat} (hp : p < 6) (hx : Ext D E p) (hR : Rel D C fS fA sa N) (hN : N < 256) (hst : E 1 N = mxF D (tkB D p) N + 1) (htk : tkB E p N = true) (h13 : E 13 0 = D 13 0) : Tr Z jX8_enter [.ref (a 99), .ref (a (110 + p)), .ref (sa N)] (cW Z a C fS fA (sW Z E sa sb (N + 1))) (fun r w => ∃ (C2 : Mem) (f1 f2 : Nat → Option Nat), r = some (.int (iI (N : Int))) ∧ w = cW Z a C2 f1 f2 (sW Z E sa sb (N + 1)) ∧ Rel (ms E 13 0 0) C2 f1 f2 sa (N + 1)) := by
  refine tr_of pn_X8_enter (Nat.le_of_ble_eq_true rfl) (by intro v h; simp only [List.mem_cons, List.not_mem_nil, or_false] at h; rcases h with h | h | h <;> rw [h] <;> rfl) ?_
  have hB := hR.1
  have h9 := hB.d9
  have h9E : E 9 0 = N + 1 := by rw [hx.1, h9]
  have hM := hGE.1.1
  have hO : okO E (N + 1) := by
    have := hGE.2.1
    rw [h9E, show ((N : Int) + 1).toNat = N + 1 by omega] at this
    exact this
  have hS : ∀ s : Nat, s < N + 1 → okS E s := fun s hs => hGE.1.2.2.1 s (by omega) (by omega)
  have hr : ∀ s : Nat, s < N + 1 → 0 ≤ E 2 s ∧ E 2 s ≤ 3 := fun s hs => (hS s hs).2.1
  have hsN : N < N + 1 := by omega
  have hmx := hB.mx p hp
  have hmr := mxF_rg hG.1.1 (tkB D p) N
  refine g_aload_n 0 dX8_enter_0 rfl rfl ?_
  refine cg_mp_book dX8_enter_1 flX8_12 ?_
  refine g_aload_n 2 dX8_enter_4 rfl rfl ?_
  refine ckA lkX8_238 (k_X0_add Z a C fS fA sa sb N hGE hG hx hB hN) dX8_enter_5 (And.intro (Nat.le_of_ble_eq_true rfl) (Nat.le_of_ble_eq_true rfl)) (ci := 0) (q0 := 1) rfl rfl (Nat.le_of_ble_eq_true rfl) rfl rfl (Nat.le_of_ble_eq_true rfl) (Nat.le_of_ble_eq_true rfl) rfl (fun C5 g5 f5 h5 => ?_)
  refine g_aload_n 1 dX8_enter_8 rfl rfl ?_
  refine g_aload_n 2 dX8_enter_9 rfl rfl ?_
  refine ckV lkX8_241 (k_X4_own Z a C5 g5 f5 sa sb (N + 1) hM (by omega) p N hp hsN (by rw [h5.1 (50 + p) (by omega) (by omega) (by omega), hmx]; exact ⟨by omega, by omega⟩)) dX8_enter_10 (And.intro (Nat.le_of_ble_eq_true rfl) (Nat.le_of_ble_eq_true rfl)) (ci := 4) rfl (he_sh p hp) (Nat.le_of_ble_eq_true rfl) rfl rfl (Nat.le_of_ble_eq_true rfl) (Nat.le_of_ble_eq_true rfl) rfl ?_
  refine g_aload_n 0 dX8_enter_13 rfl rfl ?_
  refine g_aload_n 2 dX8_enter_14 rfl rfl ?_
  refine cg_sl_number hsN dX8_enter_15 flX8_124 ?_
  refine ckE lkX8_138 (k_X8_done Z a _ g5 f5 _ (N : Int)) dX8_enter_18 (And.intro (Nat.le_of_ble_eq_true rfl) (Nat.le_of_ble_eq_true rfl)) (ci := 7) (q0 := 0) rfl rfl (Nat.le_of_ble_eq_true rfl) rfl rfl (Nat.le_of_ble_eq_true rfl) (Nat.le_of_ble_eq_true rfl) rfl ?_
  refine g_iret dX8_enter_21 rfl (Nat.le_of_ble_eq_true rfl) (Nat.le_of_ble_eq_true rfl) ⟨_, _, _, rfl, rfl, Rel_fin ?_ 0⟩
  obtain ⟨q1, q2, q3, q4, q5⟩ := h5
  have e50 : C5 (50 + p) 0 = mxF D (tkB D p) N := by rw [q1 (50 + p) (by omega) (by omega) (by omega), hmx]
  refine Rel_new (C := C) (p := p) hp ?_ hG ?_ hR hN hst htk ?_ ?_ ?_ q3 q4 ?_ ?_ ?_ ?_ ?_
  · exact hGE
  · exact hx
  · intro q a b c d e f g
    rw [ms_ne f, ms_ne e, ms_ne g]
    exact q1 q b c d
  · rw [ms_row (by omega), ms_row (by omega), ms_row (by omega), q1 0 (by decide) (by decide) (by decide)]; exact hB.fi.trans h13.symm
  · rw [ms_row (by omega), ms_row (by omega), ms_row (by omega)]; exact q2
  · rw [ms_ne (by omega), ms_ne (by omega), ms_ne (by omega), ms_ne (by omega), ms_ne (by omega), ms_ne (by omega)]; exact q5
  · intro s hs
    rw [ms_row (by omega), ms_off (by omega), ms_row (by omega), q1 (20 + p) (by omega) (by omega) (by omega)]
  · rw [ms_row (by omega), ms_at]
  · rw [ms_at, e50, if_pos (by omega)]
  · rw [ms_row (by omega), ms_row (by omega), ms_at]
