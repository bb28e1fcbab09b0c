/-! THE CLASS: a new slip in the book -/
section RowZ
variable {Z : LZ} {J : MD} {E : State → Array Value → (Nat → Prop) → Prop} {Q : List Frame → Array Value → State → (Nat → Prop) → State → Prop} {pc : Nat} {ls st : List Value} {k n : Nat} {ws : va_W}
theorem ckZ {J2 : MD} {As : List Value} {b i ci N q0 : Nat} {fs : List Value} {T : u_T} {w3 : va_W} {P : Nat → Prop} (hlk : lkV J.1.cls i J2 As.length) (hT : Tr Z J2 (.ref b :: As) ws (fun r w => ∃ z : Nat, r = some (.int (iI (z : Int))) ∧ w = w3 ∧ P z)) (d : decode J.2.1 pc = .ok (.invokevirtual i, 3)) (hfit : fitR J J2) (hc : vwCl[ci]? = some (J2.1.cls, T, N)) (he : ws[q0]? = some (b, .inr (ci, fs))) (hst : (st.map fun v => v.category).sum ≤ 8) (h1 : J2.2.2.2.2.cells = 0) (h2 : J2.2.2.2.2.slots = 0) (h3 : k ≤ J.2.2.2.2.cells) (h4 : n ≤ J.2.2.2.2.slots) {st2 : List Value} (hs : As.reverse ++ .ref b :: st = st2) (K : ∀ z : Nat, P z → G Z J E Q (pc + 3) ls (.int (iI (z : Int)) :: st) w3 k n) : G Z J E Q pc ls st2 ws k n := by
  refine g_callVF hlk hT d hfit hc he hst (by omega) (by omega) (fun r w2 h => ?_) hs
  obtain ⟨z, rfl, rfl, hp⟩ := h
  rw [h1, h2]
  exact K z hp
end RowZ
theorem vup_at (f : Nat → Option Nat) (k : Nat) (v : Option Nat) : va_up f k v k = v := by unfold va_up; rw [if_pos rfl]
theorem vup_ne {f : Nat → Option Nat} {k j : Nat} {v : Option Nat} (h : j ≠ k) : va_up f k v j = f j := by unfold va_up; rw [if_neg h]
def Iv (E : Mem) (L : List Nat) (sa : Nat → Nat) (N k : Nat) (f : Nat → Option Nat) : Prop := (∀ j s : Nat, j < k → L[j]? = some s → f j = some (sa s)) ∧ ∀ j s : Nat, k ≤ j → L[j]? = some s → f (j + 1) = some (sa s) ∧ Lat E s N
theorem Age_ins {E : Mem} {L : List Nat} {sa : Nat → Nat} {N k : Nat} {f : Nat → Option Nat} (hO : okO E (N + 1)) (hk : k ≤ N) (hlen : L.length = N) (hlt : ∀ s ∈ L, s < N) (hL : L.Pairwise (fun s t : Nat => Lat E t s)) (hall : ∀ s : Nat, s < N → s ∈ L) (hI : Iv E L sa N k f) (hx : k = 0 ∨ ∃ s, L[k - 1]? = some s ∧ ¬ Lat E s N) : Age E (va_up f k (some (sa N))) sa (N + 1) := by
  have hmem : ∀ {j s : Nat}, L[j]? = some s → s ∈ L := fun h => List.mem_of_getElem? h
  have htl : (L.take k).length = k := by rw [List.length_take]; omega
  refine ⟨L.take k ++ N :: L.drop k, ?_, fun j s hj => ?_, ?_, fun s hs => ?_⟩
  · rw [List.length_append, List.length_cons, List.length_drop, htl]; omega
  · rcases Nat.lt_trichotomy j k with g | g | g
    · rw [List.getElem?_append_left (by omega), List.getElem?_take, if_pos g] at hj
      exact ⟨by have := hlt s (hmem hj); omega, by rw [vup_ne (by omega)]; exact hI.1 j s g hj⟩
    · subst g
      rw [List.getElem?_append_right (by omega), htl, Nat.sub_self] at hj
      have : N = s := by simpa using hj
      subst this
      exact ⟨by omega, vup_at _ _ _⟩
    · rw [List.getElem?_append_right (by omega), htl, show j - k = (j - k - 1) + 1 by omega, List.getElem?_cons_succ, List.getElem?_drop] at hj
      have h2 := hI.2 (k + (j - k - 1)) s (by omega) hj
      rw [show k + (j - k - 1) + 1 = j by omega] at h2
      exact ⟨by have := hlt s (hmem hj); omega, by rw [vup_ne (by omega)]; exact h2.1⟩
  · have h12 : (L.take k ++ L.drop k).Pairwise (fun s t : Nat => Lat E t s) := by rw [List.take_append_drop]; exact hL
    rw [List.pairwise_append] at h12
    obtain ⟨p1, p2, p3⟩ := h12
    rw [List.pairwise_append, List.pairwise_cons]
    have hN : ∀ s ∈ L.take k, Lat E N s := by
      intro s hs
      rcases hx with e | ⟨u, hu, hnu⟩
      · subst e; simp at hs
      · have hkk : 0 < k := by
          rcases Nat.eq_zero_or_pos k with e | e
          · subst e; simp at hs
          · exact e
        have hu2 := hlt u (hmem hu)
        have g : Lat E N u := by
          rcases hO.2 N u (by omega) (by omega) (by omega) (by omega) (by omega) with q | q
          · exact q
          · exact absurd q hnu
        by_cases e : s = u
        · rw [e]; exact g
        · have e1 : L.take k = L.take (k - 1) ++ [u] := by
            obtain ⟨hh, eu⟩ := List.getElem?_eq_some_iff.mp hu
            rw [← eu, List.take_append_getElem hh, show k - 1 + 1 = k by omega]
          rw [e1] at hs p1
          rw [List.pairwise_append] at p1
          rcases List.mem_append.mp hs with q | q
          · exact Lat_tr g (p1.2.2 s q u List.mem_cons_self)
          · exact absurd (List.mem_singleton.mp q) e
    have hD : ∀ s ∈ L.drop k, Lat E s N := by
      intro s hs
      obtain ⟨j, hj, e⟩ := List.getElem_of_mem hs
      have : L[k + j]? = some s := by rw [← List.getElem?_drop, List.getElem?_eq_getElem hj, e]
      exact (hI.2 (k + j) s (by omega) this).2
    refine ⟨p1, ⟨hD, p2⟩, fun s hs t ht => ?_⟩
    rcases List.mem_cons.mp ht with q | q
    · rw [q]; exact hN s hs
    · exact p3 s hs t q
  · by_cases e : s = N
    · rw [e]; exact List.mem_append_right _ List.mem_cons_self
    · have := hall s (by omega)
      rw [← List.take_append_drop k L] at this
      rcases List.mem_append.mp this with q | q
      · exact List.mem_append_left _ q
      · exact List.mem_append_right _ (List.mem_cons_of_mem _ q)
theorem insR_ext {D E : Mem} {s : Int} : ∀ {l : List Int}, (∀ t ∈ l, laterB E t s = laterB D t s) → insR E s l = insR D s l := by
  intro l
  induction l with
  | nil => intro _; rfl
  | cons t r ih =>
    intro h
    unfold insR
    rw [h t List.mem_cons_self, ih (fun x hx => h x (List.mem_cons_of_mem _ hx))]
theorem pls_ext {D E : Mem} {T : Int → Bool} {L : Int} {N : Nat} (h : ∀ r : Nat, (r = 0 ∨ r = 1 ∨ r = 2 ∨ r = 3 ∨ r = 6) → ∀ s : Int, 0 ≤ s → s < N → E r s = D r s) : ∀ k : Nat, k ≤ N → pls E T L k = pls D T L k := by
  intro k
  induction k with
  | zero => intro _; rfl
  | succ k ih =>
    intro hk
    have hc : cand E T L k = cand D T L k := by
      unfold cand
      rw [h 2 (by decide) k (by omega) (by omega), h 6 (by decide) k (by omega) (by omega)]
    unfold pls
    rw [hc, ih (by omega), insR_ext (D := D) (fun t ht => ?_)]
    have hm := mem_pls.mp ht
    unfold laterB
    rw [h 0 (by decide) k (by omega) (by omega), h 1 (by decide) k (by omega) (by omega), h 0 (by decide) t (by omega) (by omega), h 1 (by decide) t (by omega) (by omega)]
theorem kd_ext {D E : Mem} {T : Int → Bool} {N : Nat} (h : ∀ r : Nat, (r = 0 ∨ r = 1 ∨ r = 2 ∨ r = 3 ∨ r = 6) → ∀ s : Int, 0 ≤ s → s < N → E r s = D r s) : ∀ (d : Nat) (L : Int), kd E T N d L = kd D T N d L := by
  intro d
  induction d with
  | zero => intro L; rfl
  | succ d ih =>
    intro L
    have hc : chl E T N L = chl D T N L := by
      unfold chl
      rw [pls_ext h N (Nat.le_refl _)]
      refine flatMap_congr (fun x hx => ?_)
      have hm := mem_pls.mp hx
      unfold nmP
      rw [h 3 (by decide) x (by omega) (by omega)]
    show (chl E T N L).flatMap (fun x => x :: kd E T N d x) = (chl D T N L).flatMap (fun x => x :: kd D T N d x)
    rw [hc]
    exact flatMap_congr (fun x _ => by rw [ih x])
def newl (E : Mem) (N : Nat) (F : List Int) : List Int := if E 6 N = -2 then sk E N F else insA E N (E 6 N) F
theorem ord_new {D E : Mem} {p : Int} {N : Nat} (hx : Ext D E p) (h9 : D 9 0 = N) (hN : N < 256) (hO : okO E (N + 1)) : ordF E tT = if E 2 N = 0 then newl E N (ordF D tT) else ordF D tT := by
  have hr : ∀ r : Nat, (r = 0 ∨ r = 1 ∨ r = 2 ∨ r = 3 ∨ r = 6) → ∀ s : Int, 0 ≤ s → s < N → E r s = D r s := fun r hr s a b => hx.2.1 r (by omega) s a (by omega)
  have e1 : ordF E tT = KD E tT (N + 1) (-2) := by
    unfold ordF
    rw [hx.1, h9, show ((N : Int) + 1).toNat = N + 1 by omega]
  have e2 : KD E tT N (-2) = ordF D tT := by
    unfold ordF KD
    rw [h9, show ((N : Int)).toNat = N by omega]
    exact kd_ext hr 300 (-2)
  rw [e1]
  by_cases h2 : E 2 N = 0
  · rw [if_pos h2, KD_new hO hN h2, e2]
    rfl
  · rw [if_neg h2]
    exact (kd_new0 h2 300 (-2)).trans e2
theorem fF_app {A B : List Int} {k : Int} (h0 : 0 ≤ k) : fF (A ++ B) k = if k < A.length then fF A k else fF B (k - A.length) := by
  unfold fF
  rw [List.getD_eq_getElem?_getD, List.getD_eq_getElem?_getD, List.getD_eq_getElem?_getD]
  split
  · rw [List.getElem?_append_left (by omega)]
  · rw [List.getElem?_append_right (by omega), show k.toNat - A.length = (k - A.length).toNat by omega]
theorem fF_take {F : List Int} {z : Nat} {k : Int} (h0 : 0 ≤ k) (h1 : k < z) : fF (F.take z) k = fF F k := by
  unfold fF
  rw [List.getD_eq_getElem?_getD, List.getD_eq_getElem?_getD, List.getElem?_take, if_pos (by omega)]
theorem fF_drop {F : List Int} {z : Nat} {k : Int} (h0 : 0 ≤ k) : fF (F.drop z) k = fF F (z + k) := by
  unfold fF
  rw [List.getD_eq_getElem?_getD, List.getD_eq_getElem?_getD, List.getElem?_drop, show z + k.toNat = ((z : Int) + k).toNat by omega]
theorem fF_nmP {E : Mem} {P k : Int} (h0 : 0 ≤ k) (h1 : k < E 3 P) : fF (nmP E P) k = 4 * P + k := by
  unfold fF
  rw [List.getD_eq_getElem?_getD, nmP_get (by omega)]
  show 4 * P + ((k.toNat : Nat) : Int) = _
  omega
theorem fF_ins {E : Mem} {N : Nat} {F : List Int} {z : Nat} {k : Int} (hz : z ≤ F.length) (h0 : 0 ≤ k) (h3 : 0 ≤ E 3 N) : fF (F.take z ++ (nmP E N ++ F.drop z)) k = if k < z then fF F k else if k < z + E 3 N then 4 * N + (k - z) else fF F (k - E 3 N) := by
  have hl : (F.take z).length = z := by rw [List.length_take]; omega
  have hn : ((nmP E N).length : Int) = E 3 N := by have := nmP_len (D := E) N; omega
  rw [fF_app h0, hl]
  split
  · exact fF_take h0 (by omega)
  · rw [fF_app (by omega), hn]
    by_cases g : k < z + E 3 N
    · rw [if_pos (by omega), if_pos g, fF_nmP (by omega) (by omega)]
    · rw [if_neg (by omega), if_neg g, fF_drop (by omega)]
      congr 1
      omega
theorem sk_at {E : Mem} {N : Nat} {F : List Int} {b z : Nat} (hb : b ≤ z) (hz : z ≤ F.length) (hall : ∀ j : Nat, b ≤ j → j < z → laterB E (fF F j / 4) N = true) (hend : z = F.length ∨ laterB E (fF F z / 4) N = false) : sk E N (F.drop b) = (F.drop b).take (z - b) ++ (nmP E N ++ F.drop z) := by
  have e : F.drop b = (F.drop b).take (z - b) ++ F.drop z := by
    conv => lhs; rw [← List.take_append_drop (z - b) (F.drop b)]
    rw [List.drop_drop, show b + (z - b) = z by omega]
  have hs := tw_split (q := fun y => laterB E (y / 4) N) ((F.drop b).take (z - b)) (F.drop z) (fun y hy => ?_) (fun y hy => ?_)
  · rw [← e] at hs
    unfold sk
    rw [hs.1, hs.2]
  · obtain ⟨j, hj, ej⟩ := List.getElem_of_mem hy
    rw [List.length_take, List.length_drop] at hj
    have g := hall (b + j) (by omega) (by omega)
    rw [← fF_get (show b + j < F.length by omega)] at g
    rw [← ej, List.getElem_take, List.getElem_drop]
    exact g
  · rcases hend with g | g
    · rw [g, List.drop_length] at hy; cases hy
    · by_cases q : z < F.length
      · rw [List.drop_eq_getElem_cons q] at hy
        have : F[z] = y := Option.some.inj hy
        rw [← this, fF_get q]
        exact g
      · rw [List.drop_eq_nil_of_le (by omega)] at hy; cases hy
theorem insA_at {E : Mem} {N : Nat} {F : List Int} {i : Nat} (hi : i < F.length) (hno : ∀ j : Nat, j < i → fF F j ≠ fF F i) : insA E N (fF F i) F = F.take (i + 1) ++ sk E N (F.drop (i + 1)) := by
  have e : F = F.take i ++ (fF F i :: F.drop (i + 1)) := by
    rw [← fF_get hi, List.getElem_cons_drop, List.take_append_drop]
  have hnm : fF F i ∉ F.take i := by
    intro g
    obtain ⟨j, hj, ej⟩ := List.getElem_of_mem g
    rw [List.length_take] at hj
    rw [List.getElem_take, fF_get (by omega)] at ej
    exact hno j (by omega) ej
  conv => lhs; rw [e]
  have e2 : fF (F.take i ++ (fF F i :: F.drop (i + 1))) i = fF F i := by rw [← e]
  rw [e2, insA_app _ _ hnm, insA, if_pos rfl, take_fF hi, List.append_assoc]
  rfl
set_option maxHeartbeats 4000000 in
set_option maxRecDepth 100000 in
theorem k_X0_insertByAge (Z : LZ) (a : Nat → Nat) (C : Mem) (fS fA : Nat → Option Nat) {D : Mem} (sa sb : Nat → Nat) (N : Nat) (hM : RM D) (hr : ∀ s : Nat, s < N + 1 → 0 ≤ D 2 s ∧ D 2 s ≤ 3) (hN : N < 256) (h1c : C 1 0 = N) (hO : okO D (N + 1)) (L : List Nat) (hlen : L.length = N) (hL2 : ∀ k s : Nat, L[k]? = some s → s < N ∧ fA k = some (sa s)) (hL : L.Pairwise (fun s t : Nat => Lat D t s)) (hall : ∀ s : Nat, s < N → s ∈ L) : Tr Z jX0_insertByAge [.ref (a 100), .ref (sa N)] (cW Z a C fS fA (sW Z D sa sb (N + 1))) (fun r w => ∃ (C3 : Mem) (f2 : Nat → Option Nat), r = none ∧ w = cW Z a C3 fS f2 (sW Z D sa sb (N + 1)) ∧ (C3 = C ∧ Age D f2 sa (N + 1))) := by
  refine tr_of pn_X0_insertByAge (Nat.le_of_ble_eq_true rfl) (by intro v h; simp only [List.mem_cons, List.not_mem_nil, or_false] at h; rcases h with h | h <;> rw [h] <;> rfl) ?_
  have hlt : ∀ s ∈ L, s < N := fun s hs => by
    obtain ⟨k, hk, e⟩ := List.getElem_of_mem hs
    exact (hL2 k s (by rw [List.getElem?_eq_getElem hk, e])).1
  have hsN : N < N + 1 := by omega
  have loop : ∀ (k : Nat) (f : Nat → Option Nat), k ≤ N → Iv D L sa N k f → G Z jX0_insertByAge E0 (QM Z jX0_insertByAge (fun r w => ∃ (C3 : Mem) (f2 : Nat → Option Nat), r = none ∧ w = cW Z a C3 fS f2 (sW Z D sa sb (N + 1)) ∧ (C3 = C ∧ Age D f2 sa (N + 1)))) 5 [.ref (a 100), .ref (sa N), .int (iI (k : Int))] [] (cW Z a C fS f (sW Z D sa sb (N + 1))) 0 0 := by
    intro k
    induction k with
    | zero =>
      intro f h1 hI
      refine g_iload_n 2 dX0_insertByAge_5 rfl rfl ?_
      refine gi_if_le 44 dX0_insertByAge_6 (by decide) (by first | exact bI_Rg _ | assumption | exact ⟨by omega, by omega⟩) (fun c6 => ?_) (fun c6 => ?_)
      · refine g_aload_n 0 dX0_insertByAge_44 rfl rfl ?_
        refine cg_bk_byAge dX0_insertByAge_45 flX0_17 ?_
        refine g_iload_n 2 dX0_insertByAge_48 rfl rfl ?_
        refine g_aload_n 1 dX0_insertByAge_49 rfl rfl ?_
        refine ct_byAge hsN (hr N hsN) dX0_insertByAge_50 (by omega) (by omega) ?_
        refine g_vret dX0_insertByAge_51 rfl (Nat.le_of_ble_eq_true rfl) (Nat.le_of_ble_eq_true rfl) ⟨C, _, rfl, rfl, rfl, ?_⟩
        exact Age_ins hO h1 hlen hlt hL hall hI (Or.inl rfl)
      · exfalso; omega
    | succ m ih =>
      intro f h1 hI
      have hm : m < L.length := by omega
      have hLm := hL2 m L[m] (List.getElem?_eq_getElem hm)
      have hsm : L[m] < N + 1 := by omega
      have hfm := hI.1 m L[m] (by omega) (List.getElem?_eq_getElem hm)
      refine g_iload_n 2 dX0_insertByAge_5 rfl rfl ?_
      refine gi_if_le 44 dX0_insertByAge_6 (by decide) (by first | exact bI_Rg _ | assumption | exact ⟨by omega, by omega⟩) (fun c6 => ?_) (fun c6 => ?_)
      · exfalso; omega
      · refine g_aload_n 0 dX0_insertByAge_9 rfl rfl ?_
        refine cg_bk_byAge dX0_insertByAge_10 flX0_17 ?_
        refine g_iload_n 2 dX0_insertByAge_13 rfl rfl ?_
        refine g_iconst (iI 1) dX0_insertByAge_14 rfl ?_
        refine gi_sub dX0_insertByAge_15 ?_
        rw [show (((m + 1 : Nat) : Int) - 1) = (m : Int) by omega]
        refine ca_byAge (s := L[m]) hfm dX0_insertByAge_16 (by omega) (by omega) ?_
        refine g_aload_n 1 dX0_insertByAge_17 rfl rfl ?_
        refine cu_isLaterThan_X0_56 rfl hsm hsN hM (hr L[m] hsm) dX0_insertByAge_18 (And.intro (Nat.le_of_ble_eq_true rfl) (Nat.le_of_ble_eq_true rfl)) (Nat.le_of_ble_eq_true rfl) (Nat.le_of_ble_eq_true rfl) (Nat.le_of_ble_eq_true rfl) ?_
        refine gi_if_eq 44 dX0_insertByAge_21 (by decide) (bI_Rg _) (fun c21 => ?_) (fun c21 => ?_)
        · refine g_aload_n 0 dX0_insertByAge_44 rfl rfl ?_
          refine cg_bk_byAge dX0_insertByAge_45 flX0_17 ?_
          refine g_iload_n 2 dX0_insertByAge_48 rfl rfl ?_
          refine g_aload_n 1 dX0_insertByAge_49 rfl rfl ?_
          refine ct_byAge hsN (hr N hsN) dX0_insertByAge_50 (by omega) (by omega) ?_
          refine g_vret dX0_insertByAge_51 rfl (Nat.le_of_ble_eq_true rfl) (Nat.le_of_ble_eq_true rfl) ⟨C, _, rfl, rfl, rfl, ?_⟩
          exact Age_ins hO h1 hlen hlt hL hall hI (Or.inr ⟨L[m], List.getElem?_eq_getElem hm, laterB_not.mp (bI_eq0.mp c21)⟩)
        · refine g_aload_n 0 dX0_insertByAge_24 rfl rfl ?_
          refine cg_bk_byAge dX0_insertByAge_25 flX0_17 ?_
          refine g_iload_n 2 dX0_insertByAge_28 rfl rfl ?_
          refine g_aload_n 0 dX0_insertByAge_29 rfl rfl ?_
          refine cg_bk_byAge dX0_insertByAge_30 flX0_17 ?_
          refine g_iload_n 2 dX0_insertByAge_33 rfl rfl ?_
          refine g_iconst (iI 1) dX0_insertByAge_34 rfl ?_
          refine gi_sub dX0_insertByAge_35 ?_
          rw [show (((m + 1 : Nat) : Int) - 1) = (m : Int) by omega]
          refine ca_byAge (s := L[m]) hfm dX0_insertByAge_36 (by omega) (by omega) ?_
          refine ct_byAge hsm (hr L[m] hsm) dX0_insertByAge_37 (by omega) (by omega) ?_
          refine gi_inc dX0_insertByAge_38 rfl (Nat.le_of_ble_eq_true rfl) rfl ?_
          dsimp only [sto]
          refine g_goto 5 dX0_insertByAge_41 (by decide) ?_
          rw [show (((m + 1 : Nat) : Int) + -1) = (m : Int) by omega]
          refine ih _ (by omega) ⟨fun j s hj hs => ?_, fun j s hj hs => ?_⟩
          · rw [vup_ne (by show j ≠ m + 1; omega)]
            exact hI.1 j s (by omega) hs
          · by_cases e : j = m
            · subst e
              have es : L[j] = s := by
                rw [List.getElem?_eq_getElem hm] at hs
                exact Option.some.inj hs
              subst es
              exact ⟨vup_at _ _ _, laterB_iff.mp (bI_true c21)⟩
            · rw [vup_ne (by show j + 1 ≠ m + 1; omega)]
              exact hI.2 j s (by omega) hs
  refine g_aload_n 0 dX0_insertByAge_0 rfl rfl ?_
  refine cg_bk_count h1c dX0_insertByAge_1 flX0_24 ?_
  refine g_istore_n 2 dX0_insertByAge_4 rfl (Nat.le_of_ble_eq_true rfl) (Nat.le_of_ble_eq_true rfl) rfl ?_
  dsimp only [sto]
  refine loop N fA (Nat.le_refl _) ⟨fun j s hj hs => (hL2 j s hs).2, fun j s hj hs => ?_⟩
  have := (List.getElem?_eq_some_iff.mp hs).1
  omega
set_option maxHeartbeats 4000000 in
set_option maxRecDepth 100000 in
theorem k_X0_spotFor (Z : LZ) (a : Nat → Nat) (C : Mem) (fS fA : Nat → Option Nat) {D : Mem} (sa sb : Nat → Nat) (N : Nat) (hM : RM D) (hr : ∀ s : Nat, s < N + 1 → 0 ≤ D 2 s ∧ D 2 s ≤ 3) (hN : N < 256) (hk : D 2 N = 0) (hsl : ∀ s : Nat, s < N + 1 → fS s = some (sa s)) (F : List Int) (hF0 : C 2 0 = F.length) (hF : ∀ k : Int, 0 ≤ k → k < F.length → C 3 k = fF F k) (hFm : ∀ x ∈ F, 0 ≤ x ∧ x / 4 < N) (hF7 : F.length ≤ 768) (hlf : D 6 N = -2 ∨ D 6 N ∈ F) : Tr Z jX0_spotFor [.ref (a 100), .ref (sa N)] (cW Z a C fS fA (sW Z D sa sb (N + 1))) (fun r w => ∃ z : Nat, r = some (.int (iI (z : Int))) ∧ w = cW Z a C fS fA (sW Z D sa sb (N + 1)) ∧ (z ≤ F.length ∧ newl D N F = F.take z ++ (nmP D N ++ F.drop z))) := by
  refine tr_of pn_X0_spotFor (Nat.le_of_ble_eq_true rfl) (by intro v h; simp only [List.mem_cons, List.not_mem_nil, or_false] at h; rcases h with h | h <;> rw [h] <;> rfl) ?_
  have hsN : N < N + 1 := by omega
  have loop2 : ∀ (b : Nat), (∀ z : Nat, b ≤ z → z ≤ F.length → sk D N (F.drop b) = (F.drop b).take (z - b) ++ (nmP D N ++ F.drop z) → newl D N F = F.take z ++ (nmP D N ++ F.drop z)) → ∀ (fuel z : Nat), F.length - z < fuel → b ≤ z → z ≤ F.length → (∀ j : Nat, b ≤ j → j < z → laterB D (fF F j / 4) N = true) → G Z jX0_spotFor E0 (QM Z jX0_spotFor (fun r w => ∃ z : Nat, r = some (.int (iI (z : Int))) ∧ w = cW Z a C fS fA (sW Z D sa sb (N + 1)) ∧ (z ≤ F.length ∧ newl D N F = F.take z ++ (nmP D N ++ F.drop z)))) 49 [.ref (a 100), .ref (sa N), .int (iI (z : Int))] [] (cW Z a C fS fA (sW Z D sa sb (N + 1))) 0 0 := by
    intro b hfin fuel
    induction fuel with
    | zero => intros; exfalso; omega
    | succ fuel ih =>
      intro z hf h0 h1 hall
      refine g_iload_n 2 dX0_spotFor_49 rfl rfl ?_
      refine g_aload_n 0 dX0_spotFor_50 rfl rfl ?_
      refine cg_bk_orderSize hF0 dX0_spotFor_51 flX0_64 ?_
      refine gi_icmp_ge 84 dX0_spotFor_54 (by decide) (by first | exact bI_Rg _ | assumption | exact ⟨by omega, by omega⟩) (by first | exact bI_Rg _ | assumption | exact ⟨by omega, by omega⟩) (fun c54 => ?_) (fun c54 => ?_)
      · refine g_iload_n 2 dX0_spotFor_84 rfl rfl ?_
        refine g_iret dX0_spotFor_85 rfl (Nat.le_of_ble_eq_true rfl) (Nat.le_of_ble_eq_true rfl) ⟨z, rfl, rfl, h1, ?_⟩
        exact hfin z h0 h1 (sk_at h0 h1 hall (Or.inl (by omega)))
      · have hz : z < F.length := by omega
        have hm := hFm _ (fF_mem (F := F) (i := z) (by omega) (by omega))
        have hpt : ptF (fF F z) = fF F z / 4 := by unfold ptF; rw [if_neg (by omega)]
        have hs : (fF F z / 4).toNat < N + 1 := by omega
        have he : (((fF F z / 4).toNat : Nat) : Int) = fF F z / 4 := by omega
        refine g_aload_n 0 dX0_spotFor_57 rfl rfl ?_
        refine cg_bk_slips dX0_spotFor_58 flX0_11 ?_
        refine g_aload_n 0 dX0_spotFor_61 rfl rfl ?_
        refine cg_bk_order dX0_spotFor_62 flX0_20 ?_
        refine g_iload_n 2 dX0_spotFor_65 rfl rfl ?_
        refine ca_3 (hF z (by omega) (by omega)) dX0_spotFor_66 (by omega) (by omega) ?_
        refine ckN ⟨by omega, by omega⟩ lknX0_42 dX0_spotFor_67 (And.intro (Nat.le_of_ble_eq_true rfl) (Nat.le_of_ble_eq_true rfl)) (Nat.le_of_ble_eq_true rfl) (Nat.le_of_ble_eq_true rfl) (Nat.le_of_ble_eq_true rfl) ?_
        rw [hpt]
        refine ca_slips (s := (fF F z / 4).toNat) (hsl _ hs) dX0_spotFor_70 (by omega) (by omega) ?_
        refine g_aload_n 1 dX0_spotFor_71 rfl rfl ?_
        refine cu_isLaterThan_X0_56 rfl hs hsN hM (hr _ hs) dX0_spotFor_72 (And.intro (Nat.le_of_ble_eq_true rfl) (Nat.le_of_ble_eq_true rfl)) (Nat.le_of_ble_eq_true rfl) (Nat.le_of_ble_eq_true rfl) (Nat.le_of_ble_eq_true rfl) ?_
        rw [he]
        refine gi_if_eq 84 dX0_spotFor_75 (by decide) (bI_Rg _) (fun c75 => ?_) (fun c75 => ?_)
        · refine g_iload_n 2 dX0_spotFor_84 rfl rfl ?_
          refine g_iret dX0_spotFor_85 rfl (Nat.le_of_ble_eq_true rfl) (Nat.le_of_ble_eq_true rfl) ⟨z, rfl, rfl, h1, ?_⟩
          exact hfin z h0 h1 (sk_at h0 h1 hall (Or.inr (bI_eq0.mp c75)))
        · refine gi_inc dX0_spotFor_78 rfl (Nat.le_of_ble_eq_true rfl) rfl ?_
          dsimp only [sto]
          refine g_goto 49 dX0_spotFor_81 (by decide) ?_
          refine ih (z + 1) (by omega) (by omega) (by omega) (fun j a c => ?_)
          by_cases e : j = z
          · rw [e]; exact bI_true c75
          · exact hall j a (by omega)
  have loop1 : ¬ D 6 N = -2 → ∀ (fuel z : Nat), F.length - z < fuel → z ≤ F.length → (∀ j : Nat, j < z → ¬ fF F j = D 6 N) → G Z jX0_spotFor E0 (QM Z jX0_spotFor (fun r w => ∃ z : Nat, r = some (.int (iI (z : Int))) ∧ w = cW Z a C fS fA (sW Z D sa sb (N + 1)) ∧ (z ≤ F.length ∧ newl D N F = F.take z ++ (nmP D N ++ F.drop z)))) 11 [.ref (a 100), .ref (sa N), .int (iI (z : Int))] [] (cW Z a C fS fA (sW Z D sa sb (N + 1))) 0 0 := by
    intro hne fuel
    induction fuel with
    | zero => intros; exfalso; omega
    | succ fuel ih =>
      intro z hf h1 hno
      refine g_iload_n 2 dX0_spotFor_11 rfl rfl ?_
      refine g_aload_n 0 dX0_spotFor_12 rfl rfl ?_
      refine cg_bk_orderSize hF0 dX0_spotFor_13 flX0_64 ?_
      refine gi_icmp_ge 38 dX0_spotFor_16 (by decide) (by first | exact bI_Rg _ | assumption | exact ⟨by omega, by omega⟩) (by first | exact bI_Rg _ | assumption | exact ⟨by omega, by omega⟩) (fun c16 => ?_) (fun c16 => ?_)
      · refine g_iload_n 2 dX0_spotFor_38 rfl rfl ?_
        refine g_iconst (iI 1) dX0_spotFor_39 rfl ?_
        refine gi_add dX0_spotFor_40 ?_
        refine g_aload_n 0 dX0_spotFor_41 rfl rfl ?_
        refine cg_bk_orderSize hF0 dX0_spotFor_42 flX0_64 ?_
        refine g_mmin dX0_spotFor_45 lkmX0_73 mst_min min_ mcd_min (Nat.le_of_ble_eq_true rfl) (Nat.le_of_ble_eq_true rfl) (Nat.le_of_ble_eq_true rfl) (Nat.le_of_ble_eq_true rfl) (by first | exact bI_Rg _ | assumption | exact ⟨by omega, by omega⟩) (by first | exact bI_Rg _ | assumption | exact ⟨by omega, by omega⟩) ?_
        refine g_istore_n 2 dX0_spotFor_48 rfl (Nat.le_of_ble_eq_true rfl) (Nat.le_of_ble_eq_true rfl) rfl ?_
        dsimp only [sto]
        exfalso
        have hin : D 6 N ∈ F := by
          rcases hlf with q | q
          · exact absurd q hne
          · exact q
        obtain ⟨j, hj, ej⟩ := List.getElem_of_mem hin
        rw [fF_get hj] at ej
        exact hno j (by omega) ej
      · refine g_aload_n 0 dX0_spotFor_19 rfl rfl ?_
        refine cg_bk_order dX0_spotFor_20 flX0_20 ?_
        refine g_iload_n 2 dX0_spotFor_23 rfl rfl ?_
        refine ca_3 (hF z (by omega) (by omega)) dX0_spotFor_24 (by omega) (by omega) ?_
        refine g_aload_n 1 dX0_spotFor_25 rfl rfl ?_
        refine cg_put_left hsN hk dX0_spotFor_26 flX0_70 ?_
        refine gi_icmp_eq 38 dX0_spotFor_29 (by decide) (by have := hFm _ (fF_mem (F := F) (i := z) (by omega) (by omega)); exact ⟨by omega, by omega⟩) (hM _ _) (fun c29 => ?_) (fun c29 => ?_)
        · refine g_iload_n 2 dX0_spotFor_38 rfl rfl ?_
          refine g_iconst (iI 1) dX0_spotFor_39 rfl ?_
          refine gi_add dX0_spotFor_40 ?_
          refine g_aload_n 0 dX0_spotFor_41 rfl rfl ?_
          refine cg_bk_orderSize hF0 dX0_spotFor_42 flX0_64 ?_
          refine g_mmin dX0_spotFor_45 lkmX0_73 mst_min min_ mcd_min (Nat.le_of_ble_eq_true rfl) (Nat.le_of_ble_eq_true rfl) (Nat.le_of_ble_eq_true rfl) (Nat.le_of_ble_eq_true rfl) (by first | exact bI_Rg _ | assumption | exact ⟨by omega, by omega⟩) (by first | exact bI_Rg _ | assumption | exact ⟨by omega, by omega⟩) ?_
          refine g_istore_n 2 dX0_spotFor_48 rfl (Nat.le_of_ble_eq_true rfl) (Nat.le_of_ble_eq_true rfl) rfl ?_
          dsimp only [sto]
          rw [show (if (F.length : Int) < (z : Int) + 1 then (F.length : Int) else (z : Int) + 1) = ((z + 1 : Nat) : Int) by rw [if_neg (by omega)]; omega]
          refine loop2 (z + 1) (fun y hy1 hy2 hy3 => ?_) (F.length + 1) (z + 1) (by omega) (by omega) (by omega) (fun j a c => by omega)
          have hzz : z < F.length := by omega
          unfold newl
          rw [if_neg hne, ← c29, insA_at hzz (fun j hj => by rw [c29]; exact hno j hj), hy3, ← List.append_assoc]
          congr 1
          conv => rhs; rw [show y = (z + 1) + (y - (z + 1)) by omega]
          exact List.take_add.symm
        · refine gi_inc dX0_spotFor_32 rfl (Nat.le_of_ble_eq_true rfl) rfl ?_
          dsimp only [sto]
          refine g_goto 11 dX0_spotFor_35 (by decide) ?_
          refine ih (z + 1) (by omega) (by omega) (fun j hj => ?_)
          by_cases e : j = z
          · rw [e]; exact c29
          · exact hno j (by omega)
  refine g_iconst (iI 0) dX0_spotFor_0 rfl ?_
  refine g_istore_n 2 dX0_spotFor_1 rfl (Nat.le_of_ble_eq_true rfl) (Nat.le_of_ble_eq_true rfl) rfl ?_
  dsimp only [sto]
  refine g_aload_n 1 dX0_spotFor_2 rfl rfl ?_
  refine cg_put_left hsN hk dX0_spotFor_3 flX0_70 ?_
  refine g_bipush (iI (-2)) dX0_spotFor_6 (by decide) ?_
  refine gi_icmp_eq 49 dX0_spotFor_8 (by decide) (hM _ _) ⟨by decide, by decide⟩ (fun c8 => ?_) (fun c8 => ?_)
  · refine loop2 0 (fun y hy1 hy2 hy3 => ?_) (F.length + 1) 0 (by omega) (by omega) (by omega) (fun j a c => by omega)
    rw [List.drop_zero, Nat.sub_zero] at hy3
    unfold newl
    rw [if_pos c8]
    exact hy3
  · exact loop1 c8 (F.length + 1) 0 (by omega) (by omega) (fun j hj => by omega)
set_option maxHeartbeats 4000000 in
set_option maxRecDepth 100000 in
theorem k_X0_insertSigns (Z : LZ) (a : Nat → Nat) (C : Mem) (fS fA : Nat → Option Nat) {D : Mem} (sa sb : Nat → Nat) (N : Nat) (hM : RM D) (hr : ∀ s : Nat, s < N + 1 → 0 ≤ D 2 s ∧ D 2 s ≤ 3) (hN : N < 256) (hk : D 2 N = 0) (hsl : ∀ s : Nat, s < N + 1 → fS s = some (sa s)) (F : List Int) (hF0 : C 2 0 = F.length) (hF : ∀ k : Int, 0 ≤ k → k < F.length → C 3 k = fF F k) (hFm : ∀ x ∈ F, 0 ≤ x ∧ x / 4 < N) (hF7 : F.length ≤ 768) (hlf : D 6 N = -2 ∨ D 6 N ∈ F) (hn3 : 1 ≤ D 3 N ∧ D 3 N ≤ 3) (hnl : (F.length : Int) + D 3 N ≤ 768) : Tr Z jX0_insertSigns [.ref (a 100), .ref (sa N)] (cW Z a C fS fA (sW Z D sa sb (N + 1))) (fun r w => ∃ C3 : Mem, r = none ∧ w = cW Z a C3 fS fA (sW Z D sa sb (N + 1)) ∧ ((∀ q : Nat, q ≠ 2 → q ≠ 3 → C3 q = C q) ∧ C3 2 0 = (newl D N F).length ∧ ∀ k : Int, 0 ≤ k → k < (newl D N F).length → C3 3 k = fF (newl D N F) k)) := by
  refine tr_of pn_X0_insertSigns (Nat.le_of_ble_eq_true rfl) (by intro v h; simp only [List.mem_cons, List.not_mem_nil, or_false] at h; rcases h with h | h <;> rw [h] <;> rfl) ?_
  have hsN : N < N + 1 := by omega
  have loop2 : ∀ (z : Nat), z ≤ F.length → newl D N F = F.take z ++ (nmP D N ++ F.drop z) → ∀ (fuel : Nat) (C2 : Mem) (j : Int), (D 3 N - j).toNat < fuel → 0 ≤ j → j ≤ D 3 N → (∀ q : Nat, q ≠ 3 → C2 q = C q) → (∀ k : Int, 0 ≤ k → k < z → C2 3 k = fF F k) → (∀ k : Int, z ≤ k → k < z + j → C2 3 k = 4 * N + (k - z)) → (∀ k : Int, z ≤ k → k < F.length → C2 3 (k + D 3 N) = fF F k) → G Z jX0_insertSigns E0 (QM Z jX0_insertSigns (fun r w => ∃ C3 : Mem, r = none ∧ w = cW Z a C3 fS fA (sW Z D sa sb (N + 1)) ∧ ((∀ q : Nat, q ≠ 2 → q ≠ 3 → C3 q = C q) ∧ C3 2 0 = (newl D N F).length ∧ ∀ k : Int, 0 ≤ k → k < (newl D N F).length → C3 3 k = fF (newl D N F) k))) 51 [.ref (a 100), .ref (sa N), .int (iI (D 3 N)), .int (iI (z : Int)), .int (iI j)] [] (cW Z a C2 fS fA (sW Z D sa sb (N + 1))) 0 0 := by
    intro z hz hnew fuel
    induction fuel with
    | zero => intros; exfalso; omega
    | succ fuel ih =>
      intro C2 j hf h0 h1 hq v1 v2 v3
      refine g_iload dX0_insertSigns_51 rfl ?_
      refine g_iload_n 2 dX0_insertSigns_53 rfl rfl ?_
      refine gi_icmp_ge 78 dX0_insertSigns_54 (by decide) (by first | exact bI_Rg _ | assumption | exact ⟨by omega, by omega⟩) (by first | exact bI_Rg _ | assumption | exact ⟨by omega, by omega⟩) (fun c54 => ?_) (fun c54 => ?_)
      · refine g_aload_n 0 dX0_insertSigns_78 rfl rfl ?_
        refine g_dup dX0_insertSigns_79 rfl ?_
        refine cg_bk_orderSize (congrFun (hq 2 (by decide)) _) dX0_insertSigns_80 flX0_64 ?_
        refine g_iload_n 2 dX0_insertSigns_83 rfl rfl ?_
        refine gi_add dX0_insertSigns_84 ?_
        refine cp_bk_orderSize dX0_insertSigns_85 flX0_64 ?_
        refine g_vret dX0_insertSigns_88 rfl (Nat.le_of_ble_eq_true rfl) (Nat.le_of_ble_eq_true rfl) ⟨_, rfl, rfl, fun q g1 g2 => (ms_ne g1).trans (hq q g2), ?_, fun k a b => ?_⟩
        · rw [ms_at, hF0, hnew, List.length_append, List.length_append, List.length_take, List.length_drop]
          have := nmP_len (D := D) N
          omega
        · rw [ms_row (by decide), hnew, fF_ins hz a (by omega)]
          have hlen : ((newl D N F).length : Int) = F.length + D 3 N := by
            rw [hnew, List.length_append, List.length_append, List.length_take, List.length_drop]
            have := nmP_len (D := D) N
            omega
          by_cases g1 : k < z
          · rw [if_pos g1]; exact v1 k a g1
          · rw [if_neg g1]
            by_cases g2 : k < z + D 3 N
            · rw [if_pos g2]; exact v2 k (by omega) (by omega)
            · rw [if_neg g2]
              have := v3 (k - D 3 N) (by omega) (by omega)
              rw [show k - D 3 N + D 3 N = k by omega] at this
              exact this
      · refine g_aload_n 0 dX0_insertSigns_57 rfl rfl ?_
        refine cg_bk_order dX0_insertSigns_58 flX0_20 ?_
        refine g_iload_n 3 dX0_insertSigns_61 rfl rfl ?_
        refine g_iload dX0_insertSigns_62 rfl ?_
        refine gi_add dX0_insertSigns_64 ?_
        refine g_aload_n 1 dX0_insertSigns_65 rfl rfl ?_
        refine g_iload dX0_insertSigns_66 rfl ?_
        refine ckE_put hsN hk lkX0_67 (k_X2_nameOf Z a C2 fS fA sa sb (N + 1) N hsN hk j) dX0_insertSigns_68 (And.intro (Nat.le_of_ble_eq_true rfl) (Nat.le_of_ble_eq_true rfl)) rfl (Nat.le_of_ble_eq_true rfl) rfl rfl (Nat.le_of_ble_eq_true rfl) (Nat.le_of_ble_eq_true rfl) rfl ?_
        refine ct_3 dX0_insertSigns_71 (by omega) (by omega) ?_
        refine gi_inc dX0_insertSigns_72 rfl (Nat.le_of_ble_eq_true rfl) rfl ?_
        dsimp only [sto]
        refine g_goto 51 dX0_insertSigns_75 (by decide) ?_
        refine ih (ms C2 3 (z + j) (4 * N + j)) (j + 1) (by omega) (by omega) (by omega) (fun q h => (ms_ne h).trans (hq q h)) (fun k a b => ?_) (fun k a b => ?_) (fun k a b => ?_)
        · rw [ms_off (by omega)]; exact v1 k a b
        · by_cases e : k = z + j
          · rw [e, ms_at]; omega
          · rw [ms_off e]; exact v2 k a (by omega)
        · rw [ms_off (by omega)]; exact v3 k a b
  have loop1 : ∀ (z : Nat), z ≤ F.length → newl D N F = F.take z ++ (nmP D N ++ F.drop z) → ∀ (m : Nat) (C2 : Mem), m ≤ F.length → (∀ q : Nat, q ≠ 3 → C2 q = C q) → (∀ k : Int, 0 ≤ k → k < m ∨ k < z → C2 3 k = fF F k) → (∀ k : Int, m ≤ k → k < F.length → C2 3 (k + D 3 N) = fF F k) → G Z jX0_insertSigns E0 (QM Z jX0_insertSigns (fun r w => ∃ C3 : Mem, r = none ∧ w = cW Z a C3 fS fA (sW Z D sa sb (N + 1)) ∧ ((∀ q : Nat, q ≠ 2 → q ≠ 3 → C3 q = C q) ∧ C3 2 0 = (newl D N F).length ∧ ∀ k : Int, 0 ≤ k → k < (newl D N F).length → C3 3 k = fF (newl D N F) k))) 20 [.ref (a 100), .ref (sa N), .int (iI (D 3 N)), .int (iI (z : Int)), .int (iI ((m : Int) - 1))] [] (cW Z a C2 fS fA (sW Z D sa sb (N + 1))) 0 0 := by
    intro z hz hnew m
    induction m with
    | zero =>
      intro C2 hm hq v1 v3
      refine g_iload dX0_insertSigns_20 rfl ?_
      refine g_iload_n 3 dX0_insertSigns_22 rfl rfl ?_
      refine gi_icmp_lt 48 dX0_insertSigns_23 (by decide) (by first | exact bI_Rg _ | assumption | exact ⟨by omega, by omega⟩) (by first | exact bI_Rg _ | assumption | exact ⟨by omega, by omega⟩) (fun c23 => ?_) (fun c23 => ?_)
      · refine g_iconst (iI 0) dX0_insertSigns_48 rfl ?_
        refine g_istore dX0_insertSigns_49 (Nat.le_of_ble_eq_true rfl) (Nat.le_of_ble_eq_true rfl) rfl ?_
        dsimp only [sto]
        refine loop2 z hz hnew 10 C2 0 (by omega) (by omega) (by omega) hq (fun k a b => v1 k a (by omega)) (fun k a b => by omega) (fun k a b => v3 k (by omega) b)
      · exfalso; omega
    | succ m ih =>
      intro C2 hm hq v1 v3
      rw [show ((m + 1 : Nat) : Int) - 1 = (m : Int) by omega]
      refine g_iload dX0_insertSigns_20 rfl ?_
      refine g_iload_n 3 dX0_insertSigns_22 rfl rfl ?_
      refine gi_icmp_lt 48 dX0_insertSigns_23 (by decide) (by first | exact bI_Rg _ | assumption | exact ⟨by omega, by omega⟩) (by first | exact bI_Rg _ | assumption | exact ⟨by omega, by omega⟩) (fun c23 => ?_) (fun c23 => ?_)
      · refine g_iconst (iI 0) dX0_insertSigns_48 rfl ?_
        refine g_istore dX0_insertSigns_49 (Nat.le_of_ble_eq_true rfl) (Nat.le_of_ble_eq_true rfl) rfl ?_
        dsimp only [sto]
        refine loop2 z hz hnew 10 C2 0 (by omega) (by omega) (by omega) hq (fun k a b => v1 k a (by omega)) (fun k a b => by omega) (fun k a b => v3 k (by omega) b)
      · refine g_aload_n 0 dX0_insertSigns_26 rfl rfl ?_
        refine cg_bk_order dX0_insertSigns_27 flX0_20 ?_
        refine g_iload dX0_insertSigns_30 rfl ?_
        refine g_iload_n 2 dX0_insertSigns_32 rfl rfl ?_
        refine gi_add dX0_insertSigns_33 ?_
        refine g_aload_n 0 dX0_insertSigns_34 rfl rfl ?_
        refine cg_bk_order dX0_insertSigns_35 flX0_20 ?_
        refine g_iload dX0_insertSigns_38 rfl ?_
        refine ca_3 (v1 m (by omega) (by omega)) dX0_insertSigns_40 (by omega) (by omega) ?_
        refine ct_3 dX0_insertSigns_41 (by omega) (by omega) ?_
        refine gi_inc dX0_insertSigns_42 rfl (Nat.le_of_ble_eq_true rfl) rfl ?_
        dsimp only [sto]
        refine g_goto 20 dX0_insertSigns_45 (by decide) ?_
        refine ih (ms C2 3 ((m : Int) + D 3 N) (fF F m)) (by omega) (fun q h => (ms_ne h).trans (hq q h)) (fun k a b => ?_) (fun k a b => ?_)
        · rw [ms_off (by omega)]; exact v1 k a (by omega)
        · by_cases e : k = m
          · rw [e, ms_at]
          · rw [ms_off (by omega)]; exact v3 k (by omega) b
  refine g_aload_n 1 dX0_insertSigns_0 rfl rfl ?_
  refine cg_put_codes hsN hk dX0_insertSigns_1 flX0_50 ?_
  refine cl_codes hsN hk (by omega) dX0_insertSigns_4 ?_
  refine g_istore_n 2 dX0_insertSigns_5 rfl (Nat.le_of_ble_eq_true rfl) (Nat.le_of_ble_eq_true rfl) rfl ?_
  dsimp only [sto]
  refine g_aload_n 0 dX0_insertSigns_6 rfl rfl ?_
  refine g_aload_n 1 dX0_insertSigns_7 rfl rfl ?_
  refine ckZ lkX0_60 (k_X0_spotFor Z a C fS fA sa sb N hM hr hN hk hsl F hF0 hF hFm hF7 hlf) dX0_insertSigns_8 (And.intro (Nat.le_of_ble_eq_true rfl) (Nat.le_of_ble_eq_true rfl)) (ci := 0) (q0 := 1) rfl rfl (Nat.le_of_ble_eq_true rfl) rfl rfl (Nat.le_of_ble_eq_true rfl) (Nat.le_of_ble_eq_true rfl) rfl (fun z8 h8 => ?_)
  refine g_istore_n 3 dX0_insertSigns_11 rfl (Nat.le_of_ble_eq_true rfl) (Nat.le_of_ble_eq_true rfl) rfl ?_
  dsimp only [sto]
  refine g_aload_n 0 dX0_insertSigns_12 rfl rfl ?_
  refine cg_bk_orderSize hF0 dX0_insertSigns_13 flX0_64 ?_
  refine g_iconst (iI 1) dX0_insertSigns_16 rfl ?_
  refine gi_sub dX0_insertSigns_17 ?_
  refine g_istore dX0_insertSigns_18 (Nat.le_of_ble_eq_true rfl) (Nat.le_of_ble_eq_true rfl) rfl ?_
  dsimp only [sto]
  exact loop1 z8 h8.1 h8.2 F.length C (Nat.le_refl _) (fun _ _ => rfl) (fun k a b => hF k a (by omega)) (fun k a b => by omega)
