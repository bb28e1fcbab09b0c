/-! THE CLASS: all -/
theorem fin_back {D : Mem} (hG : Good (ms D 13 0 0)) (h13 : Rg (D 13 0)) : Good D := by
  have e : ms (ms D 13 0 0) 13 0 (D 13 0) = D := by
    funext r z
    by_cases e1 : r = 13
    · subst e1
      by_cases e2 : z = 0
      · rw [e2, ms_at]
      · rw [ms_off e2, ms_off e2]
    · rw [ms_row e1, ms_row e1]
  have h2 := Good_fin hG (v := D 13 0) h13
  rw [e] at h2
  exact h2
theorem Good_al {D : Mem} (hG : Good D) {f t : Int} (hf : 0 ≤ f ∧ f < 6) (ht : 0 ≤ t ∧ t < 6) : Good (alD D (tkB D f) t (D 9 0)) := by
  have h := Good_all hG f t
  unfold A_all at h
  rw [if_pos ⟨hf, ht⟩] at h
  exact fin_back h (by rw [alD_ne (by decide)]; exact hG.1.1 13 0)
def gtH (T : Int → Bool) (h : Int → Int) (i : Nat) (s : Int) : Int := if (s < i ∧ T s = true) ∧ h s = 0 then 1 else h s
set_option maxHeartbeats 4000000 in
set_option maxRecDepth 100000 in
theorem k_X8_all (Z : LZ) (a : Nat → Nat) (C : Mem) (fS fA : Nat → Option Nat) {D : Mem} (sa sb : Nat → Nat) (N : Nat) (hG : Good D) (hI : Inv D) (hR : Rel D C fS fA sa N) (f t : Int) (hf : Rg f) (ht : Rg t) : Tr Z jX8_all [.ref (a 99), .int (iI f), .int (iI t)] (cW Z a C fS fA (sW Z D sa sb N)) (fun r w => ∃ C2 : Mem, r = some (.int (iI ((A_all D f t).1))) ∧ w = cW Z a C2 fS fA (sW Z ((A_all D f t).2) sa sb N) ∧ Rel ((A_all D f t).2) C2 fS fA sa N) := by
  refine tr_of pn_X8_all (Nat.le_of_ble_eq_true rfl) (by intro v h; simp only [List.mem_cons, List.not_mem_nil, or_false] at h; rcases h with h | h | h <;> rw [h] <;> rfl) ?_
  have hB := hR.1
  have hn := hB.n
  have h9 := hB.d9
  have hM := hG.1.1
  refine g_aload_n 0 dX8_all_0 rfl rfl ?_
  refine g_iload_n 1 dX8_all_1 rfl rfl ?_
  refine ckE lkX8_42 (k_X8_sheetOf Z a C fS fA _ f hf) dX8_all_2 (And.intro (Nat.le_of_ble_eq_true rfl) (Nat.le_of_ble_eq_true rfl)) (ci := 7) (q0 := 0) rfl rfl (Nat.le_of_ble_eq_true rfl) rfl rfl (Nat.le_of_ble_eq_true rfl) (Nat.le_of_ble_eq_true rfl) rfl ?_
  by_cases hPf : 0 ≤ f ∧ f < 6
  · rw [if_pos hPf]
    have hnf : f.toNat < 6 := by omega
    have hef : ((f.toNat : Nat) : Int) = f := by omega
    refine g_astore_n 3 dX8_all_5 rfl (Nat.le_of_ble_eq_true rfl) (Nat.le_of_ble_eq_true rfl) rfl ?_
    dsimp only [sto]
    refine g_aload_n 0 dX8_all_6 rfl rfl ?_
    refine g_iload_n 2 dX8_all_7 rfl rfl ?_
    refine ckE lkX8_42 (k_X8_sheetOf Z a C fS fA _ t ht) dX8_all_8 (And.intro (Nat.le_of_ble_eq_true rfl) (Nat.le_of_ble_eq_true rfl)) (ci := 7) (q0 := 0) rfl rfl (Nat.le_of_ble_eq_true rfl) rfl rfl (Nat.le_of_ble_eq_true rfl) (Nat.le_of_ble_eq_true rfl) rfl ?_
    by_cases hPt : 0 ≤ t ∧ t < 6
    · rw [if_pos hPt]
      have hnt : t.toNat < 6 := by omega
      have het : ((t.toNat : Nat) : Int) = t := by omega
      refine g_astore dX8_all_11 (Nat.le_of_ble_eq_true rfl) (Nat.le_of_ble_eq_true rfl) rfl ?_
      dsimp only [sto]
      refine g_aload_n 3 dX8_all_13 rfl rfl ?_
      refine g_ifnull dX8_all_14 ?_
      refine g_aload dX8_all_17 rfl ?_
      refine g_ifnonnull 28 dX8_all_19 (by decide) ?_
      refine g_iconst (iI 0) dX8_all_28 rfl ?_
      refine g_istore dX8_all_29 (Nat.le_of_ble_eq_true rfl) (Nat.le_of_ble_eq_true rfl) rfl ?_
      dsimp only [sto]
      have loop : ∀ (fuel : Nat) (C2 : Mem) (i : Nat), N - i < fuel → i ≤ N → (∀ q : Nat, q ≠ 20 + t.toNat → C2 q = C q) → (∀ s : Nat, s < N → C2 (20 + t.toNat) s = gtH (tkB D f) (C (20 + t.toNat)) i s) → (∀ s : Nat, N ≤ s → s < 256 → C2 (20 + t.toNat) s = C (20 + t.toNat) s) → G Z jX8_all E0 (QM Z jX8_all (fun r w => ∃ C2 : Mem, r = some (.int (iI ((A_all D f t).1))) ∧ w = cW Z a C2 fS fA (sW Z ((A_all D f t).2) sa sb N) ∧ Rel ((A_all D f t).2) C2 fS fA sa N)) 31 [.ref (a 99), .int (iI f), .int (iI t), .ref (a (110 + f.toNat)), .ref (a (110 + t.toNat)), .int (iI (i : Int))] [] (cW Z a C2 fS fA (sW Z D sa sb N)) 0 0 := by
        intro fuel
        induction fuel with
        | zero => intros; exfalso; omega
        | succ fuel ih =>
          intro C2 i hfu h1 hq hv hvz
          refine g_iload dX8_all_31 rfl ?_
          refine g_aload_n 0 dX8_all_33 rfl rfl ?_
          refine cg_mp_book dX8_all_34 flX8_12 ?_
          refine cg_bk_count ((congrFun (hq 1 (by omega)) _).trans (hB.c1)) dX8_all_37 flX8_74 ?_
          refine gi_icmp_ge 77 dX8_all_40 (by decide) (by first | exact bI_Rg _ | assumption | exact ⟨by omega, by omega⟩) (by first | exact bI_Rg _ | assumption | exact ⟨by omega, by omega⟩) (fun c40 => ?_) (fun c40 => ?_)
          · have hrE : ∀ r : Nat, r ≠ 10 → r ≠ 13 → alD D (tkB D f) t (D 9 0) r = D r := fun r h _ => alD_ne h
            have hWE : sW Z (alD D (tkB D f) t (D 9 0)) sa sb N = sW Z D sa sb N := sW_congr N (fun r h => alD_ne (by omega))
            have hGE := Good_al hG hPf hPt
            have hE10 : ∀ x : Int, 0 ≤ x → x < N → alD D (tkB D f) t (D 9 0) 10 (256 * t + x) = if D 10 (256 * t + x) ≠ 0 ∨ tkB D f x = true then 1 else 0 := by
              intro x a b
              rw [alD_10]
              unfold alG
              rw [if_pos (by omega), show 256 * t + x - 256 * t = x by omega]
            have hmono : ∀ x : Nat, x < N → tkB D t x = true → tkB (alD D (tkB D f) t (D 9 0)) t x = true := fun x hx hq => kp_mono hG.1 hGE.1 (fun r h _ _ _ => alD_ne h) (fun y a b c => by rw [hE10 y a (by omega), if_pos (Or.inl (by omega))]) x x (by omega) (by omega) (by omega) hq
            have hhE : ∀ x : Nat, x < N → C2 (20 + t.toNat) x = if alD D (tkB D f) t (D 9 0) 10 (256 * ((t.toNat : Nat) : Int) + x) = 0 then 0 else if tkB D t x = true then 2 else 1 := by
              intro x hx
              rw [het, hE10 x (by omega) (by omega), hv x hx]
              have hbx := hB.held t.toNat x hnt (by omega)
              rw [if_pos hx, het] at hbx
              unfold gtH
              rw [hbx]
              unfold hdF
              have hk : tkB D t x = true → ¬ D 10 (256 * t + x) = 0 := by
                intro g
                have g2 := tkB_eq hG.1 t (x := x) (by omega) (by omega)
                rw [g] at g2
                have g3 := of_decide_eq_true ((Bool.and_eq_true _ _).mp g2.symm).1
                omega
              by_cases e1 : D 10 (256 * t + x) = 0
              · rw [if_pos e1]
                have e2 : tkB D t x = false := by
                  cases g : tkB D t x
                  · rfl
                  · exact absurd e1 (hk g)
                cases g : tkB D f x
                · rw [if_neg (by rintro ⟨⟨_, q⟩, _⟩; cases q), if_pos]
                  rw [if_neg (by rintro (q | q); exact q e1; cases q)]
                · rw [if_pos ⟨⟨by omega, rfl⟩, rfl⟩, if_pos (Or.inr rfl), if_neg (by decide), e2, if_neg (by decide)]
              · rw [if_neg e1, if_pos (Or.inl e1), if_neg (show ¬ (1 : Int) = 0 by decide), if_neg (fun q => by have q2 := q.2; split at q2 <;> omega)]
            have hhz : ∀ x : Nat, N ≤ x → x < 256 → C2 (20 + t.toNat) x = 0 := by
              intro x hx hx2
              rw [hvz x hx hx2]
              have hbx := hB.held t.toNat x hnt hx2
              rw [if_neg (by omega)] at hbx
              exact hbx
            rw [← hWE]
            refine g_aload_n 0 dX8_all_77 rfl rfl ?_
            refine g_aload dX8_all_78 rfl ?_
            refine g_aload_n 0 dX8_all_80 rfl rfl ?_
            refine cg_mp_book dX8_all_81 flX8_12 ?_
            refine ckY lkX8_134 (k_X4_settle Z a C2 fS fA sa sb N hGE (by rw [alD_ne (by decide)]; exact h9) hn (by rw [hq 1 (by omega)]; exact hB.c1) hB.sl (tkB D t) t.toNat hnt (fun x hx hq => by rw [het]; exact hmono x hx hq) hhE hhz (by rw [hq _ (by omega), hB.mx t.toNat hnt, het]; exact (mxF_congr N (fun _ _ _ => rfl) (fun x _ _ => by rw [alD_ne (by decide)])).symm)) dX8_all_84 (And.intro (Nat.le_of_ble_eq_true rfl) (Nat.le_of_ble_eq_true rfl)) (ci := 4) rfl (he_sh t.toNat hnt) (Nat.le_of_ble_eq_true rfl) rfl rfl (Nat.le_of_ble_eq_true rfl) (Nat.le_of_ble_eq_true rfl) rfl (fun C84 h84 => ?_)
            refine ckE lkX8_138 (k_X8_done Z a C84 fS fA _ _) dX8_all_87 (And.intro (Nat.le_of_ble_eq_true rfl) (Nat.le_of_ble_eq_true rfl)) (ci := 7) (q0 := 0) rfl rfl (Nat.le_of_ble_eq_true rfl) rfl rfl (Nat.le_of_ble_eq_true rfl) (Nat.le_of_ble_eq_true rfl) rfl ?_
            refine g_iret dX8_all_90 rfl (Nat.le_of_ble_eq_true rfl) (Nat.le_of_ble_eq_true rfl) ?_
            have hA : A_all D f t = (cntB (tkB (alD D (tkB D f) t (D 9 0)) t) (D 9 0).toNat - cntB (tkB D t) (D 9 0).toNat, ms (alD D (tkB D f) t (D 9 0)) 13 0 0) := by
              unfold A_all
              rw [if_pos ⟨hPf, hPt⟩]
            rw [hA, show (D 9 0).toNat = N by omega, het, sW_fin]
            refine ⟨_, rfl, rfl, Rel_fin (?_ : Rel (alD D (tkB D f) t (D 9 0)) C84 fS fA sa N) 0⟩
            obtain ⟨q1, q2, q3, q4⟩ := h84
            refine Rel_got hnt hR hrE (oth_same hG.1 h9 hrE (fun q hq hne x hx0 hx1 => ?_)) (fun q g1 g2 g3 => (q1 q g2 g3).trans (hq q g2)) (by rw [q1 0 (by omega) (by omega), hq 0 (by omega), alD_ne (by decide)]; exact hB.fi) q2 (fun x hx hx2 => by rw [q3 x hx]; exact hhz x hx hx2) q4
            rw [alD_10]
            unfold alG
            rw [if_neg (by omega)]
          · have hi : i < N := by omega
            have hgi : C2 (20 + f.toNat) i = C (20 + f.toNat) i := by
              by_cases e : f.toNat = t.toNat
              · rw [e, hv i hi]
                unfold gtH
                rw [if_neg (by rintro ⟨⟨q, _⟩, _⟩; omega)]
              · rw [hq _ (by omega)]
            have hgt : decide (C2 (20 + f.toNat) (i : Int) = 2) = tkB D f i := by
              rw [hgi]
              have := hB.tk hG.1 hnf hi
              rw [hef] at this
              simp only [this, Bool.decide_eq_true]
            have hrf := hB.hrg hnf i (by omega) (by omega)
            have hrt := hB.hrg hnt i (by omega) (by omega)
            have hvi : C2 (20 + t.toNat) i = C (20 + t.toNat) i := by
              rw [hv i hi]
              unfold gtH
              rw [if_neg (by rintro ⟨⟨q, _⟩, _⟩; omega)]
            refine g_aload_n 0 dX8_all_43 rfl rfl ?_
            refine cg_mp_book dX8_all_44 flX8_12 ?_
            refine cg_bk_slips dX8_all_47 flX8_141 ?_
            refine g_iload dX8_all_50 rfl ?_
            refine ca_slips (s := i) (hB.sl i hi) dX8_all_52 (by omega) (by omega) ?_
            refine g_astore dX8_all_53 (Nat.le_of_ble_eq_true rfl) (Nat.le_of_ble_eq_true rfl) rfl ?_
            dsimp only [sto]
            refine g_aload_n 3 dX8_all_55 rfl rfl ?_
            refine g_aload dX8_all_56 rfl ?_
            refine ckE lkX8_145 (k_X4_hasTaken Z a C2 fS fA sa sb N hn f.toNat i hnf hi (by rw [hgi]; exact ⟨by omega, by omega⟩)) dX8_all_58 (And.intro (Nat.le_of_ble_eq_true rfl) (Nat.le_of_ble_eq_true rfl)) (ci := 4) rfl (he_sh f.toNat hnf) (Nat.le_of_ble_eq_true rfl) rfl rfl (Nat.le_of_ble_eq_true rfl) (Nat.le_of_ble_eq_true rfl) rfl ?_
            rw [hgt]
            refine gi_if_eq 71 dX8_all_61 (by decide) (bI_Rg _) (fun c61 => ?_) (fun c61 => ?_)
            · refine gi_inc dX8_all_71 rfl (Nat.le_of_ble_eq_true rfl) rfl ?_
              dsimp only [sto]
              refine g_goto 31 dX8_all_74 (by decide) ?_
              refine g_cut 6 ?_
              refine ih C2 (i + 1) (by omega) (by omega) hq (fun s hs => ?_) hvz
              rw [hv s hs]
              unfold gtH
              by_cases e : s = i
              · subst e
                rw [if_neg (by rintro ⟨⟨q, _⟩, _⟩; omega), if_neg (by rintro ⟨⟨_, q⟩, _⟩; rw [q] at c61; exact absurd c61 (by decide))]
              · by_cases g : ((s : Int) < i ∧ tkB D f s = true) ∧ C (20 + t.toNat) s = 0
                · rw [if_pos g, if_pos ⟨⟨by omega, g.1.2⟩, g.2⟩]
                · rw [if_neg g, if_neg (by rintro ⟨⟨q1, q2⟩, q3⟩; exact g ⟨⟨by omega, q2⟩, q3⟩)]
            · refine g_aload dX8_all_64 rfl ?_
              refine g_aload dX8_all_66 rfl ?_
              refine ckV lkX8_130 (k_X4_get Z a C2 fS fA sa sb N hn t.toNat i hnt hi (by rw [hvi]; exact ⟨by omega, by omega⟩)) dX8_all_68 (And.intro (Nat.le_of_ble_eq_true rfl) (Nat.le_of_ble_eq_true rfl)) (ci := 4) rfl (he_sh t.toNat hnt) (Nat.le_of_ble_eq_true rfl) rfl rfl (Nat.le_of_ble_eq_true rfl) (Nat.le_of_ble_eq_true rfl) rfl ?_
              refine gi_inc dX8_all_71 rfl (Nat.le_of_ble_eq_true rfl) rfl ?_
              dsimp only [sto]
              refine g_goto 31 dX8_all_74 (by decide) ?_
              have hTi : tkB D f i = true := by
                cases e : tkB D f i
                · rw [e] at c61; exact absurd rfl c61
                · rfl
              rw [hvi]
              refine g_cut 6 ?_
              refine ih (if C (20 + t.toNat) i = 0 then ms C2 (20 + t.toNat) i 1 else C2) (i + 1) (by omega) (by omega) (fun q h => ?_) (fun s hs => ?_) (fun s hs hs2 => ?_)
              · split
                · rw [ms_ne h]; exact hq q h
                · exact hq q h
              · unfold gtH
                by_cases e : s = i
                · subst e
                  by_cases g : C (20 + t.toNat) s = 0
                  · rw [if_pos g, ms_at, if_pos ⟨⟨by omega, hTi⟩, g⟩]
                  · rw [if_neg g, hvi, if_neg (fun q => g q.2)]
                · have e2 : (if C (20 + t.toNat) i = 0 then ms C2 (20 + t.toNat) i 1 else C2) (20 + t.toNat) s = C2 (20 + t.toNat) s := by
                    split
                    · rw [ms_off (by omega)]
                    · rfl
                  rw [e2, hv s hs]
                  unfold gtH
                  by_cases g : ((s : Int) < i ∧ tkB D f s = true) ∧ C (20 + t.toNat) s = 0
                  · rw [if_pos g, if_pos ⟨⟨by omega, g.1.2⟩, g.2⟩]
                  · rw [if_neg g, if_neg (by rintro ⟨⟨q1, q2⟩, q3⟩; exact g ⟨⟨by omega, q2⟩, q3⟩)]
              · split
                · rw [ms_off (by omega)]; exact hvz s hs hs2
                · exact hvz s hs hs2
      exact loop (N + 1) C 0 (by omega) (by omega) (fun _ _ => rfl) (fun s hs => by unfold gtH; rw [if_neg (by rintro ⟨⟨q, _⟩, _⟩; omega)]) (fun _ _ _ => rfl)
    · rw [if_neg hPt]
      refine g_astoreN dX8_all_11 (Nat.le_of_ble_eq_true rfl) (Nat.le_of_ble_eq_true rfl) rfl ?_
      dsimp only [sto]
      refine g_aload_n 3 dX8_all_13 rfl rfl ?_
      refine g_ifnull dX8_all_14 ?_
      refine g_aloadN dX8_all_17 rfl ?_
      refine g_ifnonnullN dX8_all_19 ?_
      refine g_aload_n 0 dX8_all_22 rfl rfl ?_
      refine g_iconst (iI 1) dX8_all_23 rfl ?_
      refine ckE lkX8_46 (k_X8_refuse Z a C fS fA _ 1) dX8_all_24 (And.intro (Nat.le_of_ble_eq_true rfl) (Nat.le_of_ble_eq_true rfl)) (ci := 7) (q0 := 0) rfl rfl (Nat.le_of_ble_eq_true rfl) rfl rfl (Nat.le_of_ble_eq_true rfl) (Nat.le_of_ble_eq_true rfl) rfl ?_
      refine g_iret dX8_all_27 rfl (Nat.le_of_ble_eq_true rfl) (Nat.le_of_ble_eq_true rfl) ?_
      have hA : A_all D f t = (-1, ms D 13 0 1) := by
        unfold A_all
        rw [if_neg (by omega)]
      rw [hA, sW_fin]
      exact ⟨_, rfl, rfl, Rel_fin hR _⟩
  · rw [if_neg hPf]
    refine g_astore_nN 3 dX8_all_5 rfl (Nat.le_of_ble_eq_true rfl) (Nat.le_of_ble_eq_true rfl) rfl ?_
    dsimp only [sto]
    refine g_aload_n 0 dX8_all_6 rfl rfl ?_
    refine g_iload_n 2 dX8_all_7 rfl rfl ?_
    refine ckE lkX8_42 (k_X8_sheetOf Z a C fS fA _ t ht) dX8_all_8 (And.intro (Nat.le_of_ble_eq_true rfl) (Nat.le_of_ble_eq_true rfl)) (ci := 7) (q0 := 0) rfl rfl (Nat.le_of_ble_eq_true rfl) rfl rfl (Nat.le_of_ble_eq_true rfl) (Nat.le_of_ble_eq_true rfl) rfl ?_
    by_cases hPt : 0 ≤ t ∧ t < 6
    · rw [if_pos hPt]
      have hnt : t.toNat < 6 := by omega
      have het : ((t.toNat : Nat) : Int) = t := by omega
      refine g_astore dX8_all_11 (Nat.le_of_ble_eq_true rfl) (Nat.le_of_ble_eq_true rfl) rfl ?_
      dsimp only [sto]
      refine g_aload_nN 3 dX8_all_13 rfl rfl ?_
      refine g_ifnullN 22 dX8_all_14 (by decide) ?_
      refine g_aload_n 0 dX8_all_22 rfl rfl ?_
      refine g_iconst (iI 1) dX8_all_23 rfl ?_
      refine ckE lkX8_46 (k_X8_refuse Z a C fS fA _ 1) dX8_all_24 (And.intro (Nat.le_of_ble_eq_true rfl) (Nat.le_of_ble_eq_true rfl)) (ci := 7) (q0 := 0) rfl rfl (Nat.le_of_ble_eq_true rfl) rfl rfl (Nat.le_of_ble_eq_true rfl) (Nat.le_of_ble_eq_true rfl) rfl ?_
      refine g_iret dX8_all_27 rfl (Nat.le_of_ble_eq_true rfl) (Nat.le_of_ble_eq_true rfl) ?_
      have hA : A_all D f t = (-1, ms D 13 0 1) := by
        unfold A_all
        rw [if_neg (by omega)]
      rw [hA, sW_fin]
      exact ⟨_, rfl, rfl, Rel_fin hR _⟩
    · rw [if_neg hPt]
      refine g_astoreN dX8_all_11 (Nat.le_of_ble_eq_true rfl) (Nat.le_of_ble_eq_true rfl) rfl ?_
      dsimp only [sto]
      refine g_aload_nN 3 dX8_all_13 rfl rfl ?_
      refine g_ifnullN 22 dX8_all_14 (by decide) ?_
      refine g_aload_n 0 dX8_all_22 rfl rfl ?_
      refine g_iconst (iI 1) dX8_all_23 rfl ?_
      refine ckE lkX8_46 (k_X8_refuse Z a C fS fA _ 1) dX8_all_24 (And.intro (Nat.le_of_ble_eq_true rfl) (Nat.le_of_ble_eq_true rfl)) (ci := 7) (q0 := 0) rfl rfl (Nat.le_of_ble_eq_true rfl) rfl rfl (Nat.le_of_ble_eq_true rfl) (Nat.le_of_ble_eq_true rfl) rfl ?_
      refine g_iret dX8_all_27 rfl (Nat.le_of_ble_eq_true rfl) (Nat.le_of_ble_eq_true rfl) ?_
      have hA : A_all D f t = (-1, ms D 13 0 1) := by
        unfold A_all
        rw [if_neg (by omega)]
      rw [hA, sW_fin]
      exact ⟨_, rfl, rfl, Rel_fin hR _⟩
