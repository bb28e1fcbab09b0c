/-! THE CLASS: its world: fixed cells (numbers in the rows of C), then the cells W of its slips -/
def cW (Z : LZ) (a : Nat → Nat) (C : Mem) (fS fA : Nat → Option Nat) (W : va_W) : va_W := (a 99, .inr (7, [.ref (a 100), .ref (a 101), .ref (a 102), .ref (a 80), .int (iI (C 0 0))])) :: (a 100, .inr (0, [.ref (a 103), .ref (a 104), .ref (a 3), .int (iI (C 1 0)), .int (iI (C 2 0))])) :: (a 103, .inl (Z.2 2, 256, .inr (.inr (.inr (.inr fS))))) :: (a 104, .inl (Z.2 2, 256, .inr (.inr (.inr (.inr fA))))) :: (a 3, .inl (Z.2 0, 768, .inl (rowI (C 3)))) :: (a 101, .inl (Z.2 3, 6, .inr (.inr (.inr (.inr (fun p => some (a (110 + p)))))))) :: (a 110, .inr (4, [.int (iI 0), .ref (a 20), .ref (a 30), .ref (a 40), .int (iI (C 50 0)), .int (iI (C 60 0))])) :: (a 111, .inr (4, [.int (iI 1), .ref (a 21), .ref (a 31), .ref (a 41), .int (iI (C 51 0)), .int (iI (C 61 0))])) :: (a 112, .inr (4, [.int (iI 2), .ref (a 22), .ref (a 32), .ref (a 42), .int (iI (C 52 0)), .int (iI (C 62 0))])) :: (a 113, .inr (4, [.int (iI 3), .ref (a 23), .ref (a 33), .ref (a 43), .int (iI (C 53 0)), .int (iI (C 63 0))])) :: (a 114, .inr (4, [.int (iI 4), .ref (a 24), .ref (a 34), .ref (a 44), .int (iI (C 54 0)), .int (iI (C 64 0))])) :: (a 115, .inr (4, [.int (iI 5), .ref (a 25), .ref (a 35), .ref (a 45), .int (iI (C 55 0)), .int (iI (C 65 0))])) :: (a 20, .inl (Z.2 0, 256, .inl (rowI (C 20)))) :: (a 30, .inl (Z.2 0, 3, .inl (rowI (C 30)))) :: (a 40, .inl (Z.2 0, 3, .inl (rowI (C 40)))) :: (a 21, .inl (Z.2 0, 256, .inl (rowI (C 21)))) :: (a 31, .inl (Z.2 0, 3, .inl (rowI (C 31)))) :: (a 41, .inl (Z.2 0, 3, .inl (rowI (C 41)))) :: (a 22, .inl (Z.2 0, 256, .inl (rowI (C 22)))) :: (a 32, .inl (Z.2 0, 3, .inl (rowI (C 32)))) :: (a 42, .inl (Z.2 0, 3, .inl (rowI (C 42)))) :: (a 23, .inl (Z.2 0, 256, .inl (rowI (C 23)))) :: (a 33, .inl (Z.2 0, 3, .inl (rowI (C 33)))) :: (a 43, .inl (Z.2 0, 3, .inl (rowI (C 43)))) :: (a 24, .inl (Z.2 0, 256, .inl (rowI (C 24)))) :: (a 34, .inl (Z.2 0, 3, .inl (rowI (C 34)))) :: (a 44, .inl (Z.2 0, 3, .inl (rowI (C 44)))) :: (a 25, .inl (Z.2 0, 256, .inl (rowI (C 25)))) :: (a 35, .inl (Z.2 0, 3, .inl (rowI (C 35)))) :: (a 45, .inl (Z.2 0, 3, .inl (rowI (C 45)))) :: (a 102, .inr (3, [.ref (a 100), .ref (a 70), .ref (a 71), .ref (a 72), .ref (a 73), .ref (a 74), .ref (a 75), .ref (a 76), .int (iI (C 77 0)), .int (iI (C 78 0))])) :: (a 70, .inl (Z.2 0, 256, .inl (rowI (C 70)))) :: (a 71, .inl (Z.2 0, 768, .inl (rowI (C 71)))) :: (a 72, .inl (Z.2 0, 1024, .inl (rowI (C 72)))) :: (a 73, .inl (Z.2 0, 768, .inl (rowI (C 73)))) :: (a 74, .inl (Z.2 0, 769, .inl (rowI (C 74)))) :: (a 75, .inl (Z.2 0, 768, .inl (rowI (C 75)))) :: (a 76, .inl (Z.2 0, 768, .inl (rowI (C 76)))) :: (a 80, .inl (Z.2 0, 768, .inl (rowI (C 80)))) :: W
section CRows
variable {Z : LZ} {J : MD} {E : State → Array Value → (Nat → Prop) → Prop} {Q : List Frame → Array Value → State → (Nat → Prop) → State → Prop} {pc : Nat} {ls st : List Value} {k n : Nat} {x y : Int} {a : Nat → Nat} {C : Mem} {fS fA : Nat → Option Nat} {W : va_W} {i : Nat}
theorem cg_mp_book (d : decode J.2.1 pc = .ok (.getfield i, 3)) (hl : Cond.fieldLink J.1.cls i "ManyPens" "book" "LManyPens$Book;" ∈ WT) (K : G Z J E Q (pc + 3) ls (.ref (a 100) :: st) (cW Z a C fS fA W) k n) : G Z J E Q pc ls (.ref (a 99) :: st) (cW Z a C fS fA W) k n := g_get 7 0 0 d rfl fwX8 (by decide) hl rfl rfl K
theorem cg_mp_sheets (d : decode J.2.1 pc = .ok (.getfield i, 3)) (hl : Cond.fieldLink J.1.cls i "ManyPens" "sheets" "[LManyPens$Sheet;" ∈ WT) (K : G Z J E Q (pc + 3) ls (.ref (a 101) :: st) (cW Z a C fS fA W) k n) : G Z J E Q pc ls (.ref (a 99) :: st) (cW Z a C fS fA W) k n := g_get 7 0 1 d rfl fwX8 (by decide) hl rfl rfl K
theorem cg_mp_reading (d : decode J.2.1 pc = .ok (.getfield i, 3)) (hl : Cond.fieldLink J.1.cls i "ManyPens" "reading" "LManyPens$Reading;" ∈ WT) (K : G Z J E Q (pc + 3) ls (.ref (a 102) :: st) (cW Z a C fS fA W) k n) : G Z J E Q pc ls (.ref (a 99) :: st) (cW Z a C fS fA W) k n := g_get 7 0 2 d rfl fwX8 (by decide) hl rfl rfl K
theorem cg_mp_looks (d : decode J.2.1 pc = .ok (.getfield i, 3)) (hl : Cond.fieldLink J.1.cls i "ManyPens" "looks" "[I" ∈ WT) (K : G Z J E Q (pc + 3) ls (.ref (a 80) :: st) (cW Z a C fS fA W) k n) : G Z J E Q pc ls (.ref (a 99) :: st) (cW Z a C fS fA W) k n := g_get 7 0 3 d rfl fwX8 (by decide) hl rfl rfl K
theorem cg_mp_finding {v : Int} (hv : C 0 0 = v) (d : decode J.2.1 pc = .ok (.getfield i, 3)) (hl : Cond.fieldLink J.1.cls i "ManyPens" "finding" "I" ∈ WT) (K : G Z J E Q (pc + 3) ls (.int (iI v) :: st) (cW Z a C fS fA W) k n) : G Z J E Q pc ls (.ref (a 99) :: st) (cW Z a C fS fA W) k n := g_get 7 0 4 d rfl fwX8 (by decide) hl rfl rfl (by rw [hv]; exact K)
theorem cp_mp_finding (d : decode J.2.1 pc = .ok (.putfield i, 3)) (hl : Cond.fieldLink J.1.cls i "ManyPens" "finding" "I" ∈ WT) (K : G Z J E Q (pc + 3) ls st (cW Z a (ms C 0 0 x) fS fA W) k n) : G Z J E Q pc ls (.int (iI x) :: .ref (a 99) :: st) (cW Z a C fS fA W) k n := g_put 7 0 4 tyX8 d rfl fwX8 tyX8_ok nmX8 (by decide) hl rfl rfl rfl rfl (Nat.le_of_ble_eq_true rfl) rfl K
theorem cg_bk_slips (d : decode J.2.1 pc = .ok (.getfield i, 3)) (hl : Cond.fieldLink J.1.cls i "ManyPens$Book" "slips" "[LManyPens$Slip;" ∈ WT) (K : G Z J E Q (pc + 3) ls (.ref (a 103) :: st) (cW Z a C fS fA W) k n) : G Z J E Q pc ls (.ref (a 100) :: st) (cW Z a C fS fA W) k n := g_get 0 1 0 d rfl fwX0 (by decide) hl rfl rfl K
theorem cg_bk_byAge (d : decode J.2.1 pc = .ok (.getfield i, 3)) (hl : Cond.fieldLink J.1.cls i "ManyPens$Book" "byAge" "[LManyPens$Slip;" ∈ WT) (K : G Z J E Q (pc + 3) ls (.ref (a 104) :: st) (cW Z a C fS fA W) k n) : G Z J E Q pc ls (.ref (a 100) :: st) (cW Z a C fS fA W) k n := g_get 0 1 1 d rfl fwX0 (by decide) hl rfl rfl K
theorem cg_bk_order (d : decode J.2.1 pc = .ok (.getfield i, 3)) (hl : Cond.fieldLink J.1.cls i "ManyPens$Book" "order" "[I" ∈ WT) (K : G Z J E Q (pc + 3) ls (.ref (a 3) :: st) (cW Z a C fS fA W) k n) : G Z J E Q pc ls (.ref (a 100) :: st) (cW Z a C fS fA W) k n := g_get 0 1 2 d rfl fwX0 (by decide) hl rfl rfl K
theorem cg_bk_count {v : Int} (hv : C 1 0 = v) (d : decode J.2.1 pc = .ok (.getfield i, 3)) (hl : Cond.fieldLink J.1.cls i "ManyPens$Book" "count" "I" ∈ WT) (K : G Z J E Q (pc + 3) ls (.int (iI v) :: st) (cW Z a C fS fA W) k n) : G Z J E Q pc ls (.ref (a 100) :: st) (cW Z a C fS fA W) k n := g_get 0 1 3 d rfl fwX0 (by decide) hl rfl rfl (by rw [hv]; exact K)
theorem cg_bk_orderSize {v : Int} (hv : C 2 0 = v) (d : decode J.2.1 pc = .ok (.getfield i, 3)) (hl : Cond.fieldLink J.1.cls i "ManyPens$Book" "orderSize" "I" ∈ WT) (K : G Z J E Q (pc + 3) ls (.int (iI v) :: st) (cW Z a C fS fA W) k n) : G Z J E Q pc ls (.ref (a 100) :: st) (cW Z a C fS fA W) k n := g_get 0 1 4 d rfl fwX0 (by decide) hl rfl rfl (by rw [hv]; exact K)
theorem cp_bk_count (d : decode J.2.1 pc = .ok (.putfield i, 3)) (hl : Cond.fieldLink J.1.cls i "ManyPens$Book" "count" "I" ∈ WT) (K : G Z J E Q (pc + 3) ls st (cW Z a (ms C 1 0 x) fS fA W) k n) : G Z J E Q pc ls (.int (iI x) :: .ref (a 100) :: st) (cW Z a C fS fA W) k n := g_put 0 1 3 tyX0 d rfl fwX0 tyX0_ok nmX0 (by decide) hl rfl rfl rfl rfl (Nat.le_of_ble_eq_true rfl) rfl K
theorem cp_bk_orderSize (d : decode J.2.1 pc = .ok (.putfield i, 3)) (hl : Cond.fieldLink J.1.cls i "ManyPens$Book" "orderSize" "I" ∈ WT) (K : G Z J E Q (pc + 3) ls st (cW Z a (ms C 2 0 x) fS fA W) k n) : G Z J E Q pc ls (.int (iI x) :: .ref (a 100) :: st) (cW Z a C fS fA W) k n := g_put 0 1 4 tyX0 d rfl fwX0 tyX0_ok nmX0 (by decide) hl rfl rfl rfl rfl (Nat.le_of_ble_eq_true rfl) rfl K
theorem cg_rd_book (d : decode J.2.1 pc = .ok (.getfield i, 3)) (hl : Cond.fieldLink J.1.cls i "ManyPens$Reading" "book" "LManyPens$Book;" ∈ WT) (K : G Z J E Q (pc + 3) ls (.ref (a 100) :: st) (cW Z a C fS fA W) k n) : G Z J E Q pc ls (.ref (a 102) :: st) (cW Z a C fS fA W) k n := g_get 3 30 0 d rfl fwX3 (by decide) hl rfl rfl K
theorem cg_rd_standing (d : decode J.2.1 pc = .ok (.getfield i, 3)) (hl : Cond.fieldLink J.1.cls i "ManyPens$Reading" "standing" "[I" ∈ WT) (K : G Z J E Q (pc + 3) ls (.ref (a 70) :: st) (cW Z a C fS fA W) k n) : G Z J E Q pc ls (.ref (a 102) :: st) (cW Z a C fS fA W) k n := g_get 3 30 1 d rfl fwX3 (by decide) hl rfl rfl K
theorem cg_rd_order (d : decode J.2.1 pc = .ok (.getfield i, 3)) (hl : Cond.fieldLink J.1.cls i "ManyPens$Reading" "order" "[I" ∈ WT) (K : G Z J E Q (pc + 3) ls (.ref (a 71) :: st) (cW Z a C fS fA W) k n) : G Z J E Q pc ls (.ref (a 102) :: st) (cW Z a C fS fA W) k n := g_get 3 30 2 d rfl fwX3 (by decide) hl rfl rfl K
theorem cg_rd_spots (d : decode J.2.1 pc = .ok (.getfield i, 3)) (hl : Cond.fieldLink J.1.cls i "ManyPens$Reading" "spots" "[I" ∈ WT) (K : G Z J E Q (pc + 3) ls (.ref (a 72) :: st) (cW Z a C fS fA W) k n) : G Z J E Q pc ls (.ref (a 102) :: st) (cW Z a C fS fA W) k n := g_get 3 30 3 d rfl fwX3 (by decide) hl rfl rfl K
theorem cg_rd_struck (d : decode J.2.1 pc = .ok (.getfield i, 3)) (hl : Cond.fieldLink J.1.cls i "ManyPens$Reading" "struck" "[I" ∈ WT) (K : G Z J E Q (pc + 3) ls (.ref (a 73) :: st) (cW Z a C fS fA W) k n) : G Z J E Q pc ls (.ref (a 102) :: st) (cW Z a C fS fA W) k n := g_get 3 30 4 d rfl fwX3 (by decide) hl rfl rfl K
theorem cg_rd_ahead (d : decode J.2.1 pc = .ok (.getfield i, 3)) (hl : Cond.fieldLink J.1.cls i "ManyPens$Reading" "ahead" "[I" ∈ WT) (K : G Z J E Q (pc + 3) ls (.ref (a 74) :: st) (cW Z a C fS fA W) k n) : G Z J E Q pc ls (.ref (a 102) :: st) (cW Z a C fS fA W) k n := g_get 3 30 5 d rfl fwX3 (by decide) hl rfl rfl K
theorem cg_rd_seen (d : decode J.2.1 pc = .ok (.getfield i, 3)) (hl : Cond.fieldLink J.1.cls i "ManyPens$Reading" "seen" "[I" ∈ WT) (K : G Z J E Q (pc + 3) ls (.ref (a 75) :: st) (cW Z a C fS fA W) k n) : G Z J E Q pc ls (.ref (a 102) :: st) (cW Z a C fS fA W) k n := g_get 3 30 6 d rfl fwX3 (by decide) hl rfl rfl K
theorem cg_rd_tints (d : decode J.2.1 pc = .ok (.getfield i, 3)) (hl : Cond.fieldLink J.1.cls i "ManyPens$Reading" "tints" "[I" ∈ WT) (K : G Z J E Q (pc + 3) ls (.ref (a 76) :: st) (cW Z a C fS fA W) k n) : G Z J E Q pc ls (.ref (a 102) :: st) (cW Z a C fS fA W) k n := g_get 3 30 7 d rfl fwX3 (by decide) hl rfl rfl K
theorem cg_rd_orderSize {v : Int} (hv : C 77 0 = v) (d : decode J.2.1 pc = .ok (.getfield i, 3)) (hl : Cond.fieldLink J.1.cls i "ManyPens$Reading" "orderSize" "I" ∈ WT) (K : G Z J E Q (pc + 3) ls (.int (iI v) :: st) (cW Z a C fS fA W) k n) : G Z J E Q pc ls (.ref (a 102) :: st) (cW Z a C fS fA W) k n := g_get 3 30 8 d rfl fwX3 (by decide) hl rfl rfl (by rw [hv]; exact K)
theorem cg_rd_textSize {v : Int} (hv : C 78 0 = v) (d : decode J.2.1 pc = .ok (.getfield i, 3)) (hl : Cond.fieldLink J.1.cls i "ManyPens$Reading" "textSize" "I" ∈ WT) (K : G Z J E Q (pc + 3) ls (.int (iI v) :: st) (cW Z a C fS fA W) k n) : G Z J E Q pc ls (.ref (a 102) :: st) (cW Z a C fS fA W) k n := g_get 3 30 9 d rfl fwX3 (by decide) hl rfl rfl (by rw [hv]; exact K)
theorem cp_rd_orderSize (d : decode J.2.1 pc = .ok (.putfield i, 3)) (hl : Cond.fieldLink J.1.cls i "ManyPens$Reading" "orderSize" "I" ∈ WT) (K : G Z J E Q (pc + 3) ls st (cW Z a (ms C 77 0 x) fS fA W) k n) : G Z J E Q pc ls (.int (iI x) :: .ref (a 102) :: st) (cW Z a C fS fA W) k n := g_put 3 30 8 tyX3 d rfl fwX3 tyX3_ok nmX3 (by decide) hl rfl rfl rfl rfl (Nat.le_of_ble_eq_true rfl) rfl K
theorem cp_rd_textSize (d : decode J.2.1 pc = .ok (.putfield i, 3)) (hl : Cond.fieldLink J.1.cls i "ManyPens$Reading" "textSize" "I" ∈ WT) (K : G Z J E Q (pc + 3) ls st (cW Z a (ms C 78 0 x) fS fA W) k n) : G Z J E Q pc ls (.int (iI x) :: .ref (a 102) :: st) (cW Z a C fS fA W) k n := g_put 3 30 9 tyX3 d rfl fwX3 tyX3_ok nmX3 (by decide) hl rfl rfl rfl rfl (Nat.le_of_ble_eq_true rfl) rfl K
theorem ca_3 {v : Int} (hv : C 3 x = v) (d : decode J.2.1 pc = .ok (.iaload, 1)) (h0 : 0 ≤ x) (h1 : x < 768) (K : G Z J E Q (pc + 1) ls (.int (iI v) :: st) (cW Z a C fS fA W) k n) : G Z J E Q pc ls (.int (iI x) :: .ref (a 3) :: st) (cW Z a C fS fA W) k n := gi_iald 4 d rfl (by decide) h0 h1 (by rw [hv]; exact K)
theorem ct_3 (d : decode J.2.1 pc = .ok (.iastore, 1)) (h0 : 0 ≤ x) (h1 : x < 768) (K : G Z J E Q (pc + 1) ls st (cW Z a (ms C 3 x y) fS fA W) k n) : G Z J E Q pc ls (.int (iI y) :: .int (iI x) :: .ref (a 3) :: st) (cW Z a C fS fA W) k n := gi_iast 4 d rfl (by decide) h0 h1 rfl K
theorem ca_70 {v : Int} (hv : C 70 x = v) (d : decode J.2.1 pc = .ok (.iaload, 1)) (h0 : 0 ≤ x) (h1 : x < 256) (K : G Z J E Q (pc + 1) ls (.int (iI v) :: st) (cW Z a C fS fA W) k n) : G Z J E Q pc ls (.int (iI x) :: .ref (a 70) :: st) (cW Z a C fS fA W) k n := gi_iald 31 d rfl (by decide) h0 h1 (by rw [hv]; exact K)
theorem ct_70 (d : decode J.2.1 pc = .ok (.iastore, 1)) (h0 : 0 ≤ x) (h1 : x < 256) (K : G Z J E Q (pc + 1) ls st (cW Z a (ms C 70 x y) fS fA W) k n) : G Z J E Q pc ls (.int (iI y) :: .int (iI x) :: .ref (a 70) :: st) (cW Z a C fS fA W) k n := gi_iast 31 d rfl (by decide) h0 h1 rfl K
theorem ca_71 {v : Int} (hv : C 71 x = v) (d : decode J.2.1 pc = .ok (.iaload, 1)) (h0 : 0 ≤ x) (h1 : x < 768) (K : G Z J E Q (pc + 1) ls (.int (iI v) :: st) (cW Z a C fS fA W) k n) : G Z J E Q pc ls (.int (iI x) :: .ref (a 71) :: st) (cW Z a C fS fA W) k n := gi_iald 32 d rfl (by decide) h0 h1 (by rw [hv]; exact K)
theorem ct_71 (d : decode J.2.1 pc = .ok (.iastore, 1)) (h0 : 0 ≤ x) (h1 : x < 768) (K : G Z J E Q (pc + 1) ls st (cW Z a (ms C 71 x y) fS fA W) k n) : G Z J E Q pc ls (.int (iI y) :: .int (iI x) :: .ref (a 71) :: st) (cW Z a C fS fA W) k n := gi_iast 32 d rfl (by decide) h0 h1 rfl K
theorem ca_72 {v : Int} (hv : C 72 x = v) (d : decode J.2.1 pc = .ok (.iaload, 1)) (h0 : 0 ≤ x) (h1 : x < 1024) (K : G Z J E Q (pc + 1) ls (.int (iI v) :: st) (cW Z a C fS fA W) k n) : G Z J E Q pc ls (.int (iI x) :: .ref (a 72) :: st) (cW Z a C fS fA W) k n := gi_iald 33 d rfl (by decide) h0 h1 (by rw [hv]; exact K)
theorem ct_72 (d : decode J.2.1 pc = .ok (.iastore, 1)) (h0 : 0 ≤ x) (h1 : x < 1024) (K : G Z J E Q (pc + 1) ls st (cW Z a (ms C 72 x y) fS fA W) k n) : G Z J E Q pc ls (.int (iI y) :: .int (iI x) :: .ref (a 72) :: st) (cW Z a C fS fA W) k n := gi_iast 33 d rfl (by decide) h0 h1 rfl K
theorem ca_73 {v : Int} (hv : C 73 x = v) (d : decode J.2.1 pc = .ok (.iaload, 1)) (h0 : 0 ≤ x) (h1 : x < 768) (K : G Z J E Q (pc + 1) ls (.int (iI v) :: st) (cW Z a C fS fA W) k n) : G Z J E Q pc ls (.int (iI x) :: .ref (a 73) :: st) (cW Z a C fS fA W) k n := gi_iald 34 d rfl (by decide) h0 h1 (by rw [hv]; exact K)
theorem ct_73 (d : decode J.2.1 pc = .ok (.iastore, 1)) (h0 : 0 ≤ x) (h1 : x < 768) (K : G Z J E Q (pc + 1) ls st (cW Z a (ms C 73 x y) fS fA W) k n) : G Z J E Q pc ls (.int (iI y) :: .int (iI x) :: .ref (a 73) :: st) (cW Z a C fS fA W) k n := gi_iast 34 d rfl (by decide) h0 h1 rfl K
theorem ca_74 {v : Int} (hv : C 74 x = v) (d : decode J.2.1 pc = .ok (.iaload, 1)) (h0 : 0 ≤ x) (h1 : x < 769) (K : G Z J E Q (pc + 1) ls (.int (iI v) :: st) (cW Z a C fS fA W) k n) : G Z J E Q pc ls (.int (iI x) :: .ref (a 74) :: st) (cW Z a C fS fA W) k n := gi_iald 35 d rfl (by decide) h0 h1 (by rw [hv]; exact K)
theorem ct_74 (d : decode J.2.1 pc = .ok (.iastore, 1)) (h0 : 0 ≤ x) (h1 : x < 769) (K : G Z J E Q (pc + 1) ls st (cW Z a (ms C 74 x y) fS fA W) k n) : G Z J E Q pc ls (.int (iI y) :: .int (iI x) :: .ref (a 74) :: st) (cW Z a C fS fA W) k n := gi_iast 35 d rfl (by decide) h0 h1 rfl K
theorem ca_75 {v : Int} (hv : C 75 x = v) (d : decode J.2.1 pc = .ok (.iaload, 1)) (h0 : 0 ≤ x) (h1 : x < 768) (K : G Z J E Q (pc + 1) ls (.int (iI v) :: st) (cW Z a C fS fA W) k n) : G Z J E Q pc ls (.int (iI x) :: .ref (a 75) :: st) (cW Z a C fS fA W) k n := gi_iald 36 d rfl (by decide) h0 h1 (by rw [hv]; exact K)
theorem ct_75 (d : decode J.2.1 pc = .ok (.iastore, 1)) (h0 : 0 ≤ x) (h1 : x < 768) (K : G Z J E Q (pc + 1) ls st (cW Z a (ms C 75 x y) fS fA W) k n) : G Z J E Q pc ls (.int (iI y) :: .int (iI x) :: .ref (a 75) :: st) (cW Z a C fS fA W) k n := gi_iast 36 d rfl (by decide) h0 h1 rfl K
theorem ca_76 {v : Int} (hv : C 76 x = v) (d : decode J.2.1 pc = .ok (.iaload, 1)) (h0 : 0 ≤ x) (h1 : x < 768) (K : G Z J E Q (pc + 1) ls (.int (iI v) :: st) (cW Z a C fS fA W) k n) : G Z J E Q pc ls (.int (iI x) :: .ref (a 76) :: st) (cW Z a C fS fA W) k n := gi_iald 37 d rfl (by decide) h0 h1 (by rw [hv]; exact K)
theorem ct_76 (d : decode J.2.1 pc = .ok (.iastore, 1)) (h0 : 0 ≤ x) (h1 : x < 768) (K : G Z J E Q (pc + 1) ls st (cW Z a (ms C 76 x y) fS fA W) k n) : G Z J E Q pc ls (.int (iI y) :: .int (iI x) :: .ref (a 76) :: st) (cW Z a C fS fA W) k n := gi_iast 37 d rfl (by decide) h0 h1 rfl K
theorem ca_80 {v : Int} (hv : C 80 x = v) (d : decode J.2.1 pc = .ok (.iaload, 1)) (h0 : 0 ≤ x) (h1 : x < 768) (K : G Z J E Q (pc + 1) ls (.int (iI v) :: st) (cW Z a C fS fA W) k n) : G Z J E Q pc ls (.int (iI x) :: .ref (a 80) :: st) (cW Z a C fS fA W) k n := gi_iald 38 d rfl (by decide) h0 h1 (by rw [hv]; exact K)
theorem ct_80 (d : decode J.2.1 pc = .ok (.iastore, 1)) (h0 : 0 ≤ x) (h1 : x < 768) (K : G Z J E Q (pc + 1) ls st (cW Z a (ms C 80 x y) fS fA W) k n) : G Z J E Q pc ls (.int (iI y) :: .int (iI x) :: .ref (a 80) :: st) (cW Z a C fS fA W) k n := gi_iast 38 d rfl (by decide) h0 h1 rfl K
theorem cg_sh_pen (p : Nat) (hp : p < 6) (d : decode J.2.1 pc = .ok (.getfield i, 3)) (hl : Cond.fieldLink J.1.cls i "ManyPens$Sheet" "pen" "I" ∈ WT) (K : G Z J E Q (pc + 3) ls (.int (iI p) :: st) (cW Z a C fS fA W) k n) : G Z J E Q pc ls (.ref (a (110 + p)) :: st) (cW Z a C fS fA W) k n := by
  have h : p = 0 ∨ p = 1 ∨ p = 2 ∨ p = 3 ∨ p = 4 ∨ p = 5 := by omega
  rcases h with h | h | h | h | h | h <;> subst h
  · exact g_get 4 6 0 d rfl fwX4 (by decide) hl rfl rfl K
  · exact g_get 4 7 0 d rfl fwX4 (by decide) hl rfl rfl K
  · exact g_get 4 8 0 d rfl fwX4 (by decide) hl rfl rfl K
  · exact g_get 4 9 0 d rfl fwX4 (by decide) hl rfl rfl K
  · exact g_get 4 10 0 d rfl fwX4 (by decide) hl rfl rfl K
  · exact g_get 4 11 0 d rfl fwX4 (by decide) hl rfl rfl K
theorem cg_sh_held (p : Nat) (hp : p < 6) (d : decode J.2.1 pc = .ok (.getfield i, 3)) (hl : Cond.fieldLink J.1.cls i "ManyPens$Sheet" "held" "[I" ∈ WT) (K : G Z J E Q (pc + 3) ls (.ref (a (20 + p)) :: st) (cW Z a C fS fA W) k n) : G Z J E Q pc ls (.ref (a (110 + p)) :: st) (cW Z a C fS fA W) k n := by
  have h : p = 0 ∨ p = 1 ∨ p = 2 ∨ p = 3 ∨ p = 4 ∨ p = 5 := by omega
  rcases h with h | h | h | h | h | h <;> subst h
  · exact g_get 4 6 1 d rfl fwX4 (by decide) hl rfl rfl K
  · exact g_get 4 7 1 d rfl fwX4 (by decide) hl rfl rfl K
  · exact g_get 4 8 1 d rfl fwX4 (by decide) hl rfl rfl K
  · exact g_get 4 9 1 d rfl fwX4 (by decide) hl rfl rfl K
  · exact g_get 4 10 1 d rfl fwX4 (by decide) hl rfl rfl K
  · exact g_get 4 11 1 d rfl fwX4 (by decide) hl rfl rfl K
theorem cg_sh_beside (p : Nat) (hp : p < 6) (d : decode J.2.1 pc = .ok (.getfield i, 3)) (hl : Cond.fieldLink J.1.cls i "ManyPens$Sheet" "beside" "[I" ∈ WT) (K : G Z J E Q (pc + 3) ls (.ref (a (30 + p)) :: st) (cW Z a C fS fA W) k n) : G Z J E Q pc ls (.ref (a (110 + p)) :: st) (cW Z a C fS fA W) k n := by
  have h : p = 0 ∨ p = 1 ∨ p = 2 ∨ p = 3 ∨ p = 4 ∨ p = 5 := by omega
  rcases h with h | h | h | h | h | h <;> subst h
  · exact g_get 4 6 2 d rfl fwX4 (by decide) hl rfl rfl K
  · exact g_get 4 7 2 d rfl fwX4 (by decide) hl rfl rfl K
  · exact g_get 4 8 2 d rfl fwX4 (by decide) hl rfl rfl K
  · exact g_get 4 9 2 d rfl fwX4 (by decide) hl rfl rfl K
  · exact g_get 4 10 2 d rfl fwX4 (by decide) hl rfl rfl K
  · exact g_get 4 11 2 d rfl fwX4 (by decide) hl rfl rfl K
theorem cg_sh_leans (p : Nat) (hp : p < 6) (d : decode J.2.1 pc = .ok (.getfield i, 3)) (hl : Cond.fieldLink J.1.cls i "ManyPens$Sheet" "leans" "[I" ∈ WT) (K : G Z J E Q (pc + 3) ls (.ref (a (40 + p)) :: st) (cW Z a C fS fA W) k n) : G Z J E Q pc ls (.ref (a (110 + p)) :: st) (cW Z a C fS fA W) k n := by
  have h : p = 0 ∨ p = 1 ∨ p = 2 ∨ p = 3 ∨ p = 4 ∨ p = 5 := by omega
  rcases h with h | h | h | h | h | h <;> subst h
  · exact g_get 4 6 3 d rfl fwX4 (by decide) hl rfl rfl K
  · exact g_get 4 7 3 d rfl fwX4 (by decide) hl rfl rfl K
  · exact g_get 4 8 3 d rfl fwX4 (by decide) hl rfl rfl K
  · exact g_get 4 9 3 d rfl fwX4 (by decide) hl rfl rfl K
  · exact g_get 4 10 3 d rfl fwX4 (by decide) hl rfl rfl K
  · exact g_get 4 11 3 d rfl fwX4 (by decide) hl rfl rfl K
theorem cg_sh_greatestStamp (p : Nat) (hp : p < 6) (d : decode J.2.1 pc = .ok (.getfield i, 3)) (hl : Cond.fieldLink J.1.cls i "ManyPens$Sheet" "greatestStamp" "I" ∈ WT) (K : G Z J E Q (pc + 3) ls (.int (iI (C (50 + p) 0)) :: st) (cW Z a C fS fA W) k n) : G Z J E Q pc ls (.ref (a (110 + p)) :: st) (cW Z a C fS fA W) k n := by
  have h : p = 0 ∨ p = 1 ∨ p = 2 ∨ p = 3 ∨ p = 4 ∨ p = 5 := by omega
  rcases h with h | h | h | h | h | h <;> subst h
  · exact g_get 4 6 4 d rfl fwX4 (by decide) hl rfl rfl K
  · exact g_get 4 7 4 d rfl fwX4 (by decide) hl rfl rfl K
  · exact g_get 4 8 4 d rfl fwX4 (by decide) hl rfl rfl K
  · exact g_get 4 9 4 d rfl fwX4 (by decide) hl rfl rfl K
  · exact g_get 4 10 4 d rfl fwX4 (by decide) hl rfl rfl K
  · exact g_get 4 11 4 d rfl fwX4 (by decide) hl rfl rfl K
theorem cp_sh_greatestStamp (p : Nat) (hp : p < 6) (d : decode J.2.1 pc = .ok (.putfield i, 3)) (hl : Cond.fieldLink J.1.cls i "ManyPens$Sheet" "greatestStamp" "I" ∈ WT) (K : G Z J E Q (pc + 3) ls st (cW Z a (ms C (50 + p) 0 x) fS fA W) k n) : G Z J E Q pc ls (.int (iI x) :: .ref (a (110 + p)) :: st) (cW Z a C fS fA W) k n := by
  have h : p = 0 ∨ p = 1 ∨ p = 2 ∨ p = 3 ∨ p = 4 ∨ p = 5 := by omega
  rcases h with h | h | h | h | h | h <;> subst h
  · exact g_put 4 6 4 tyX4 d rfl fwX4 tyX4_ok nmX4 (by decide) hl rfl rfl rfl rfl (Nat.le_of_ble_eq_true rfl) rfl K
  · exact g_put 4 7 4 tyX4 d rfl fwX4 tyX4_ok nmX4 (by decide) hl rfl rfl rfl rfl (Nat.le_of_ble_eq_true rfl) rfl K
  · exact g_put 4 8 4 tyX4 d rfl fwX4 tyX4_ok nmX4 (by decide) hl rfl rfl rfl rfl (Nat.le_of_ble_eq_true rfl) rfl K
  · exact g_put 4 9 4 tyX4 d rfl fwX4 tyX4_ok nmX4 (by decide) hl rfl rfl rfl rfl (Nat.le_of_ble_eq_true rfl) rfl K
  · exact g_put 4 10 4 tyX4 d rfl fwX4 tyX4_ok nmX4 (by decide) hl rfl rfl rfl rfl (Nat.le_of_ble_eq_true rfl) rfl K
  · exact g_put 4 11 4 tyX4 d rfl fwX4 tyX4_ok nmX4 (by decide) hl rfl rfl rfl rfl (Nat.le_of_ble_eq_true rfl) rfl K
theorem cg_sh_lastMade (p : Nat) (hp : p < 6) (d : decode J.2.1 pc = .ok (.getfield i, 3)) (hl : Cond.fieldLink J.1.cls i "ManyPens$Sheet" "lastMade" "I" ∈ WT) (K : G Z J E Q (pc + 3) ls (.int (iI (C (60 + p) 0)) :: st) (cW Z a C fS fA W) k n) : G Z J E Q pc ls (.ref (a (110 + p)) :: st) (cW Z a C fS fA W) k n := by
  have h : p = 0 ∨ p = 1 ∨ p = 2 ∨ p = 3 ∨ p = 4 ∨ p = 5 := by omega
  rcases h with h | h | h | h | h | h <;> subst h
  · exact g_get 4 6 5 d rfl fwX4 (by decide) hl rfl rfl K
  · exact g_get 4 7 5 d rfl fwX4 (by decide) hl rfl rfl K
  · exact g_get 4 8 5 d rfl fwX4 (by decide) hl rfl rfl K
  · exact g_get 4 9 5 d rfl fwX4 (by decide) hl rfl rfl K
  · exact g_get 4 10 5 d rfl fwX4 (by decide) hl rfl rfl K
  · exact g_get 4 11 5 d rfl fwX4 (by decide) hl rfl rfl K
theorem cp_sh_lastMade (p : Nat) (hp : p < 6) (d : decode J.2.1 pc = .ok (.putfield i, 3)) (hl : Cond.fieldLink J.1.cls i "ManyPens$Sheet" "lastMade" "I" ∈ WT) (K : G Z J E Q (pc + 3) ls st (cW Z a (ms C (60 + p) 0 x) fS fA W) k n) : G Z J E Q pc ls (.int (iI x) :: .ref (a (110 + p)) :: st) (cW Z a C fS fA W) k n := by
  have h : p = 0 ∨ p = 1 ∨ p = 2 ∨ p = 3 ∨ p = 4 ∨ p = 5 := by omega
  rcases h with h | h | h | h | h | h <;> subst h
  · exact g_put 4 6 5 tyX4 d rfl fwX4 tyX4_ok nmX4 (by decide) hl rfl rfl rfl rfl (Nat.le_of_ble_eq_true rfl) rfl K
  · exact g_put 4 7 5 tyX4 d rfl fwX4 tyX4_ok nmX4 (by decide) hl rfl rfl rfl rfl (Nat.le_of_ble_eq_true rfl) rfl K
  · exact g_put 4 8 5 tyX4 d rfl fwX4 tyX4_ok nmX4 (by decide) hl rfl rfl rfl rfl (Nat.le_of_ble_eq_true rfl) rfl K
  · exact g_put 4 9 5 tyX4 d rfl fwX4 tyX4_ok nmX4 (by decide) hl rfl rfl rfl rfl (Nat.le_of_ble_eq_true rfl) rfl K
  · exact g_put 4 10 5 tyX4 d rfl fwX4 tyX4_ok nmX4 (by decide) hl rfl rfl rfl rfl (Nat.le_of_ble_eq_true rfl) rfl K
  · exact g_put 4 11 5 tyX4 d rfl fwX4 tyX4_ok nmX4 (by decide) hl rfl rfl rfl rfl (Nat.le_of_ble_eq_true rfl) rfl K
theorem ca_held (p : Nat) (hp : p < 6) {v : Int} (hv : C (20 + p) x = v) (d : decode J.2.1 pc = .ok (.iaload, 1)) (h0 : 0 ≤ x) (h1 : x < 256) (K : G Z J E Q (pc + 1) ls (.int (iI v) :: st) (cW Z a C fS fA W) k n) : G Z J E Q pc ls (.int (iI x) :: .ref (a (20 + p)) :: st) (cW Z a C fS fA W) k n := by
  have h : p = 0 ∨ p = 1 ∨ p = 2 ∨ p = 3 ∨ p = 4 ∨ p = 5 := by omega
  rcases h with h | h | h | h | h | h <;> subst h
  · exact gi_iald 12 d rfl (by decide) h0 h1 (by rw [hv]; exact K)
  · exact gi_iald 15 d rfl (by decide) h0 h1 (by rw [hv]; exact K)
  · exact gi_iald 18 d rfl (by decide) h0 h1 (by rw [hv]; exact K)
  · exact gi_iald 21 d rfl (by decide) h0 h1 (by rw [hv]; exact K)
  · exact gi_iald 24 d rfl (by decide) h0 h1 (by rw [hv]; exact K)
  · exact gi_iald 27 d rfl (by decide) h0 h1 (by rw [hv]; exact K)
theorem ct_held (p : Nat) (hp : p < 6) (d : decode J.2.1 pc = .ok (.iastore, 1)) (h0 : 0 ≤ x) (h1 : x < 256) (K : G Z J E Q (pc + 1) ls st (cW Z a (ms C (20 + p) x y) fS fA W) k n) : G Z J E Q pc ls (.int (iI y) :: .int (iI x) :: .ref (a (20 + p)) :: st) (cW Z a C fS fA W) k n := by
  have h : p = 0 ∨ p = 1 ∨ p = 2 ∨ p = 3 ∨ p = 4 ∨ p = 5 := by omega
  rcases h with h | h | h | h | h | h <;> subst h
  · exact gi_iast 12 d rfl (by decide) h0 h1 rfl K
  · exact gi_iast 15 d rfl (by decide) h0 h1 rfl K
  · exact gi_iast 18 d rfl (by decide) h0 h1 rfl K
  · exact gi_iast 21 d rfl (by decide) h0 h1 rfl K
  · exact gi_iast 24 d rfl (by decide) h0 h1 rfl K
  · exact gi_iast 27 d rfl (by decide) h0 h1 rfl K
theorem ca_beside (p : Nat) (hp : p < 6) {v : Int} (hv : C (30 + p) x = v) (d : decode J.2.1 pc = .ok (.iaload, 1)) (h0 : 0 ≤ x) (h1 : x < 3) (K : G Z J E Q (pc + 1) ls (.int (iI v) :: st) (cW Z a C fS fA W) k n) : G Z J E Q pc ls (.int (iI x) :: .ref (a (30 + p)) :: st) (cW Z a C fS fA W) k n := by
  have h : p = 0 ∨ p = 1 ∨ p = 2 ∨ p = 3 ∨ p = 4 ∨ p = 5 := by omega
  rcases h with h | h | h | h | h | h <;> subst h
  · exact gi_iald 13 d rfl (by decide) h0 h1 (by rw [hv]; exact K)
  · exact gi_iald 16 d rfl (by decide) h0 h1 (by rw [hv]; exact K)
  · exact gi_iald 19 d rfl (by decide) h0 h1 (by rw [hv]; exact K)
  · exact gi_iald 22 d rfl (by decide) h0 h1 (by rw [hv]; exact K)
  · exact gi_iald 25 d rfl (by decide) h0 h1 (by rw [hv]; exact K)
  · exact gi_iald 28 d rfl (by decide) h0 h1 (by rw [hv]; exact K)
theorem ct_beside (p : Nat) (hp : p < 6) (d : decode J.2.1 pc = .ok (.iastore, 1)) (h0 : 0 ≤ x) (h1 : x < 3) (K : G Z J E Q (pc + 1) ls st (cW Z a (ms C (30 + p) x y) fS fA W) k n) : G Z J E Q pc ls (.int (iI y) :: .int (iI x) :: .ref (a (30 + p)) :: st) (cW Z a C fS fA W) k n := by
  have h : p = 0 ∨ p = 1 ∨ p = 2 ∨ p = 3 ∨ p = 4 ∨ p = 5 := by omega
  rcases h with h | h | h | h | h | h <;> subst h
  · exact gi_iast 13 d rfl (by decide) h0 h1 rfl K
  · exact gi_iast 16 d rfl (by decide) h0 h1 rfl K
  · exact gi_iast 19 d rfl (by decide) h0 h1 rfl K
  · exact gi_iast 22 d rfl (by decide) h0 h1 rfl K
  · exact gi_iast 25 d rfl (by decide) h0 h1 rfl K
  · exact gi_iast 28 d rfl (by decide) h0 h1 rfl K
theorem ca_leans (p : Nat) (hp : p < 6) {v : Int} (hv : C (40 + p) x = v) (d : decode J.2.1 pc = .ok (.iaload, 1)) (h0 : 0 ≤ x) (h1 : x < 3) (K : G Z J E Q (pc + 1) ls (.int (iI v) :: st) (cW Z a C fS fA W) k n) : G Z J E Q pc ls (.int (iI x) :: .ref (a (40 + p)) :: st) (cW Z a C fS fA W) k n := by
  have h : p = 0 ∨ p = 1 ∨ p = 2 ∨ p = 3 ∨ p = 4 ∨ p = 5 := by omega
  rcases h with h | h | h | h | h | h <;> subst h
  · exact gi_iald 14 d rfl (by decide) h0 h1 (by rw [hv]; exact K)
  · exact gi_iald 17 d rfl (by decide) h0 h1 (by rw [hv]; exact K)
  · exact gi_iald 20 d rfl (by decide) h0 h1 (by rw [hv]; exact K)
  · exact gi_iald 23 d rfl (by decide) h0 h1 (by rw [hv]; exact K)
  · exact gi_iald 26 d rfl (by decide) h0 h1 (by rw [hv]; exact K)
  · exact gi_iald 29 d rfl (by decide) h0 h1 (by rw [hv]; exact K)
theorem ct_leans (p : Nat) (hp : p < 6) (d : decode J.2.1 pc = .ok (.iastore, 1)) (h0 : 0 ≤ x) (h1 : x < 3) (K : G Z J E Q (pc + 1) ls st (cW Z a (ms C (40 + p) x y) fS fA W) k n) : G Z J E Q pc ls (.int (iI y) :: .int (iI x) :: .ref (a (40 + p)) :: st) (cW Z a C fS fA W) k n := by
  have h : p = 0 ∨ p = 1 ∨ p = 2 ∨ p = 3 ∨ p = 4 ∨ p = 5 := by omega
  rcases h with h | h | h | h | h | h <;> subst h
  · exact gi_iast 14 d rfl (by decide) h0 h1 rfl K
  · exact gi_iast 17 d rfl (by decide) h0 h1 rfl K
  · exact gi_iast 20 d rfl (by decide) h0 h1 rfl K
  · exact gi_iast 23 d rfl (by decide) h0 h1 rfl K
  · exact gi_iast 26 d rfl (by decide) h0 h1 rfl K
  · exact gi_iast 29 d rfl (by decide) h0 h1 rfl K
end CRows
