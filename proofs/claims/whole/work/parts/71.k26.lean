/-! BOTH SIDES in one form: what each method answers of the data -/
def HC (Z : LZ) (a : Nat → Nat) (D : Mem) (w : va_W) : Prop := ∃ (C : Mem) (fS fA : Nat → Option Nat) (sa sb : Nat → Nat) (N : Nat), w = cW Z a C fS fA (sW Z D sa sb N) ∧ Rel D C fS fA sa N
theorem x_state (Z : LZ) (a : Nat → Nat) {D : Mem} (hG : Good D) (hI : Inv D) {w : va_W} (hw : HC Z a D w) (p s : Int) (rp : Rg p) (rs : Rg s) : Tr Z jX8_state (.ref (a 99) :: ([p, s] : List Int).map vI) w (fun r w2 => r = some (.int (iI (A_state D p s))) ∧ HC Z a (D) w2) := by
  obtain ⟨C, fS, fA, sa, sb, N, rfl, hR⟩ := hw
  refine tr_post (k_X8_state Z a C fS fA sa sb N hG hI hR p s rp rs) (fun r w2 h => ?_)
  obtain ⟨C2, e1, e2, h2⟩ := h
  exact ⟨e1, C2, fS, fA, sa, sb, N, e2, h2⟩
theorem x_lacks (Z : LZ) (a : Nat → Nat) {D : Mem} (hG : Good D) (hI : Inv D) {w : va_W} (hw : HC Z a D w) (p s : Int) (rp : Rg p) (rs : Rg s) : Tr Z jX8_lacks (.ref (a 99) :: ([p, s] : List Int).map vI) w (fun r w2 => r = some (.int (iI (A_lacks D p s))) ∧ HC Z a (D) w2) := by
  obtain ⟨C, fS, fA, sa, sb, N, rfl, hR⟩ := hw
  refine tr_post (k_X8_lacks Z a C fS fA sa sb N hG hI hR p s rp rs) (fun r w2 h => ?_)
  obtain ⟨C2, e1, e2, h2⟩ := h
  exact ⟨e1, C2, fS, fA, sa, sb, N, e2, h2⟩
theorem x_slip (Z : LZ) (a : Nat → Nat) {D : Mem} (hG : Good D) (hI : Inv D) {w : va_W} (hw : HC Z a D w) (s x : Int) (rs : Rg s) (rx : Rg x) : Tr Z jX8_slip (.ref (a 99) :: ([s, x] : List Int).map vI) w (fun r w2 => r = some (.int (iI (A_slip D s x))) ∧ HC Z a (D) w2) := by
  obtain ⟨C, fS, fA, sa, sb, N, rfl, hR⟩ := hw
  refine tr_post (k_X8_slip Z a C fS fA sa sb N hG hI hR s x rs rx) (fun r w2 h => ?_)
  obtain ⟨C2, e1, e2, h2⟩ := h
  exact ⟨e1, C2, fS, fA, sa, sb, N, e2, h2⟩
theorem x_later (Z : LZ) (a : Nat → Nat) {D : Mem} (hG : Good D) (hI : Inv D) {w : va_W} (hw : HC Z a D w) (s t : Int) (rs : Rg s) (rt : Rg t) : Tr Z jX8_later (.ref (a 99) :: ([s, t] : List Int).map vI) w (fun r w2 => r = some (.int (iI (A_later D s t))) ∧ HC Z a (D) w2) := by
  obtain ⟨C, fS, fA, sa, sb, N, rfl, hR⟩ := hw
  refine tr_post (k_X8_later Z a C fS fA sa sb N hG hI hR s t rs rt) (fun r w2 h => ?_)
  obtain ⟨C2, e1, e2, h2⟩ := h
  exact ⟨e1, C2, fS, fA, sa, sb, N, e2, h2⟩
theorem x_length (Z : LZ) (a : Nat → Nat) {D : Mem} (hG : Good D) (hI : Inv D) {w : va_W} (hw : HC Z a D w) (p : Int) (rp : Rg p) : Tr Z jX8_length (.ref (a 99) :: ([p] : List Int).map vI) w (fun r w2 => r = some (.int (iI (A_length D p))) ∧ HC Z a (D) w2) := by
  obtain ⟨C, fS, fA, sa, sb, N, rfl, hR⟩ := hw
  refine tr_post (k_X8_length Z a C fS fA sa sb N hG hI hR p rp) (fun r w2 h => ?_)
  obtain ⟨C2, e1, e2, h2⟩ := h
  exact ⟨e1, C2, fS, fA, sa, sb, N, e2, h2⟩
theorem x_text (Z : LZ) (a : Nat → Nat) {D : Mem} (hG : Good D) (hI : Inv D) {w : va_W} (hw : HC Z a D w) (p x y : Int) (rp : Rg p) (rx : Rg x) (ry : Rg y) : Tr Z jX8_text (.ref (a 99) :: ([p, x, y] : List Int).map vI) w (fun r w2 => r = some (.int (iI (A_text D p x y))) ∧ HC Z a (D) w2) := by
  obtain ⟨C, fS, fA, sa, sb, N, rfl, hR⟩ := hw
  refine tr_post (k_X8_text Z a C fS fA sa sb N hG hI hR p x y rp rx ry) (fun r w2 h => ?_)
  obtain ⟨C2, e1, e2, h2⟩ := h
  exact ⟨e1, C2, fS, fA, sa, sb, N, e2, h2⟩
theorem x_signs (Z : LZ) (a : Nat → Nat) {D : Mem} (hG : Good D) (hI : Inv D) {w : va_W} (hw : HC Z a D w) (p : Int) (rp : Rg p) : Tr Z jX8_signs (.ref (a 99) :: ([p] : List Int).map vI) w (fun r w2 => r = some (.int (iI (A_signs D p))) ∧ HC Z a (D) w2) := by
  obtain ⟨C, fS, fA, sa, sb, N, rfl, hR⟩ := hw
  refine tr_post (k_X8_signs Z a C fS fA sa sb N hG hI hR p rp) (fun r w2 h => ?_)
  obtain ⟨C2, e1, e2, h2⟩ := h
  exact ⟨e1, C2, fS, fA, sa, sb, N, e2, h2⟩
theorem x_order (Z : LZ) (a : Nat → Nat) {D : Mem} (hG : Good D) (hI : Inv D) {w : va_W} (hw : HC Z a D w) (p x : Int) (rp : Rg p) (rx : Rg x) : Tr Z jX8_order (.ref (a 99) :: ([p, x] : List Int).map vI) w (fun r w2 => r = some (.int (iI (A_order D p x))) ∧ HC Z a (D) w2) := by
  obtain ⟨C, fS, fA, sa, sb, N, rfl, hR⟩ := hw
  refine tr_post (k_X8_order Z a C fS fA sa sb N hG hI hR p x rp rx) (fun r w2 h => ?_)
  obtain ⟨C2, e1, e2, h2⟩ := h
  exact ⟨e1, C2, fS, fA, sa, sb, N, e2, h2⟩
theorem x_place (Z : LZ) (a : Nat → Nat) {D : Mem} (hG : Good D) (hI : Inv D) {w : va_W} (hw : HC Z a D w) (p x : Int) (rp : Rg p) (rx : Rg x) : Tr Z jX8_place (.ref (a 99) :: ([p, x] : List Int).map vI) w (fun r w2 => r = some (.int (iI (A_place D p x))) ∧ HC Z a (D) w2) := by
  obtain ⟨C, fS, fA, sa, sb, N, rfl, hR⟩ := hw
  refine tr_post (k_X8_place Z a C fS fA sa sb N hG hI hR p x rp rx) (fun r w2 h => ?_)
  obtain ⟨C2, e1, e2, h2⟩ := h
  exact ⟨e1, C2, fS, fA, sa, sb, N, e2, h2⟩
theorem x_strikers (Z : LZ) (a : Nat → Nat) {D : Mem} (hG : Good D) (hI : Inv D) {w : va_W} (hw : HC Z a D w) (p x : Int) (rp : Rg p) (rx : Rg x) : Tr Z jX8_strikers (.ref (a 99) :: ([p, x] : List Int).map vI) w (fun r w2 => r = some (.int (iI (A_strikers D p x))) ∧ HC Z a (D) w2) := by
  obtain ⟨C, fS, fA, sa, sb, N, rfl, hR⟩ := hw
  refine tr_post (k_X8_strikers Z a C fS fA sa sb N hG hI hR p x rp rx) (fun r w2 h => ?_)
  obtain ⟨C2, e1, e2, h2⟩ := h
  exact ⟨e1, C2, fS, fA, sa, sb, N, e2, h2⟩
theorem x_spans (Z : LZ) (a : Nat → Nat) {D : Mem} (hG : Good D) (hI : Inv D) {w : va_W} (hw : HC Z a D w) (p t : Int) (rp : Rg p) (rt : Rg t) : Tr Z jX8_spans (.ref (a 99) :: ([p, t] : List Int).map vI) w (fun r w2 => r = some (.int (iI (A_spans D p t))) ∧ HC Z a (D) w2) := by
  obtain ⟨C, fS, fA, sa, sb, N, rfl, hR⟩ := hw
  refine tr_post (k_X8_spans Z a C fS fA sa sb N hG hI hR p t rp rt) (fun r w2 h => ?_)
  obtain ⟨C2, e1, e2, h2⟩ := h
  exact ⟨e1, C2, fS, fA, sa, sb, N, e2, h2⟩
theorem x_history (Z : LZ) (a : Nat → Nat) {D : Mem} (hG : Good D) (hI : Inv D) {w : va_W} (hw : HC Z a D w) (p x : Int) (rp : Rg p) (rx : Rg x) : Tr Z jX8_history (.ref (a 99) :: ([p, x] : List Int).map vI) w (fun r w2 => r = some (.int (iI (A_history D p x))) ∧ HC Z a (D) w2) := by
  obtain ⟨C, fS, fA, sa, sb, N, rfl, hR⟩ := hw
  refine tr_post (k_X8_history Z a C fS fA sa sb N hG hI hR p x rp rx) (fun r w2 h => ?_)
  obtain ⟨C2, e1, e2, h2⟩ := h
  exact ⟨e1, C2, fS, fA, sa, sb, N, e2, h2⟩
theorem x_asOf (Z : LZ) (a : Nat → Nat) {D : Mem} (hG : Good D) (hI : Inv D) {w : va_W} (hw : HC Z a D w) (p v x : Int) (rp : Rg p) (rv : Rg v) (rx : Rg x) : Tr Z jX8_asOf (.ref (a 99) :: ([p, v, x] : List Int).map vI) w (fun r w2 => r = some (.int (iI (A_asOf D p v x))) ∧ HC Z a (D) w2) := by
  obtain ⟨C, fS, fA, sa, sb, N, rfl, hR⟩ := hw
  refine tr_post (k_X8_asOf Z a C fS fA sa sb N hG hI hR p v x rp rv rx) (fun r w2 h => ?_)
  obtain ⟨C2, e1, e2, h2⟩ := h
  exact ⟨e1, C2, fS, fA, sa, sb, N, e2, h2⟩
theorem x_unlike (Z : LZ) (a : Nat → Nat) {D : Mem} (hG : Good D) (hI : Inv D) {w : va_W} (hw : HC Z a D w) (p q : Int) (rp : Rg p) (rq : Rg q) : Tr Z jX8_unlike (.ref (a 99) :: ([p, q] : List Int).map vI) w (fun r w2 => r = some (.int (iI (A_unlike D p q))) ∧ HC Z a (D) w2) := by
  obtain ⟨C, fS, fA, sa, sb, N, rfl, hR⟩ := hw
  refine tr_post (k_X8_unlike Z a C fS fA sa sb N hG hI hR p q rp rq) (fun r w2 h => ?_)
  obtain ⟨C2, e1, e2, h2⟩ := h
  exact ⟨e1, C2, fS, fA, sa, sb, N, e2, h2⟩
theorem x_where (Z : LZ) (a : Nat → Nat) {D : Mem} (hG : Good D) (hI : Inv D) {w : va_W} (hw : HC Z a D w) (p c : Int) (rp : Rg p) (rc : Rg c) : Tr Z jX8_where (.ref (a 99) :: ([p, c] : List Int).map vI) w (fun r w2 => r = some (.int (iI (A_where D p c))) ∧ HC Z a (D) w2) := by
  obtain ⟨C, fS, fA, sa, sb, N, rfl, hR⟩ := hw
  refine tr_post (k_X8_where Z a C fS fA sa sb N hG hI hR p c rp rc) (fun r w2 h => ?_)
  obtain ⟨C2, e1, e2, h2⟩ := h
  exact ⟨e1, C2, fS, fA, sa, sb, N, e2, h2⟩
theorem x_carry (Z : LZ) (a : Nat → Nat) {D : Mem} (hG : Good D) (hI : Inv D) {w : va_W} (hw : HC Z a D w) (s p : Int) (rs : Rg s) (rp : Rg p) : Tr Z jX8_carry (.ref (a 99) :: ([s, p] : List Int).map vI) w (fun r w2 => r = some (.int (iI ((A_carry D s p).1))) ∧ HC Z a ((A_carry D s p).2) w2) := by
  obtain ⟨C, fS, fA, sa, sb, N, rfl, hR⟩ := hw
  refine tr_post (k_X8_carry Z a C fS fA sa sb N hG hI hR s p rs rp) (fun r w2 h => ?_)
  obtain ⟨C2, e1, e2, h2⟩ := h
  exact ⟨e1, C2, fS, fA, sa, sb, N, e2, h2⟩
theorem x_all (Z : LZ) (a : Nat → Nat) {D : Mem} (hG : Good D) (hI : Inv D) {w : va_W} (hw : HC Z a D w) (f t : Int) (rf : Rg f) (rt : Rg t) : Tr Z jX8_all (.ref (a 99) :: ([f, t] : List Int).map vI) w (fun r w2 => r = some (.int (iI ((A_all D f t).1))) ∧ HC Z a ((A_all D f t).2) w2) := by
  obtain ⟨C, fS, fA, sa, sb, N, rfl, hR⟩ := hw
  refine tr_post (k_X8_all Z a C fS fA sa sb N hG hI hR f t rf rt) (fun r w2 h => ?_)
  obtain ⟨C2, e1, e2, h2⟩ := h
  exact ⟨e1, C2, fS, fA, sa, sb, N, e2, h2⟩
theorem x_cursor (Z : LZ) (a : Nat → Nat) {D : Mem} (hG : Good D) (hI : Inv D) {w : va_W} (hw : HC Z a D w) (p c q l : Int) (rp : Rg p) (rc : Rg c) (rq : Rg q) (rl : Rg l) : Tr Z jX8_cursor (.ref (a 99) :: ([p, c, q, l] : List Int).map vI) w (fun r w2 => r = some (.int (iI ((A_cursor D p c q l).1))) ∧ HC Z a ((A_cursor D p c q l).2) w2) := by
  obtain ⟨C, fS, fA, sa, sb, N, rfl, hR⟩ := hw
  refine tr_post (k_X8_cursor Z a C fS fA sa sb N hG hI hR p c q l rp rc rq rl) (fun r w2 h => ?_)
  obtain ⟨C2, e1, e2, h2⟩ := h
  exact ⟨e1, C2, fS, fA, sa, sb, N, e2, h2⟩
theorem x_part (Z : LZ) (a : Nat → Nat) {D : Mem} (hG : Good D) (hI : Inv D) {w : va_W} (hw : HC Z a D w) (s x : Int) (rs : Rg s) (rx : Rg x) : Tr Z jX8_part (.ref (a 99) :: ([s, x] : List Int).map vI) w (fun r w2 => r = some (.int (iI ((A_part D s x).1))) ∧ HC Z a (ms D 13 0 (A_part D s x).2) w2) := by
  obtain ⟨C, fS, fA, sa, sb, N, rfl, hR⟩ := hw
  refine tr_post (k_X8_part Z a C fS fA sa sb N hG hI hR s x rs rx) (fun r w2 h => ?_)
  obtain ⟨C2, e1, e2, h2⟩ := h
  exact ⟨e1, C2, fS, fA, sa, sb, N, e2, h2⟩
theorem x_left (Z : LZ) (a : Nat → Nat) {D : Mem} (hG : Good D) (hI : Inv D) {w : va_W} (hw : HC Z a D w) (s : Int) (rs : Rg s) : Tr Z jX8_left (.ref (a 99) :: ([s] : List Int).map vI) w (fun r w2 => r = some (.int (iI ((A_link D s 0).1))) ∧ HC Z a (ms D 13 0 (A_link D s 0).2) w2) := by
  obtain ⟨C, fS, fA, sa, sb, N, rfl, hR⟩ := hw
  refine tr_post (k_X8_left Z a C fS fA sa sb N hG hI hR s rs) (fun r w2 h => ?_)
  obtain ⟨C2, e1, e2, h2⟩ := h
  exact ⟨e1, C2, fS, fA, sa, sb, N, e2, h2⟩
theorem x_bound (Z : LZ) (a : Nat → Nat) {D : Mem} (hG : Good D) (hI : Inv D) {w : va_W} (hw : HC Z a D w) (s : Int) (rs : Rg s) : Tr Z jX8_bound (.ref (a 99) :: ([s] : List Int).map vI) w (fun r w2 => r = some (.int (iI ((A_link D s 2).1))) ∧ HC Z a (ms D 13 0 (A_link D s 2).2) w2) := by
  obtain ⟨C, fS, fA, sa, sb, N, rfl, hR⟩ := hw
  refine tr_post (k_X8_bound Z a C fS fA sa sb N hG hI hR s rs) (fun r w2 h => ?_)
  obtain ⟨C2, e1, e2, h2⟩ := h
  exact ⟨e1, C2, fS, fA, sa, sb, N, e2, h2⟩
theorem x_undone (Z : LZ) (a : Nat → Nat) {D : Mem} (hG : Good D) (hI : Inv D) {w : va_W} (hw : HC Z a D w) (s : Int) (rs : Rg s) : Tr Z jX8_undone (.ref (a 99) :: ([s] : List Int).map vI) w (fun r w2 => r = some (.int (iI ((A_link D s 3).1))) ∧ HC Z a (ms D 13 0 (A_link D s 3).2) w2) := by
  obtain ⟨C, fS, fA, sa, sb, N, rfl, hR⟩ := hw
  refine tr_post (k_X8_undone Z a C fS fA sa sb N hG hI hR s rs) (fun r w2 h => ?_)
  obtain ⟨C2, e1, e2, h2⟩ := h
  exact ⟨e1, C2, fS, fA, sa, sb, N, e2, h2⟩
theorem x_type (Z : LZ) (a : Nat → Nat) {D : Mem} (hG : Good D) (hI : Inv D) {w : va_W} (hw : HC Z a D w) (p x c1 c2 c3 : Int) (rp : Rg p) (rx : Rg x) (rc1 : Rg c1) (rc2 : Rg c2) (rc3 : Rg c3) : Tr Z jX8_type (.ref (a 99) :: ([p, x, c1, c2, c3] : List Int).map vI) w (fun r w2 => r = some (.int (iI ((A_type D p x c1 c2 c3).1))) ∧ HC Z a ((A_type D p x c1 c2 c3).2) w2) := by
  obtain ⟨C, fS, fA, sa, sb, N, rfl, hR⟩ := hw
  refine tr_post (k_X8_type Z a C fS fA sa sb N hG hI hR p x c1 c2 c3 rp rx rc1 rc2 rc3) (fun r w2 h => ?_)
  obtain ⟨C2, f1, f2, sa2, sb2, N2, e1, e2, h2⟩ := h
  exact ⟨e1, C2, f1, f2, sa2, sb2, N2, e2, h2⟩
theorem x_strike (Z : LZ) (a : Nat → Nat) {D : Mem} (hG : Good D) (hI : Inv D) {w : va_W} (hw : HC Z a D w) (p x y : Int) (rp : Rg p) (rx : Rg x) (ry : Rg y) : Tr Z jX8_strike (.ref (a 99) :: ([p, x, y] : List Int).map vI) w (fun r w2 => r = some (.int (iI ((A_strike D p x y).1))) ∧ HC Z a ((A_strike D p x y).2) w2) := by
  obtain ⟨C, fS, fA, sa, sb, N, rfl, hR⟩ := hw
  refine tr_post (k_X8_strike Z a C fS fA sa sb N hG hI hR p x y rp rx ry) (fun r w2 h => ?_)
  obtain ⟨C2, f1, f2, sa2, sb2, N2, e1, e2, h2⟩ := h
  exact ⟨e1, C2, f1, f2, sa2, sb2, N2, e2, h2⟩
theorem x_mark (Z : LZ) (a : Nat → Nat) {D : Mem} (hG : Good D) (hI : Inv D) {w : va_W} (hw : HC Z a D w) (p x y t h : Int) (rp : Rg p) (rx : Rg x) (ry : Rg y) (rt : Rg t) (rh : Rg h) : Tr Z jX8_mark (.ref (a 99) :: ([p, x, y, t, h] : List Int).map vI) w (fun r w2 => r = some (.int (iI ((A_mark D p x y t h).1))) ∧ HC Z a ((A_mark D p x y t h).2) w2) := by
  obtain ⟨C, fS, fA, sa, sb, N, rfl, hR⟩ := hw
  refine tr_post (k_X8_mark Z a C fS fA sa sb N hG hI hR p x y t h rp rx ry rt rh) (fun r w2 h => ?_)
  obtain ⟨C2, f1, f2, sa2, sb2, N2, e1, e2, h2⟩ := h
  exact ⟨e1, C2, f1, f2, sa2, sb2, N2, e2, h2⟩
theorem x_undo (Z : LZ) (a : Nat → Nat) {D : Mem} (hG : Good D) (hI : Inv D) {w : va_W} (hw : HC Z a D w) (p s : Int) (rp : Rg p) (rs : Rg s) : Tr Z jX8_undo (.ref (a 99) :: ([p, s] : List Int).map vI) w (fun r w2 => r = some (.int (iI ((A_undo D p s).1))) ∧ HC Z a ((A_undo D p s).2) w2) := by
  obtain ⟨C, fS, fA, sa, sb, N, rfl, hR⟩ := hw
  refine tr_post (k_X8_undo Z a C fS fA sa sb N hG hI hR p s rp rs) (fun r w2 h => ?_)
  obtain ⟨C2, f1, f2, sa2, sb2, N2, e1, e2, h2⟩ := h
  exact ⟨e1, C2, f1, f2, sa2, sb2, N2, e2, h2⟩
theorem x_slips (Z : LZ) (a : Nat → Nat) {D : Mem} (hG : Good D) (hI : Inv D) {w : va_W} (hw : HC Z a D w)  : Tr Z jX8_slips (.ref (a 99) :: ([] : List Int).map vI) w (fun r w2 => r = some (.int (iI (D 9 0))) ∧ HC Z a (D) w2) := by
  obtain ⟨C, fS, fA, sa, sb, N, rfl, hR⟩ := hw
  refine tr_post (k_X8_slips Z a C fS fA _) (fun r w2 h => ?_)
  obtain ⟨e1, e2⟩ := h
  exact ⟨by rw [e1, hR.1.c1, hR.1.d9], C, fS, fA, sa, sb, N, e2, hR⟩
theorem x_status (Z : LZ) (a : Nat → Nat) {D : Mem} (hG : Good D) (hI : Inv D) {w : va_W} (hw : HC Z a D w)  : Tr Z jX8_status (.ref (a 99) :: ([] : List Int).map vI) w (fun r w2 => r = some (.int (iI (D 13 0))) ∧ HC Z a (D) w2) := by
  obtain ⟨C, fS, fA, sa, sb, N, rfl, hR⟩ := hw
  refine tr_post (k_X8_status Z a C fS fA _) (fun r w2 h => ?_)
  obtain ⟨e1, e2⟩ := h
  exact ⟨by rw [e1, hR.1.fi], C, fS, fA, sa, sb, N, e2, hR⟩
theorem y_state (Z : LZ) (o : Nat) (a : Nat → Nat) {D M : Mem} (hG : Good D) (hP : Pers D M) (p s : Int) (rp : Rg p) (rs : Rg s) : Tm Z o a jX9_state [p, s] M (fun z M2 => z = A_state D p s ∧ Pers (D) M2) := by
  exact c_state Z o a hP hG.1.1 hG.1 hG.2.1 p s rp rs
theorem y_lacks (Z : LZ) (o : Nat) (a : Nat → Nat) {D M : Mem} (hG : Good D) (hP : Pers D M) (p s : Int) (rp : Rg p) (rs : Rg s) : Tm Z o a jX9_lacks [p, s] M (fun z M2 => z = A_lacks D p s ∧ Pers (D) M2) := by
  exact c_lacks Z o a hP hG.1.1 hG.1 hG.2.1 p s rp rs
theorem y_slip (Z : LZ) (o : Nat) (a : Nat → Nat) {D M : Mem} (hG : Good D) (hP : Pers D M) (s x : Int) (rs : Rg s) (rx : Rg x) : Tm Z o a jX9_slip [s, x] M (fun z M2 => z = A_slip D s x ∧ Pers (D) M2) := by
  exact c_slip Z o a hP hG.1.1 hG.1 hG.2.1 s x rs rx
theorem y_later (Z : LZ) (o : Nat) (a : Nat → Nat) {D M : Mem} (hG : Good D) (hP : Pers D M) (s t : Int) (rs : Rg s) (rt : Rg t) : Tm Z o a jX9_later [s, t] M (fun z M2 => z = A_later D s t ∧ Pers (D) M2) := by
  exact c_later Z o a hP hG.1.1 hG.1 hG.2.1 s t rs rt
theorem y_length (Z : LZ) (o : Nat) (a : Nat → Nat) {D M : Mem} (hG : Good D) (hP : Pers D M) (p : Int) (rp : Rg p) : Tm Z o a jX9_length [p] M (fun z M2 => z = A_length D p ∧ Pers (D) M2) := by
  exact c_length Z o a hP hG.1.1 hG.1 hG.2.1 p rp
theorem y_text (Z : LZ) (o : Nat) (a : Nat → Nat) {D M : Mem} (hG : Good D) (hP : Pers D M) (p x y : Int) (rp : Rg p) (rx : Rg x) (ry : Rg y) : Tm Z o a jX9_text [p, x, y] M (fun z M2 => z = A_text D p x y ∧ Pers (D) M2) := by
  exact c_text Z o a hP hG.1.1 hG.1 hG.2.1 p x y rp rx ry
theorem y_signs (Z : LZ) (o : Nat) (a : Nat → Nat) {D M : Mem} (hG : Good D) (hP : Pers D M) (p : Int) (rp : Rg p) : Tm Z o a jX9_signs [p] M (fun z M2 => z = A_signs D p ∧ Pers (D) M2) := by
  refine tr_post (c_signs Z o a hP hG.1.1 hG.1 hG.2.1 p rp) (fun r w2 h => ?_)
  obtain ⟨z, M2, e1, e2, e3, e4, _⟩ := h
  exact ⟨z, M2, e1, e2, e3, e4⟩
theorem y_order (Z : LZ) (o : Nat) (a : Nat → Nat) {D M : Mem} (hG : Good D) (hP : Pers D M) (p x : Int) (rp : Rg p) (rx : Rg x) : Tm Z o a jX9_order [p, x] M (fun z M2 => z = A_order D p x ∧ Pers (D) M2) := by
  exact c_order Z o a hP hG.1.1 hG.1 hG.2.1 p x rp rx
theorem y_place (Z : LZ) (o : Nat) (a : Nat → Nat) {D M : Mem} (hG : Good D) (hP : Pers D M) (p x : Int) (rp : Rg p) (rx : Rg x) : Tm Z o a jX9_place [p, x] M (fun z M2 => z = A_place D p x ∧ Pers (D) M2) := by
  exact c_place Z o a hP hG.1.1 hG.1 hG.2.1 p x rp rx
theorem y_strikers (Z : LZ) (o : Nat) (a : Nat → Nat) {D M : Mem} (hG : Good D) (hP : Pers D M) (p x : Int) (rp : Rg p) (rx : Rg x) : Tm Z o a jX9_strikers [p, x] M (fun z M2 => z = A_strikers D p x ∧ Pers (D) M2) := by
  exact c_strikers Z o a hP hG.1.1 hG.1 hG.2.1 p x rp rx
theorem y_spans (Z : LZ) (o : Nat) (a : Nat → Nat) {D M : Mem} (hG : Good D) (hP : Pers D M) (p t : Int) (rp : Rg p) (rt : Rg t) : Tm Z o a jX9_spans [p, t] M (fun z M2 => z = A_spans D p t ∧ Pers (D) M2) := by
  exact c_spans Z o a hP hG.1.1 hG.1 hG.2.1 p t rp rt
theorem y_history (Z : LZ) (o : Nat) (a : Nat → Nat) {D M : Mem} (hG : Good D) (hP : Pers D M) (p x : Int) (rp : Rg p) (rx : Rg x) : Tm Z o a jX9_history [p, x] M (fun z M2 => z = A_history D p x ∧ Pers (D) M2) := by
  exact c_history Z o a hP hG.1.1 hG.1 hG.2.1 p x rp rx
theorem y_asOf (Z : LZ) (o : Nat) (a : Nat → Nat) {D M : Mem} (hG : Good D) (hP : Pers D M) (p v x : Int) (rp : Rg p) (rv : Rg v) (rx : Rg x) : Tm Z o a jX9_asOf [p, v, x] M (fun z M2 => z = A_asOf D p v x ∧ Pers (D) M2) := by
  exact c_asOf Z o a hP hG.1.1 hG.1 hG.2.1 p v x rp rv rx
theorem y_unlike (Z : LZ) (o : Nat) (a : Nat → Nat) {D M : Mem} (hG : Good D) (hP : Pers D M) (p q : Int) (rp : Rg p) (rq : Rg q) : Tm Z o a jX9_unlike [p, q] M (fun z M2 => z = A_unlike D p q ∧ Pers (D) M2) := by
  exact c_unlike Z o a hP hG.1.1 hG.1 hG.2.1 p q rp rq
theorem y_where (Z : LZ) (o : Nat) (a : Nat → Nat) {D M : Mem} (hG : Good D) (hP : Pers D M) (p c : Int) (rp : Rg p) (rc : Rg c) : Tm Z o a jX9_where [p, c] M (fun z M2 => z = A_where D p c ∧ Pers (D) M2) := by
  exact c_where Z o a hP hG.1.1 hG.1 hG.2.1 hG.2.2.2.2 p c rp rc
theorem y_carry (Z : LZ) (o : Nat) (a : Nat → Nat) {D M : Mem} (hG : Good D) (hP : Pers D M) (s p : Int) (rs : Rg s) (rp : Rg p) : Tm Z o a jX9_carry [s, p] M (fun z M2 => z = (A_carry D s p).1 ∧ Pers ((A_carry D s p).2) M2) := by
  exact c_carry Z o a hP hG.1.1 hG.1 hG.2.1 s p rs rp
theorem y_all (Z : LZ) (o : Nat) (a : Nat → Nat) {D M : Mem} (hG : Good D) (hP : Pers D M) (f t : Int) (rf : Rg f) (rt : Rg t) : Tm Z o a jX9_all [f, t] M (fun z M2 => z = (A_all D f t).1 ∧ Pers ((A_all D f t).2) M2) := by
  exact c_all Z o a hP hG.1.1 hG.1 hG.2.1 f t rf rt
theorem y_cursor (Z : LZ) (o : Nat) (a : Nat → Nat) {D M : Mem} (hG : Good D) (hP : Pers D M) (p c q l : Int) (rp : Rg p) (rc : Rg c) (rq : Rg q) (rl : Rg l) : Tm Z o a jX9_cursor [p, c, q, l] M (fun z M2 => z = (A_cursor D p c q l).1 ∧ Pers ((A_cursor D p c q l).2) M2) := by
  exact c_cursor Z o a hP hG.1.1 hG.1 hG.2.1 p c q l rp rc rq rl
theorem y_part (Z : LZ) (o : Nat) (a : Nat → Nat) {D M : Mem} (hG : Good D) (hP : Pers D M) (s x : Int) (rs : Rg s) (rx : Rg x) : Tm Z o a jX9_part [s, x] M (fun z M2 => z = (A_part D s x).1 ∧ Pers (ms D 13 0 (A_part D s x).2) M2) := by
  exact c_part Z o a hP hG.1.1 hG.1 hG.2.1 s x rs rx
theorem y_left (Z : LZ) (o : Nat) (a : Nat → Nat) {D M : Mem} (hG : Good D) (hP : Pers D M) (s : Int) (rs : Rg s) : Tm Z o a jX9_left [s] M (fun z M2 => z = (A_link D s 0).1 ∧ Pers (ms D 13 0 (A_link D s 0).2) M2) := by
  exact c_left Z o a hP hG.1.1 hG.1 hG.2.1 s rs
theorem y_bound (Z : LZ) (o : Nat) (a : Nat → Nat) {D M : Mem} (hG : Good D) (hP : Pers D M) (s : Int) (rs : Rg s) : Tm Z o a jX9_bound [s] M (fun z M2 => z = (A_link D s 2).1 ∧ Pers (ms D 13 0 (A_link D s 2).2) M2) := by
  exact c_bound Z o a hP hG.1.1 hG.1 hG.2.1 s rs
theorem y_undone (Z : LZ) (o : Nat) (a : Nat → Nat) {D M : Mem} (hG : Good D) (hP : Pers D M) (s : Int) (rs : Rg s) : Tm Z o a jX9_undone [s] M (fun z M2 => z = (A_link D s 3).1 ∧ Pers (ms D 13 0 (A_link D s 3).2) M2) := by
  exact c_undone Z o a hP hG.1.1 hG.1 hG.2.1 s rs
theorem y_type (Z : LZ) (o : Nat) (a : Nat → Nat) {D M : Mem} (hG : Good D) (hP : Pers D M) (p x c1 c2 c3 : Int) (rp : Rg p) (rx : Rg x) (rc1 : Rg c1) (rc2 : Rg c2) (rc3 : Rg c3) : Tm Z o a jX9_type [p, x, c1, c2, c3] M (fun z M2 => z = (A_type D p x c1 c2 c3).1 ∧ Pers ((A_type D p x c1 c2 c3).2) M2) := by
  exact c_type Z o a hP hG.1.1 hG.1 hG.2.1 hG.hst p x c1 c2 c3 rp rx rc1 rc2 rc3
theorem y_strike (Z : LZ) (o : Nat) (a : Nat → Nat) {D M : Mem} (hG : Good D) (hP : Pers D M) (p x y : Int) (rp : Rg p) (rx : Rg x) (ry : Rg y) : Tm Z o a jX9_strike [p, x, y] M (fun z M2 => z = (A_strike D p x y).1 ∧ Pers ((A_strike D p x y).2) M2) := by
  exact c_strike Z o a hP hG.1.1 hG.1 hG.2.1 p x y hG.hst rp rx ry
theorem y_mark (Z : LZ) (o : Nat) (a : Nat → Nat) {D M : Mem} (hG : Good D) (hP : Pers D M) (p x y t h : Int) (rp : Rg p) (rx : Rg x) (ry : Rg y) (rt : Rg t) (rh : Rg h) : Tm Z o a jX9_mark [p, x, y, t, h] M (fun z M2 => z = (A_mark D p x y t h).1 ∧ Pers ((A_mark D p x y t h).2) M2) := by
  exact c_mark Z o a hP hG.1.1 hG.1 hG.2.1 hG.hst p x y t h rp rx ry rt rh
theorem y_undo (Z : LZ) (o : Nat) (a : Nat → Nat) {D M : Mem} (hG : Good D) (hP : Pers D M) (p s : Int) (rp : Rg p) (rs : Rg s) : Tm Z o a jX9_undo [p, s] M (fun z M2 => z = (A_undo D p s).1 ∧ Pers ((A_undo D p s).2) M2) := by
  exact c_undo Z o a hP hG.1.1 hG.1 hG.2.1 p s rp rs
theorem y_slips (Z : LZ) (o : Nat) (a : Nat → Nat) {D M : Mem} (hG : Good D) (hP : Pers D M)  : Tm Z o a jX9_slips [] M (fun z M2 => z = D 9 0 ∧ Pers (D) M2) := by
  exact c_slips Z o a hP hG.1.1 hG.1 hG.2.1  
theorem y_status (Z : LZ) (o : Nat) (a : Nat → Nat) {D M : Mem} (hG : Good D) (hP : Pers D M)  : Tm Z o a jX9_status [] M (fun z M2 => z = D 13 0 ∧ Pers (D) M2) := by
  exact c_status Z o a hP hG.1.1 hG.1 hG.2.1  
theorem gi_carry {D : Mem} (hG : Good D) (hI : Inv D) (s p : Int) (rs : Rg s) (rp : Rg p) : Good ((A_carry D s p).2) ∧ Inv ((A_carry D s p).2) := ⟨Good_carry hG s p, Inv_carry hI s p⟩
theorem gi_all {D : Mem} (hG : Good D) (hI : Inv D) (f t : Int) (rf : Rg f) (rt : Rg t) : Good ((A_all D f t).2) ∧ Inv ((A_all D f t).2) := ⟨Good_all hG f t, Inv_all hI f t⟩
theorem gi_cursor {D : Mem} (hG : Good D) (hI : Inv D) (p c q l : Int) (rp : Rg p) (rc : Rg c) (rq : Rg q) (rl : Rg l) : Good ((A_cursor D p c q l).2) ∧ Inv ((A_cursor D p c q l).2) := ⟨Good_cursor hG p c q l, Inv_cursor hI p c q l⟩
theorem gi_part {D : Mem} (hG : Good D) (hI : Inv D) (s x : Int) (rs : Rg s) (rx : Rg x) : Good (ms D 13 0 (A_part D s x).2) ∧ Inv (ms D 13 0 (A_part D s x).2) := ⟨Good_part hG s x, Inv_fin hI _⟩
theorem gi_left {D : Mem} (hG : Good D) (hI : Inv D) (s : Int) (rs : Rg s) : Good (ms D 13 0 (A_link D s 0).2) ∧ Inv (ms D 13 0 (A_link D s 0).2) := ⟨Good_link hG s 0, Inv_fin hI _⟩
theorem gi_bound {D : Mem} (hG : Good D) (hI : Inv D) (s : Int) (rs : Rg s) : Good (ms D 13 0 (A_link D s 2).2) ∧ Inv (ms D 13 0 (A_link D s 2).2) := ⟨Good_link hG s 2, Inv_fin hI _⟩
theorem gi_undone {D : Mem} (hG : Good D) (hI : Inv D) (s : Int) (rs : Rg s) : Good (ms D 13 0 (A_link D s 3).2) ∧ Inv (ms D 13 0 (A_link D s 3).2) := ⟨Good_link hG s 3, Inv_fin hI _⟩
theorem gi_type {D : Mem} (hG : Good D) (hI : Inv D) (p x c1 c2 c3 : Int) (rp : Rg p) (rx : Rg x) (rc1 : Rg c1) (rc2 : Rg c2) (rc3 : Rg c3) : Good ((A_type D p x c1 c2 c3).2) ∧ Inv ((A_type D p x c1 c2 c3).2) := ⟨Good_type hG rp rc1 rc2 rc3, Inv_type hG hI rp rc1 rc2 rc3⟩
theorem gi_strike {D : Mem} (hG : Good D) (hI : Inv D) (p x y : Int) (rp : Rg p) (rx : Rg x) (ry : Rg y) : Good ((A_strike D p x y).2) ∧ Inv ((A_strike D p x y).2) := ⟨Good_strike hG rp ry, Inv_strike hG hI rp ry⟩
theorem gi_mark {D : Mem} (hG : Good D) (hI : Inv D) (p x y t h : Int) (rp : Rg p) (rx : Rg x) (ry : Rg y) (rt : Rg t) (rh : Rg h) : Good ((A_mark D p x y t h).2) ∧ Inv ((A_mark D p x y t h).2) := ⟨Good_mark hG, Inv_mark hG hI⟩
theorem gi_undo {D : Mem} (hG : Good D) (hI : Inv D) (p s : Int) (rp : Rg p) (rs : Rg s) : Good ((A_undo D p s).2) ∧ Inv ((A_undo D p s).2) := ⟨Good_undo hG rp rs, Inv_undo hG hI rp rs⟩
