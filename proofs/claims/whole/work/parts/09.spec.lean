/-! the lane as numbers: houses, kinds, stones, strengths, deeds, loads, who stands (bits), the hour -/
abbrev LN : Type := Nat × (Nat → Nat) × (Nat → Nat) × (Nat → Nat) × (Nat → Nat) × (Nat → Nat) × Nat × Nat
abbrev Ln (L : LN) : Nat := L.1
abbrev Lk (L : LN) : Nat → Nat := L.2.1
abbrev Ls (L : LN) : Nat → Nat := L.2.2.1
abbrev Lg (L : LN) : Nat → Nat := L.2.2.2.1
abbrev Ld (L : LN) : Nat → Nat := L.2.2.2.2.1
abbrev Ll (L : LN) : Nat → Nat := L.2.2.2.2.2.1
abbrev LU (L : LN) : Nat := L.2.2.2.2.2.2.1
abbrev Lh (L : LN) : Nat := L.2.2.2.2.2.2.2
def gv (k l : Nat) : Nat := if k = 0 then l / 2 else if k = 1 then l - 3 else if k = 3 then l - l / 2 else 0
def lst (L : LN) (h : Nat) : Bool := decide (h < Ln L) && (LU L).testBit h
def lsst (L : LN) (h : Nat) : Bool := if Ld L h = 0 then decide (0 < h) && lst L (h - 1) else if Ld L h = 1 then lst L (h + 1) else false
def lgi (L : LN) (h : Nat) : Nat := if lst L h then gv (Lk L h) (Ll L h) else 0
def lgr (L : LN) (h : Nat) : Nat := if lst L h then Ll L h - gv (Lk L h) (Ll L h) else 0
def lfrL (L : LN) (h : Nat) : Nat := if 0 < h ∧ Ld L (h - 1) = 1 then lgi L (h - 1) else 0
def lfrR (L : LN) (h : Nat) : Nat := if Ld L (h + 1) = 0 then lgi L (h + 1) else 0
def lnew (L : LN) (h : Nat) : Nat := Ls L h + lfrL L h + lfrR L h
def setl (L : LN) (f : Nat → Nat) : LN := (Ln L, Lk L, Ls L, Lg L, Ld L, f, LU L, Lh L)
def sets (L : LN) (f : Nat → Nat) : LN := (Ln L, Lk L, f, Lg L, Ld L, Ll L, LU L, Lh L)
def setd (L : LN) (f : Nat → Nat) : LN := (Ln L, Lk L, Ls L, Lg L, f, Ll L, LU L, Lh L)
def lstep (L : LN) : LN := setl L (fun h => if lst L h then lnew L h else 0)
def lfall (L : LN) (h : Nat) : Bool := lst L h && ((decide (Lk L h ≠ 2) && !(decide (Ld L h = 2) || lsst L h)) || decide (3 * Lg L h < lgr L h))
def bitsOf (P : Nat → Bool) : Nat → Nat
  | 0 => 0
  | n + 1 => bitsOf P n ||| (if P n then 2 ^ n else 0)
def hF (L : LN) : Nat := bitsOf (lfall (lstep L)) (Ln L)
def hour (L : LN) : LN := (Ln L, Lk L, Ls L, Lg L, Ld L, fun h => if (hF L).testBit h then 0 else Ll (lstep L) h, bitsOf (fun h => lst L h && !(hF L).testBit h) (Ln L), Lh L + 1)
def hrs : Nat → LN → LN
  | 0, L => L
  | n + 1, L => hour (hrs n L)
/-- houses at most 6; small numbers; who does not stand has no load; all loads together at most B -/
def lok (L : LN) (B : Nat) : Prop := Ln L ≤ 6 ∧ LU L < 2 ^ Ln L ∧ Lh L ≤ B ∧ (∀ i, i < Ln L → Lk L i ≤ 4 ∧ Ls L i ≤ 99 ∧ Lg L i ≤ 9 ∧ Ld L i ≤ 3) ∧ (∀ i, lst L i = true → Lk L i ≠ 4) ∧ (∀ i, lst L i = false → Ll L i = 0) ∧ Ll L 0 + Ll L 1 + Ll L 2 + Ll L 3 + Ll L 4 + Ll L 5 ≤ B
theorem testBit_bitsOf (P : Nat → Bool) (n h : Nat) : (bitsOf P n).testBit h = (decide (h < n) && P h) := by
  induction n with
  | zero => simp [bitsOf]
  | succ n ih =>
    simp only [bitsOf, Nat.testBit_or, ih]
    by_cases hh : h = n
    · subst hh
      cases hP : P h <;> simp [Nat.testBit_two_pow_self]
    · have h2 : (if P n = true then 2 ^ n else 0).testBit h = false := by
        split
        · exact Nat.testBit_two_pow_of_ne (fun q => hh q.symm)
        · simp
      rw [h2, Bool.or_false]
      congr 1
      simp only [decide_eq_decide]
      omega
theorem bitsOf_lt (P : Nat → Bool) (n : Nat) : bitsOf P n < 2 ^ n := by
  induction n with
  | zero => simp [bitsOf]
  | succ n ih =>
    simp only [bitsOf]
    apply Nat.or_lt_two_pow
    · exact Nat.lt_trans ih (Nat.pow_lt_pow_right (by decide) (by omega))
    · split
      · exact Nat.pow_lt_pow_right (by decide) (by omega)
      · exact Nat.two_pow_pos _
theorem pow_le64 {n : Nat} (h : n ≤ 6) : 2 ^ n ≤ 64 := by
  rcases (show n = 0 ∨ n = 1 ∨ n = 2 ∨ n = 3 ∨ n = 4 ∨ n = 5 ∨ n = 6 by omega) with rfl | rfl | rfl | rfl | rfl | rfl | rfl <;> decide
theorem lst_n {L : LN} {h : Nat} (e : lst L h = true) : h < Ln L := by
  unfold lst at e
  simp only [Bool.and_eq_true, decide_eq_true_eq] at e
  exact e.1
theorem lok_l {L : LN} {B : Nat} (hk : lok L B) (i : Nat) : Ll L i ≤ B := by
  obtain ⟨h1, -, -, -, -, h6, h7⟩ := hk
  by_cases hi : i < 6
  · rcases (show i = 0 ∨ i = 1 ∨ i = 2 ∨ i = 3 ∨ i = 4 ∨ i = 5 by omega) with rfl | rfl | rfl | rfl | rfl | rfl <;> omega
  · rw [h6 i (by
      cases q : lst L i with
      | false => rfl
      | true => exact absurd (lst_n q) (by omega))]
    omega
theorem gv_le (k l : Nat) : gv k l ≤ l := by
  unfold gv
  split
  · omega
  · split
    · omega
    · split <;> omega
theorem lok_U {L : LN} {B : Nat} (hk : lok L B) : LU L < 64 := Nat.lt_of_lt_of_le hk.2.1 (pow_le64 hk.1)
/-- the lane in the heap, its cells at b .. b+6 -/
def laneR (cx : CX) (μ : ME) (b : Nat) (L : LN) : Prop := ∃ fk fs fg fd fl fc : Nat → Int32,
  μ b = .inr (0, [.ref (xa cx (b + 1)), .ref (xa cx (b + 2)), .ref (xa cx (b + 3)), .ref (xa cx (b + 4)), .ref (xa cx (b + 5)), .ref (xa cx (b + 6)), .int (nI (Ln L)), .int (nI (LU L)), .int (nI (Lh L))]) ∧
  μ (b + 1) = .inl (xT cx 0, 6, .inl fk) ∧ μ (b + 2) = .inl (xT cx 0, 6, .inl fs) ∧ μ (b + 3) = .inl (xT cx 0, 6, .inl fg) ∧ μ (b + 4) = .inl (xT cx 0, 6, .inl fd) ∧ μ (b + 5) = .inl (xT cx 0, 6, .inl fl) ∧ μ (b + 6) = .inl (xT cx 0, 6, .inl fc) ∧
  (∀ i, i < Ln L → fk i = nI (Lk L i) ∧ fs i = nI (Ls L i) ∧ fg i = nI (Lg L i) ∧ fd i = nI (Ld L i)) ∧ (∀ i, lst L i = true → fl i = nI (Ll L i))
/-- all cells but those from b on, n of them, are as they were -/
def off (b n : Nat) (μ μ1 : ME) : Prop := ∀ i, (i < b ∨ b + n ≤ i) → μ1 i = μ i
theorem off_rf {b n : Nat} {μ : ME} : off b n μ μ := fun _ _ => rfl
theorem off_tr {b n : Nat} {μ μ1 μ2 : ME} (h1 : off b n μ μ1) (h2 : off b n μ1 μ2) : off b n μ μ2 := fun i hi => (h2 i hi).trans (h1 i hi)
theorem off_up {b n i : Nat} {μ μ1 : ME} {e : va_E} (h : off b n μ μ1) (h1 : b ≤ i) (h2 : i < b + n) : off b n μ (va_up μ1 i e) := fun j hj => (va_up_ne _ _ (by omega)).trans (h j hj)
theorem laneR_off {cx : CX} {μ μ1 : ME} {b a n : Nat} {L : LN} (h : laneR cx μ b L) (ho : off a n μ μ1) (hd : a + n ≤ b ∨ b + 7 ≤ a) : laneR cx μ1 b L := by
  obtain ⟨fk, fs, fg, fd, fl, fc, h0, h1, h2, h3, h4, h5, h6, h7, h8⟩ := h
  exact ⟨fk, fs, fg, fd, fl, fc, (ho _ (by omega)).trans h0, (ho _ (by omega)).trans h1, (ho _ (by omega)).trans h2, (ho _ (by omega)).trans h3, (ho _ (by omega)).trans h4, (ho _ (by omega)).trans h5, (ho _ (by omega)).trans h6, h7, h8⟩
