/-! keys and names: the symbols the other way round -/
def nd (n i : Nat) : Nat := n / 2 ^ (5 * i) % 32
theorem nd_lt (n i : Nat) : nd n i < 32 := Nat.mod_lt _ (by decide)
def rv (n : Nat) : Nat := nd n 0 * 2 ^ 55 + nd n 1 * 2 ^ 50 + nd n 2 * 2 ^ 45 + nd n 3 * 2 ^ 40 + nd n 4 * 2 ^ 35 + nd n 5 * 2 ^ 30 + nd n 6 * 2 ^ 25 + nd n 7 * 2 ^ 20 + nd n 8 * 2 ^ 15 + nd n 9 * 2 ^ 10 + nd n 10 * 2 ^ 5 + nd n 11
theorem lt12 {p : Nat → Prop} (h : p 0 ∧ p 1 ∧ p 2 ∧ p 3 ∧ p 4 ∧ p 5 ∧ p 6 ∧ p 7 ∧ p 8 ∧ p 9 ∧ p 10 ∧ p 11) {i : Nat} (hi : i < 12) : p i := by
  obtain ⟨h0, h1, h2, h3, h4, h5, h6, h7, h8, h9, h10, h11⟩ := h
  match i, hi with
  | 0, _ => exact h0
  | 1, _ => exact h1
  | 2, _ => exact h2
  | 3, _ => exact h3
  | 4, _ => exact h4
  | 5, _ => exact h5
  | 6, _ => exact h6
  | 7, _ => exact h7
  | 8, _ => exact h8
  | 9, _ => exact h9
  | 10, _ => exact h10
  | 11, _ => exact h11
theorem rv_lt (n : Nat) : rv n < 2 ^ 60 := by
  have h0 := nd_lt n 0; have h1 := nd_lt n 1; have h2 := nd_lt n 2; have h3 := nd_lt n 3; have h4 := nd_lt n 4; have h5 := nd_lt n 5
  have h6 := nd_lt n 6; have h7 := nd_lt n 7; have h8 := nd_lt n 8; have h9 := nd_lt n 9; have h10 := nd_lt n 10; have h11 := nd_lt n 11
  unfold rv
  omega
theorem sy_rv (n : Nat) {i : Nat} (hi : i < 12) : sy (rv n) i = nd n i := by
  have h0 := nd_lt n 0; have h1 := nd_lt n 1; have h2 := nd_lt n 2; have h3 := nd_lt n 3; have h4 := nd_lt n 4; have h5 := nd_lt n 5
  have h6 := nd_lt n 6; have h7 := nd_lt n 7; have h8 := nd_lt n 8; have h9 := nd_lt n 9; have h10 := nd_lt n 10; have h11 := nd_lt n 11
  refine lt12 (p := fun i => sy (rv n) i = nd n i) ?_ hi
  unfold rv sy
  generalize nd n 0 = a0 at *; generalize nd n 1 = a1 at *; generalize nd n 2 = a2 at *; generalize nd n 3 = a3 at *; generalize nd n 4 = a4 at *; generalize nd n 5 = a5 at *
  generalize nd n 6 = a6 at *; generalize nd n 7 = a7 at *; generalize nd n 8 = a8 at *; generalize nd n 9 = a9 at *; generalize nd n 10 = a10 at *; generalize nd n 11 = a11 at *
  simp only [Nat.reduceMul, Nat.reduceSub, Nat.reducePow, Nat.div_one]
  refine ⟨?_, ?_, ?_, ?_, ?_, ?_, ?_, ?_, ?_, ?_, ?_, ?_⟩ <;> omega
theorem nd_eq (n : Nat) {i : Nat} (hi : i < 12) : nd n i = sy n (11 - i) := by
  unfold nd sy
  rw [show 11 - (11 - i) = i by omega]
theorem sy_eq (n : Nat) {i : Nat} (hi : i < 12) : sy n i = nd n (11 - i) := by
  unfold nd sy
  rfl
theorem nd_rv (n : Nat) {i : Nat} (hi : i < 12) : nd (rv n) i = nd n (11 - i) := by
  rw [nd_eq _ hi, sy_rv _ (by omega)]
theorem dig12 (n : Nat) : nd n 0 + nd n 1 * 2 ^ 5 + nd n 2 * 2 ^ 10 + nd n 3 * 2 ^ 15 + nd n 4 * 2 ^ 20 + nd n 5 * 2 ^ 25 + nd n 6 * 2 ^ 30 + nd n 7 * 2 ^ 35 + nd n 8 * 2 ^ 40 + nd n 9 * 2 ^ 45 + nd n 10 * 2 ^ 50 + nd n 11 * 2 ^ 55 = n % 2 ^ 60 := by
  unfold nd
  simp only [Nat.reduceMul, Nat.reducePow, Nat.div_one]
  omega
theorem rv_rv (n : Nat) : rv (rv n) = n % 2 ^ 60 := by
  have h := dig12 n
  obtain ⟨m, hm⟩ : ∃ m, m = rv n := ⟨_, rfl⟩
  rw [← hm]
  unfold rv
  rw [hm]
  rw [nd_rv n (i := 0) (by omega), nd_rv n (i := 1) (by omega), nd_rv n (i := 2) (by omega), nd_rv n (i := 3) (by omega), nd_rv n (i := 4) (by omega), nd_rv n (i := 5) (by omega), nd_rv n (i := 6) (by omega), nd_rv n (i := 7) (by omega), nd_rv n (i := 8) (by omega), nd_rv n (i := 9) (by omega), nd_rv n (i := 10) (by omega), nd_rv n (i := 11) (by omega)]
  simp only [Nat.reduceSub]
  omega
theorem rv_inj {a b : Nat} (ha : a < 2 ^ 60) (hb : b < 2 ^ 60) (h : rv a = rv b) : a = b := by
  have h1 := rv_rv a
  have h2 := rv_rv b
  rw [h, h2] at h1
  rw [Nat.mod_eq_of_lt ha, Nat.mod_eq_of_lt hb] at h1
  exact h1.symm
/-- two keys with the same symbols are one -/
theorem key_ext {a b : Nat} (ha : a < 2 ^ 60) (hb : b < 2 ^ 60) (h : ∀ i, i < 12 → sy a i = sy b i) : a = b := by
  have ea := dig12 a
  have eb := dig12 b
  rw [Nat.mod_eq_of_lt ha] at ea
  rw [Nat.mod_eq_of_lt hb] at eb
  rw [← ea, ← eb]
  have g : ∀ i, i < 12 → nd a i = nd b i := fun i hi => by rw [nd_eq _ hi, nd_eq _ hi, h _ (by omega)]
  rw [g 0 (by omega), g 1 (by omega), g 2 (by omega), g 3 (by omega), g 4 (by omega), g 5 (by omega), g 6 (by omega), g 7 (by omega), g 8 (by omega), g 9 (by omega), g 10 (by omega), g 11 (by omega)]
/-- the order of keys is that of the first symbol in which they differ -/
theorem key_lt {a b : Nat} (ha : a < 2 ^ 60) (hb : b < 2 ^ 60) {i : Nat} (hi : i < 12) (h : ∀ j, j < i → sy a j = sy b j) (hl : sy a i < sy b i) : a < b := by
  have ea := dig12 a
  have eb := dig12 b
  rw [Nat.mod_eq_of_lt ha] at ea
  rw [Nat.mod_eq_of_lt hb] at eb
  rw [← ea, ← eb]
  have hl' : nd a (11 - i) < nd b (11 - i) := by rw [nd_eq _ (by omega), nd_eq _ (by omega), show 11 - (11 - i) = i by omega]; exact hl
  have g : ∀ j, 11 - i < j → j < 12 → nd a j = nd b j := fun j h1 h2 => by rw [nd_eq _ h2, nd_eq _ h2, h _ (by omega)]
  have b0 := nd_lt a 0; have b1 := nd_lt a 1; have b2 := nd_lt a 2; have b3 := nd_lt a 3; have b4 := nd_lt a 4; have b5 := nd_lt a 5
  have b6 := nd_lt a 6; have b7 := nd_lt a 7; have b8 := nd_lt a 8; have b9 := nd_lt a 9; have b10 := nd_lt a 10; have b11 := nd_lt a 11
  revert hl' g
  refine lt12 (p := fun i => nd a (11 - i) < nd b (11 - i) → (∀ j, 11 - i < j → j < 12 → nd a j = nd b j) → _) ?_ hi
  simp only [Nat.reduceSub]
  refine ⟨?_, ?_, ?_, ?_, ?_, ?_, ?_, ?_, ?_, ?_, ?_, ?_⟩ <;> intro hl' g
  · omega
  · have g11 := g 11 (by omega) (by omega); omega
  · have g11 := g 11 (by omega) (by omega); have g10 := g 10 (by omega) (by omega); omega
  · have g11 := g 11 (by omega) (by omega); have g10 := g 10 (by omega) (by omega); have g9 := g 9 (by omega) (by omega); omega
  · have g11 := g 11 (by omega) (by omega); have g10 := g 10 (by omega) (by omega); have g9 := g 9 (by omega) (by omega); have g8 := g 8 (by omega) (by omega); omega
  · have g11 := g 11 (by omega) (by omega); have g10 := g 10 (by omega) (by omega); have g9 := g 9 (by omega) (by omega); have g8 := g 8 (by omega) (by omega); have g7 := g 7 (by omega) (by omega); omega
  · have g11 := g 11 (by omega) (by omega); have g10 := g 10 (by omega) (by omega); have g9 := g 9 (by omega) (by omega); have g8 := g 8 (by omega) (by omega); have g7 := g 7 (by omega) (by omega); have g6 := g 6 (by omega) (by omega); omega
  · have g11 := g 11 (by omega) (by omega); have g10 := g 10 (by omega) (by omega); have g9 := g 9 (by omega) (by omega); have g8 := g 8 (by omega) (by omega); have g7 := g 7 (by omega) (by omega); have g6 := g 6 (by omega) (by omega); have g5 := g 5 (by omega) (by omega); omega
  · have g11 := g 11 (by omega) (by omega); have g10 := g 10 (by omega) (by omega); have g9 := g 9 (by omega) (by omega); have g8 := g 8 (by omega) (by omega); have g7 := g 7 (by omega) (by omega); have g6 := g 6 (by omega) (by omega); have g5 := g 5 (by omega) (by omega); have g4 := g 4 (by omega) (by omega); omega
  · have g11 := g 11 (by omega) (by omega); have g10 := g 10 (by omega) (by omega); have g9 := g 9 (by omega) (by omega); have g8 := g 8 (by omega) (by omega); have g7 := g 7 (by omega) (by omega); have g6 := g 6 (by omega) (by omega); have g5 := g 5 (by omega) (by omega); have g4 := g 4 (by omega) (by omega); have g3 := g 3 (by omega) (by omega); omega
  · have g11 := g 11 (by omega) (by omega); have g10 := g 10 (by omega) (by omega); have g9 := g 9 (by omega) (by omega); have g8 := g 8 (by omega) (by omega); have g7 := g 7 (by omega) (by omega); have g6 := g 6 (by omega) (by omega); have g5 := g 5 (by omega) (by omega); have g4 := g 4 (by omega) (by omega); have g3 := g 3 (by omega) (by omega); have g2 := g 2 (by omega) (by omega); omega
  · have g11 := g 11 (by omega) (by omega); have g10 := g 10 (by omega) (by omega); have g9 := g 9 (by omega) (by omega); have g8 := g 8 (by omega) (by omega); have g7 := g 7 (by omega) (by omega); have g6 := g 6 (by omega) (by omega); have g5 := g 5 (by omega) (by omega); have g4 := g 4 (by omega) (by omega); have g3 := g 3 (by omega) (by omega); have g2 := g 2 (by omega) (by omega); have g1 := g 1 (by omega) (by omega); omega
