/-! keyOf, nameOf, goodKey -/
def nmA (k : Nat) : Nat → Nat
  | 0 => 0
  | i + 1 => nmA k i + sy k i * 2 ^ (5 * i)
theorem nmA_lt (k : Nat) : ∀ i, nmA k i < 2 ^ (5 * i)
  | 0 => by simp [nmA]
  | i + 1 => by
    have h := nmA_lt k i
    have hs := sy_lt k i
    have e : 2 ^ (5 * (i + 1)) = 32 * 2 ^ (5 * i) := by rw [Nat.mul_add, Nat.pow_add, Nat.mul_comm]
    rw [e]
    have h2 : sy k i * 2 ^ (5 * i) ≤ 31 * 2 ^ (5 * i) := Nat.mul_le_mul_right _ (by omega)
    show nmA k i + sy k i * 2 ^ (5 * i) < _
    omega
theorem pow_le60 {i : Nat} (h : i ≤ 12) : 2 ^ (5 * i) ≤ 2 ^ 60 := Nat.pow_le_pow_right (by decide) (by omega)
theorem nmA_12 (k : Nat) : nmA k 12 = rv k := by
  unfold rv
  rw [nd_eq k (i := 0) (by omega), nd_eq k (i := 1) (by omega), nd_eq k (i := 2) (by omega), nd_eq k (i := 3) (by omega), nd_eq k (i := 4) (by omega), nd_eq k (i := 5) (by omega), nd_eq k (i := 6) (by omega), nd_eq k (i := 7) (by omega), nd_eq k (i := 8) (by omega), nd_eq k (i := 9) (by omega), nd_eq k (i := 10) (by omega), nd_eq k (i := 11) (by omega)]
  simp only [nmA, Nat.reduceSub, Nat.reduceMul]
  omega
theorem nameOf_loop {d k : Nat} {M : xM} {z w : Nat} {Q : Option Value → xM → Nat → Nat → Prop} (hk : k < 2 ^ 64) : ∀ (n : Nat), n ≤ 12 →
    (WP (d + 1) mNm_nameOf 5 [some (.long (lN k)), none, some (.long (lN (nmA k (12 - n)))), none, some (.int (nI (12 - n)))] [] M z w Q ↔ Q (some (.long (lN (rv k)))) M z w) := by
  intro n
  induction n with
  | zero =>
    intro hn
    simp only [sNm_nameOf_5, sNm_nameOf_7, sNm_nameOf_9, sNm_nameOf_33, sNm_nameOf_34]
    rw [if_pos (nI_le (by omega) (by omega)), nmA_12]
  | succ n ih =>
    intro hn
    rw [sNm_nameOf_5]
    simp only [sNm_nameOf_7, sNm_nameOf_9, sNm_nameOf_12, sNm_nameOf_13, sNm_nameOf_14, sNm_nameOf_16, xk_i, xk_l, xk_a, xk_n, xk_0, Option.toList_some, Option.toList_none, List.cons_append, List.nil_append]
    have e1 : 12 - (n + 1) = 11 - n := by omega
    rw [if_neg (nI_ge (by omega) (by omega)), e1, c_symbolOf hk (by omega)]
    have hs := sy_lt k (11 - n)
    have ha := nmA_lt k (11 - n)
    have hb := nmA_lt k (11 - n + 1)
    have hc := pow_le60 (i := 11 - n + 1) (by omega)
    simp only [sNm_nameOf_19, sNm_nameOf_20, sNm_nameOf_21, sNm_nameOf_23, sNm_nameOf_24, sNm_nameOf_25, sNm_nameOf_26, sNm_nameOf_27, sNm_nameOf_30, xk_i, xk_l, xk_a, xk_n, xk_0, Option.toList_some, Option.toList_none, List.cons_append, List.nil_append]
    rw [nI_l (by omega), pk_mul, wb_shl _ (by omega), g_or' (k := 5 * (11 - n)) rfl ha (by show nmA k (11 - n + 1) < _; omega), nI_add, show 11 - n + 1 = 12 - n by omega]
    have := ih (by omega)
    rw [show 12 - n = 11 - n + 1 by omega] at this ⊢
    exact this
theorem c_nameOf {d k : Nat} {M : xM} {z w : Nat} {Q : Option Value → xM → Nat → Nat → Prop} (hk : k < 2 ^ 64) : WP (d + 1) mNm_nameOf 0 [some (.long (lN k)), none, none, none, none] [] M z w Q ↔ Q (some (.long (lN (rv k)))) M z w := by
  simp only [sNm_nameOf_0, sNm_nameOf_1, sNm_nameOf_2, sNm_nameOf_3, xk_i, xk_l, xk_a, xk_n, xk_0, Option.toList_some, Option.toList_none, List.cons_append, List.nil_append]
  exact nameOf_loop hk 12 (by omega)
def kyA (n : Nat) : Nat → Nat
  | 0 => 0
  | i + 1 => kyA n i + nd n i * 2 ^ (5 * (11 - i))
theorem kyA_mul (n : Nat) : ∀ i, i ≤ 12 → ∃ c, kyA n i = c * 2 ^ (5 * (12 - i)) ∧ c < 2 ^ (5 * i)
  | 0, _ => ⟨0, by simp [kyA], by simp⟩
  | i + 1, h => by
    obtain ⟨c, hc, hl⟩ := kyA_mul n i (by omega)
    have hd := nd_lt n i
    refine ⟨32 * c + nd n i, ?_, ?_⟩
    · show kyA n i + nd n i * 2 ^ (5 * (11 - i)) = _
      rw [hc, show 12 - (i + 1) = 11 - i by omega, show 5 * (12 - i) = 5 + 5 * (11 - i) by omega, Nat.pow_add, Nat.add_mul]
      congr 1
      rw [← Nat.mul_assoc]
      congr 1
      omega
    · have e : 2 ^ (5 * (i + 1)) = 32 * 2 ^ (5 * i) := by rw [Nat.mul_add, Nat.pow_add, Nat.mul_comm]
      rw [e]; omega
theorem kyA_lt (n : Nat) {i : Nat} (h : i ≤ 12) : kyA n i < 2 ^ 60 := by
  obtain ⟨c, hc, hl⟩ := kyA_mul n i h
  rw [hc, show 60 = 5 * i + 5 * (12 - i) by omega, Nat.pow_add]
  exact Nat.mul_lt_mul_of_pos_right hl (Nat.pow_pos (by decide))
theorem sy_kyA (n : Nat) : ∀ L, L ≤ 12 → ∀ i, i < 12 → sy (kyA n L) i = if i < L then nd n i else 0
  | 0, _, i, hi => by simp [kyA, sy]
  | L + 1, hL, i, hi => by
    obtain ⟨c, hc, hl⟩ := kyA_mul n L (by omega)
    have hd := nd_lt n L
    have ih := sy_kyA n L (by omega) i hi
    have e0 : kyA n (L + 1) = (32 * c + nd n L) * 2 ^ (5 * (11 - L)) := by
      show kyA n L + nd n L * 2 ^ (5 * (11 - L)) = _
      rw [hc, show 5 * (12 - L) = 5 + 5 * (11 - L) by omega, Nat.pow_add, Nat.add_mul, ← Nat.mul_assoc]
      congr 2
      omega
    have e1 : kyA n L = (32 * c) * 2 ^ (5 * (11 - L)) := by
      rw [hc, show 5 * (12 - L) = 5 + 5 * (11 - L) by omega, Nat.pow_add, ← Nat.mul_assoc]
      congr 1
      omega
    have hp : 0 < 2 ^ (5 * (11 - L)) := Nat.pow_pos (by decide)
    unfold sy at ih ⊢
    rw [e0]
    rw [e1] at ih
    by_cases h1 : i < L
    · rw [if_pos h1] at ih
      rw [if_pos (by omega), ← ih, show 5 * (11 - i) = 5 * (11 - L) + 5 * (L - i) by omega, Nat.pow_add, ← Nat.div_div_eq_div_mul, ← Nat.div_div_eq_div_mul, Nat.mul_div_cancel _ hp, Nat.mul_div_cancel _ hp, show 5 * (L - i) = 5 + 5 * (L - i - 1) by omega, Nat.pow_add, ← Nat.div_div_eq_div_mul, ← Nat.div_div_eq_div_mul]
      congr 2
      omega
    · by_cases h2 : i = L
      · subst h2
        rw [if_pos (by omega), Nat.mul_div_cancel _ hp]
        omega
      · rw [if_neg (by omega), show 5 * (11 - L) = 5 * (11 - i) + (5 + 5 * (i - L - 1)) by omega, Nat.pow_add, Nat.pow_add, Nat.mul_comm (2 ^ (5 * (11 - i))), ← Nat.mul_assoc, Nat.mul_div_cancel _ (Nat.pow_pos (by decide)), ← Nat.mul_assoc, Nat.mul_comm _ (2 ^ 5), Nat.mul_assoc]
        exact Nat.mul_mod_right _ _
theorem nd_small {n L : Nat} (h : n < 2 ^ (5 * L)) {i : Nat} (hi : L ≤ i) : nd n i = 0 := by
  unfold nd
  rw [Nat.div_eq_of_lt (Nat.lt_of_lt_of_le h (Nat.pow_le_pow_right (by decide) (by omega)))]
theorem kyA_rv {n : Nat} {L : Nat} (hL : L ≤ 12) (h : n < 2 ^ (5 * L)) : kyA n L = rv n := by
  refine key_ext (kyA_lt n hL) (rv_lt n) (fun i hi => ?_)
  rw [sy_kyA n L hL i hi, sy_rv n hi]
  split
  · rfl
  · rw [nd_small h (by omega)]
theorem lt_of_nd {n : Nat} (h60 : n < 2 ^ 60) {L : Nat} (hL : L ≤ 12) (h : ∀ i, L ≤ i → i < 12 → nd n i = 0) : n < 2 ^ (5 * L) := by
  have key : ∀ j, j ≤ 12 - L → n / 2 ^ (5 * (12 - j)) = 0 := by
    intro j
    induction j with
    | zero => intro _; exact Nat.div_eq_of_lt h60
    | succ j ih =>
      intro hj
      have h1 := ih (by omega)
      have h2 := h (12 - (j + 1)) (by omega) (by omega)
      unfold nd at h2
      rw [show 5 * (12 - j) = 5 * (12 - (j + 1)) + 5 by omega, Nat.pow_add, ← Nat.div_div_eq_div_mul] at h1
      have : 2 ^ 5 = 32 := rfl
      rw [this] at h1
      omega
  have h1 := key (12 - L) (Nat.le_refl _)
  rw [show 12 - (12 - L) = L by omega] at h1
  exact (Nat.div_eq_zero_iff.mp h1).resolve_left (Nat.ne_of_gt (Nat.pow_pos (by decide)))
theorem rv_kyA {n : Nat} {L : Nat} (hL : L ≤ 12) : rv (kyA n L) = n ↔ n < 2 ^ (5 * L) := by
  constructor
  · intro h
    refine lt_of_nd (by rw [← h]; exact rv_lt _) hL (fun i h1 h2 => ?_)
    have : nd (rv (kyA n L)) i = 0 := by
      rw [nd_rv _ h2, ← sy_eq _ h2, sy_kyA n L hL i h2, if_neg (by omega)]
    rw [h] at this
    exact this
  · intro h
    rw [kyA_rv hL h, rv_rv, Nat.mod_eq_of_lt (Nat.lt_of_lt_of_le h (pow_le60 hL))]
theorem keyOf_loop {d n : Nat} {M : xM} {z w : Nat} {Q : Option Value → xM → Nat → Nat → Prop} (hn : n < 2 ^ 64) : ∀ (r : Nat) (x5 x6 : Option Value), r ≤ 12 →
    (WP (d + 1) mNm_keyOf 5 [some (.long (lN n)), none, some (.long (lN (kyA n (12 - r)))), none, some (.int (nI (12 - r))), x5, x6] [] M z w Q ↔ Q (some (.long (lN (kyA n (12 - r + lnN (nd n) r))))) M z w) := by
  intro r
  induction r with
  | zero =>
    intro x5 x6 hr
    simp only [sNm_keyOf_5, sNm_keyOf_7, sNm_keyOf_9, sNm_keyOf_51, sNm_keyOf_52]
    rw [if_pos (nI_le (by omega) (by omega))]
    rfl
  | succ r ih =>
    intro x5 x6 hr
    rw [sNm_keyOf_5]
    have e1 : 12 - (r + 1) = 11 - r := by omega
    simp only [sNm_keyOf_7, sNm_keyOf_9, sNm_keyOf_12, sNm_keyOf_13, sNm_keyOf_14, sNm_keyOf_16, sNm_keyOf_17, sNm_keyOf_18, sNm_keyOf_21, sNm_keyOf_22, sNm_keyOf_24, sNm_keyOf_26, sNm_keyOf_27, sNm_keyOf_28, sNm_keyOf_31, sNm_keyOf_34, sNm_keyOf_35, sNm_keyOf_37, sNm_keyOf_39, sNm_keyOf_51, sNm_keyOf_52, xk_i, xk_l, xk_a, xk_n, xk_0, Option.toList_some, Option.toList_none, List.cons_append, List.nil_append, lcmp_eq, lcmp_lt, lcmp_ge, lcmp_gt, lcmp_le, e1]
    rw [if_neg (nI_ge (by omega) (by omega)), pk_mul, wb_shr hn (by omega), lN_31 _ (shr_lt hn)]
    have hd := nd_lt n (11 - r)
    have q := lN_inj (a := n / 2 ^ (5 * (11 - r)) % 32) (b := 0) (by omega) (by omega)
    simp only [q]
    unfold lnN
    change (if nd n (11 - r) = 0 then _ else _) ↔ _
    by_cases h0 : nd n (11 - r) = 0
    · rw [if_pos h0, if_pos h0]
      rfl
    · rw [if_neg h0, if_neg h0, c_placeOf]
      simp only [sNm_keyOf_42, sNm_keyOf_43, sNm_keyOf_44, sNm_keyOf_45, sNm_keyOf_48, xk_i, xk_l, xk_a, xk_n, xk_0, Option.toList_some, Option.toList_none, List.cons_append, List.nil_append]
      obtain ⟨c, hc, hl⟩ := kyA_mul n (11 - r) (by omega)
      have hlt := kyA_lt n (i := 11 - r + 1) (by omega)
      have e2 : kyA n (11 - r + 1) = c * 2 ^ (5 * (12 - (11 - r))) + nd n (11 - r) * 2 ^ (5 * (11 - (11 - r))) := by rw [← hc]; rfl
      have hp : nd n (11 - r) * 2 ^ (5 * (11 - (11 - r))) < 2 ^ (5 * (12 - (11 - r))) := by
        rw [show 5 * (12 - (11 - r)) = 5 + 5 * (11 - (11 - r)) by omega, Nat.pow_add]
        exact Nat.mul_lt_mul_of_pos_right hd (Nat.pow_pos (by decide))
      have e3 : lN (kyA n (11 - r)) ||| lN (n / 2 ^ (5 * (11 - r)) % 32) <<< ((nI 5 * (nI 11 - nI (11 - r))).toInt64 &&& 63) = lN (kyA n (11 - r + 1)) := by
        rw [pl_nI (by omega), wb_shl _ (by omega), hc, e2]
        exact g_or (k := 5 * (12 - (11 - r))) rfl hp (by show c * _ + nd n (11 - r) * _ < _; rw [← e2]; omega)
      rw [e3, nI_add, show 11 - r + 1 = 12 - r by omega, ih _ _ (by omega), show 11 - r + (lnN (nd n) r + 1) = 12 - r + lnN (nd n) r by omega]
theorem c_keyOf {d n : Nat} {M : xM} {z w : Nat} {Q : Option Value → xM → Nat → Nat → Prop} (hn : n < 2 ^ 64) : WP (d + 1) mNm_keyOf 0 [some (.long (lN n)), none, none, none, none, none, none] [] M z w Q ↔ Q (some (.long (lN (kyA n (nln n))))) M z w := by
  simp only [sNm_keyOf_0, sNm_keyOf_1, sNm_keyOf_2, sNm_keyOf_3, xk_i, xk_l, xk_a, xk_n, xk_0, Option.toList_some, Option.toList_none, List.cons_append, List.nil_append]
  have := keyOf_loop (d := d) (M := M) (z := z) (w := w) (Q := Q) hn 12 none none (by omega)
  rw [show 12 - 12 + lnN (nd n) 12 = nln n from Nat.zero_add _] at this
  exact this
/-- a long that is a good name -/
def GN (n : Nat) : Prop := n < 2 ^ (5 * nln n) ∧ gk (rv n) = true
theorem GN.lt {n : Nat} (h : GN n) : n < 2 ^ 60 := Nat.lt_of_lt_of_le h.1 (pow_le60 (nln_le n))
noncomputable def gkey (n : Nat) : Nat := by
  classical exact if GN n then rv n else 0
theorem c_goodKey {d n : Nat} {M : xM} {z w : Nat} {Q : Option Value → xM → Nat → Nat → Prop} (hn : n < 2 ^ 64) : WP (d + 2) mNm_goodKey 0 [some (.long (lN n)), none, none, none] [] M z w Q ↔ Q (some (.long (lN (gkey n)))) M z w := by
  simp only [sNm_goodKey_0, sNm_goodKey_1]
  rw [c_keyOf hn]
  have hL := nln_le n
  have hk := kyA_lt n hL
  simp only [sNm_goodKey_4, sNm_goodKey_5, sNm_goodKey_6, xk_i, xk_l, xk_a, xk_n, xk_0, Option.toList_some, Option.toList_none, List.cons_append, List.nil_append]
  rw [c_nameOf (by omega)]
  have hr := rv_lt (kyA n (nln n))
  have q := lN_inj (a := rv (kyA n (nln n))) (b := n) (by omega) hn
  simp only [sNm_goodKey_9, sNm_goodKey_10, sNm_goodKey_11, sNm_goodKey_14, sNm_goodKey_15, sNm_goodKey_25, sNm_goodKey_26, xk_i, xk_l, xk_a, xk_n, xk_0, Option.toList_some, Option.toList_none, List.cons_append, List.nil_append, lcmp_eq, lcmp_lt, lcmp_ge, lcmp_gt, lcmp_le, q, rv_kyA hL]
  by_cases h : n < 2 ^ (5 * nln n)
  · rw [if_pos h, c_isGood (by omega)]
    simp only [sNm_goodKey_18, sNm_goodKey_21, sNm_goodKey_22, sNm_goodKey_25, sNm_goodKey_26, xk_i, xk_l, xk_a, xk_n, xk_0, Option.toList_some, Option.toList_none, List.cons_append, List.nil_append, kyA_rv hL h]
    by_cases hg : gk (rv n) = true
    · rw [if_pos hg, if_neg (by decide)]
      have : gkey n = rv n := by unfold gkey; exact if_pos ⟨h, hg⟩
      rw [this]
    · rw [if_neg hg, if_pos (by decide)]
      have : gkey n = 0 := by unfold gkey; exact if_neg (fun q => hg q.2)
      rw [this]
  · rw [if_neg h]
    have : gkey n = 0 := by unfold gkey; exact if_neg (fun q => h q.1)
    rw [this]
