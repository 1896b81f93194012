/-! RefStackModel: names -/
theorem c_within {d : Nat} {v a b : Int32} {M : xM} {z w : Nat} {Q : Option Value → xM → Nat → Nat → Prop} : WP d mMd_within 0 [some (.int v), some (.int a), some (.int b)] [] M z w Q ↔ Q (some (.int (nI (if a ≤ v ∧ v ≤ b then 1 else 0)))) M z w := by
  simp only [sMd_within_0, sMd_within_1, sMd_within_2, sMd_within_5, sMd_within_6, sMd_within_7, sMd_within_10, sMd_within_11, sMd_within_14, sMd_within_15 xb0, sMd_within_15 xb1, xk_i, xk_l, xk_a, xk_n, xk_0, Option.toList_some, Option.toList_none, List.cons_append, List.nil_append]
  by_cases h1 : v < a
  · rw [if_pos h1, if_neg (fun h => by have := Int32.lt_iff_toInt_lt.mp h1; have := Int32.le_iff_toInt_le.mp h.1; omega)]
  · rw [if_neg h1]
    have g1 : a ≤ v := by rw [Int32.le_iff_toInt_le]; rw [Int32.lt_iff_toInt_lt] at h1; omega
    by_cases h2 : b < v
    · rw [if_pos h2, if_neg (fun h => by have := Int32.lt_iff_toInt_lt.mp h2; have := Int32.le_iff_toInt_le.mp h.2; omega)]
    · rw [if_neg h2, if_pos ⟨g1, by rw [Int32.le_iff_toInt_le]; rw [Int32.lt_iff_toInt_lt] at h2; omega⟩]
def nds (n i : Nat) : Nat := if 11 < i then 0 else nd n i
theorem nds_lt (n i : Nat) : nds n i < 32 := by
  unfold nds
  split
  · decide
  · exact nd_lt n i
theorem nds_nd {n i : Nat} (h : i < 12) : nds n i = nd n i := if_neg (by omega)
theorem c_symbol {d n i : Nat} {M : xM} {z w : Nat} {Q : Option Value → xM → Nat → Nat → Prop} (hn : n < 2 ^ 64) (hi : i < 2 ^ 31) : WP d mMd_symbol 0 [some (.long (lN n)), none, some (.int (nI i))] [] M z w Q ↔ Q (some (.int (nI (nds n i)))) M z w := by
  simp only [sMd_symbol_0, sMd_symbol_1, sMd_symbol_3, sMd_symbol_6, sMd_symbol_7, sMd_symbol_10, sMd_symbol_11, sMd_symbol_12, sMd_symbol_13, sMd_symbol_14, sMd_symbol_15, sMd_symbol_18, sMd_symbol_19, sMd_symbol_20, xk_i, xk_l, xk_a, xk_n, xk_0, Option.toList_some, Option.toList_none, List.cons_append, List.nil_append]
  by_cases h : i ≤ 11
  · rw [if_pos (nI_le h (by omega)), pk_mul, wb_shr hn (by omega), lN_31 _ (shr_lt hn), lN_i, nds_nd (by omega)]
    rfl
  · rw [if_neg (nI_ge (by omega) hi)]
    unfold nds
    rw [if_pos (by omega)]
theorem length_loop {d n : Nat} {M : xM} {z w : Nat} {Q : Option Value → xM → Nat → Nat → Prop} (hn : n < 2 ^ 64) : ∀ (r : Nat), r ≤ 12 →
    (WP (d + 1) mMd_length 2 [some (.long (lN n)), none, some (.int (nI (12 - r)))] [] M z w Q ↔ Q (some (.int (nI (12 - r + lnN (nd n) r)))) M z w) := by
  intro r
  induction r with
  | zero =>
    intro hr
    simp only [sMd_length_2, sMd_length_3, sMd_length_4]
    rw [c_symbol hn (by omega)]
    simp only [sMd_length_7, sMd_length_16, sMd_length_17, xk_i, xk_l, xk_a, xk_n, xk_0, Option.toList_some, Option.toList_none, List.cons_append, List.nil_append]
    rw [if_pos (by rw [show nds n (12 - 0) = 0 from rfl]; decide)]
    rfl
  | succ r ih =>
    intro hr
    rw [sMd_length_2]
    simp only [sMd_length_3, sMd_length_4]
    have e1 : 12 - (r + 1) = 11 - r := by omega
    rw [e1, c_symbol hn (by omega), nds_nd (by omega)]
    simp only [sMd_length_7, sMd_length_10, sMd_length_13, sMd_length_16, sMd_length_17, xk_i, xk_l, xk_a, xk_n, xk_0, Option.toList_some, Option.toList_none, List.cons_append, List.nil_append]
    have hd := nd_lt n (11 - r)
    unfold lnN
    by_cases h0 : nd n (11 - r) = 0
    · rw [if_pos (by rw [h0]; decide), if_pos h0]; rfl
    · rw [if_neg (nI_ge (a := 0) (by omega) (by omega)), if_neg h0, nI_add, show 11 - r + 1 = 12 - r by omega, ih (by omega), show 11 - r + (lnN (nd n) r + 1) = 12 - r + lnN (nd n) r by omega]
theorem c_length {d n : Nat} {M : xM} {z w : Nat} {Q : Option Value → xM → Nat → Nat → Prop} (hn : n < 2 ^ 64) : WP (d + 1) mMd_length 0 [some (.long (lN n)), none, none] [] M z w Q ↔ Q (some (.int (nI (nln n)))) M z w := by
  simp only [sMd_length_0, sMd_length_1, xk_i, xk_l, xk_a, xk_n, xk_0, Option.toList_some, Option.toList_none, List.cons_append, List.nil_append]
  have := length_loop (d := d) (M := M) (z := z) (w := w) (Q := Q) hn 12 (by omega)
  rw [show 12 - 12 + lnN (nd n) 12 = nln n from Nat.zero_add _] at this
  exact this
theorem alkN_rv (a b : Nat) {n : Nat} (h : n < 12) : alkN (rv a) (rv b) (n + 1) = if nd a (11 - n) = 0 ∨ nd a (11 - n) ≠ nd b (11 - n) then 0 else alkN (rv a) (rv b) n + 1 := by
  show (if nd (rv a) n = 0 ∨ nd (rv a) n ≠ nd (rv b) n then 0 else alkN (rv a) (rv b) n + 1) = _
  rw [nd_rv a h, nd_rv b h]
theorem alike2_loop {d a b : Nat} {M : xM} {z w : Nat} {Q : Option Value → xM → Nat → Nat → Prop} (ha : a < 2 ^ 64) (hb : b < 2 ^ 64) : ∀ (r : Nat), r ≤ 12 →
    (WP (d + 1) mMd_alike 3 [some (.long (lN a)), none, some (.long (lN b)), none, some (.int (nI (12 - r)))] [] M z w Q ↔ Q (some (.int (nI (12 - r + alkN (rv a) (rv b) r)))) M z w) := by
  intro r
  induction r with
  | zero =>
    intro hr
    simp only [sMd_alike_3, sMd_alike_5, sMd_alike_7, sMd_alike_40, sMd_alike_42]
    rw [if_pos (nI_le (by omega) (by omega))]
    rfl
  | succ r ih =>
    intro hr
    rw [sMd_alike_3]
    have e1 : 12 - (r + 1) = 11 - r := by omega
    simp only [sMd_alike_5, sMd_alike_7, sMd_alike_10, sMd_alike_11, sMd_alike_13, e1]
    rw [if_neg (nI_ge (by omega) (by omega)), c_symbol ha (by omega), nds_nd (by omega)]
    simp only [sMd_alike_16, sMd_alike_19, sMd_alike_20, sMd_alike_22, sMd_alike_40, sMd_alike_42, xk_i, xk_l, xk_a, xk_n, xk_0, Option.toList_some, Option.toList_none, List.cons_append, List.nil_append]
    have hda := nd_lt a (11 - r)
    have hdb := nd_lt b (11 - r)
    rw [alkN_rv a b (by omega)]
    by_cases h0 : nd a (11 - r) = 0
    · rw [if_pos (by rw [h0]; decide), if_pos (Or.inl h0)]; rfl
    · rw [if_neg (nI_ge (a := 0) (by omega) (by omega)), c_symbol ha (by omega), nds_nd (by omega)]
      simp only [sMd_alike_25, sMd_alike_26, sMd_alike_28, xk_i, xk_l, xk_a, xk_n, xk_0, Option.toList_some, Option.toList_none, List.cons_append, List.nil_append]
      rw [c_symbol hb (by omega), nds_nd (by omega)]
      have q := nI_eq (a := nd a (11 - r)) (b := nd b (11 - r)) (by omega) (by omega)
      simp only [sMd_alike_31, sMd_alike_34, sMd_alike_37, sMd_alike_40, sMd_alike_42, xk_i, xk_l, xk_a, xk_n, xk_0, Option.toList_some, Option.toList_none, List.cons_append, List.nil_append, q]
      by_cases h1 : nd a (11 - r) = nd b (11 - r)
      · rw [if_pos h1, if_neg (by rintro (h | h); exact h0 h; exact h h1), nI_add, show 11 - r + 1 = 12 - r by omega, ih (by omega), show 11 - r + (alkN (rv a) (rv b) r + 1) = 12 - r + alkN (rv a) (rv b) r by omega]
      · rw [if_neg h1, if_pos (Or.inr h1)]; rfl
theorem c_alike2 {d a b : Nat} {M : xM} {z w : Nat} {Q : Option Value → xM → Nat → Nat → Prop} (ha : a < 2 ^ 64) (hb : b < 2 ^ 64) : WP (d + 1) mMd_alike 0 [some (.long (lN a)), none, some (.long (lN b)), none, none] [] M z w Q ↔ Q (some (.int (nI (alk (rv a) (rv b))))) M z w := by
  simp only [sMd_alike_0, sMd_alike_1, xk_i, xk_l, xk_a, xk_n, xk_0, Option.toList_some, Option.toList_none, List.cons_append, List.nil_append]
  have := alike2_loop (d := d) (M := M) (z := z) (w := w) (Q := Q) ha hb 12 (by omega)
  rw [show 12 - 12 + alkN (rv a) (rv b) 12 = alk (rv a) (rv b) from Nat.zero_add _] at this
  exact this
theorem lnN_alkN (a : Nat) : ∀ n, n ≤ 12 → lnN (nd a) n = alkN (rv a) (rv a) n
  | 0, _ => rfl
  | n + 1, h => by
    rw [alkN_rv a a (by omega)]
    unfold lnN
    rw [lnN_alkN a n (by omega)]
    by_cases h0 : nd a (11 - n) = 0
    · rw [if_pos h0, if_pos (Or.inl h0)]
    · rw [if_neg h0, if_neg (by rintro (h | h); exact h0 h; exact h rfl)]
theorem nln_alk (a : Nat) : nln a = alk (rv a) (rv a) := lnN_alkN a 12 (by omega)
theorem c_first {d n k : Nat} {M : xM} {z w : Nat} {Q : Option Value → xM → Nat → Nat → Prop} (hn : n < 2 ^ 64) (hk : k ≤ 12) : WP d mMd_first 0 [some (.long (lN n)), none, some (.int (nI k))] [] M z w Q ↔ Q (some (.long (lN (n % 2 ^ (5 * k))))) M z w := by
  simp only [sMd_first_0, sMd_first_1, sMd_first_3, sMd_first_6, sMd_first_7, sMd_first_10, sMd_first_11, sMd_first_14, sMd_first_15, sMd_first_16, sMd_first_17, sMd_first_18, sMd_first_19, sMd_first_20, sMd_first_21, sMd_first_22, sMd_first_23, xk_i, xk_l, xk_a, xk_n, xk_0, Option.toList_some, Option.toList_none, List.cons_append, List.nil_append]
  by_cases h : k ≤ 11
  · rw [if_pos (nI_le h (by omega)), pk_mul, wb_shl _ (by omega), Nat.one_mul, lN_sub (Nat.pow_pos (by decide)), wb_mask hn (by omega)]
  · rw [if_neg (nI_ge (by omega) (by omega)), show k = 12 by omega]
    have := wb_mask (n := n) (k := 60) hn (by decide)
    rw [show lN 1152921504606846975 = lN (2 ^ 60 - 1) from rfl, this]
theorem c_begins2 {d a b : Nat} {M : xM} {z w : Nat} {Q : Option Value → xM → Nat → Nat → Prop} (ha : a < 2 ^ 64) (hb : b < 2 ^ 64) : WP (d + 2) mMd_begins 0 [some (.long (lN a)), none, some (.long (lN b)), none] [] M z w Q ↔ Q (some (.int (if alk (rv a) (rv b) = alk (rv b) (rv b) then nI 1 else nI 0))) M z w := by
  simp only [sMd_begins_0, sMd_begins_1, sMd_begins_2]
  rw [c_alike2 ha hb]
  simp only [sMd_begins_5, sMd_begins_6, xk_i, xk_l, xk_a, xk_n, xk_0, Option.toList_some, Option.toList_none, List.cons_append, List.nil_append]
  rw [c_length hb, nln_alk]
  have q := nI_eq (a := alk (rv a) (rv b)) (b := alk (rv b) (rv b)) (by have := alk_le (rv a) (rv b); omega) (by have := alk_le (rv b) (rv b); omega)
  simp only [sMd_begins_9, sMd_begins_12, sMd_begins_13, sMd_begins_16, xk_i, xk_l, xk_a, xk_n, xk_0, Option.toList_some, Option.toList_none, List.cons_append, List.nil_append, q, wp_ite]
  rw [sMd_begins_17 (xbi _)]
theorem c_under {d a b : Nat} {M : xM} {z w : Nat} {Q : Option Value → xM → Nat → Nat → Prop} (ha : a < 2 ^ 64) (hb : b < 2 ^ 64) : WP (d + 3) mMd_under 0 [some (.long (lN a)), none, some (.long (lN b)), none] [] M z w Q ↔ Q (some (.int (if und (rv a) (rv b) then nI 1 else nI 0))) M z w := by
  simp only [sMd_under_0, sMd_under_1, sMd_under_2]
  rw [c_begins2 ha hb]
  simp only [sMd_under_5, sMd_under_8, sMd_under_9, sMd_under_10, xk_i, xk_l, xk_a, xk_n, xk_0, Option.toList_some, Option.toList_none, List.cons_append, List.nil_append]
  by_cases h2 : alk (rv a) (rv b) = alk (rv b) (rv b)
  · rw [if_pos h2, if_neg (by decide), c_length hb, nln_alk]
    simp only [sMd_under_13, xk_i, xk_l, xk_a, xk_n, xk_0, Option.toList_some, Option.toList_none, List.cons_append, List.nil_append]
    have hl := alk_le (rv b) (rv b)
    rw [c_symbol ha (by omega)]
    have q := nI_eq (a := nds a (alk (rv b) (rv b))) (b := 27) (by have := nds_lt a (alk (rv b) (rv b)); omega) (by omega)
    simp only [sMd_under_16, sMd_under_18, sMd_under_21, sMd_under_22, sMd_under_25, xk_i, xk_l, xk_a, xk_n, xk_0, Option.toList_some, Option.toList_none, List.cons_append, List.nil_append, q, wp_ite]
    rw [sMd_under_26 (xbi _)]
    by_cases h1 : alk (rv b) (rv b) < 12
    · rw [nds_nd h1, ← sy_rv a h1]
      simp only [und, h1, h2, true_and]
    · have : nds a (alk (rv b) (rv b)) = 0 := if_pos (by omega)
      rw [if_neg (fun h : und _ _ => h1 h.1), if_neg (by omega)]
  · rw [if_neg h2, if_pos (by decide)]
    simp only [sMd_under_25]
    rw [sMd_under_26 xb0, if_neg (fun h : und _ _ => h2 h.2.1)]
theorem c_clash {d a b : Nat} {M : xM} {z w : Nat} {Q : Option Value → xM → Nat → Nat → Prop} (ha : a < 2 ^ 64) (hb : b < 2 ^ 64) : WP (d + 4) mMd_clash 0 [some (.long (lN a)), none, some (.long (lN b)), none] [] M z w Q ↔ Q (some (.int (if und (rv a) (rv b) ∨ und (rv b) (rv a) then nI 1 else nI 0))) M z w := by
  simp only [sMd_clash_0, sMd_clash_1, sMd_clash_2]
  rw [c_under ha hb]
  simp only [sMd_clash_5, sMd_clash_8, sMd_clash_9, sMd_clash_10, xk_i, xk_l, xk_a, xk_n, xk_0, Option.toList_some, Option.toList_none, List.cons_append, List.nil_append]
  by_cases h : und (rv a) (rv b)
  · rw [if_pos h, if_neg (by decide), if_pos (Or.inl h)]
    simp only [sMd_clash_16, sMd_clash_17, sMd_clash_20, sMd_clash_21 xb0, sMd_clash_21 xb1]
  · rw [if_neg h, if_pos (by decide), c_under hb ha]
    simp only [sMd_clash_13, sMd_clash_16, sMd_clash_17, sMd_clash_20, xk_i, xk_l, xk_a, xk_n, xk_0, Option.toList_some, Option.toList_none, List.cons_append, List.nil_append]
    by_cases h2 : und (rv b) (rv a)
    · rw [if_pos h2, if_neg (by decide), if_pos (Or.inr h2)]
      simp only [sMd_clash_21 xb0, sMd_clash_21 xb1]
    · rw [if_neg h2, if_pos (by decide), if_neg (by rintro (q | q); exact h q; exact h2 q)]
      simp only [sMd_clash_21 xb0, sMd_clash_21 xb1]
/-- compare, from symbol 12 - r on -/
def cmpL (a b : Nat) : Nat → Int32
  | 0 => nI 0
  | r + 1 => if nd a (11 - r) = nd b (11 - r) then cmpL a b r else nI (nd a (11 - r)) - nI (nd b (11 - r))
theorem compare_loop {d a b : Nat} {M : xM} {z w : Nat} {Q : Option Value → xM → Nat → Nat → Prop} (ha : a < 2 ^ 64) (hb : b < 2 ^ 64) : ∀ (r : Nat), r ≤ 12 →
    (WP (d + 1) mMd_compare 3 [some (.long (lN a)), none, some (.long (lN b)), none, some (.int (nI (12 - r)))] [] M z w Q ↔ Q (some (.int (cmpL a b r))) M z w) := by
  intro r
  induction r with
  | zero =>
    intro hr
    simp only [sMd_compare_3, sMd_compare_5, sMd_compare_7, sMd_compare_45, sMd_compare_46]
    rw [if_pos (nI_le (by omega) (by omega))]
    rfl
  | succ r ih =>
    intro hr
    rw [sMd_compare_3]
    have e1 : 12 - (r + 1) = 11 - r := by omega
    simp only [sMd_compare_5, sMd_compare_7, sMd_compare_10, sMd_compare_11, sMd_compare_13, e1]
    rw [if_neg (nI_ge (by omega) (by omega)), c_symbol ha (by omega), nds_nd (by omega)]
    simp only [sMd_compare_16, sMd_compare_17, sMd_compare_19, xk_i, xk_l, xk_a, xk_n, xk_0, Option.toList_some, Option.toList_none, List.cons_append, List.nil_append]
    rw [c_symbol hb (by omega), nds_nd (by omega)]
    have hda := nd_lt a (11 - r)
    have hdb := nd_lt b (11 - r)
    have q := nI_eq (a := nd a (11 - r)) (b := nd b (11 - r)) (by omega) (by omega)
    simp only [sMd_compare_22, sMd_compare_25, sMd_compare_26, sMd_compare_28, sMd_compare_39, sMd_compare_42, xk_i, xk_l, xk_a, xk_n, xk_0, Option.toList_some, Option.toList_none, List.cons_append, List.nil_append, q]
    unfold cmpL
    by_cases h : nd a (11 - r) = nd b (11 - r)
    · rw [if_pos h, if_pos h, nI_add, show 11 - r + 1 = 12 - r by omega, ih (by omega)]
    · rw [if_neg h, if_neg h, c_symbol ha (by omega), nds_nd (by omega)]
      simp only [sMd_compare_31, sMd_compare_32, sMd_compare_34, xk_i, xk_l, xk_a, xk_n, xk_0, Option.toList_some, Option.toList_none, List.cons_append, List.nil_append]
      rw [c_symbol hb (by omega), nds_nd (by omega)]
      simp only [sMd_compare_37, sMd_compare_38, xk_i, xk_l, xk_a, xk_n, xk_0, Option.toList_some, Option.toList_none, List.cons_append, List.nil_append]
def cmpV (a b : Nat) : Int32 := cmpL a b 12
theorem c_compare {d a b : Nat} {M : xM} {z w : Nat} {Q : Option Value → xM → Nat → Nat → Prop} (ha : a < 2 ^ 64) (hb : b < 2 ^ 64) : WP (d + 1) mMd_compare 0 [some (.long (lN a)), none, some (.long (lN b)), none, none] [] M z w Q ↔ Q (some (.int (cmpV a b))) M z w := by
  simp only [sMd_compare_0, sMd_compare_1, xk_i, xk_l, xk_a, xk_n, xk_0, Option.toList_some, Option.toList_none, List.cons_append, List.nil_append]
  exact compare_loop ha hb 12 (by omega)
theorem cmpL_sign (a b : Nat) : ∀ r, r ≤ 12 → (∀ j, j < 12 - r → nd a j = nd b j) → ((cmpL a b r).toInt < 0 ↔ rv a < rv b) ∧ ((cmpL a b r).toInt = 0 ↔ rv a = rv b) := by
  intro r
  induction r with
  | zero =>
    intro _ h
    have e : rv a = rv b := key_ext (rv_lt a) (rv_lt b) (fun i hi => by rw [sy_rv a hi, sy_rv b hi, h i (by omega)])
    rw [e]
    show ((nI 0).toInt < 0 ↔ _) ∧ ((nI 0).toInt = 0 ↔ _)
    exact ⟨⟨fun q => absurd q (by decide), fun q => absurd q (Nat.lt_irrefl _)⟩, ⟨fun _ => rfl, fun _ => by decide⟩⟩
  | succ r ih =>
    intro hr h
    unfold cmpL
    by_cases hq : nd a (11 - r) = nd b (11 - r)
    · rw [if_pos hq]
      refine ih (by omega) (fun j hj => ?_)
      by_cases hj2 : j = 11 - r
      · rw [hj2]; exact hq
      · exact h j (by omega)
    · rw [if_neg hq]
      have hda := nd_lt a (11 - r)
      have hdb := nd_lt b (11 - r)
      rw [pk_sub_toInt (by omega) (by omega)]
      have hs : ∀ j, j < 11 - r → sy (rv a) j = sy (rv b) j := fun j hj => by rw [sy_rv a (by omega), sy_rv b (by omega), h j (by omega)]
      rcases Nat.lt_or_gt_of_ne hq with hl | hl
      · have := key_lt (rv_lt a) (rv_lt b) (i := 11 - r) (by omega) hs (by rw [sy_rv a (by omega), sy_rv b (by omega)]; exact hl)
        omega
      · have := key_lt (rv_lt b) (rv_lt a) (i := 11 - r) (by omega) (fun j hj => (hs j hj).symm) (by rw [sy_rv a (by omega), sy_rv b (by omega)]; exact hl)
        omega
theorem cmp_lt {a b : Nat} : cmpV a b < nI 0 ↔ rv a < rv b := by
  rw [Int32.lt_iff_toInt_lt]; exact (cmpL_sign a b 12 (by omega) (fun j hj => absurd hj (by omega))).1
theorem cmp_eq {a b : Nat} : cmpV a b = nI 0 ↔ rv a = rv b := by
  rw [← Int32.toInt_inj]; exact (cmpL_sign a b 12 (by omega) (fun j hj => absurd hj (by omega))).2
theorem cmp_gt {a b : Nat} : nI 0 < cmpV a b ↔ rv b < rv a := by
  have h1 := @cmp_lt a b
  have h2 := @cmp_eq a b
  rw [Int32.lt_iff_toInt_lt] at h1 ⊢
  rw [← Int32.toInt_inj] at h2
  omega
theorem cmp_ge {a b : Nat} : nI 0 ≤ cmpV a b ↔ rv b ≤ rv a := by
  have h1 := @cmp_lt a b
  rw [Int32.lt_iff_toInt_lt] at h1
  rw [Int32.le_iff_toInt_le]
  omega
theorem cmp_le {a b : Nat} : cmpV a b ≤ nI 0 ↔ rv a ≤ rv b := by
  have h1 := @cmp_gt a b
  rw [Int32.lt_iff_toInt_lt] at h1
  rw [Int32.le_iff_toInt_le]
  omega
