/-! RefStackModel.isGood -/
theorem lnN_fact (f : Nat → Nat) : ∀ r, r ≤ 12 → (∀ j, j < lnN f r → f (12 - r + j) ≠ 0) ∧ (lnN f r < r → f (12 - r + lnN f r) = 0)
  | 0, _ => ⟨fun j h => absurd h (by simp [lnN]), fun h => absurd h (by omega)⟩
  | r + 1, h => by
    obtain ⟨h1, h2⟩ := lnN_fact f r (by omega)
    unfold lnN
    by_cases h0 : f (11 - r) = 0
    · rw [if_pos h0]
      exact ⟨fun j hj => absurd hj (by omega), fun _ => by rw [show 12 - (r + 1) + 0 = 11 - r by omega]; exact h0⟩
    · rw [if_neg h0]
      refine ⟨fun j hj => ?_, fun hl => ?_⟩
      · cases j with
        | zero => rw [show 12 - (r + 1) + 0 = 11 - r by omega]; exact h0
        | succ j => rw [show 12 - (r + 1) + (j + 1) = 12 - r + j by omega]; exact h1 j (by omega)
      · rw [show 12 - (r + 1) + (lnN f r + 1) = 12 - r + lnN f r by omega]; exact h2 (by omega)
theorem nln_ne {n i : Nat} (h : i < nln n) : nd n i ≠ 0 := by
  have := (lnN_fact (nd n) 12 (by omega)).1 i h
  rwa [show 12 - 12 + i = i by omega] at this
theorem nln_z {n : Nat} (h : nln n < 12) : nd n (nln n) = 0 := by
  have := (lnN_fact (nd n) 12 (by omega)).2 h
  rwa [show 12 - 12 + lnN (nd n) 12 = nln n from Nat.zero_add _] at this
theorem good_chk {d : Nat} {L i : Int32} {x : Int64} {a b : Nat} {M : xM} {z w : Nat} {Q : Option Value → xM → Nat → Nat → Prop} (ha : a < 32) (hb : b < 32) : WP d mMd_isGood 73 [some (.long x), none, some (.int L), some (.int i), some (.int (nI a)), some (.int (nI b))] [] M z w Q ↔ (if (mrk a && mrk b) = true then Q (some (.int (nI 0))) M z w else WP d mMd_isGood 117 [some (.long x), none, some (.int L), some (.int i), some (.int (nI a)), some (.int (nI b))] [] M z w Q) := by
  have q1 := nI_eq (a := a) (b := 27) (by omega) (by omega)
  have q2 := nI_eq (a := a) (b := 28) (by omega) (by omega)
  have q3 := nI_eq (a := b) (b := 27) (by omega) (by omega)
  have q4 := nI_eq (a := b) (b := 28) (by omega) (by omega)
  simp only [sMd_isGood_73, sMd_isGood_75, sMd_isGood_77, sMd_isGood_80, sMd_isGood_82, sMd_isGood_84, sMd_isGood_87, sMd_isGood_89, sMd_isGood_91, sMd_isGood_94, sMd_isGood_96, sMd_isGood_98, sMd_isGood_101, sMd_isGood_103, sMd_isGood_105, sMd_isGood_108, sMd_isGood_110, sMd_isGood_112, sMd_isGood_115, sMd_isGood_116 xb0, sMd_isGood_116 xb1, xk_i, xk_l, xk_a, xk_n, xk_0, Option.toList_some, Option.toList_none, List.cons_append, List.nil_append, q1, q2, q3, q4]
  by_cases h1 : a = 27
  · have h2 : ¬ a = 28 := by omega
    by_cases h3 : b = 27
    · simp [h1, h3, mrk]
    · by_cases h4 : b = 28
      · simp [h1, h4, mrk]
      · simp [h1, h3, h4, mrk]
  · by_cases h2 : a = 28
    · by_cases h3 : b = 27
      · simp [h2, h3, mrk]
      · by_cases h4 : b = 28
        · simp [h2, h4, mrk]
        · simp [h2, h3, h4, mrk]
    · simp [h1, h2, mrk]
theorem good_loop {d n : Nat} {M : xM} {z w : Nat} {Q : Option Value → xM → Nat → Nat → Prop} (hn : n < 2 ^ 64) : ∀ (t i : Nat) (x4 x5 : Option Value), i + t = nln n →
    (WP (d + 1) mMd_isGood 33 [some (.long (lN n)), none, some (.int (nI (nln n))), some (.int (nI i)), x4, x5] [] M z w Q ↔ Q (some (.int (nI (if gdL (nd n) (12 - i) (if i = 0 then true else mrk (nd n (i - 1))) = true then 1 else 0)))) M z w) := by
  have hL := nln_le n
  have first : ∀ (i : Nat) (x4 x5 : Option Value), i ≤ nln n → (WP (d + 1) mMd_isGood 33 [some (.long (lN n)), none, some (.int (nI (nln n))), some (.int (nI i)), x4, x5] [] M z w Q ↔ (if (mrk (if i = 0 then 27 else nd n (i - 1)) && mrk (if i = nln n then 27 else nd n i)) = true then Q (some (.int (nI 0))) M z w else WP (d + 1) mMd_isGood 117 [some (.long (lN n)), none, some (.int (nI (nln n))), some (.int (nI i)), some (.int (nI (if i = 0 then 27 else nd n (i - 1)))), some (.int (nI (if i = nln n then 27 else nd n i)))] [] M z w Q)) := by
    intro i x4 x5 hi
    simp only [sMd_isGood_33, sMd_isGood_34, sMd_isGood_35, sMd_isGood_38, sMd_isGood_39, sMd_isGood_42, sMd_isGood_44, sMd_isGood_47, sMd_isGood_48, sMd_isGood_49, sMd_isGood_50, sMd_isGood_51, xk_i, xk_l, xk_a, xk_n, xk_0, Option.toList_some, Option.toList_none, List.cons_append, List.nil_append]
    rw [if_neg (nI_nlt hi (by omega))]
    have q := nI_eq (a := i) (b := 0) (by omega) (by omega)
    simp only [q]
    have step2 : ∀ a : Nat, a < 32 → (WP (d + 1) mMd_isGood 54 [some (.long (lN n)), none, some (.int (nI (nln n))), some (.int (nI i)), x4, x5] [.int (nI a)] M z w Q ↔ (if (mrk a && mrk (if i = nln n then 27 else nd n i)) = true then Q (some (.int (nI 0))) M z w else WP (d + 1) mMd_isGood 117 [some (.long (lN n)), none, some (.int (nI (nln n))), some (.int (nI i)), some (.int (nI a)), some (.int (nI (if i = nln n then 27 else nd n i)))] [] M z w Q)) := by
      intro a ha
      have q2 := nI_eq (a := i) (b := nln n) (by omega) (by omega)
      simp only [sMd_isGood_54, sMd_isGood_56, sMd_isGood_57, sMd_isGood_58, sMd_isGood_61, sMd_isGood_63, sMd_isGood_66, sMd_isGood_67, sMd_isGood_68, xk_i, xk_l, xk_a, xk_n, xk_0, Option.toList_some, Option.toList_none, List.cons_append, List.nil_append, q2]
      by_cases h : i = nln n
      · rw [if_pos h, if_pos h]
        simp only [sMd_isGood_71, xk_i, xk_l, xk_a, xk_n, xk_0, Option.toList_some, Option.toList_none, List.cons_append, List.nil_append]
        rw [good_chk ha (by omega)]
      · rw [if_neg h, if_neg h, c_symbol hn (by omega), nds_nd (by omega)]
        simp only [sMd_isGood_71, xk_i, xk_l, xk_a, xk_n, xk_0, Option.toList_some, Option.toList_none, List.cons_append, List.nil_append]
        rw [good_chk ha (nd_lt n i)]
    by_cases h : i = 0
    · rw [if_pos h, if_pos h, step2 27 (by omega)]
    · rw [if_neg h, if_neg h, pk_sub (by omega), c_symbol hn (by omega), nds_nd (by omega)]
      simp only [xk_i, xk_l, xk_a, xk_n, xk_0, Option.toList_some, Option.toList_none, List.cons_append, List.nil_append]
      rw [step2 _ (nd_lt n (i - 1))]
  have am : ∀ i, mrk (if i = 0 then 27 else nd n (i - 1)) = (if i = 0 then true else mrk (nd n (i - 1))) := fun i => by
    by_cases h : i = 0
    · rw [if_pos h, if_pos h]; rfl
    · rw [if_neg h, if_neg h]
  intro t
  induction t with
  | zero =>
    intro i x4 x5 hi
    have hi : i = nln n := by omega
    rw [first i x4 x5 (by omega), am]
    have e : gdL (nd n) (12 - i) (if i = 0 then true else mrk (nd n (i - 1))) = !(if i = 0 then true else mrk (nd n (i - 1))) := by
      by_cases h12 : i = 12
      · rw [h12]; rfl
      · rw [show 12 - i = (11 - i) + 1 by omega]
        unfold gdL
        rw [if_pos (by rw [show 11 - (11 - i) = i by omega, hi]; exact nln_z (by omega))]
    rw [e, if_pos hi]
    cases (if i = 0 then true else mrk (nd n (i - 1)))
    · simp only [sMd_isGood_117, sMd_isGood_120, xk_i, xk_l, xk_a, xk_n, xk_0, Option.toList_some, Option.toList_none, List.cons_append, List.nil_append]
      rw [if_neg (by decide), nI_add, sMd_isGood_33]
      simp only [sMd_isGood_34, sMd_isGood_35, sMd_isGood_123, sMd_isGood_124 xb0, sMd_isGood_124 xb1]
      rw [if_pos (nI_lt (by omega) (by omega))]
      rfl
    · rfl
  | succ t ih =>
    intro i x4 x5 hi
    rw [first i x4 x5 (by omega), am, if_neg (show ¬ i = nln n by omega)]
    have hne := nln_ne (n := n) (i := i) (by omega)
    have hi12 : i < 12 := by omega
    conv => rhs; rw [show 12 - i = (11 - i) + 1 by omega]; unfold gdL
    rw [show 11 - (11 - i) = i by omega, if_neg hne]
    rw [Bool.and_comm]
    by_cases h : (mrk (nd n i) && (if i = 0 then true else mrk (nd n (i - 1)))) = true
    · rw [if_pos h, if_pos h]; rfl
    · rw [if_neg h, if_neg h]
      simp only [sMd_isGood_117, sMd_isGood_120, xk_i, xk_l, xk_a, xk_n, xk_0, Option.toList_some, Option.toList_none, List.cons_append, List.nil_append]
      rw [nI_add, ih (i + 1) _ _ (by omega), if_neg (show ¬ i + 1 = 0 by omega), show 12 - (i + 1) = 11 - i by omega, Nat.add_sub_cancel]
theorem gdL_congr {f g : Nat → Nat} (h : ∀ i, i < 12 → f i = g i) : ∀ n, ∀ b, gdL f n b = gdL g n b
  | 0, _ => rfl
  | n + 1, b => by
    unfold gdL
    rw [h (11 - n) (by omega), gdL_congr h n]
theorem gk_rv (n : Nat) : gk (rv n) = (gdL (nd n) 12 true && !(nd n 0 == 29)) := by
  unfold gk
  rw [gdL_congr (fun i hi => sy_rv n hi), sy_rv n (by omega)]
theorem gdL_z {f : Nat → Nat} (h : f 0 = 0) : gdL f 12 true = false := by
  unfold gdL
  rw [if_pos (by exact h)]
  rfl
theorem c_isGood2 {d n : Nat} {M : xM} {z w : Nat} {Q : Option Value → xM → Nat → Nat → Prop} [Decidable (GN n)] (hn : n < 2 ^ 64) : WP (d + 2) mMd_isGood 0 [some (.long (lN n)), none, none, none, none, none] [] M z w Q ↔ Q (some (.int (nI (if GN n then 1 else 0)))) M z w := by
  simp only [sMd_isGood_0, sMd_isGood_1]
  rw [c_length hn]
  have hL := nln_le n
  have q0 := nI_eq (a := nln n) (b := 0) (by omega) (by omega)
  simp only [sMd_isGood_4, sMd_isGood_5, sMd_isGood_6, sMd_isGood_9, sMd_isGood_10, sMd_isGood_11, sMd_isGood_12, sMd_isGood_13, sMd_isGood_14, sMd_isGood_15, sMd_isGood_16, sMd_isGood_19, sMd_isGood_20, sMd_isGood_21, sMd_isGood_29, sMd_isGood_30 xb0, sMd_isGood_30 xb1, xk_i, xk_l, xk_a, xk_n, xk_0, Option.toList_some, Option.toList_none, List.cons_append, List.nil_append, lcmp_eq, lcmp_lt, lcmp_ge, lcmp_gt, lcmp_le, q0]
  have hg : GN n ↔ n < 2 ^ (5 * nln n) ∧ gdL (nd n) 12 true = true ∧ nd n 0 ≠ 29 := by
    unfold GN
    rw [gk_rv]
    simp
  by_cases h0 : nln n = 0
  · rw [if_pos h0, if_neg]
    rw [hg]
    rintro ⟨-, h, -⟩
    have : nd n 0 = 0 := by have := nln_z (n := n) (by omega); rwa [h0] at this
    rw [gdL_z this] at h
    cases h
  · rw [if_neg h0, pk_mul, wb_shr hn (by omega)]
    have q1 := lN_inj (a := n / 2 ^ (5 * nln n)) (b := 0) (shr_lt hn) (by omega)
    simp only [q1]
    by_cases h1 : n < 2 ^ (5 * nln n)
    · rw [if_pos (Nat.div_eq_of_lt h1), c_symbol hn (by omega), nds_nd (by omega)]
      have q2 := nI_eq (a := nd n 0) (b := 29) (by have := nd_lt n 0; omega) (by omega)
      simp only [sMd_isGood_24, sMd_isGood_26, sMd_isGood_29, sMd_isGood_30 xb0, sMd_isGood_30 xb1, sMd_isGood_31, sMd_isGood_32, xk_i, xk_l, xk_a, xk_n, xk_0, Option.toList_some, Option.toList_none, List.cons_append, List.nil_append, q2]
      by_cases h2 : nd n 0 = 29
      · rw [if_pos h2, if_neg (by rw [hg]; exact fun h => h.2.2 h2)]
      · rw [if_neg h2, good_loop hn (nln n) 0 none none (by omega)]
        rw [if_pos rfl]
        simp only [hg, h1, h2, ne_eq, not_false_eq_true, true_and, and_true, Nat.sub_zero]
    · rw [if_neg (by rw [Nat.div_eq_zero_iff]; exact fun h => h.elim (Nat.ne_of_gt (Nat.pow_pos (by decide))) h1), if_neg (by rw [hg]; exact fun h => h1 h.1)]
