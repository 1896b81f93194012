/-! RefStack$Names: symbols of keys -/
def sy (k i : Nat) : Nat := k / 2 ^ (5 * (11 - i)) % 32
theorem nI_mod (n : Nat) : nI n = nI (n % 2 ^ 32) := by
  apply Int32.toBitVec_inj.mp
  show BitVec.ofNat 32 n = BitVec.ofNat 32 (n % 2 ^ 32)
  apply BitVec.eq_of_toNat_eq
  simp
theorem nI_and31 (n : Nat) : nI n &&& nI 31 = nI (n % 32) := by
  rw [pk_and (nI n) 5 (by decide), nI_mod n, pk_tn (Nat.mod_lt _ (by decide))]
  congr 1
  omega
theorem c_placeOf {d : Nat} {x : Int32} {M : xM} {z w : Nat} {Q : Option Value → xM → Nat → Nat → Prop} : WP d mNm_placeOf 0 [some (.int x)] [] M z w Q ↔ Q (some (.int (nI 5 * (nI 11 - x)))) M z w := by
  simp only [sNm_placeOf_0, sNm_placeOf_1, sNm_placeOf_3, sNm_placeOf_4, sNm_placeOf_5, sNm_placeOf_6]
theorem pl_nI {i : Nat} (hi : i < 12) : nI 5 * (nI 11 - nI i) = nI (5 * (11 - i)) := by
  rw [pk_sub (by omega), pk_mul]
theorem c_symbolOf {d k i : Nat} {M : xM} {z w : Nat} {Q : Option Value → xM → Nat → Nat → Prop} (hk : k < 2 ^ 64) (hi : i < 12) : WP d mNm_symbolOf 0 [some (.long (lN k)), none, some (.int (nI i))] [] M z w Q ↔ Q (some (.int (nI (sy k i)))) M z w := by
  simp only [sNm_symbolOf_0, sNm_symbolOf_1, sNm_symbolOf_2, sNm_symbolOf_4, sNm_symbolOf_5, sNm_symbolOf_6, sNm_symbolOf_7, sNm_symbolOf_8, sNm_symbolOf_9, sNm_symbolOf_11, sNm_symbolOf_12]
  rw [pl_nI hi, wb_shr hk (by omega), lN_i, nI_and31]
  rfl
/-- how many symbols two keys have alike at their beginning -/
def alkN (a b : Nat) : Nat → Nat
  | 0 => 0
  | n + 1 => if a / 2 ^ (5 * n) % 32 = 0 ∨ a / 2 ^ (5 * n) % 32 ≠ b / 2 ^ (5 * n) % 32 then 0 else alkN a b n + 1
def alk (a b : Nat) : Nat := alkN a b 12
theorem alkN_le (a b : Nat) : ∀ n, alkN a b n ≤ n
  | 0 => Nat.le_refl _
  | n + 1 => by
    unfold alkN
    have := alkN_le a b n
    split <;> omega
theorem lN_31 (n : Nat) (hn : n < 2 ^ 64) : lN n &&& lN 31 = lN (n % 32) := wb_mask (k := 5) hn (by decide)
theorem lN_inj {a b : Nat} (ha : a < 2 ^ 64) (hb : b < 2 ^ 64) : lN a = lN b ↔ a = b := by
  constructor
  · intro h
    have := congrArg (fun x : Int64 => x.toBitVec.toNat) h
    simp only [wb_tn ha, wb_tn hb] at this
    exact this
  · rintro rfl; rfl
theorem shr_lt {k n : Nat} (hk : k < 2 ^ 64) : k / 2 ^ n < 2 ^ 64 := Nat.lt_of_le_of_lt (Nat.div_le_self _ _) hk
theorem alike_loop {d a b : Nat} {M : xM} {z w : Nat} {Q : Option Value → xM → Nat → Nat → Prop} (ha : a < 2 ^ 64) (hb : b < 2 ^ 64) : ∀ (n c : Nat) (p : Int32) (x6 x7 : Option Value), n ≤ 12 → p = nI (5 * n) - 5 →
    (WP d mNm_alike 7 [some (.long (lN a)), none, some (.long (lN b)), none, some (.int (nI c)), some (.int p), x6, x7] [] M z w Q ↔ Q (some (.int (nI (c + alkN a b n)))) M z w) := by
  intro n
  induction n with
  | zero =>
    intro c p x6 x7 hn hp
    subst hp
    simp only [sNm_alike_7, sNm_alike_9, sNm_alike_55, sNm_alike_57]
    rw [if_pos (by decide)]
    rfl
  | succ n ih =>
    intro c p x6 x7 hn hp
    have e1 : p = nI (5 * n) := by rw [hp, show (5 : Int32) = nI 5 from rfl, pk_sub (by omega)]; congr 1
    have hsh : 5 * n < 64 := by omega
    rw [sNm_alike_7]
    simp only [sNm_alike_9, sNm_alike_12, sNm_alike_13, sNm_alike_15, sNm_alike_16, sNm_alike_19, sNm_alike_20, sNm_alike_22, sNm_alike_24, sNm_alike_25, sNm_alike_26, sNm_alike_29, sNm_alike_31, sNm_alike_32, sNm_alike_34, sNm_alike_35, sNm_alike_38, sNm_alike_39, sNm_alike_40, sNm_alike_43, sNm_alike_46, sNm_alike_49, sNm_alike_52, sNm_alike_55, sNm_alike_57, xk_i, xk_l, xk_a, xk_n, xk_0, Option.toList_some, Option.toList_none, List.cons_append, List.nil_append, lcmp_eq, lcmp_lt, lcmp_ge, lcmp_gt, lcmp_le]
    rw [if_neg (by rw [e1]; exact nI_pos (by omega)), e1, wb_shr ha hsh, wb_shr hb hsh, lN_31 _ (shr_lt ha), lN_31 _ (shr_lt hb)]
    have q1 := lN_inj (a := a / 2 ^ (5 * n) % 32) (b := 0) (by omega) (by omega)
    have q2 := lN_inj (a := a / 2 ^ (5 * n) % 32) (b := b / 2 ^ (5 * n) % 32) (by omega) (by omega)
    simp only [q1, q2]
    unfold alkN
    by_cases h1 : a / 2 ^ (5 * n) % 32 = 0
    · rw [if_pos h1, if_pos (Or.inl h1)]
      rfl
    · rw [if_neg h1]
      by_cases h2 : a / 2 ^ (5 * n) % 32 = b / 2 ^ (5 * n) % 32
      · rw [if_pos h2, if_neg (by rintro (h | h); exact h1 h; exact h h2), nI_add, ih _ _ _ _ (by omega) (Int32.sub_eq_add_neg ..).symm]
        rw [show c + (alkN a b n + 1) = c + 1 + alkN a b n by omega]
      · rw [if_neg h2, if_pos (Or.inr h2)]
        rfl
theorem c_alike {d a b : Nat} {M : xM} {z w : Nat} {Q : Option Value → xM → Nat → Nat → Prop} (ha : a < 2 ^ 64) (hb : b < 2 ^ 64) : WP d mNm_alike 0 [some (.long (lN a)), none, some (.long (lN b)), none, none, none, none, none] [] M z w Q ↔ Q (some (.int (nI (alk a b)))) M z w := by
  simp only [sNm_alike_0, sNm_alike_1, sNm_alike_3, sNm_alike_5, xk_i, xk_l, xk_a, xk_n, xk_0, Option.toList_some, Option.toList_none, List.cons_append, List.nil_append]
  rw [alike_loop ha hb 12 0 (nI 55) none none (by omega) (by decide), Nat.zero_add]
  rfl
theorem c_lengthOf {d a : Nat} {M : xM} {z w : Nat} {Q : Option Value → xM → Nat → Nat → Prop} (ha : a < 2 ^ 64) : WP (d + 1) mNm_lengthOf 0 [some (.long (lN a)), none] [] M z w Q ↔ Q (some (.int (nI (alk a a)))) M z w := by
  simp only [sNm_lengthOf_0, sNm_lengthOf_1, sNm_lengthOf_2]
  rw [c_alike ha ha]
  simp only [sNm_lengthOf_5, xk_i, xk_l, xk_a, xk_n, xk_0, Option.toList_some, Option.toList_none, List.cons_append, List.nil_append]
/-- one key is under another -/
abbrev und (a b : Nat) : Prop := alk b b < 12 ∧ alk a b = alk b b ∧ sy a (alk b b) = 27
theorem alk_le (a b : Nat) : alk a b ≤ 12 := alkN_le a b 12
theorem c_begins {d a b : Nat} {M : xM} {z w : Nat} {Q : Option Value → xM → Nat → Nat → Prop} (ha : a < 2 ^ 64) (hb : b < 2 ^ 64) : WP (d + 2) mNm_begins 0 [some (.long (lN a)), none, some (.long (lN b)), none] [] M z w Q ↔ Q (some (.int (if alk a b = alk b b then nI 1 else nI 0))) M z w := by
  simp only [sNm_begins_0, sNm_begins_1, sNm_begins_2]
  rw [c_alike ha hb]
  simp only [sNm_begins_5, sNm_begins_6, xk_i, xk_l, xk_a, xk_n, xk_0, Option.toList_some, Option.toList_none, List.cons_append, List.nil_append]
  rw [c_lengthOf hb]
  have q := nI_eq (a := alk a b) (b := alk b b) (by have := alk_le a b; omega) (by have := alk_le b b; omega)
  simp only [sNm_begins_9, sNm_begins_12, sNm_begins_13, sNm_begins_16, xk_i, xk_l, xk_a, xk_n, xk_0, Option.toList_some, Option.toList_none, List.cons_append, List.nil_append, q, wp_ite]
  rw [sNm_begins_17 (xbi _)]
theorem sy_lt (k i : Nat) : sy k i < 32 := Nat.mod_lt _ (by decide)
theorem c_isUnder {d a b : Nat} {M : xM} {z w : Nat} {Q : Option Value → xM → Nat → Nat → Prop} (ha : a < 2 ^ 64) (hb : b < 2 ^ 64) : WP (d + 3) mNm_isUnder 0 [some (.long (lN a)), none, some (.long (lN b)), none, none] [] M z w Q ↔ Q (some (.int (if alk b b < 12 ∧ alk a b = alk b b ∧ sy a (alk b b) = 27 then nI 1 else nI 0))) M z w := by
  simp only [sNm_isUnder_0, sNm_isUnder_1]
  rw [c_lengthOf hb]
  simp only [sNm_isUnder_4, sNm_isUnder_6, sNm_isUnder_8, sNm_isUnder_10, sNm_isUnder_13, sNm_isUnder_14, sNm_isUnder_15, xk_i, xk_l, xk_a, xk_n, xk_0, Option.toList_some, Option.toList_none, List.cons_append, List.nil_append]
  by_cases h1 : alk b b < 12
  · rw [if_neg (nI_ge h1 (by omega)), c_begins ha hb]
    simp only [sNm_isUnder_18, sNm_isUnder_21, sNm_isUnder_22, sNm_isUnder_24, xk_i, xk_l, xk_a, xk_n, xk_0, Option.toList_some, Option.toList_none, List.cons_append, List.nil_append]
    by_cases h2 : alk a b = alk b b
    · rw [if_pos h2, if_neg (by decide), c_symbolOf ha h1]
      have q := nI_eq (a := sy a (alk b b)) (b := 27) (by have := sy_lt a (alk b b); omega) (by omega)
      simp only [sNm_isUnder_27, sNm_isUnder_29, sNm_isUnder_32, sNm_isUnder_33, sNm_isUnder_36, xk_i, xk_l, xk_a, xk_n, xk_0, Option.toList_some, Option.toList_none, List.cons_append, List.nil_append, q, wp_ite]
      rw [sNm_isUnder_37 (xbi _)]
      simp only [h1, h2, true_and]
    · rw [if_neg h2, if_pos rfl]
      simp only [sNm_isUnder_36]
      rw [sNm_isUnder_37 xb0, if_neg (fun h => h2 h.2.1)]
  · rw [if_pos (nI_le (by omega) (by have := alk_le b b; omega))]
    simp only [sNm_isUnder_36]
    rw [sNm_isUnder_37 xb0, if_neg (fun h => h1 h.1)]
