/-! RefStack$Names, on: keyOf, nameOf, isGood, goodKey; good names -/
/-- which symbols may stand neither first nor last nor beside each other -/
def mrk (s : Nat) : Bool := s == 27 || s == 28
/-- from symbol 12 - n on: am says whether the symbol before is such a one -/
def gdL (f : Nat → Nat) : Nat → Bool → Bool
  | 0, am => !am
  | n + 1, am => if f (11 - n) = 0 then !am else if mrk (f (11 - n)) && am then false else gdL f n (mrk (f (11 - n)))
/-- a key that is good -/
def gk (k : Nat) : Bool := gdL (sy k) 12 true && !(sy k 0 == 29)
/-- how many symbols stand before the first that is 0 -/
def lnN (f : Nat → Nat) : Nat → Nat
  | 0 => 0
  | n + 1 => if f (11 - n) = 0 then 0 else lnN f n + 1
def nln (n : Nat) : Nat := lnN (nd n) 12
theorem lnN_le (f : Nat → Nat) : ∀ n, lnN f n ≤ n
  | 0 => Nat.le_refl _
  | n + 1 => by unfold lnN; have := lnN_le f n; split <;> omega
theorem nln_le (n : Nat) : nln n ≤ 12 := lnN_le _ 12
theorem isGood_tail {d k : Nat} {M : xM} {z w : Nat} {Q : Option Value → xM → Nat → Nat → Prop} (hk : k < 2 ^ 64) (am : Bool) (x3 x4 x5 : Option Value) :
    WP (d + 1) mNm_isGood 66 [some (.long (lN k)), none, some (.int (nI (if am = true then 1 else 0))), x3, x4, x5] [] M z w Q ↔ Q (some (.int (nI (if (!am && !(sy k 0 == 29)) = true then 1 else 0)))) M z w := by
  simp only [sNm_isGood_66, sNm_isGood_67, sNm_isGood_70, sNm_isGood_71, sNm_isGood_72]
  cases am with
  | true =>
    rw [if_neg (by decide)]
    simp only [sNm_isGood_84, sNm_isGood_85 xb0, sNm_isGood_85 xb1]
    rfl
  | false =>
    rw [if_pos (by decide), c_symbolOf hk (i := 0) (by omega)]
    have q := nI_eq (a := sy k 0) (b := 29) (by have := sy_lt k 0; omega) (by omega)
    simp only [sNm_isGood_75, sNm_isGood_77, sNm_isGood_80, sNm_isGood_81, sNm_isGood_84, sNm_isGood_85 xb0, sNm_isGood_85 xb1, xk_i, xk_l, xk_a, xk_n, xk_0, Option.toList_some, Option.toList_none, List.cons_append, List.nil_append, q]
    by_cases h : sy k 0 = 29
    · rw [if_pos h]; simp [h]
    · rw [if_neg h]; simp [h]
theorem isGood_loop {d k : Nat} {M : xM} {z w : Nat} {Q : Option Value → xM → Nat → Nat → Prop} (hk : k < 2 ^ 64) : ∀ (n : Nat) (am : Bool) (x4 x5 : Option Value), n ≤ 12 →
    (WP (d + 1) mNm_isGood 4 [some (.long (lN k)), none, some (.int (nI (if am = true then 1 else 0))), some (.int (nI (12 - n))), x4, x5] [] M z w Q ↔ Q (some (.int (nI (if (gdL (sy k) n am && !(sy k 0 == 29)) = true then 1 else 0)))) M z w) := by
  intro n
  induction n with
  | zero =>
    intro am x4 x5 hn
    simp only [sNm_isGood_4, sNm_isGood_5, sNm_isGood_7]
    rw [if_pos (nI_le (by omega) (by omega)), isGood_tail hk]
    rfl
  | succ n ih =>
    intro am x4 x5 hn
    rw [sNm_isGood_4]
    simp only [sNm_isGood_5, sNm_isGood_7, sNm_isGood_10, sNm_isGood_11, sNm_isGood_12, xk_i, xk_l, xk_a, xk_n, xk_0, Option.toList_some, Option.toList_none, List.cons_append, List.nil_append]
    have e1 : 12 - (n + 1) = 11 - n := by omega
    rw [if_neg (nI_ge (by omega) (by omega)), e1, c_symbolOf hk (by omega)]
    have hs := sy_lt k (11 - n)
    have q0 := nI_eq (a := sy k (11 - n)) (b := 0) (by omega) (by omega)
    have q1 := nI_eq (a := sy k (11 - n)) (b := 27) (by omega) (by omega)
    have q2 := nI_eq (a := sy k (11 - n)) (b := 28) (by omega) (by omega)
    simp only [sNm_isGood_15, sNm_isGood_17, sNm_isGood_19, sNm_isGood_22, sNm_isGood_25, sNm_isGood_27, sNm_isGood_29, sNm_isGood_32, sNm_isGood_34, sNm_isGood_36, sNm_isGood_39, sNm_isGood_40, sNm_isGood_43, xk_i, xk_l, xk_a, xk_n, xk_0, Option.toList_some, Option.toList_none, List.cons_append, List.nil_append, q0, q1, q2]
    by_cases h0 : sy k (11 - n) = 0
    · rw [if_pos h0, isGood_tail hk]
      simp only [gdL, h0, if_true]
    · rw [if_neg h0]
      have hm : ∀ b : Bool, mrk (sy k (11 - n)) = b → ((if sy k (11 - n) = 27 then WP (d + 1) mNm_isGood 44 [some (.long (lN k)), none, some (.int (nI (if am = true then 1 else 0))), some (.int (nI (11 - n))), some (.int (nI (sy k (11 - n)))), x5] [.int (nI 1)] M z w Q
          else if sy k (11 - n) = 28 then WP (d + 1) mNm_isGood 44 [some (.long (lN k)), none, some (.int (nI (if am = true then 1 else 0))), some (.int (nI (11 - n))), some (.int (nI (sy k (11 - n)))), x5] [.int (nI 1)] M z w Q
          else WP (d + 1) mNm_isGood 44 [some (.long (lN k)), none, some (.int (nI (if am = true then 1 else 0))), some (.int (nI (11 - n))), some (.int (nI (sy k (11 - n)))), x5] [.int (nI 0)] M z w Q) ↔ WP (d + 1) mNm_isGood 44 [some (.long (lN k)), none, some (.int (nI (if am = true then 1 else 0))), some (.int (nI (11 - n))), some (.int (nI (sy k (11 - n)))), x5] [.int (nI (if b = true then 1 else 0))] M z w Q) := by
        intro b hb
        by_cases h1 : sy k (11 - n) = 27
        · have : b = true := by rw [← hb]; simp [mrk, h1]
          rw [if_pos h1, this]; rfl
        · by_cases h2 : sy k (11 - n) = 28
          · have : b = true := by rw [← hb]; simp [mrk, h2]
            rw [if_neg h1, if_pos h2, this]; rfl
          · have : b = false := by rw [← hb]; simp [mrk, h1, h2]
            rw [if_neg h1, if_neg h2, this]; rfl
      rw [hm _ rfl]
      simp only [sNm_isGood_44, sNm_isGood_46, sNm_isGood_48, sNm_isGood_51, sNm_isGood_52, sNm_isGood_55, sNm_isGood_56 xb0, sNm_isGood_56 xb1, sNm_isGood_57, sNm_isGood_59, sNm_isGood_60, sNm_isGood_63, xk_i, xk_l, xk_a, xk_n, xk_0, Option.toList_some, Option.toList_none, List.cons_append, List.nil_append]
      rw [nI_add, show 11 - n + 1 = 12 - n by omega]
      conv => rhs; unfold gdL
      rw [if_neg h0]
      generalize mrk (sy k (11 - n)) = b
      cases b with
      | false =>
        rw [if_pos (by decide), ih false _ _ (by omega)]
        rfl
      | true =>
        rw [if_neg (by decide)]
        cases am with
        | true => rw [if_neg (by decide)]; rfl
        | false => rw [if_pos (by decide), ih true _ _ (by omega)]; rfl
theorem c_isGood {d k : Nat} {M : xM} {z w : Nat} {Q : Option Value → xM → Nat → Nat → Prop} (hk : k < 2 ^ 64) : WP (d + 1) mNm_isGood 0 [some (.long (lN k)), none, none, none, none, none] [] M z w Q ↔ Q (some (.int (nI (if gk k = true then 1 else 0)))) M z w := by
  simp only [sNm_isGood_0, sNm_isGood_1, sNm_isGood_2, sNm_isGood_3, xk_i, xk_l, xk_a, xk_n, xk_0, Option.toList_some, Option.toList_none, List.cons_append, List.nil_append]
  exact isGood_loop hk 12 true none none (by omega)
