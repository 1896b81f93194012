/-! the reference: names that are taken, the check -/
theorem nd_of (k : Nat) {i : Nat} (hi : i < 12) : nd (rv k) i = sy k i := by rw [nd_rv k hi, sy_eq k hi]
theorem nmA_congr {a b : Nat} : ∀ i, (∀ j, j < i → sy a j = sy b j) → nmA a i = nmA b i
  | 0, _ => rfl
  | i + 1, h => by
    show nmA a i + sy a i * 2 ^ (5 * i) = nmA b i + sy b i * 2 ^ (5 * i)
    rw [nmA_congr i (fun j hj => h j (by omega)), h i (by omega)]
theorem nmA_zero {a i : Nat} (hi : i ≤ 12) (h : ∀ j, i ≤ j → j < 12 → sy a j = 0) : rv a = nmA a i := by
  rw [← nmA_12]
  have : ∀ t, i + t ≤ 12 → nmA a (i + t) = nmA a i := by
    intro t
    induction t with
    | zero => intro _; rfl
    | succ t ih =>
      intro ht
      show nmA a (i + t) + sy a (i + t) * 2 ^ (5 * (i + t)) = _
      rw [ih (by omega), h (i + t) (by omega) (by omega), Nat.zero_mul, Nat.add_zero]
  have h2 := this (12 - i) (by omega)
  rwa [show i + (12 - i) = 12 by omega] at h2
theorem nmA_mod (p : Nat) {s : Nat} : ∀ t, s ≤ t → nmA p t % 2 ^ (5 * s) = nmA p s := by
  intro t
  induction t with
  | zero => intro h; have : s = 0 := by omega
            subst this; rfl
  | succ t ih =>
    intro h
    by_cases he : s = t + 1
    · subst he
      exact Nat.mod_eq_of_lt (nmA_lt p (t + 1))
    · show (nmA p t + sy p t * 2 ^ (5 * t)) % 2 ^ (5 * s) = _
      rw [show 5 * t = 5 * s + 5 * (t - s) by omega, Nat.pow_add, Nat.mul_comm (2 ^ (5 * s)), ← Nat.mul_assoc, Nat.add_mul_mod_self_right]
      exact ih (by omega)
theorem rv_kpr (p : Nat) {s : Nat} (hs : s ≤ 12) : rv (kpr p s) = rv p % 2 ^ (5 * s) := by
  rw [nmA_zero hs (fun j h1 h2 => by rw [kpr_sy p s hs j h2, if_neg (by omega)]), ← nmA_12 p, nmA_mod p 12 hs]
  exact nmA_congr s (fun j hj => by rw [kpr_sy p s hs j (by omega), if_pos hj])
theorem rv_acc {i acc : Nat} (h : accI i acc) (hi : i ≤ 12) : rv acc = nmA acc i := nmA_zero hi (fun j h1 h2 => sy_acc h hi h1 h2)
theorem rv_next {i acc s : Nat} (h : accI i acc) (hi : i < 12) (hs : s < 32) : rv (acc + s * 2 ^ (5 * (11 - i))) = rv acc + s * 2 ^ (5 * i) := by
  rw [rv_acc (h.next hi hs) (by omega), rv_acc h (by omega)]
  show nmA _ i + sy _ i * 2 ^ (5 * i) = _
  rw [sy_next h hi hs hi, if_neg (by omega), if_pos rfl]
  congr 1
  exact nmA_congr i (fun j hj => by rw [sy_next h hi hs (by omega), if_pos hj])
theorem rv_or {i acc s : Nat} (h : accI i acc) (hi : i < 12) (hs : s < 32) : lN (rv acc) ||| lN s <<< ((nI 5 * nI i).toInt64 &&& 63) = lN (rv (acc + s * 2 ^ (5 * (11 - i)))) := by
  rw [pk_mul, wb_shl _ (by omega), rv_next h hi hs]
  have hl : rv acc < 2 ^ (5 * i) := by rw [rv_acc h (by omega)]; exact nmA_lt acc i
  refine g_or' (k := 5 * i) rfl hl ?_
  have := rv_lt (acc + s * 2 ^ (5 * (11 - i)))
  rw [rv_next h hi hs] at this
  omega
/-- the name that has the first symbols of another one and the next bytes, good or not -/
def nM (p sh n : Nat) (l : List Nat) : Option (Nat × List Nat) := if sh + n ≤ 12 then kD n sh (kpr p sh) l else none
section MN
variable {d m base : Nat} {bs : List Nat} {ps : Option (List Nat)} {M : xM} {g : Nat → Int32} {z w : Nat} {Q : Option Value → xM → Nat → Nat → Prop}
set_option maxHeartbeats 1000000 in
theorem name_loop {p sh n : Nat} (hB : BY M m base bs) (hsn : sh + n ≤ 12) : ∀ (r i acc : Nat) (g : Nat → Int32) (ps : Option (List Nat)) (x8 : Option Value), i + r = sh + n → accI i acc → MrS g base bs ps →
    (∀ g' k ps', k < 2 ^ 60 → MrS g' base bs ps' → PR (kD r i acc) ps (fun x => k = x) ps' → Oa g g' → Q (some (.long (lN (rv k)))) (MM M m g') z w) →
    WP (d + 1) mMd_takeName 39 [some (.ref m), some (.long (lN (rv p))), none, some (.int (nI sh)), some (.int (nI n)), some (.long (lN (rv acc))), none, some (.int (nI i)), x8] [] (MM M m g) z w Q := by
  intro r
  induction r with
  | zero =>
    intro i acc g ps x8 hi ha hR K
    rw [sMd_takeName_39]
    simp only [sMd_takeName_41, sMd_takeName_42, sMd_takeName_44, sMd_takeName_45, sMd_takeName_105, sMd_takeName_107, nI_add]
    rw [if_pos (nI_le (by omega) (by omega))]
    refine K g acc ps (ha.lt (by omega)) hR ?_ Oa.rf
    cases ps with
    | none => rfl
    | some l => exact ⟨rfl, rfl⟩
  | succ r ih =>
    intro i acc g ps x8 hi ha hR K
    rw [sMd_takeName_39]
    simp only [sMd_takeName_41, sMd_takeName_42, sMd_takeName_44, sMd_takeName_45, sMd_takeName_48, nI_add]
    rw [if_neg (nI_ge (by omega) (by omega)), rMd_takeName_49]
    refine c_take hB hR (fun g1 b ps1 hb hR1 hP1 hO1 => ?_)
    have q1 := nI_ltI (a := b) (b := 1) (by omega) (by omega)
    have q2 := nI_leI (a := b) (b := 31) (by omega) (by omega)
    simp only [sMd_takeName_52, sMd_takeName_54, sMd_takeName_55, rMd_takeName_56, sMd_takeName_59, sMd_takeName_62, sMd_takeName_64, sMd_takeName_65, sMd_takeName_68, sMd_takeName_70, sMd_takeName_72, sMd_takeName_75, sMd_takeName_76, sMd_takeName_79, rMd_takeName_80 xb0, rMd_takeName_80 xb1, sMd_takeName_83, sMd_takeName_85, sMd_takeName_87, sMd_takeName_89, sMd_takeName_90, sMd_takeName_91, sMd_takeName_92, sMd_takeName_94, sMd_takeName_95, sMd_takeName_96, sMd_takeName_97, sMd_takeName_99, sMd_takeName_102, xk_i, xk_l, xk_a, xk_n, xk_0, Option.toList_some, Option.toList_none, List.cons_append, List.nil_append, q1, q2, nI_and31]
    rw [nI_l (n := b % 32) (by omega), rv_or ha (by omega) (by omega), nI_add]
    have hgo : ∀ (g2 : Nat → Int32), MrS g2 base bs (if 1 ≤ b ∧ b ≤ 31 then ps1 else none) → Oa g1 g2 → WP (d + 1) mMd_takeName 39 [some (.ref m), some (.long (lN (rv p))), none, some (.int (nI sh)), some (.int (nI n)), some (.long (lN (rv (acc + b % 32 * 2 ^ (5 * (11 - i)))))), none, some (.int (nI (i + 1))), some (.int (nI b))] [] (MM M m g2) z w Q := by
      intro g2 hR2 hO2
      refine ih (i + 1) _ g2 _ _ (by omega) (ha.next (by omega) (by omega)) hR2 (fun g' k ps' hk hR' hP' hO' => K g' k ps' hk hR' ?_ ((hO1.trans hO2).trans hO'))
      have e : ∀ l, kD (r + 1) i acc l = (bD l).bind fun q => if 1 ≤ q.1 ∧ q.1 ≤ 31 then kD r (i + 1) (acc + q.1 * 2 ^ (5 * (11 - i))) q.2 else none := by
        intro l
        cases l with
        | nil => rfl
        | cons x t => rfl
      refine PR.congr ?_ (fun l => (e l).symm)
      refine PR.seq (a := b) (f := fun b l => if 1 ≤ b ∧ b ≤ 31 then kD r (i + 1) (acc + b * 2 ^ (5 * (11 - i))) l else none) hP1 (fun x hx => hx.symm) ?_
      refine PR.grd (c := 1 ≤ b ∧ b ≤ 31) ?_
      by_cases hc : 1 ≤ b ∧ b ≤ 31
      · rw [Nat.mod_eq_of_lt (by omega)] at hP'; exact hP'
      · rw [if_neg hc] at hP' ⊢; rw [hP'.no]; rfl
    cases ps1 with
    | none =>
      have e : (if 1 ≤ b ∧ b ≤ 31 then none else none : Option (List Nat)) = none := by split <;> rfl
      rw [hR1.n, if_neg (by decide)]
      exact hgo _ (by rw [e]; exact hR1.bad) Oa.u
    | some l =>
      rw [hR1.s, if_pos rfl]
      by_cases h1 : b < 1
      · rw [if_pos h1]
        exact hgo _ (by rw [if_neg (by omega)]; exact hR1.bad) Oa.u
      · rw [if_neg h1]
        by_cases h2 : b ≤ 31
        · rw [if_pos h2]
          exact hgo _ (by rw [if_pos (by omega)]; exact hR1.fine) Oa.u
        · rw [if_neg h2]
          exact hgo _ (by rw [if_neg (by omega)]; exact hR1.bad) Oa.u
theorem c_takeName {p sh n : Nat} (hB : BY M m base bs) (hp : p < 2 ^ 60) (hsh : sh < 2097152) (hn : n < 2097152) (hR : MrS g base bs ps) (K : ∀ g' k ps', k < 2 ^ 60 → MrS g' base bs ps' → PR (nM p sh n) ps (fun x => k = x) ps' → Oa g g' → Q (some (.long (lN (rv k)))) (MM M m g') z w) :
    WP (d + 1) mMd_takeName 0 [some (.ref m), some (.long (lN (rv p))), none, some (.int (nI sh)), some (.int (nI n)), none, none, none, none] [] (MM M m g) z w Q := by
  have q1 := nI_ltI (a := 12) (b := sh) (by omega) (by omega)
  have q2 := nI_ltI (a := 12) (b := n) (by omega) (by omega)
  have q3 := nI_leI (a := sh + n) (b := 12) (by omega) (by omega)
  simp only [sMd_takeName_0, sMd_takeName_1, sMd_takeName_3, sMd_takeName_6, sMd_takeName_8, sMd_takeName_10, sMd_takeName_13, sMd_takeName_14, sMd_takeName_16, sMd_takeName_17, sMd_takeName_19, sMd_takeName_22, sMd_takeName_23, rMd_takeName_24 xb0, rMd_takeName_24 xb1, sMd_takeName_27, sMd_takeName_28, sMd_takeName_29, sMd_takeName_30, nI_add, q1, q2, q3]
  have hbad : ¬ sh + n ≤ 12 → Q (some (.long (lN 0))) (MM M m (ug g 11 (nI 1))) z w := by
    intro hh
    have h0 : lN 0 = lN (rv 0) := rfl
    rw [h0]
    refine K _ 0 none (by omega) hR.bad ?_ Oa.u
    cases ps with
    | none => rfl
    | some l =>
      unfold PR nM
      rw [Option.bind_some, if_neg hh]
  by_cases h1 : 12 < sh
  · rw [if_pos h1]; exact hbad (by omega)
  · rw [if_neg h1]
    by_cases h2 : 12 < n
    · rw [if_pos h2]; exact hbad (by omega)
    · rw [if_neg h2]
      by_cases h3 : sh + n ≤ 12
      · rw [if_pos h3, sMd_takeName_31, c_first (by have := rv_lt p; omega) (by omega), ← rv_kpr p (by omega)]
        simp only [sMd_takeName_34, sMd_takeName_36, sMd_takeName_37, xk_i, xk_l, xk_a, xk_n, xk_0, Option.toList_some, Option.toList_none, List.cons_append, List.nil_append]
        refine name_loop hB h3 n sh (kpr p sh) g ps none rfl (accI_kpr p sh (by omega)) hR (fun g' k ps' hk hR' hP' hO' => K g' k ps' hk hR' ?_ hO')
        refine hP'.congr (fun l => ?_)
        unfold nM
        rw [if_pos h3]
      · rw [if_neg h3]; exact hbad h3
theorem and_p15 {c : Nat} (h : c < 65536) : c &&& 2 ^ 15 = if 32768 ≤ c then 2 ^ 15 else 0 := by
  have h2 : c.testBit 15 = decide (32768 ≤ c) := by
    rw [Nat.testBit_eq_decide_div_mod_eq, Bool.eq_iff_iff]
    simp only [decide_eq_true_eq]
    have e : (2 : Nat) ^ 15 = 32768 := rfl
    rw [e]
    omega
  apply Nat.eq_of_testBit_eq
  intro i
  rw [Nat.testBit_and, Nat.testBit_two_pow]
  by_cases hi : 15 = i
  · subst hi
    rw [h2]
    by_cases hc : 32768 ≤ c
    · rw [if_pos hc, Nat.testBit_two_pow]; simp [hc]
    · rw [if_neg hc]; simp [hc]
  · by_cases hc : 32768 ≤ c
    · rw [if_pos hc, Nat.testBit_two_pow]; simp [hi]
    · rw [if_neg hc]; simp [hi]
theorem and15 {c : Nat} (h : c < 65536) : nI c &&& nI 32768 = nI 0 ↔ ¬ 65535 < c * 2 := by
  rw [nx_and, show (32768 : Nat) = 2 ^ 15 from rfl, and_p15 h]
  by_cases hc : 32768 ≤ c
  · rw [if_pos hc]
    exact ⟨fun q => absurd q (by decide), fun q => absurd (by omega) q⟩
  · rw [if_neg hc]
    exact ⟨fun _ => by omega, fun _ => rfl⟩
theorem shifted_loop {x0 : Int32} : ∀ (j c : Nat), c < 65536 → j ≤ 8 →
    (WP d mMd_shifted 4 [some (.int x0), some (.int (nI c)), some (.int (nI (8 - j)))] [] M z w Q ↔ Q (some (.int (nI (crcN c j)))) M z w) := by
  intro j
  induction j with
  | zero =>
    intro c hc hj
    simp only [sMd_shifted_4, sMd_shifted_5, sMd_shifted_7, sMd_shifted_40, sMd_shifted_41]
    rw [if_pos (nI_le (by omega) (by omega))]
    rfl
  | succ j ih =>
    intro c hc hj
    rw [sMd_shifted_4]
    simp only [sMd_shifted_5, sMd_shifted_7, sMd_shifted_10, sMd_shifted_11, sMd_shifted_13, sMd_shifted_14, sMd_shifted_17, sMd_shifted_18, sMd_shifted_19, sMd_shifted_20, sMd_shifted_22, sMd_shifted_23, sMd_shifted_26, sMd_shifted_27, sMd_shifted_30, sMd_shifted_31, sMd_shifted_32, sMd_shifted_33, sMd_shifted_34, sMd_shifted_37, xk_i, xk_l, xk_a, xk_n, xk_0, Option.toList_some, Option.toList_none, List.cons_append, List.nil_append, and15 hc]
    rw [if_neg (nI_ge (by omega) (by omega)), pk_shlN (n := c) (nI 1 &&& 31) 1 (by decide) (by omega), nI_add, show 8 - (j + 1) + 1 = 8 - j by omega, show (2 : Nat) ^ 1 = 2 from rfl]
    have hl := crc1_lt hc
    have ih' := ih (crc1 c) hl (by omega)
    have e : crcN c (j + 1) = crcN (crc1 c) j := rfl
    rw [e, ← ih']
    unfold crc1
    by_cases h : 65535 < c * 2
    · rw [if_neg (fun q => q h), if_pos h, nI_and16, nx_xor]
    · rw [if_pos h, if_neg h]
theorem c_shifted {c : Nat} (hc : c < 65536) : WP d mMd_shifted 0 [some (.int (nI c)), none, none] [] M z w Q ↔ Q (some (.int (nI (crcN c 8)))) M z w := by
  simp only [sMd_shifted_0, sMd_shifted_1, sMd_shifted_2, sMd_shifted_3, xk_i, xk_l, xk_a, xk_n, xk_0, Option.toList_some, Option.toList_none, List.cons_append, List.nil_append]
  exact shifted_loop 8 c hc (by omega)
theorem check_loop {t n : Nat} (hB : BY M m (1200 * t) bs) (hn : n ≤ bs.length) : ∀ (k i : Nat), i + k = n →
    (WP (d + 1) mMd_check 6 [some (.ref m), some (.int (nI t)), some (.int (nI n)), some (.int (nI (crc (bs.take i)))), some (.int (nI i))] [] (MM M m g) z w Q ↔ Q (some (.int (nI (crc (bs.take n))))) (MM M m g) z w) := by
  obtain ⟨⟨bl, b1, b2⟩, b3, b4, b5, b6⟩ := hB
  intro k
  induction k with
  | zero =>
    intro i hi
    have : i = n := by omega
    subst this
    rw [sMd_check_6]
    simp only [sMd_check_8, sMd_check_9, sMd_check_44, sMd_check_45]
    rw [if_pos (nI_le (by omega) (by omega))]
  | succ k ih =>
    intro i hi
    have hlt : i < bs.length := by omega
    rw [sMd_check_6]
    simp only [sMd_check_8, sMd_check_9, sMd_check_12, sMd_check_13, rMd_check_14, sMd_check_17, sMd_check_20, sMd_check_21, sMd_check_22, sMd_check_24, pk_mul, nI_add]
    rw [if_neg (nI_ge (by omega) (by omega)), sMd_check_25 ((MMn (by omega)).trans b1) (nI_toInt (n := 1200 * t + i) (by omega)) (v := .int (sb bs[i])) (by simp [b2 i hlt, List.getElem?_eq_getElem hlt])]
    have hb256 := b3 _ (List.getElem_mem hlt)
    have hc : crc (bs.take i) < 65536 := crcL_lt _ (by decide) (fun b q => b3 b (List.mem_of_mem_take q))
    simp only [sMd_check_26, sMd_check_29, sMd_check_30, sMd_check_32, sMd_check_33, sb_and _ hb256]
    rw [pk_shlN (n := bs[i]) (nI 8 &&& 31) 8 (by decide) (by omega), nx_xor, show (2 : Nat) ^ 8 = 256 from rfl]
    have h16 : crc (bs.take i) ^^^ bs[i] * 256 < 65536 := Nat.xor_lt_two_pow (n := 16) hc (by omega)
    rw [sMd_check_34, c_shifted h16]
    simp only [sMd_check_37, sMd_check_38, sMd_check_41, xk_i, xk_l, xk_a, xk_n, xk_0, Option.toList_some, Option.toList_none, List.cons_append, List.nil_append, nI_add]
    have e : crcN (crc (bs.take i) ^^^ bs[i] * 256) 8 = crc (bs.take (i + 1)) := by
      rw [List.take_succ_eq_append_getElem hlt]
      unfold crc crcL
      rw [List.foldl_append, List.foldl_cons, List.foldl_nil]
      unfold crcB
      with_reducible rfl
    rw [e, ih (i + 1) (by omega)]
theorem c_check {t n : Nat} (hB : BY M m (1200 * t) bs) (hn : n ≤ bs.length) : WP (d + 1) mMd_check 0 [some (.ref m), some (.int (nI t)), some (.int (nI n)), none, none] [] (MM M m g) z w Q ↔ Q (some (.int (nI (crc (bs.take n))))) (MM M m g) z w := by
  simp only [sMd_check_0, sMd_check_2, sMd_check_3, sMd_check_4, xk_i, xk_l, xk_a, xk_n, xk_0, Option.toList_some, Option.toList_none, List.cons_append, List.nil_append]
  exact check_loop hB hn n 0 (by omega)
end MN
