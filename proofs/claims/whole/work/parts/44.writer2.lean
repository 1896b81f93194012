/-! RefStack$Writer: records, entries, a table -/
theorem c_lengthOf_raw {d : Nat} {x : Int64} {M : xM} {z w : Nat} {Q : Option Value → xM → Nat → Nat → Prop} : WP (d + 1) mNm_lengthOf 0 [some (.long x), none] [] M z w Q ↔ Q (some (.int (nI (alk (kN x) (kN x))))) M z w := by
  have := c_lengthOf (d := d) (M := M) (z := z) (w := w) (Q := Q) (kN_lt x)
  rwa [lN_kN] at this
theorem RowsAt.at {M : xM} {a room i : Nat} {rs : List xrow} {r : xrow} (h : RowsAt M a room rs) (hi : rs[i]? = some r) : ∃ (kl : List Int64) (tl : List Int32) (vs : List Int64), M (a + 1) = some (21, vl kl) ∧ (vl kl)[i]? = some (.long r.1) ∧ M (a + 2) = some (20, vi tl) ∧ (vi tl)[i]? = some (.int r.2.1) ∧ M (a + 3) = some (21, vl vs) ∧ (vl vs)[i]? = some (.long r.2.2) ∧ i < rs.length ∧ rs.length ≤ room := by
  obtain ⟨kl, tl, vs, h1, h2, h3, h4, h5, h6, h7, h8, h9⟩ := h
  have hl := (List.getElem?_eq_some_iff.mp hi).1
  obtain ⟨q1, q2, q3⟩ := h9 i hl
  rw [hi] at q1 q2 q3
  exact ⟨kl, tl, vs, h6, by simp [q1], h7, by simp [q2], h8, by simp [q3], hl, h4⟩
theorem rawC_0 : rawC 0 = lN 0 := rfl
theorem rawC_pos {c : Int} (h : 0 < c) : rawC c = lN c.toNat := if_pos (by omega)
theorem rawC_neg {c : Int} (h : c < 0) : rawC c = -(lN (-c).toNat) := if_neg (by omega)
theorem neg_lt0 {n : Nat} (h0 : 0 < n) (h : n < 2 ^ 63) : (-(lN n)).toInt = -(n : Int) := by
  rw [Int64.toInt_neg]
  rw [pk_lT h]
  exact Int.bmod_eq_of_le (by omega) (by omega)
theorem rawC_toInt {c : Int} (h : okC c) : (rawC c).toInt = c := by
  obtain ⟨h1, h2⟩ := h
  by_cases h0 : 0 ≤ c
  · unfold rawC
    rw [if_pos h0, pk_lT (by omega)]
    omega
  · rw [rawC_neg (by omega), neg_lt0 (by omega) (by omega)]
    omega
section WRR
variable {d wr t : Nat} {out : List Nat} {low high : Int32} {wf : Bool} {recs ents : List xrow} {M : xM} {z w : Nat} {Q : Option Value → xM → Nat → Nat → Prop}
theorem rawC_knd {c : Int} (h : okC c) : (rawC c = lN 0 ↔ c = 0) ∧ (rawC c ≤ lN 0 ↔ c ≤ 0) := by
  have e := rawC_toInt h
  constructor
  · rw [← Int64.toInt_inj, e]; exact Iff.rfl
  · rw [Int64.le_iff_toInt_le, e]; exact Iff.rfl
set_option maxHeartbeats 1000000 in
theorem c_putRecord {i lw : Nat} {r : arec} (h : WrAt M wr t out (nI lw) high wf recs ents) (hi : recs[i]? = some (rawR r)) (ok : okR lw r) (K : ∀ M', WrAt M' wr t (out ++ recE i (kN (kbf recs i)) lw r) (nI lw) high wf recs ents → OnlyW M M' wr t → Q none M' z w) : WP (d + 2) mWr_putRecord 0 [some (.ref wr), some (.int (nI i)), none, none, none, none, none, none, none, none, none] [] M z w Q := by
  obtain ⟨k, tm, c⟩ := r
  obtain ⟨hk, ht1, ht2, hc⟩ := ok
  dsimp only at hk ht1 ht2 hc
  have h7 := h.2.1
  have k6 := h.2.2.2.2.2.1
  have k7 := h.2.2.2.2.2.2.1
  have r2 := k7.cell
  obtain ⟨kl, tl, vs, a1, a2, a3, a4, a5, a6, a7, a8⟩ := k7.at hi
  have hI := nI_toInt (n := i) (by omega)
  simp only [sWr_putRecord_0, sWr_putRecord_1 h7 rfl, sWr_putRecord_4 k6 rfl, sWr_putRecord_7, sWr_putRecord_8, sWr_putRecord_9 r2 rfl, sWr_putRecord_12, xk_i, xk_l, xk_a, xk_n, xk_0, Option.toList_some, Option.toList_none, List.cons_append, List.nil_append]
  rw [sWr_putRecord_13 a1 hI a2]
  simp only [rawR, sWr_putRecord_14, sWr_putRecord_15, sWr_putRecord_16 r2 rfl, sWr_putRecord_19, xk_i, xk_l, xk_a, xk_n, xk_0, Option.toList_some, Option.toList_none, List.cons_append, List.nil_append]
  rw [sWr_putRecord_20 a5 hI a6]
  simp only [rawR, sWr_putRecord_21, sWr_putRecord_23, sWr_putRecord_24, sWr_putRecord_25, xk_i, xk_l, xk_a, xk_n, xk_0, Option.toList_some, Option.toList_none, List.cons_append, List.nil_append]
  rw [sWr_putRecord_26 r2, c_sharedDue k7 (by omega) (by omega), kN_lN (n := k) (by omega)]
  simp only [sWr_putRecord_29, sWr_putRecord_31, sWr_putRecord_32, xk_i, xk_l, xk_a, xk_n, xk_0, Option.toList_some, Option.toList_none, List.cons_append, List.nil_append]
  rw [c_lengthOf (a := k) (by omega)]
  obtain ⟨q1, q2⟩ := rawC_knd hc
  have hj : ∀ {X : Option Value} , (if c = 0 then WP (d + 1 + 1) mWr_putRecord 60 [some (.ref wr), some (.int (nI i)), some (.ref (t + 2)), some (.long (lN k)), none, some (.long (rawC c)), none, some (.int (nI (shd i (kN (kbf recs i)) k))), some (.int (nI (alk k k))), X, none] [.int (nI 0)] M z w Q else if c ≤ 0 then WP (d + 1 + 1) mWr_putRecord 60 [some (.ref wr), some (.int (nI i)), some (.ref (t + 2)), some (.long (lN k)), none, some (.long (rawC c)), none, some (.int (nI (shd i (kN (kbf recs i)) k))), some (.int (nI (alk k k))), X, none] [.int (nI 2)] M z w Q else WP (d + 1 + 1) mWr_putRecord 60 [some (.ref wr), some (.int (nI i)), some (.ref (t + 2)), some (.long (lN k)), none, some (.long (rawC c)), none, some (.int (nI (shd i (kN (kbf recs i)) k))), some (.int (nI (alk k k))), X, none] [.int (nI 1)] M z w Q) ↔ WP (d + 1 + 1) mWr_putRecord 60 [some (.ref wr), some (.int (nI i)), some (.ref (t + 2)), some (.long (lN k)), none, some (.long (rawC c)), none, some (.int (nI (shd i (kN (kbf recs i)) k))), some (.int (nI (alk k k))), X, none] [.int (nI (knd c))] M z w Q := by
    intro X
    unfold knd
    by_cases h0 : c = 0
    · rw [if_pos h0, if_pos h0]
    · by_cases h1 : 0 < c
      · rw [if_neg h0, if_neg h0, if_pos h1, if_neg (by omega)]
      · rw [if_neg h0, if_neg h0, if_neg h1, if_pos (by omega)]
  simp only [sWr_putRecord_35, sWr_putRecord_37, sWr_putRecord_39, sWr_putRecord_40, sWr_putRecord_41, sWr_putRecord_44, sWr_putRecord_45, sWr_putRecord_48, sWr_putRecord_50, sWr_putRecord_51, sWr_putRecord_52, sWr_putRecord_55, sWr_putRecord_56, sWr_putRecord_59, xk_i, xk_l, xk_a, xk_n, xk_0, Option.toList_some, Option.toList_none, List.cons_append, List.nil_append, lcmp_eq, lcmp_lt, lcmp_ge, lcmp_gt, lcmp_le, q1, q2]
  rw [show (if i % 4 = 0 then 0 else alk (kN (kbf recs i)) k) = shd i (kN (kbf recs i)) k from rfl, hj]
  have hs := shd_le i (kN (kbf recs i)) k
  have hl := alk_le k k
  have hkd : knd c ≤ 2 := by unfold knd; split <;> (try split) <;> omega
  generalize hsh : shd i (kN (kbf recs i)) k = sh at *
  simp only [sWr_putRecord_60, sWr_putRecord_62, sWr_putRecord_63, xk_i, xk_l, xk_a, xk_n, xk_0, Option.toList_some, Option.toList_none, List.cons_append, List.nil_append]
  rw [sWr_putRecord_65 h7]
  refine c_putVarint h (by omega) (fun M1 hW1 hO1 => ?_)
  simp only [sWr_putRecord_68, sWr_putRecord_69, sWr_putRecord_70, sWr_putRecord_72, sWr_putRecord_74, sWr_putRecord_75, sWr_putRecord_76, sWr_putRecord_78, xk_i, xk_l, xk_a, xk_n, xk_0, Option.toList_some, Option.toList_none, List.cons_append, List.nil_append]
  rw [sWr_putRecord_79 hW1.2.1, pk_sub hs, pk_mul, nI_add]
  refine c_putVarint hW1 (by omega) (fun M2 hW2 hO2 => ?_)
  simp only [sWr_putRecord_82, sWr_putRecord_83, sWr_putRecord_84, sWr_putRecord_86, xk_i, xk_l, xk_a, xk_n, xk_0, Option.toList_some, Option.toList_none, List.cons_append, List.nil_append]
  rw [sWr_putRecord_88 hW2.2.1]
  refine c_putSymbols hW2 (by omega) hl hs (fun M3 hW3 hO3 => ?_)
  have m7 := hW3.2.1
  have m6 := hW3.2.2.2.2.2.1
  have mk := hW3.2.2.2.2.2.2.1
  have mr := mk.cell
  obtain ⟨kl', tl', vs', b1, b2, b3, b4, b5, b6, b7, b8⟩ := mk.at hi
  simp only [sWr_putRecord_91, sWr_putRecord_92, sWr_putRecord_93 mr rfl, sWr_putRecord_96, xk_i, xk_l, xk_a, xk_n, xk_0, Option.toList_some, Option.toList_none, List.cons_append, List.nil_append]
  rw [sWr_putRecord_97 b3 hI b4]
  simp only [rawR, sWr_putRecord_98, sWr_putRecord_99 m7 rfl, sWr_putRecord_102 m6 rfl, sWr_putRecord_105, xk_i, xk_l, xk_a, xk_n, xk_0, Option.toList_some, Option.toList_none, List.cons_append, List.nil_append]
  rw [sWr_putRecord_106 m7, pk_sub ht1]
  refine c_putVarint hW3 (by omega) (fun M4 hW4 hO4 => ?_)
  have n7 := hW4.2.1
  have e1 := nI_eq (a := knd c) (b := 1) (by omega) (by omega)
  have e2 := nI_eq (a := knd c) (b := 2) (by omega) (by omega)
  simp only [sWr_putRecord_109, sWr_putRecord_111, sWr_putRecord_112, sWr_putRecord_115, sWr_putRecord_116, sWr_putRecord_118, sWr_putRecord_125, sWr_putRecord_127, sWr_putRecord_128, sWr_putRecord_131, sWr_putRecord_133, xk_i, xk_l, xk_a, xk_n, xk_0, Option.toList_some, Option.toList_none, List.cons_append, List.nil_append, e1, e2]
  have hO := (hO1.trans hO2).trans (hO3.trans hO4)
  simp only [List.append_assoc] at hW4
  unfold recE at K
  simp only [hsh, List.append_assoc] at K
  unfold contE at K
  by_cases h0 : c = 0
  · have hk0 : knd c = 0 := by unfold knd; rw [if_pos h0]
    rw [if_neg (by omega), if_neg (by omega), sWr_putRecord_155]
    rw [if_pos h0] at K
    simp only [List.append_nil] at K
    exact K M4 hW4 hO
  · by_cases h1 : 0 < c
    · have hk1 : knd c = 1 := by unfold knd; rw [if_neg h0, if_pos h1]
      rw [if_pos hk1, sWr_putRecord_119 n7, rawC_pos h1, lN_i]
      rw [if_neg h0, if_pos h1] at K
      refine c_putVarint hW4 (by have := hc.1; omega) (fun M5 hW5 hO5 => ?_)
      simp only [sWr_putRecord_122, sWr_putRecord_155, xk_i, xk_l, xk_a, xk_n, xk_0, Option.toList_some, Option.toList_none, List.cons_append, List.nil_append]
      simp only [List.append_assoc] at hW5
      exact K M5 hW5 (hO.trans hO5)
    · have hk2 : knd c = 2 := by unfold knd; rw [if_neg h0, if_neg h1]
      rw [if_neg (by omega), if_pos hk2, rawC_neg (by omega), Int64.neg_neg]
      rw [if_neg h0, if_neg h1] at K
      have hlk : (-c).toNat < 2 ^ 60 := by have := hc.2; omega
      rw [sWr_putRecord_134, c_lengthOf (a := (-c).toNat) (by omega)]
      have hll := alk_le (-c).toNat (-c).toNat
      simp only [sWr_putRecord_137, sWr_putRecord_139, sWr_putRecord_140, xk_i, xk_l, xk_a, xk_n, xk_0, Option.toList_some, Option.toList_none, List.cons_append, List.nil_append]
      rw [sWr_putRecord_142 n7]
      refine c_putVarint hW4 (by omega) (fun M5 hW5 hO5 => ?_)
      simp only [sWr_putRecord_145, sWr_putRecord_146, sWr_putRecord_148, sWr_putRecord_149, sWr_putRecord_150, xk_i, xk_l, xk_a, xk_n, xk_0, Option.toList_some, Option.toList_none, List.cons_append, List.nil_append, Int64.neg_neg]
      rw [sWr_putRecord_152 hW5.2.1]
      refine c_putSymbols hW5 (by omega) hll (by omega) (fun M6 hW6 hO6 => ?_)
      simp only [sWr_putRecord_155, xk_i, xk_l, xk_a, xk_n, xk_0, Option.toList_some, Option.toList_none, List.cons_append, List.nil_append]
      simp only [List.append_assoc, Nat.sub_zero] at hW6
      exact K M6 hW6 ((hO.trans hO5).trans hO6)
set_option maxHeartbeats 1000000 in
theorem c_putEntry {i : Nat} {r : aent} (h : WrAt M wr t out low high wf recs ents) (hi : ents[i]? = some (rawE r)) (ok : okE r) (K : ∀ M', WrAt M' wr t (out ++ entE i (kN (kbf ents i)) r) low high wf recs ents → OnlyW M M' wr t → Q none M' z w) : WP (d + 2) mWr_putEntry 0 [some (.ref wr), some (.int (nI i)), none, none, none, none, none] [] M z w Q := by
  obtain ⟨k, tm, ol, nw⟩ := r
  obtain ⟨hk, ht, ho, hn⟩ := ok
  dsimp only at hk ht ho hn
  have h7 := h.2.1
  have k6 := h.2.2.2.2.2.1
  have k7 := h.2.2.2.2.2.2.2
  have r2 := k7.cell
  obtain ⟨kl, tl, vs, a1, a2, a3, a4, a5, a6, a7, a8⟩ := k7.at hi
  have hI := nI_toInt (n := i) (by omega)
  simp only [sWr_putEntry_0, sWr_putEntry_1 h7 rfl, sWr_putEntry_4 k6 rfl, sWr_putEntry_7, sWr_putEntry_8, sWr_putEntry_9 r2 rfl, sWr_putEntry_12, xk_i, xk_l, xk_a, xk_n, xk_0, Option.toList_some, Option.toList_none, List.cons_append, List.nil_append]
  rw [sWr_putEntry_13 a1 hI a2]
  simp only [rawE, sWr_putEntry_14, sWr_putEntry_15, sWr_putEntry_16, sWr_putEntry_17, xk_i, xk_l, xk_a, xk_n, xk_0, Option.toList_some, Option.toList_none, List.cons_append, List.nil_append]
  rw [sWr_putEntry_18 r2, c_sharedDue k7 (by omega) (by omega), kN_lN (n := k) (by omega)]
  simp only [sWr_putEntry_21, sWr_putEntry_23, sWr_putEntry_24, xk_i, xk_l, xk_a, xk_n, xk_0, Option.toList_some, Option.toList_none, List.cons_append, List.nil_append]
  rw [c_lengthOf (a := k) (by omega)]
  rw [show (if i % 4 = 0 then 0 else alk (kN (kbf ents i)) k) = shd i (kN (kbf ents i)) k from rfl]
  have hs := shd_le i (kN (kbf ents i)) k
  have hl := alk_le k k
  unfold entE at K
  simp only [List.append_assoc] at K
  generalize hsh : shd i (kN (kbf ents i)) k = sh at *
  simp only [sWr_putEntry_27, sWr_putEntry_29, sWr_putEntry_30, xk_i, xk_l, xk_a, xk_n, xk_0, Option.toList_some, Option.toList_none, List.cons_append, List.nil_append]
  rw [sWr_putEntry_32 h7]
  refine c_putVarint h (by omega) (fun M1 hW1 hO1 => ?_)
  simp only [sWr_putEntry_35, sWr_putEntry_36, sWr_putEntry_38, sWr_putEntry_40, xk_i, xk_l, xk_a, xk_n, xk_0, Option.toList_some, Option.toList_none, List.cons_append, List.nil_append]
  rw [sWr_putEntry_41 hW1.2.1, pk_sub hs]
  refine c_putVarint hW1 (by omega) (fun M2 hW2 hO2 => ?_)
  simp only [sWr_putEntry_44, sWr_putEntry_45, sWr_putEntry_46, sWr_putEntry_48, xk_i, xk_l, xk_a, xk_n, xk_0, Option.toList_some, Option.toList_none, List.cons_append, List.nil_append]
  rw [sWr_putEntry_50 hW2.2.1]
  refine c_putSymbols hW2 (by omega) hl hs (fun M3 hW3 hO3 => ?_)
  have mk := hW3.2.2.2.2.2.2.2
  have mr := mk.cell
  obtain ⟨kl', tl', vs', b1, b2, b3, b4, b5, b6, b7, b8⟩ := mk.at hi
  simp only [sWr_putEntry_53, sWr_putEntry_54, sWr_putEntry_55 mr rfl, sWr_putEntry_58, xk_i, xk_l, xk_a, xk_n, xk_0, Option.toList_some, Option.toList_none, List.cons_append, List.nil_append]
  rw [sWr_putEntry_59 b3 hI b4]
  simp only [rawE]
  rw [sWr_putEntry_60 hW3.2.1]
  refine c_putVarint hW3 (by omega) (fun M4 hW4 hO4 => ?_)
  have nk := hW4.2.2.2.2.2.2.2
  have nr := nk.cell
  obtain ⟨kl2, tl2, vs2, c1, c2, c3, c4, c5, c6, c7, c8⟩ := nk.at hi
  simp only [sWr_putEntry_63, sWr_putEntry_64, sWr_putEntry_65 nr rfl, sWr_putEntry_68, xk_i, xk_l, xk_a, xk_n, xk_0, Option.toList_some, Option.toList_none, List.cons_append, List.nil_append]
  rw [sWr_putEntry_69 c5 hI c6]
  simp only [rawE]
  rw [sWr_putEntry_70, c_oldOf, oldV_nI ho hn]
  simp only [xk_i, xk_l, xk_a, xk_n, xk_0, Option.toList_some, Option.toList_none, List.cons_append, List.nil_append]
  rw [sWr_putEntry_73 hW4.2.1]
  refine c_putVarint hW4 (by omega) (fun M5 hW5 hO5 => ?_)
  have ok' := hW5.2.2.2.2.2.2.2
  have or' := ok'.cell
  obtain ⟨kl3, tl3, vs3, d1, d2, d3, d4, d5, d6, d7, d8⟩ := ok'.at hi
  simp only [sWr_putEntry_76, sWr_putEntry_77, sWr_putEntry_78 or' rfl, sWr_putEntry_81, xk_i, xk_l, xk_a, xk_n, xk_0, Option.toList_some, Option.toList_none, List.cons_append, List.nil_append]
  rw [sWr_putEntry_82 d5 hI d6]
  simp only [rawE]
  rw [sWr_putEntry_83, c_newOf, newV_nI ho hn]
  simp only [xk_i, xk_l, xk_a, xk_n, xk_0, Option.toList_some, Option.toList_none, List.cons_append, List.nil_append]
  rw [sWr_putEntry_86 hW5.2.1]
  refine c_putVarint hW5 (by omega) (fun M6 hW6 hO6 => ?_)
  simp only [sWr_putEntry_89, xk_i, xk_l, xk_a, xk_n, xk_0, Option.toList_some, Option.toList_none, List.cons_append, List.nil_append]
  simp only [List.append_assoc] at hW6
  exact K M6 hW6 ((hO1.trans hO2).trans ((hO3.trans hO4).trans (hO5.trans hO6)))
end WRR
