/-! Reader.read -/
theorem kD_lt : ∀ (n i acc : Nat) (l : List Nat) (q : Nat × List Nat), i + n ≤ 12 → accI i acc → kD n i acc l = some q → q.1 < 2 ^ 60
  | 0, i, acc, l, q, hi, ha, h => by cases h; exact ha.lt (by omega)
  | n + 1, i, acc, [], q, hi, ha, h => by cases h
  | n + 1, i, acc, b :: l, q, hi, ha, h => by
    unfold kD at h
    split at h
    · exact kD_lt n (i + 1) _ l q (by omega) (ha.next (by omega) (by omega)) h
    · cases h
theorem nK_lt {p sh n : Nat} {l : List Nat} {q : Nat × List Nat} (h : nK p sh n l = some q) : q.1 < 2 ^ 60 ∧ gk q.1 = true := by
  unfold nK at h
  split at h
  · cases h
  · obtain ⟨q0, h1, h2⟩ := Option.bind_eq_some_iff.mp h
    split at h2
    · rename_i hg
      cases h2
      exact ⟨kD_lt n sh _ l _ (by omega) (accI_kpr p sh (by omega)) h1, hg⟩
    · cases h2
theorem rD_inv {i p lw hg : Nat} {l : List Nat} {q : arec × List Nat} (h : rD i p lw hg l = some q) : q.1.1 < 2 ^ 60 ∧ gk q.1.1 = true ∧ p < q.1.1 ∧ lw ≤ q.1.2.1 ∧ q.1.2.1 ≤ hg ∧ ∃ kd l' l'', cD kd l' = some (q.1.2.2, l'') := by
  unfold rD at h
  obtain ⟨sh, h1, h⟩ := Option.bind_eq_some_iff.mp h
  obtain ⟨hd, h2, h⟩ := Option.bind_eq_some_iff.mp h
  split at h
  · obtain ⟨k, h3, h⟩ := Option.bind_eq_some_iff.mp h
    split at h
    · rename_i hk
      obtain ⟨dt, h4, h⟩ := Option.bind_eq_some_iff.mp h
      split at h
      · rename_i hdt
        obtain ⟨c, h5, h⟩ := Option.bind_eq_some_iff.mp h
        cases h
        obtain ⟨n1, n2⟩ := nK_lt h3
        exact ⟨n1, n2, hk.2, Nat.le_add_right _ _, hdt, _, _, _, h5⟩
      · cases h
    · cases h
  · cases h
theorem nD_lt {l : List Nat} {q : Nat × List Nat} (h : nD l = some q) : q.1 ≤ 65535 := by
  unfold nD at h
  obtain ⟨q0, h1, h2⟩ := Option.bind_eq_some_iff.mp h
  split at h2
  · rename_i hq; cases h2; exact hq
  · cases h2
theorem eD_inv {i p pt lw hg : Nat} {l : List Nat} {q : aent × List Nat} (h : eD i p pt lw hg l = some q) : q.1.1 < 2 ^ 60 ∧ gk q.1.1 = true ∧ p ≤ q.1.1 ∧ lw ≤ q.1.2.1 ∧ q.1.2.1 ≤ hg ∧ q.1.2.1 < 2097152 ∧ q.1.2.2.1 ≤ 65535 ∧ q.1.2.2.2 ≤ 65535 ∧ (i = 0 ∨ q.1.1 ≠ p ∨ q.1.2.1 < pt) := by
  unfold eD at h
  obtain ⟨sh, h1, h⟩ := Option.bind_eq_some_iff.mp h
  obtain ⟨n, h2, h⟩ := Option.bind_eq_some_iff.mp h
  obtain ⟨k, h3, h⟩ := Option.bind_eq_some_iff.mp h
  split at h
  · rename_i hk
    obtain ⟨tm, h4, h⟩ := Option.bind_eq_some_iff.mp h
    split at h
    · rename_i htm
      split at h
      · rename_i hpt
        obtain ⟨o, h5, h⟩ := Option.bind_eq_some_iff.mp h
        obtain ⟨nw, h6, h⟩ := Option.bind_eq_some_iff.mp h
        cases h
        obtain ⟨n1, n2⟩ := nK_lt h3
        exact ⟨n1, n2, hk.2, htm.1, htm.2, vD_lt h4, nD_lt h5, nD_lt h6, hpt⟩
      · cases h
    · cases h
  · cases h
theorem kbf_last (rs : List xrow) (x : xrow) : kbf (rs ++ [x]) (rs.length + 1) = x.1 := by
  unfold kbf
  rw [if_neg (by omega), Nat.add_sub_cancel, List.getElem?_append_right (Nat.le_refl _), Nat.sub_self]
  rfl
section RD5
variable {d rd t : Nat} {bs : List Nat} {lw hg : Nat} {wf : Bool} {recs ents : List xrow} {ps : Option (List Nat)} {M : xM} {z w : Nat} {Q : Option Value → xM → Nat → Nat → Prop}
theorem RdAt.fld {low high : Int32} (h : RdAt M rd t bs low high wf recs ents ps) : ∃ pos, M rd = some (1, [.ref t, .int (nI pos), .int (nI (bs.length - 2)), .int (nI (if ps.isNone = true then 1 else 0))]) := by
  obtain ⟨h1, h2, h3, pos, h4, h5, h6⟩ := h
  exact ⟨pos, h5⟩
set_option maxHeartbeats 1000000 in
theorem read_recs {cnt : Nat} (hlw : lw < 2097152) (hhg : hg < 2097152) (hcnt : cnt < 2097152) : ∀ (r i p : Nat) (M : xM) (recs : List xrow) (ps : Option (List Nat)) (x6 : Option Value), (ps.isSome = true → i + r = cnt ∧ cnt ≤ 30 ∧ kbf recs i = lN p ∧ p < 2 ^ 60 ∧ i = recs.length) → recs.length ≤ 30 → i ≤ 30 → RdAt M rd t bs (nI lw) (nI hg) wf recs ents ps →
    (∀ M' recs' ps' x5, recs'.length ≤ 30 → RdAt M' rd t bs (nI lw) (nI hg) wf recs' ents ps' → PR (rsD lw hg r i p) ps (fun R => recs' = recs ++ R.map rawR) ps' → OnlyW M M' rd t → WP (d + 6) mRd_read 136 [some (.ref rd), some (.ref t), some (.int (nI lw)), some (.int (nI hg)), some (.int (nI cnt)), some (.int x5), x6] [] M' z w Q) →
    WP (d + 6) mRd_read 110 [some (.ref rd), some (.ref t), some (.int (nI lw)), some (.int (nI hg)), some (.int (nI cnt)), some (.int (nI i)), x6] [] M z w Q := by
  intro r
  induction r with
  | zero =>
    intro i p M recs ps x6 hv hrl hi30 h K
    obtain ⟨pos, h5⟩ := h.fld
    rw [sRd_read_110]
    simp only [sRd_read_112, sRd_read_114, sRd_read_117, sRd_read_118 h5 rfl, sRd_read_121]
    cases ps with
    | none =>
      have := K M recs none (nI i) hrl h rfl OnlyW.rf
      by_cases hl : cnt ≤ i
      · rw [if_pos (nI_le hl (by omega))]; exact this
      · rw [if_neg (nI_ge (by omega) (by omega)), if_neg (by decide)]; exact this
    | some l =>
      obtain ⟨e1, e2, -⟩ := hv rfl
      rw [if_pos (nI_le (by omega) (by omega))]
      exact K M recs (some l) (nI i) hrl h ⟨by simp, rfl⟩ OnlyW.rf
  | succ r ih =>
    intro i p M recs ps x6 hv hrl hi30 h K
    obtain ⟨pos, h5⟩ := h.fld
    rw [sRd_read_110]
    simp only [sRd_read_112, sRd_read_114, sRd_read_117, sRd_read_118 h5 rfl, sRd_read_121, sRd_read_124, sRd_read_125]
    cases ps with
    | none =>
      have := K M recs none (nI i) hrl h rfl OnlyW.rf
      by_cases hl : cnt ≤ i
      · rw [if_pos (nI_le hl (by omega))]; exact this
      · rw [if_neg (nI_ge (by omega) (by omega)), if_neg (by decide)]; exact this
    | some l =>
      obtain ⟨e1, e2, e3, e4, e5⟩ := hv rfl
      rw [if_neg (nI_ge (by omega) (by omega)), if_pos (show nI (if (some l).isNone = true then 1 else 0) = nI 0 from rfl), sRd_read_127 h5]
      refine c_readRecord hlw hhg e5 (by omega) e3 e4 h (fun M1 x ps1 hR1 hP1 hO1 => ?_)
      simp only [sRd_read_130, sRd_read_133, xk_i, xk_l, xk_a, xk_n, xk_0, Option.toList_some, Option.toList_none, List.cons_append, List.nil_append, nI_add]
      rcases hP1.so with ⟨q, f1, f2, f3⟩ | ⟨f1, f2⟩
      · obtain ⟨g1, -⟩ := rD_inv f1
        refine ih (i + 1) q.1.1 M1 (recs ++ [x]) ps1 x6 (fun _ => ⟨by omega, e2, by rw [e5, kbf_last, f2]; rfl, g1, by simp; omega⟩) (by simp; omega) (by omega) hR1 (fun M2 recs' ps' x5 hl' hR' hP' hO' => K M2 recs' ps' x5 hl' hR' ?_ (hO1.trans hO'))
        unfold PR
        rw [Option.bind_some]
        unfold rsD
        rw [f1, Option.bind_some]
        rw [f3] at hP'
        rcases hP'.so with ⟨q2, j1, j2, j3⟩ | ⟨j1, j2⟩
        · rw [j1, Option.bind_some]
          exact ⟨by rw [j2, f2]; simp, j3⟩
        · rw [j1]; exact j2
      · refine ih (i + 1) 0 M1 (recs ++ [x]) ps1 x6 (fun q => by rw [f2] at q; cases q) (by simp; omega) (by omega) hR1 (fun M2 recs' ps' x5 hl' hR' hP' hO' => K M2 recs' ps' x5 hl' hR' ?_ (hO1.trans hO'))
        rw [f2] at hP'
        unfold PR
        rw [Option.bind_some]
        unfold rsD
        rw [f1]
        exact hP'.no
set_option maxHeartbeats 1000000 in
theorem read_ents {cnt : Nat} {x4 : Int32} (hlw : lw < 2097152) (hhg : hg < 2097152) (hcnt : cnt < 2097152) : ∀ (r i p pt : Nat) (M : xM) (ents : List xrow) (ps : Option (List Nat)), (ps.isSome = true → i + r = cnt ∧ cnt ≤ 40 ∧ kbf ents i = lN p ∧ p < 2 ^ 60 ∧ i = ents.length ∧ pt < 2097152 ∧ (i ≠ 0 → ∃ r, ents[i - 1]? = some r ∧ r.2.1 = nI pt)) → ents.length ≤ 40 → i ≤ 40 → RdAt M rd t bs (nI lw) (nI hg) wf recs ents ps →
    (∀ M' ents' ps' x6, ents'.length ≤ 40 → RdAt M' rd t bs (nI lw) (nI hg) wf recs ents' ps' → PR (esD lw hg r i p pt) ps (fun R => ents' = ents ++ R.map rawE) ps' → OnlyW M M' rd t → WP (d + 6) mRd_read 187 [some (.ref rd), some (.ref t), some (.int (nI lw)), some (.int (nI hg)), some (.int x4), some (.int (nI cnt)), some (.int x6)] [] M' z w Q) →
    WP (d + 6) mRd_read 161 [some (.ref rd), some (.ref t), some (.int (nI lw)), some (.int (nI hg)), some (.int x4), some (.int (nI cnt)), some (.int (nI i))] [] M z w Q := by
  intro r
  induction r with
  | zero =>
    intro i p pt M ents ps hv hrl hi30 h K
    obtain ⟨pos, h5⟩ := h.fld
    rw [sRd_read_161]
    simp only [sRd_read_163, sRd_read_165, sRd_read_168, sRd_read_169 h5 rfl, sRd_read_172]
    cases ps with
    | none =>
      have := K M ents none (nI i) hrl h rfl OnlyW.rf
      by_cases hl : cnt ≤ i
      · rw [if_pos (nI_le hl (by omega))]; exact this
      · rw [if_neg (nI_ge (by omega) (by omega)), if_neg (by decide)]; exact this
    | some l =>
      obtain ⟨e1, e2, -⟩ := hv rfl
      rw [if_pos (nI_le (by omega) (by omega))]
      exact K M ents (some l) (nI i) hrl h ⟨by simp, rfl⟩ OnlyW.rf
  | succ r ih =>
    intro i p pt M ents ps hv hrl hi30 h K
    obtain ⟨pos, h5⟩ := h.fld
    rw [sRd_read_161]
    simp only [sRd_read_163, sRd_read_165, sRd_read_168, sRd_read_169 h5 rfl, sRd_read_172, sRd_read_175, sRd_read_176]
    cases ps with
    | none =>
      have := K M ents none (nI i) hrl h rfl OnlyW.rf
      by_cases hl : cnt ≤ i
      · rw [if_pos (nI_le hl (by omega))]; exact this
      · rw [if_neg (nI_ge (by omega) (by omega)), if_neg (by decide)]; exact this
    | some l =>
      obtain ⟨e1, e2, e3, e4, e5, e6, e7⟩ := hv rfl
      rw [if_neg (nI_ge (by omega) (by omega)), if_pos (show nI (if (some l).isNone = true then 1 else 0) = nI 0 from rfl), sRd_read_178 h5]
      refine c_readEntry hlw hhg e5 (by omega) e3 e4 e7 e6 h (fun M1 x ps1 hR1 hP1 hO1 => ?_)
      simp only [sRd_read_181, sRd_read_184, xk_i, xk_l, xk_a, xk_n, xk_0, Option.toList_some, Option.toList_none, List.cons_append, List.nil_append, nI_add]
      rcases hP1.so with ⟨q, f1, f2, f3⟩ | ⟨f1, f2⟩
      · obtain ⟨g1, -, -, -, -, g6, -⟩ := eD_inv f1
        refine ih (i + 1) q.1.1 q.1.2.1 M1 (ents ++ [x]) ps1 (fun _ => ⟨by omega, e2, by rw [e5, kbf_last, f2]; rfl, g1, by simp; omega, g6, fun _ => ⟨x, by rw [Nat.add_sub_cancel, e5]; simp, by rw [f2]; rfl⟩⟩) (by simp; omega) (by omega) hR1 (fun M2 ents' ps' x5 hl' hR' hP' hO' => K M2 ents' ps' x5 hl' hR' ?_ (hO1.trans hO'))
        unfold PR
        rw [Option.bind_some]
        unfold esD
        rw [f1, Option.bind_some]
        rw [f3] at hP'
        rcases hP'.so with ⟨q2, j1, j2, j3⟩ | ⟨j1, j2⟩
        · rw [j1, Option.bind_some]
          exact ⟨by rw [j2, f2]; simp, j3⟩
        · rw [j1]; exact j2
      · refine ih (i + 1) 0 0 M1 (ents ++ [x]) ps1 (fun q => by rw [f2] at q; cases q) (by simp; omega) (by omega) hR1 (fun M2 ents' ps' x5 hl' hR' hP' hO' => K M2 ents' ps' x5 hl' hR' ?_ (hO1.trans hO'))
        rw [f2] at hP'
        unfold PR
        rw [Option.bind_some]
        unfold esD
        rw [f1]
        exact hP'.no
theorem RdAt.cleared {M' : xM} {low high l2 h2 : Int32} (h : RdAt M rd t bs low high wf recs ents ps) (hT : TableAt M' t bs l2 h2 wf [] []) (hO : Only M M' t 10) : RdAt M' rd t bs l2 h2 wf [] [] ps := by
  obtain ⟨h1, -, h3, pos, h4, h5, h6⟩ := h
  exact ⟨h1, hT, h3, pos, h4, by rw [hO _ (by omega)]; exact h5, h6⟩
set_option maxHeartbeats 4000000 in
theorem c_read {v0 : Value} {p0 e0 f0 low high : Int32} (hdj : rd < t ∨ t + 10 ≤ rd) (hrd : M rd = some (1, [v0, .int p0, .int e0, .int f0])) (hT : TableAt M t bs low high wf recs ents) (h2 : 2 ≤ bs.length)
    (K : ∀ M' low' high' recs' ents', TableAt M' t bs low' high' (pT bs).isSome recs' ents' → (∀ T, pT bs = some T → low' = nI T.1 ∧ high' = nI T.2.1 ∧ recs' = T.2.2.1.map rawR ∧ ents' = T.2.2.2.map rawE) → (∃ p1 e1 f1, M' rd = some (1, [.ref t, .int p1, .int e1, .int f1])) → OnlyW M M' rd t → Q none M' z w) :
    WP (d + 6) mRd_read 0 [some (.ref rd), some (.ref t), none, none, none, none, none] [] M z w Q := by
  have k6 := hT.2.2.2.1
  have hbl := hT.1
  simp only [sRd_read_0, sRd_read_1]
  rw [sRd_read_2 hrd rfl, sRd_read_5, sRd_read_6, sRd_read_7 xput_same rfl, sRd_read_10, sRd_read_11, sRd_read_12 ((xput_ne (by omega)).trans ((xput_ne (by omega)).trans k6)) rfl, sRd_read_15, sRd_read_16, pk_sub h2, sRd_read_17 xput_same rfl, sRd_read_20, sRd_read_21, sRd_read_22 xput_same rfl xb0]
  generalize hM1 : xput (xput (xput (xput M rd _) rd _) rd _) rd _ = M1
  have o1 : ∀ q, q ≠ rd → M1 q = M q := fun q q1 => by rw [← hM1, xput_ne q1, xput_ne q1, xput_ne q1, xput_ne q1]
  have hR : RdAt M1 rd t bs low high wf recs ents (some (bs.take (bs.length - 2))) := ⟨hdj, hT.kept (fun q a b => o1 q (by omega)), h2, 0, by omega, by rw [← hM1, xput_same]; rfl, fun rem q => by cases q; rw [List.drop_zero]⟩
  have oM : OnlyW M M1 rd t := fun q q1 _ => o1 q q1
  obtain ⟨⟨fs, hc⟩, -, -, -⟩ := hR.cells
  simp only [sRd_read_25, sRd_read_26]
  rw [sRd_read_27 hc]
  refine c_nextByte hR (fun M2 b ps2 hb hR2 hP2 hO2 => ?_)
  obtain ⟨⟨fs2, hc2⟩, -, -, -⟩ := hR2.cells
  have qb := nI_eq (a := b) (b := 82) (by omega) (by omega)
  simp only [sRd_read_30, sRd_read_32, sRd_read_35, sRd_read_36, sRd_read_39, xk_i, xk_l, xk_a, xk_n, xk_0, Option.toList_some, Option.toList_none, List.cons_append, List.nil_append, qb]
  have fin1 : ∀ c : Bool, (c = true ↔ b = 82) → WP (d + 6) mRd_read 40 [some (.ref rd), some (.ref t), none, none, none, none, none] [.int (nI (if c = true then 1 else 0)), .ref rd] M2 z w Q := by
    intro c1 hc1'
    rw [sRd_read_40 hc2]
    refine c_require (c := c1) hR2 (fun M3 hR3 hO3 => ?_)
    obtain ⟨⟨fs3, hc3⟩, -, -, -⟩ := hR3.cells
    simp only [sRd_read_43, xk_i, xk_l, xk_a, xk_n, xk_0, Option.toList_some, Option.toList_none, List.cons_append, List.nil_append]
    rw [sRd_read_44 hc3]
    refine c_nextVarint hR3 (fun M4 lw ps4 hlw hR4 hP4 hO4 => ?_)
    obtain ⟨⟨fs4, hc4⟩, -, -, -⟩ := hR4.cells
    simp only [sRd_read_47, sRd_read_48, xk_i, xk_l, xk_a, xk_n, xk_0, Option.toList_some, Option.toList_none, List.cons_append, List.nil_append]
    rw [sRd_read_49 hc4]
    refine c_nextVarint hR4 (fun M5 hg ps5 hhg hR5 hP5 hO5 => ?_)
    obtain ⟨⟨fs5, hc5⟩, -, -, -⟩ := hR5.cells
    simp only [sRd_read_52, sRd_read_53, sRd_read_54, sRd_read_55, sRd_read_56, sRd_read_59, sRd_read_60, sRd_read_61, sRd_read_64, sRd_read_65, sRd_read_68, sRd_read_71, sRd_read_72, sRd_read_75, xk_i, xk_l, xk_a, xk_n, xk_0, Option.toList_some, Option.toList_none, List.cons_append, List.nil_append]
    have fin2 : ∀ c : Bool, (c = true ↔ (1 ≤ lw ∧ lw ≤ hg ∧ hg ≤ 2000)) → WP (d + 6) mRd_read 76 [some (.ref rd), some (.ref t), some (.int (nI lw)), some (.int (nI hg)), none, none, none] [.int (nI (if c = true then 1 else 0)), .ref rd] M5 z w Q := by
      intro c2 hc2'
      rw [sRd_read_76 hc5]
      refine c_require (c := c2) hR5 (fun M6 hR6 hO6 => ?_)
      simp only [sRd_read_79, sRd_read_80, sRd_read_81, xk_i, xk_l, xk_a, xk_n, xk_0, Option.toList_some, Option.toList_none, List.cons_append, List.nil_append]
      rw [sRd_read_82 hR6.2.1.2.2.2.1]
      refine c_clearRows hR6.2.1 (fun M7 hT7 hO7 => ?_)
      have hR7 := hR6.cleared hT7 hO7
      have oW7 : OnlyW M6 M7 rd t := fun q _ q2 => hO7 q (by omega)
      obtain ⟨⟨fs7, hc7⟩, -, -, -⟩ := hR7.cells
      simp only [sRd_read_85, xk_i, xk_l, xk_a, xk_n, xk_0, Option.toList_some, Option.toList_none, List.cons_append, List.nil_append]
      rw [sRd_read_86 hc7]
      refine c_nextVarint hR7 (fun M8 cn ps8 hcn hR8 hP8 hO8 => ?_)
      obtain ⟨⟨fs8, hc8⟩, -, -, -⟩ := hR8.cells
      simp only [sRd_read_89, sRd_read_91, sRd_read_92, sRd_read_94, sRd_read_96, sRd_read_99, sRd_read_100, sRd_read_103, xk_i, xk_l, xk_a, xk_n, xk_0, Option.toList_some, Option.toList_none, List.cons_append, List.nil_append]
      have fin3 : ∀ c : Bool, (c = true ↔ cn ≤ 30) → WP (d + 6) mRd_read 104 [some (.ref rd), some (.ref t), some (.int (nI lw)), some (.int (nI hg)), some (.int (nI cn)), none, none] [.int (nI (if c = true then 1 else 0)), .ref rd] M8 z w Q := by
        intro c3 hc3'
        rw [sRd_read_104 hc8]
        refine c_require (c := c3) hR8 (fun M9 hR9 hO9 => ?_)
        simp only [sRd_read_107, sRd_read_108, xk_i, xk_l, xk_a, xk_n, xk_0, Option.toList_some, Option.toList_none, List.cons_append, List.nil_append]
        refine read_recs hlw hhg hcn cn 0 0 M9 [] _ none (fun hs => ⟨by omega, (by
          cases c3 with
          | true => exact hc3'.mp rfl
          | false => cases hs), rfl, by decide, rfl⟩) (by simp) (by omega) hR9 (fun M10 recs' ps10 x5 hl10 hR10 hP10 hO10 => ?_)
        obtain ⟨⟨fs10, hc10⟩, -, -, -⟩ := hR10.cells
        simp only [sRd_read_136]
        rw [sRd_read_137 hc10]
        refine c_nextVarint hR10 (fun M11 lg ps11 hlg hR11 hP11 hO11 => ?_)
        obtain ⟨⟨fs11, hc11⟩, -, -, -⟩ := hR11.cells
        simp only [sRd_read_140, sRd_read_142, sRd_read_143, sRd_read_145, sRd_read_147, sRd_read_150, sRd_read_151, sRd_read_154, xk_i, xk_l, xk_a, xk_n, xk_0, Option.toList_some, Option.toList_none, List.cons_append, List.nil_append]
        have fin4 : ∀ c : Bool, (c = true ↔ lg ≤ 40) → WP (d + 6) mRd_read 155 [some (.ref rd), some (.ref t), some (.int (nI lw)), some (.int (nI hg)), some (.int (nI cn)), some (.int (nI lg)), none] [.int (nI (if c = true then 1 else 0)), .ref rd] M11 z w Q := by
          intro c4 hc4'
          rw [sRd_read_155 hc11]
          refine c_require (c := c4) hR11 (fun M12 hR12 hO12 => ?_)
          simp only [sRd_read_158, sRd_read_159, xk_i, xk_l, xk_a, xk_n, xk_0, Option.toList_some, Option.toList_none, List.cons_append, List.nil_append]
          refine read_ents hlw hhg hlg lg 0 0 0 M12 [] _ (fun hs => ⟨by omega, (by
            cases c4 with
            | true => exact hc4'.mp rfl
            | false => cases hs), rfl, by decide, rfl, by decide, fun q => absurd rfl q⟩) (by simp) (by omega) hR12 (fun M13 ents' ps13 x6 hl13 hR13 hP13 hO13 => ?_)
          have hH : PR hD (some (bs.take (bs.length - 2))) (fun T => nI lw = nI T.1 ∧ nI hg = nI T.2.1 ∧ recs' = T.2.2.1.map rawR ∧ ents' = T.2.2.2.map rawE) ps13 := by
            refine PR.seq (a := b) (f := fun b l => if b = 82 then (vD l).bind fun lw => (vD lw.2).bind fun hg => if 1 ≤ lw.1 ∧ lw.1 ≤ hg.1 ∧ hg.1 ≤ 2000 then (vD hg.2).bind fun cn => if cn.1 ≤ 30 then (rsD lw.1 hg.1 cn.1 0 0 cn.2).bind fun R => (vD R.2).bind fun lg => if lg.1 ≤ 40 then (esD lw.1 hg.1 lg.1 0 0 0 lg.2).bind fun E => some ((lw.1, hg.1, R.1, E.1), E.2) else none else none else none else none) hP2 (fun x hx => hx.symm) ?_
            refine PR.grd (c := b = 82) ?_
            simp only [hc1'] at hP4
            refine PR.seq (a := lw) (f := fun lw l => (vD l).bind fun hg => if 1 ≤ lw ∧ lw ≤ hg.1 ∧ hg.1 ≤ 2000 then (vD hg.2).bind fun cn => if cn.1 ≤ 30 then (rsD lw hg.1 cn.1 0 0 cn.2).bind fun R => (vD R.2).bind fun lg => if lg.1 ≤ 40 then (esD lw hg.1 lg.1 0 0 0 lg.2).bind fun E => some ((lw, hg.1, R.1, E.1), E.2) else none else none else none) hP4 (fun x hx => hx.symm) ?_
            refine PR.seq (a := hg) (f := fun hg l => if 1 ≤ lw ∧ lw ≤ hg ∧ hg ≤ 2000 then (vD l).bind fun cn => if cn.1 ≤ 30 then (rsD lw hg cn.1 0 0 cn.2).bind fun R => (vD R.2).bind fun lg => if lg.1 ≤ 40 then (esD lw hg lg.1 0 0 0 lg.2).bind fun E => some ((lw, hg, R.1, E.1), E.2) else none else none else none) hP5 (fun x hx => hx.symm) ?_
            refine PR.grd (c := 1 ≤ lw ∧ lw ≤ hg ∧ hg ≤ 2000) ?_
            simp only [hc2'] at hP8
            refine PR.seq (a := cn) (f := fun cn l => if cn ≤ 30 then (rsD lw hg cn 0 0 l).bind fun R => (vD R.2).bind fun lg => if lg.1 ≤ 40 then (esD lw hg lg.1 0 0 0 lg.2).bind fun E => some ((lw, hg, R.1, E.1), E.2) else none else none) hP8 (fun x hx => hx.symm) ?_
            refine PR.grd (c := cn ≤ 30) ?_
            simp only [hc3', List.nil_append] at hP10
            generalize (if cn ≤ 30 then ps8 else none) = ps9 at hP10 ⊢
            cases ps9 with
            | none =>
              rw [hP10.no] at hP11
              rw [hP11.no] at hP13
              have : (if c4 = true then none else none : Option (List Nat)) = none := (by split <;> rfl)
              rw [this] at hP13
              rw [hP13.no]; rfl
            | some l9 =>
              unfold PR
              rw [Option.bind_some]
              rcases hP10.so with ⟨q10, e1, e2, e3⟩ | ⟨e1, e2⟩
              · rw [e1, Option.bind_some]
                rw [e3] at hP11
                rcases hP11.so with ⟨q11, g1, g2, g3⟩ | ⟨g1, g2⟩
                · rw [g1, Option.bind_some]
                  by_cases hl40 : q11.1 ≤ 40
                  · rw [if_pos hl40]
                    rw [if_pos (hc4'.mpr (by omega)), g3, g2] at hP13
                    rcases hP13.so with ⟨q13, j1, j2, j3⟩ | ⟨j1, j2⟩
                    · rw [j1, Option.bind_some]
                      exact ⟨⟨rfl, rfl, e2, by simpa using j2⟩, j3⟩
                    · rw [j1]; exact j2
                  · rw [if_neg hl40]
                    rw [if_neg (fun q => hl40 (by have := hc4'.mp q; omega))] at hP13
                    exact hP13.no
                · rw [g1]
                  rw [g2] at hP13
                  have : (if c4 = true then none else none : Option (List Nat)) = none := (by split <;> rfl)
                  rw [this] at hP13
                  exact hP13.no
              · rw [e1]
                rw [e2] at hP11
                rw [hP11.no] at hP13
                have : (if c4 = true then none else none : Option (List Nat)) = none := (by split <;> rfl)
                rw [this] at hP13
                exact hP13.no
          have oAll : OnlyW M M13 rd t := ((oM.trans hO2).trans (hO3.trans hO4)).trans (((hO5.trans hO6).trans (oW7.trans hO8)).trans (((hO9.trans hO10).trans (hO11.trans hO12)).trans hO13))
          have hR13' := hR13
          obtain ⟨-, hT13, -, pos, hpos, h513, hrem⟩ := hR13'
          have qp := nI_eq (a := pos) (b := bs.length - 2) (by omega) (by omega)
          simp only [sRd_read_187, sRd_read_188, sRd_read_189 h513 rfl, sRd_read_192, sRd_read_193 h513 rfl, sRd_read_196, sRd_read_199, sRd_read_200, sRd_read_203, qp]
          have fin5 : ∀ c : Bool, (c = true ↔ pos = bs.length - 2) → WP (d + 6) mRd_read 204 [some (.ref rd), some (.ref t), some (.int (nI lw)), some (.int (nI hg)), some (.int (nI cn)), some (.int (nI lg)), some (.int x6)] [.int (nI (if c = true then 1 else 0)), .ref rd] M13 z w Q := by
            intro c5 hc5'
            rw [sRd_read_204 h513]
            refine c_require (c := c5) hR13 (fun M14 hR14 hO14 => ?_)
            obtain ⟨pos14, h514⟩ := hR14.fld
            have hT14 := hR14.2.1
            have fin6 : ∀ (c : Bool), (c = true ↔ (pT bs).isSome = true) → WP (d + 6) mRd_read 227 [some (.ref rd), some (.ref t), some (.int (nI lw)), some (.int (nI hg)), some (.int (nI cn)), some (.int (nI lg)), some (.int x6)] [.int (nI (if c = true then 1 else 0)), .ref t] M14 z w Q := by
              intro c6 hc6
              have hbb : nI (if c6 = true then 1 else 0) = 0 ∨ nI (if c6 = true then 1 else 0) = 1 := by cases c6; exact Or.inl rfl; exact Or.inr rfl
              rw [sRd_read_227 hT14.2.2.2.1 rfl hbb, sRd_read_230]
              have ec : c6 = (pT bs).isSome := by
                cases c6 with
                | true => exact (hc6.mp rfl).symm
                | false => cases hq : (pT bs).isSome with
                  | true => exact hc6.mpr hq
                  | false => rfl
              obtain ⟨g1, g2, ⟨bl', g3, g4, g5⟩, g6, g7, g8⟩ := hT14
              refine K _ (nI lw) (nI hg) recs' ents' ⟨g1, g2, ⟨bl', g3, by rw [xput_ne (by omega)]; exact g4, g5⟩, ?_, g7.kept (fun q a b => xput_ne (by omega)), g8.kept (fun q a b => xput_ne (by omega))⟩ (fun T hpT => ?_) ⟨_, _, _, (xput_ne (by omega)).trans h514⟩ (fun q q1 q2 => by rw [xput_ne (by omega)]; exact (oAll.trans hO14) q q1 q2)
              · rw [xput_same, ← ec]; rfl
              · unfold pT at hpT
                obtain ⟨qT, t1, t2⟩ := Option.bind_eq_some_iff.mp hpT
                unfold PR at hH
                rw [Option.bind_some, t1] at hH
                split at t2
                · cases t2; exact hH.1
                · cases t2
            simp only [sRd_read_207, sRd_read_208, sRd_read_209 h514 rfl, sRd_read_212, sRd_read_215, xk_i, xk_l, xk_a, xk_n, xk_0, Option.toList_some, Option.toList_none, List.cons_append, List.nil_append]
            -- what is known at the end
            cases hps : ps13 with
            | none =>
              have hno : (pT bs).isSome = false := by
                unfold PR at hH
                rw [Option.bind_some] at hH
                unfold pT
                cases hq : hD (bs.take (bs.length - 2)) with
                | none => rfl
                | some qT => rw [hq] at hH; rw [hps] at hH; cases hH.2
              have : (if c5 = true then none else none : Option (List Nat)).isNone = true := by split <;> rfl
              rw [if_neg (by rw [this]; decide)]
              simp only [sRd_read_226]
              exact fin6 false (by rw [hno])
            | some rem =>
              have hrem2 := hrem rem hps
              have hemp : rem = [] ↔ pos = bs.length - 2 := by
                rw [hrem2]
                constructor
                · intro q
                  have := congrArg List.length q
                  simp at this
                  omega
                · intro q
                  rw [q]
                  exact List.drop_eq_nil_of_le (by simp)
              unfold PR at hH
              rw [Option.bind_some] at hH
              by_cases hpe : pos = bs.length - 2
              · have c5t := hc5'.mpr hpe
                rw [c5t, if_pos rfl]
                rw [c5t, if_pos rfl, hps] at hR14
                rw [if_pos (show nI (if (some rem).isNone = true then 1 else 0) = nI 0 from rfl), sRd_read_216 h514, c_checkIsRight hR14]
                simp only [xk_i, xk_l, xk_a, xk_n, xk_0, Option.toList_some, Option.toList_none, List.cons_append, List.nil_append]
                cases hq : hD (bs.take (bs.length - 2)) with
                | none => rw [hq] at hH; rw [hps] at hH; cases hH
                | some qT =>
                  rw [hq] at hH
                  have e2 : qT.2 = [] := by have := hH.2; rw [hps] at this; cases this; exact hemp.mpr hpe
                  have ep : (pT bs).isSome = true ↔ crc (bs.take (bs.length - 2)) = bs.getD (bs.length - 2) 0 * 256 + bs.getD (bs.length - 1) 0 := by
                    unfold pT
                    rw [hq, Option.bind_some]
                    by_cases hcr : crc (bs.take (bs.length - 2)) = bs.getD (bs.length - 2) 0 * 256 + bs.getD (bs.length - 1) 0
                    · rw [if_pos ⟨e2, hcr⟩]; simp [hcr]
                    · rw [if_neg (fun z => hcr z.2)]; exact ⟨fun z => (by cases z), fun z => absurd z hcr⟩
                  by_cases hcr : crc (bs.take (bs.length - 2)) = bs.getD (bs.length - 2) 0 * 256 + bs.getD (bs.length - 1) 0
                  · rw [if_pos hcr]
                    simp only [sRd_read_219, sRd_read_222, sRd_read_223]
                    rw [if_neg (by decide)]
                    exact fin6 true (by rw [ep]; simp [hcr])
                  · rw [if_neg hcr]
                    simp only [sRd_read_219, sRd_read_222, sRd_read_223, sRd_read_226]
                    rw [if_pos (by decide)]
                    exact fin6 false (by rw [ep]; exact ⟨fun z => (by cases z), fun z => absurd z hcr⟩)
              · have c5f : c5 = false := by cases c5; rfl; exact absurd (hc5'.mp rfl) hpe
                rw [c5f, if_neg Bool.false_ne_true, if_neg (show ¬ nI (if (none : Option (List Nat)).isNone = true then 1 else 0) = nI 0 by decide)]
                simp only [sRd_read_226]
                refine fin6 false ?_
                have : (pT bs).isSome = false := by
                  unfold pT
                  cases hq : hD (bs.take (bs.length - 2)) with
                  | none => rfl
                  | some qT =>
                    rw [hq] at hH
                    rw [Option.bind_some, if_neg]
                    · rfl
                    · rintro ⟨z1, -⟩
                      have := hH.2
                      rw [hps, z1] at this
                      cases this
                      exact hpe (hemp.mp rfl)
                rw [this]
          by_cases hl : pos = bs.length - 2
          · rw [if_pos hl]; exact fin5 true (by simp [hl])
          · rw [if_neg hl]; exact fin5 false (by simp [hl])
        by_cases hl : lg ≤ 40
        · rw [if_neg (nI_nlt hl (by omega))]; exact fin4 true (by simp [hl])
        · rw [if_pos (nI_lt (by omega) (by omega))]; exact fin4 false (by simp [hl])
      by_cases hl : cn ≤ 30
      · rw [if_neg (nI_nlt hl (by omega))]; exact fin3 true (by simp [hl])
      · rw [if_pos (nI_lt (by omega) (by omega))]; exact fin3 false (by simp [hl])
    by_cases h1 : lw < 1
    · rw [if_pos (nI_lt h1 (by omega))]; exact fin2 false (by simp; omega)
    · rw [if_neg (nI_nlt (by omega) (by omega))]
      by_cases h3 : lw ≤ hg
      · rw [if_neg (nI_nlt h3 (by omega))]
        by_cases h4 : hg ≤ 2000
        · rw [if_neg (nI_nlt h4 (by omega))]; exact fin2 true (by simp; omega)
        · rw [if_pos (nI_lt (by omega) (by omega))]; exact fin2 false (by simp; omega)
      · rw [if_pos (nI_lt (by omega) (by omega))]; exact fin2 false (by simp; omega)
  by_cases hl : b = 82
  · rw [if_pos hl]; exact fin1 true (by simp [hl])
  · rw [if_neg hl]; exact fin1 false (by simp [hl])
end RD5
