/-! RefStack$Walk: step, stepToOther, and what a walk has before it -/
section WL2
variable {d a : Nat} {tm : Bool} {D : Nat → Prop} {srcs : List wsrc} {cur : xrow} {M : xM} {z w : Nat} {Q : Option Value → xM → Nat → Nat → Prop}
theorem srm_head {s : wsrc} {h : xrow} (hh : s.2.2.1[s.2.2.2]? = some h) : srm s = h :: srm (s.1, s.2.1, s.2.2.1, s.2.2.2 + 1) := by
  have hl := (List.getElem?_eq_some_iff.mp hh)
  unfold srm
  rw [List.drop_eq_getElem_cons hl.1, hl.2]
theorem srm_nil {s : wsrc} (h : s.2.2.1.length ≤ s.2.2.2) : srm s = [] := List.drop_eq_nil_of_le h
theorem srm_sT {s : wsrc} (h : sT (fW tm) s.2.2.1) : sT (fW tm) (srm s) := List.Pairwise.sublist (List.drop_sublist _ _) h
theorem wrem_split {j : Nat} {s : wsrc} (hs : srcs[j]? = some s) : wrem srcs = wrem (srcs.take j) ++ (srm s ++ wrem (srcs.drop (j + 1))) := by
  have hl := List.getElem?_eq_some_iff.mp hs
  have e : srcs = srcs.take j ++ s :: srcs.drop (j + 1) := by
    rw [← hl.2, List.getElem_cons_drop, List.take_append_drop]
  unfold wrem
  conv => lhs; rw [e]
  rw [List.flatMap_append, List.flatMap_cons]
theorem wrem_set {j : Nat} {s s' : wsrc} (hs : srcs[j]? = some s) : wrem (srcs.set j s') = wrem (srcs.take j) ++ (srm s' ++ wrem (srcs.drop (j + 1))) := by
  have hl := List.getElem?_eq_some_iff.mp hs
  have := wrem_split (srcs := srcs.set j s') (j := j) (s := s') (by rw [List.getElem?_set_self hl.1])
  rw [this, List.take_set_of_le (Nat.le_refl _), List.drop_set_of_lt (by omega)]
theorem mem_wrem {x : xrow} (h : x ∈ wrem srcs) : ∃ (q : Nat) (s : wsrc), srcs[q]? = some s ∧ x ∈ srm s := by
  obtain ⟨s, h1, h2⟩ := List.mem_flatMap.mp h
  obtain ⟨q, hq⟩ := List.mem_iff_getElem?.mp h1
  exact ⟨q, s, hq, h2⟩
set_option maxHeartbeats 1000000 in
theorem c_step0 (h : WkAt M a tm D srcs cur) (K0 : wrem srcs = [] → Q (some (.int (nI 0))) M z w)
    (K1 : ∀ M' srcs' h, sS (fW tm) (wrem srcs) = h :: sS (fW tm) (wrem srcs') → rok h → WkAt M' a tm D srcs' h → Only M M' a 3 → srcs'.length = srcs.length → Q (some (.int (nI 1))) M' z w) : WP (d + 1) mWk_step 0 [some (.ref a), none, none, none, none] [] M z w Q := by
  simp only [sWk_step_0, sWk_step_1n, sWk_step_2, sWk_step_3, sWk_step_4, sWk_step_5, xk_i, xk_l, xk_a, xk_n, xk_0, Option.toList_some, Option.toList_none, List.cons_append, List.nil_append]
  refine step_loop (d := d) h (fun b x4 hb => ?_) srcs.length 0 none none (by omega) (fun q s hq => absurd hq (by omega))
  obtain ⟨k1, k2, arr, nx, k3, k4, k5, k6, k7⟩ := h
  cases b with
  | none =>
    simp only [bV, sWk_step_81n, sWk_step_82n, sWk_step_85, sWk_step_86 xb0, sWk_step_86 xb1]
    refine K0 ?_
    unfold wrem
    rw [List.flatMap_eq_nil_iff]
    intro s hs
    obtain ⟨q, hq⟩ := List.mem_iff_getElem?.mp hs
    exact srm_nil (hb q s (List.getElem?_eq_some_iff.mp hq).1 hq)
  | some j =>
    obtain ⟨hj, s, hd, hs, hh, hall⟩ := hb
    obtain ⟨j1, j2, j3, j4, j5, j6, j7, j8, j9⟩ := k7 j s hs
    have eV : bV srcs (some j) = .ref s.1 := by simp only [bV, hs, Option.map_some, Option.getD_some]
    have tj := nI_toInt (n := j) (by omega)
    rw [eV]
    simp only [sWk_step_81, sWk_step_82, sWk_step_85, sWk_step_86 xb0, sWk_step_86 xb1, sWk_step_87, sWk_step_88 k1 rfl, sWk_step_91, sWk_step_92, Option.getD_some]
    rw [sWk_step_93 k6 tj (v := .int (nI s.2.2.2)) (by simp [j2])]
    simp only [sWk_step_94, sWk_step_95, sWk_step_96, nI_add]
    rw [sWk_step_97 k6 tj (by simp; omega), vi_set]
    have hl := (List.getElem?_eq_some_iff.mp hh).1
    obtain ⟨kl, tl, vs, p1, p2, p3, p4, p5, p6, p7, p8⟩ := j3.at hh
    have trow := nI_toInt (n := s.2.2.2) (by omega)
    have hcell := j3.cell
    have ne : ∀ q, s.1 ≤ q → q < s.1 + 4 → q ≠ a ∧ q ≠ a + 1 ∧ q ≠ a + 2 := fun q q1 q2 => by omega
    have m1 : xput M (a + 2) (20, vi (nx.set j (nI (s.2.2.2 + 1)))) a = M a := xput_ne (by omega)
    generalize hM1 : xput M (a + 2) (20, vi (nx.set j (nI (s.2.2.2 + 1)))) = M1 at m1 ⊢
    have o1 : ∀ q, q ≠ a + 2 → M1 q = M q := fun q hq => by rw [← hM1, xput_ne hq]
    have m2 : M1 (a + 2) = some (20, vi (nx.set j (nI (s.2.2.2 + 1)))) := by rw [← hM1, xput_same]
    have g1 := m1.trans k1
    have gc : M1 s.1 = _ := (o1 _ (ne _ (by omega) (by omega)).2.2).trans hcell
    simp only [sWk_step_98, sWk_step_99, sWk_step_100, xk_i, xk_l, xk_a, xk_n, xk_0, Option.toList_some, Option.toList_none, List.cons_append, List.nil_append]
    rw [sWk_step_101 gc rfl, sWk_step_104, sWk_step_105 ((o1 _ (ne _ (by omega) (by omega)).2.2).trans p1) trow p2, sWk_step_106 g1 rfl, sWk_step_109, sWk_step_110]
    rw [sWk_step_111 ((xput_ne (ne _ (by omega) (by omega)).1).trans gc) rfl, sWk_step_114, sWk_step_115 ((xput_ne (ne _ (by omega) (by omega)).1).trans ((o1 _ (ne _ (by omega) (by omega)).2.2).trans p3)) trow p4, sWk_step_116 xput_same rfl, sWk_step_119, sWk_step_120]
    rw [sWk_step_121 ((xput_ne (ne _ (by omega) (by omega)).1).trans ((xput_ne (ne _ (by omega) (by omega)).1).trans gc)) rfl, sWk_step_124, sWk_step_125 ((xput_ne (ne _ (by omega) (by omega)).1).trans ((xput_ne (ne _ (by omega) (by omega)).1).trans ((o1 _ (ne _ (by omega) (by omega)).2.2).trans p5))) trow p6, sWk_step_126 xput_same rfl, sWk_step_129, sWk_step_130 xb1]
    generalize hM2 : xput (xput (xput M1 a _) a _) a _ = M2
    have o2 : ∀ q, q ≠ a → M2 q = M1 q := fun q hq => by rw [← hM2, xput_ne hq, xput_ne hq, xput_ne hq]
    have lset : (srcs.set j (s.1, s.2.1, s.2.2.1, s.2.2.2 + 1)).length = srcs.length := List.length_set
    refine K1 M2 (srcs.set j (s.1, s.2.1, s.2.2.1, s.2.2.2 + 1)) hd ?_ (j8 _ (List.mem_of_getElem? hh)) ?_ (fun q hq => by rw [o2 q (by omega), o1 q (by omega)]) lset
    · rw [wrem_split hs, wrem_set hs, srm_head hh, List.cons_append]
      refine sS_min (fun b hb => ?_) (fun x hx => ?_)
      · rcases List.mem_append.mp hb with hb | hb
        · have := srm_sT (tm := tm) (s := s) j7
          rw [srm_head hh] at this
          exact Nat.le_of_lt ((List.pairwise_cons.mp this).1 b hb)
        · obtain ⟨q, s', hs', hb'⟩ := mem_wrem hb
          rw [List.getElem?_drop] at hs'
          cases hq : s'.2.2.1[s'.2.2.2]? with
          | none => rw [srm_nil (List.getElem?_eq_none_iff.mp hq)] at hb'; cases hb'
          | some h' =>
            have h1 := (hall _ s' h' (List.getElem?_eq_some_iff.mp hs').1 hs' hq).1
            have h2 := srm_sT (tm := tm) (s := s') (k7 _ s' hs').2.2.2.2.2.2.1
            rw [srm_head hq] at h2 hb'
            rcases List.mem_cons.mp hb' with rfl | hb'
            · exact h1
            · exact Nat.le_trans h1 (Nat.le_of_lt ((List.pairwise_cons.mp h2).1 b hb'))
      · obtain ⟨q, s', hs', hb'⟩ := mem_wrem hx
        rw [List.getElem?_take] at hs'
        split at hs'
        · rename_i hqj
          cases hq : s'.2.2.1[s'.2.2.2]? with
          | none => rw [srm_nil (List.getElem?_eq_none_iff.mp hq)] at hb'; cases hb'
          | some h' =>
            have h1 := (hall _ s' h' (List.getElem?_eq_some_iff.mp hs').1 hs' hq).2 hqj
            have h2 := srm_sT (tm := tm) (s := s') (k7 _ s' hs').2.2.2.2.2.2.1
            rw [srm_head hq] at h2 hb'
            rcases List.mem_cons.mp hb' with rfl | hb'
            · exact h1
            · exact Nat.lt_trans h1 ((List.pairwise_cons.mp h2).1 x hb')
        · cases hs'
    · refine ⟨by rw [← hM2, xput_same, lset]; rfl, by rw [lset]; exact k2, arr, nx.set j (nI (s.2.2.2 + 1)), k3, by simp [k4], ?_, ?_, fun i s' hs' => ?_⟩
      · rw [o2 _ (by omega), o1 _ (by omega)]; exact k5
      · rw [o2 _ (by omega)]; exact m2
      · have rk : ∀ {r n : Nat} {l : List xrow}, RowsAt M r n l → (r + 4 ≤ a ∨ a + 3 ≤ r) → RowsAt M2 r n l := fun hr hq => hr.kept (fun q q1 q2 => by rw [o2 q (by omega), o1 q (by omega)])
        by_cases hij : i = j
        · subst hij
          rw [List.getElem?_set_self (by omega)] at hs'
          cases hs'
          exact ⟨j1, by rw [List.getElem?_set_self (by omega)], rk j3 j6, by show s.2.2.2 + 1 ≤ s.2.2.1.length; omega, j5, j6, j7, j8, j9⟩
        · rw [List.getElem?_set_ne (fun q => hij q.symm)] at hs'
          obtain ⟨i1, i2, i3, i4, i5, i6, i7, i8, i9⟩ := k7 i s' hs'
          exact ⟨i1, by rw [List.getElem?_set_ne (fun q => hij q.symm)]; exact i2, rk i3 i6, i4, i5, i6, i7, i8, i9⟩
/-- a walk that has the rows S before it, sorted -/
def WkS (M : xM) (a : Nat) (tm : Bool) (D : Nat → Prop) (cur : xrow) (S : List xrow) : Prop := ∃ srcs, WkAt M a tm D srcs cur ∧ S = sS (fW tm) (wrem srcs) ∧ S.length ≤ 360 ∧ tN cur.2.1 < 2 ^ 31
theorem WkS.kept {M M' : xM} {S : List xrow} (h : WkS M a tm D cur S) (h1 : ∀ q, a ≤ q → q < a + 3 → M' q = M q) (h2 : ∀ q, D q → M' q = M q) : WkS M' a tm D cur S := by
  obtain ⟨srcs, k1, k2⟩ := h
  exact ⟨srcs, k1.kept h1 h2, k2⟩
theorem c_step {S : List xrow} (h : WkS M a tm D cur S) (K0 : S = [] → Q (some (.int (nI 0))) M z w)
    (K1 : ∀ M' h S', S = h :: S' → rok h → WkS M' a tm D h S' → Only M M' a 3 → Q (some (.int (nI 1))) M' z w) : WP (d + 1) mWk_step 0 [some (.ref a), none, none, none, none] [] M z w Q := by
  obtain ⟨srcs, k1, rfl, k3, k4⟩ := h
  refine c_step0 k1 (fun h0 => K0 (by rw [h0]; rfl)) (fun M' srcs' hd e ho hw hO hl => K1 M' hd _ e ho ⟨srcs', hw, rfl, ?_, ho.2.2⟩ hO)
  rw [e] at k3
  simp only [List.length_cons] at k3
  omega
/-- at most one row of each source is equal to v -/
theorem eq_one {tm : Bool} {v : Nat} : ∀ {l : List xrow}, sT (fW tm) l → (l.filter (fun x => fW tm x == v)).length ≤ 1
  | [], _ => by simp
  | x :: t, h => by
    have h1 := (List.pairwise_cons.mp h).1
    by_cases hx : fW tm x = v
    · rw [List.filter_cons_of_pos (by simp [hx])]
      have : t.filter (fun x => fW tm x == v) = [] := by
        rw [List.filter_eq_nil_iff]
        intro y hy
        have := h1 y hy
        simp only [beq_iff_eq]
        omega
      rw [this]
      simp
    · rw [List.filter_cons_of_neg (by simp [hx])]
      exact eq_one (List.pairwise_cons.mp h).2
theorem eq_all {tm : Bool} {v : Nat} : ∀ {srcs : List wsrc}, (∀ s ∈ srcs, sT (fW tm) (srm s)) → ((wrem srcs).filter (fun x => fW tm x == v)).length ≤ srcs.length
  | [], _ => by simp [wrem]
  | s :: t, h => by
    have e : wrem (s :: t) = srm s ++ wrem t := by unfold wrem; rw [List.flatMap_cons]
    rw [e, List.filter_append, List.length_append, List.length_cons]
    have h1 := eq_one (v := v) (h s List.mem_cons_self)
    have h2 := eq_all (v := v) (fun x hx => h x (List.mem_cons_of_mem _ hx))
    omega
theorem insS_cnt {p : xrow → Bool} {x : xrow} : ∀ {l : List xrow}, ((insS (fW tm) x l).filter p).length = ((x :: l).filter p).length
  | [] => rfl
  | y :: t => by
    unfold insS
    split
    · rfl
    · by_cases hy : p y = true
      · rw [List.filter_cons_of_pos hy, List.length_cons, insS_cnt]
        by_cases hx : p x = true
        · rw [List.filter_cons_of_pos hx, List.filter_cons_of_pos hx, List.filter_cons_of_pos hy]; rfl
        · rw [List.filter_cons_of_neg hx, List.filter_cons_of_neg hx, List.filter_cons_of_pos hy]; rfl
      · rw [List.filter_cons_of_neg hy, insS_cnt]
        by_cases hx : p x = true
        · rw [List.filter_cons_of_pos hx, List.filter_cons_of_pos hx, List.filter_cons_of_neg hy]
        · rw [List.filter_cons_of_neg hx, List.filter_cons_of_neg hx, List.filter_cons_of_neg hy]
theorem sS_cnt {p : xrow → Bool} : ∀ {l : List xrow}, ((sS (fW tm) l).filter p).length = (l.filter p).length
  | [] => rfl
  | x :: t => by
    show ((insS (fW tm) x (sS (fW tm) t)).filter p).length = _
    rw [insS_cnt]
    by_cases hx : p x = true
    · rw [List.filter_cons_of_pos hx, List.filter_cons_of_pos hx, List.length_cons, List.length_cons, sS_cnt]
    · rw [List.filter_cons_of_neg hx, List.filter_cons_of_neg hx, sS_cnt]
theorem WkAt.cell (h : WkAt M a tm D srcs cur) : M a = some (6, [.int (nI (if tm = true then 1 else 0)), .ref (a + 1), .ref (a + 2), .int (nI srcs.length), .long cur.1, .int cur.2.1, .long cur.2.2]) := h.1
theorem Only.trans {M M1 M2 : xM} {a n : Nat} (h : Only M M1 a n) (h2 : Only M1 M2 a n) : Only M M2 a n := fun q hq => (h2 q hq).trans (h q hq)
theorem sto_loop {c : xrow} {n : Nat} {P : List xrow} (hc : tN c.2.1 < 2 ^ 31) (hn : n ≤ 9) {M0 : xM}
    (K0 : P = [] → ∀ M' cur', WkS M' a tm D cur' [] → Only M0 M' a 3 → Q (some (.int (nI 0))) M' z w)
    (K1 : ∀ M' h S', P = h :: dda (fW tm) (fW tm h) S' → rok h → WkS M' a tm D h S' → Only M0 M' a 3 → Q (some (.int (nI 1))) M' z w) :
    ∀ (S : List xrow) (i : Nat) (M : xM) (srcs : List wsrc) (cur : xrow), WkAt M a tm D srcs cur → S = sS (fW tm) (wrem srcs) → S.length ≤ 360 → tN cur.2.1 < 2 ^ 31 → srcs.length = n → Only M0 M a 3 → P = dda (fW tm) (fW tm c) S → i + (S.filter (fun x => fW tm x == fW tm c)).length ≤ n →
    WP (d + 2) mWk_stepToOther 13 [some (.ref a), some (.long c.1), none, some (.int c.2.1), some (.int (nI i))] [] M z w Q := by
  intro S
  induction S with
  | nil =>
    intro i M srcs cur h hS hSl hcur hlen hO hP hi
    have k1 := h.cell
    rw [sWk_stepToOther_13]
    simp only [sWk_stepToOther_15, sWk_stepToOther_16 k1 rfl, sWk_stepToOther_19, sWk_stepToOther_22]
    rw [if_neg (nI_nlt (by omega) (by omega)), sWk_stepToOther_23 k1]
    refine c_step0 h (fun h0 => ?_) (fun M' srcs' hd e ho hw hO' hl => ?_)
    · simp only [sWk_stepToOther_26, sWk_stepToOther_29, sWk_stepToOther_30 xb0, sWk_stepToOther_30 xb1, xk_i, xk_l, xk_a, xk_n, xk_0, Option.toList_some, Option.toList_none, List.cons_append, List.nil_append]
      rw [if_pos (by decide)]
      exact K0 (by rw [hP]; rfl) M cur ⟨srcs, h, hS, hSl, hcur⟩ hO
    · rw [← hS] at e; cases e
  | cons x S ih =>
    intro i M srcs cur h hS hSl hcur hlen hO hP hi
    have k1 := h.cell
    rw [sWk_stepToOther_13]
    simp only [sWk_stepToOther_15, sWk_stepToOther_16 k1 rfl, sWk_stepToOther_19, sWk_stepToOther_22]
    rw [if_neg (nI_nlt (by omega) (by omega)), sWk_stepToOther_23 k1]
    refine c_step0 h (fun h0 => ?_) (fun M' srcs' hd e ho hw hO' hl => ?_)
    · rw [h0] at hS; cases hS
    · rw [← hS] at e
      simp only [List.cons.injEq] at e
      obtain ⟨e1, e2⟩ := e
      subst e1
      have k2 := hw.cell
      have hSl' : S.length ≤ 360 := by simp only [List.length_cons] at hSl; omega
      simp only [sWk_stepToOther_26, sWk_stepToOther_29, sWk_stepToOther_30 xb0, sWk_stepToOther_30 xb1, xk_i, xk_l, xk_a, xk_n, xk_0, Option.toList_some, Option.toList_none, List.cons_append, List.nil_append]
      rw [if_neg (by decide)]
      have hq := fW_eq (tm := tm) (r := x) (s := c) ho.2.2 hc
      simp only [sWk_stepToOther_31, sWk_stepToOther_32 k2 rfl, sWk_stepToOther_35, sWk_stepToOther_36, sWk_stepToOther_37, lcmp_eq, lcmp_lt, lcmp_ge, lcmp_gt, lcmp_le]
      have fin : fW tm x ≠ fW tm c → WP (d + 2) mWk_stepToOther 55 [some (.ref a), some (.long c.1), none, some (.int c.2.1), some (.int (nI i))] [] M' z w Q := by
        intro hne
        simp only [sWk_stepToOther_55, sWk_stepToOther_56 xb0, sWk_stepToOther_56 xb1]
        refine K1 M' x S ?_ ho ⟨srcs', hw, e2, hSl', ho.2.2⟩ (hO.trans hO')
        rw [hP]
        conv => lhs; unfold dda
        rw [if_neg hne]
      have nxt : fW tm x = fW tm c → WP (d + 2) mWk_stepToOther 57 [some (.ref a), some (.long c.1), none, some (.int c.2.1), some (.int (nI i))] [] M' z w Q := by
        intro he
        simp only [sWk_stepToOther_57, sWk_stepToOther_60, nI_add]
        refine ih (i + 1) M' srcs' x hw e2 hSl' ho.2.2 (by omega) (hO.trans hO') ?_ ?_
        · rw [hP]
          conv => lhs; unfold dda
          rw [if_pos he]
        · rw [List.filter_cons_of_pos (by simp [he])] at hi
          simp only [List.length_cons] at hi
          omega
      by_cases hk : x.1 = c.1
      · rw [if_pos hk]
        simp only [sWk_stepToOther_40, sWk_stepToOther_41 k2 rfl, sWk_stepToOther_44, sWk_stepToOther_47, sWk_stepToOther_48 k2 rfl, sWk_stepToOther_51, sWk_stepToOther_52]
        cases tm with
        | false =>
          rw [if_pos (show nI (if false = true then 1 else 0) = nI 0 from rfl)]
          exact nxt (hq.mpr ⟨hk, fun z => by cases z⟩)
        | true =>
          rw [if_neg (by decide)]
          by_cases ht : x.2.1 = c.2.1
          · rw [if_pos ht]; exact nxt (hq.mpr ⟨hk, fun _ => ht⟩)
          · rw [if_neg ht]; exact fin (fun z => ht ((hq.mp z).2 rfl))
      · rw [if_neg hk]
        exact fin (fun z => hk (hq.mp z).1)
/-- what stepToOther goes through -/
def WkP (M : xM) (a : Nat) (tm : Bool) (D : Nat → Prop) (cur : xrow) (P : List xrow) : Prop := ∃ S, WkS M a tm D cur S ∧ P = dda (fW tm) (fW tm cur) S
theorem WkP.kept {M M' : xM} {P : List xrow} (h : WkP M a tm D cur P) (h1 : ∀ q, a ≤ q → q < a + 3 → M' q = M q) (h2 : ∀ q, D q → M' q = M q) : WkP M' a tm D cur P := by
  obtain ⟨S, k1, k2⟩ := h
  exact ⟨S, k1.kept h1 h2, k2⟩
theorem WkP.len {P : List xrow} (h : WkP M a tm D cur P) : P.length ≤ 360 := by
  obtain ⟨S, ⟨srcs, k1, k2, k3, k4⟩, rfl⟩ := h
  exact Nat.le_trans dda_len k3
theorem WkP.cell {P : List xrow} (h : WkP M a tm D cur P) : ∃ n, M a = some (6, [.int (nI (if tm = true then 1 else 0)), .ref (a + 1), .ref (a + 2), .int n, .long cur.1, .int cur.2.1, .long cur.2.2]) := by
  obtain ⟨S, ⟨srcs, k1, k2, k3, k4⟩, rfl⟩ := h
  exact ⟨_, k1.1⟩
theorem WkS.cell {S : List xrow} (h : WkS M a tm D cur S) : ∃ n, M a = some (6, [.int (nI (if tm = true then 1 else 0)), .ref (a + 1), .ref (a + 2), .int n, .long cur.1, .int cur.2.1, .long cur.2.2]) := by
  obtain ⟨srcs, k1, k2, k3, k4⟩ := h
  exact ⟨_, k1.1⟩
theorem c_sto {P : List xrow} (h : WkP M a tm D cur P)
    (K0 : P = [] → ∀ M' cur', WkS M' a tm D cur' [] → Only M M' a 3 → Q (some (.int (nI 0))) M' z w)
    (K1 : ∀ M' h P', P = h :: P' → rok h → WkP M' a tm D h P' → Only M M' a 3 → Q (some (.int (nI 1))) M' z w) : WP (d + 2) mWk_stepToOther 0 [some (.ref a), none, none, none, none] [] M z w Q := by
  obtain ⟨S, ⟨srcs, k1, k2, k3, k4⟩, e⟩ := h
  have c1 := k1.cell
  simp only [sWk_stepToOther_0, sWk_stepToOther_1 c1 rfl, sWk_stepToOther_4, sWk_stepToOther_5, sWk_stepToOther_6 c1 rfl, sWk_stepToOther_9, sWk_stepToOther_10, sWk_stepToOther_11, xk_i, xk_l, xk_a, xk_n, xk_0, Option.toList_some, Option.toList_none, List.cons_append, List.nil_append]
  have hb := eq_all (tm := tm) (v := fW tm cur) (srcs := srcs) (fun s hs => by
    obtain ⟨q, hq⟩ := List.mem_iff_getElem?.mp hs
    obtain ⟨-, -, arr, nx, -, -, -, -, k7⟩ := k1
    exact srm_sT (k7 q s hq).2.2.2.2.2.2.1)
  refine sto_loop (M0 := M) (n := srcs.length) (P := P) k4 k1.2.1 K0 (fun M' h S' e1 ho hS hO => K1 M' h _ e1 ho ⟨S', hS, rfl⟩ hO) S 0 M srcs cur k1 k2 k3 k4 rfl (fun _ _ => rfl) e ?_
  rw [k2, sS_cnt]
  omega
end WL2
