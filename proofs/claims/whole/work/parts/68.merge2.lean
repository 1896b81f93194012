/-! RefStack$TableStack: clearForMerge, mergeRecords, mergeEntries -/
section MR2
variable {d s h : Nat} {L : List (Nat × tS)} {M : xM} {z w : Nat} {Q : Option Value → xM → Nat → Nat → Prop}
theorem TbAt.putR {M2 : xM} {t : Nat} {bs : List Nat} {lw hg : Int32} {wf : Bool} {rc rc2 en : List xrow} (hT : TbAt M (t, bs, lw, hg, wf, rc, en)) (hR : RowsAt M2 (t + 2) 30 rc2) (hO : Only M M2 (t + 2) 4) : TbAt M2 (t, bs, lw, hg, wf, rc2, en) := by
  obtain ⟨h1, h2, ⟨bl, h3, h4, h5⟩, h6, h7, h8⟩ := hT
  exact ⟨h1, h2, ⟨bl, h3, by rw [hO _ (by omega)]; exact h4, h5⟩, by rw [hO _ (by omega)]; exact h6, hR, RowsAt.kept h8 (fun q a b => hO q (by omega))⟩
theorem TbAt.putE {M2 : xM} {t : Nat} {bs : List Nat} {lw hg : Int32} {wf : Bool} {rc en en2 : List xrow} (hT : TbAt M (t, bs, lw, hg, wf, rc, en)) (hR : RowsAt M2 (t + 6) 40 en2) (hO : Only M M2 (t + 6) 4) : TbAt M2 (t, bs, lw, hg, wf, rc, en2) := by
  obtain ⟨h1, h2, ⟨bl, h3, h4, h5⟩, h6, h7, h8⟩ := hT
  exact ⟨h1, h2, ⟨bl, h3, by rw [hO _ (by omega)]; exact h4, h5⟩, by rw [hO _ (by omega)]; exact h6, RowsAt.kept h7 (fun q a b => hO q (by omega)), hR⟩
theorem cfm_loop {t lo : Nat} (hS : SkAt M s h L z) (K : WP (d + 2) mTs_clearForMerge 55 [some (.ref s), some (.ref t), some (.int (nI lo)), some (.int (((L.take h).drop lo).foldl (fun m e => mn32 m e.2.2.1) (nI 2000))), some (.int (((L.take h).drop lo).foldl (fun m e => mx32 m e.2.2.2.1) (nI 0))), some (.int (nI h))] [] M z w Q) : ∀ (r i : Nat) (lw hg : Int32), i + r = h → ((L.take h).drop i).foldl (fun m e => mn32 m e.2.2.1) lw = ((L.take h).drop lo).foldl (fun m e => mn32 m e.2.2.1) (nI 2000) → ((L.take h).drop i).foldl (fun m e => mx32 m e.2.2.2.1) hg = ((L.take h).drop lo).foldl (fun m e => mx32 m e.2.2.2.1) (nI 0) →
    WP (d + 2) mTs_clearForMerge 10 [some (.ref s), some (.ref t), some (.int (nI lo)), some (.int lw), some (.int hg), some (.int (nI i))] [] M z w Q := by
  have k1 := hS.1
  have hh := hS.2.2.2.2.2.2.1
  have h9 := hS.2.2.2.2.2.1
  intro r
  induction r with
  | zero =>
    intro i lw hg hi e1 e2
    have : i = h := by omega
    subst this
    rw [List.drop_eq_nil_of_le (by simp; omega)] at e1 e2
    rw [← e1, ← e2] at K
    rw [sTs_clearForMerge_10]
    simp only [sTs_clearForMerge_12, sTs_clearForMerge_13 k1 rfl, sTs_clearForMerge_16]
    rw [if_pos (nI_le (by omega) (by omega))]
    exact K
  | succ r ih =>
    intro i lw hg hi e1 e2
    have he : L[i]? = some L[i] := List.getElem?_eq_getElem (by omega)
    generalize L[i] = e at he
    rw [take_at (by omega) he, List.foldl_cons] at e1 e2
    have hc := (hS.tab he).cell
    rw [sTs_clearForMerge_10]
    simp only [sTs_clearForMerge_12, sTs_clearForMerge_13 k1 rfl, sTs_clearForMerge_16, sTs_clearForMerge_19, sTs_clearForMerge_20, sTs_clearForMerge_21]
    rw [if_neg (nI_ge (by omega) (by omega)), sTs_clearForMerge_23 k1, c_tableIn hS he]
    simp only [sTs_clearForMerge_26 hc rfl, sTs_clearForMerge_29, sTs_clearForMerge_32, sTs_clearForMerge_33, sTs_clearForMerge_35, sTs_clearForMerge_36, xk_i, xk_l, xk_a, xk_n, xk_0, Option.toList_some, Option.toList_none, List.cons_append, List.nil_append]
    rw [sTs_clearForMerge_38 k1, c_tableIn hS he]
    simp only [sTs_clearForMerge_41 hc rfl, sTs_clearForMerge_44, sTs_clearForMerge_47, sTs_clearForMerge_49, sTs_clearForMerge_52, xk_i, xk_l, xk_a, xk_n, xk_0, Option.toList_some, Option.toList_none, List.cons_append, List.nil_append, nI_add]
    exact ih (i + 1) _ _ (by omega) e1 e2
theorem c_clearForMerge {lo : Nat} {e : Nat × tS} (hS : SkAt M s h L z) (he : L[h]? = some e) (hlo : lo ≤ h) (K : ∀ M', SkAt M' s h (L.set h (e.1, e.2.1, ((L.take h).drop lo).foldl (fun m e => mn32 m e.2.2.1) (nI 2000), ((L.take h).drop lo).foldl (fun m e => mx32 m e.2.2.2.1) (nI 0), e.2.2.2.2.1, [], [])) z → Only M M' e.1 10 → Q none M' z w) :
    WP (d + 2) mTs_clearForMerge 0 [some (.ref s), some (.ref e.1), some (.int (nI lo)), none, none, none] [] M z w Q := by
  simp only [sTs_clearForMerge_0, sTs_clearForMerge_3, sTs_clearForMerge_4, sTs_clearForMerge_5, sTs_clearForMerge_7, sTs_clearForMerge_8, xk_i, xk_l, xk_a, xk_n, xk_0, Option.toList_some, Option.toList_none, List.cons_append, List.nil_append]
  refine cfm_loop (t := e.1) (lo := lo) hS ?_ (h - lo) lo _ _ (by omega) rfl rfl
  have hT := hS.tab he
  simp only [sTs_clearForMerge_55, sTs_clearForMerge_56, sTs_clearForMerge_57]
  rw [sTs_clearForMerge_59 hT.cell]
  refine c_clearRows hT (fun M1 hT1 hO1 => ?_)
  simp only [sTs_clearForMerge_62, xk_i, xk_l, xk_a, xk_n, xk_0, Option.toList_some, Option.toList_none, List.cons_append, List.nil_append]
  exact K M1 (hS.setT he hT1 hO1) hO1
/-- the table that is being made -/
abbrev mk1 (L : List (Nat × tS)) (h t : Nat) (bs : List Nat) (lw hg : Int32) (wf : Bool) (rc en : List xrow) : List (Nat × tS) := L.set h (t, bs, lw, hg, wf, rc, en)
def kpX (lo : Nat) (r : xrow) : Bool := !(decide (r.2.2 = lN 0) && decide (lo = 0))
def exX (tm : Int32) (r : xrow) : Bool := !decide (r.2.1 < tm)
theorem tk_set {h : Nat} {x : Nat × tS} : (L.set h x).take h = L.take h := List.take_set_of_le (Nat.le_refl _)
theorem wkD {h i : Nat} {e : Nat × tS} (hS : SkAt M s h L z) (he : L[h]? = some e) {lo : Nat} (hi : i ≤ h) : ∀ e' ∈ (L.take i).drop lo, ∀ q, e'.1 ≤ q → q < e'.1 + 10 → ¬ (e.1 ≤ q ∧ q < e.1 + 10) := by
  intro e' he' q q1 q2 hq
  obtain ⟨j, hj⟩ := List.mem_iff_getElem?.mp he'
  rw [List.getElem?_drop, List.getElem?_take] at hj
  split at hj
  · have := hS.2.2.2.2.2.2.2.2 _ h e' e (by omega) hj he
    omega
  · cases hj
set_option maxHeartbeats 1000000 in
theorem mrec_loop {lo t : Nat} {bs : List Nat} {lw hg : Int32} {wf : Bool} {en : List xrow} {M0 : xM} {F : List xrow} (hlo : lo < 2 ^ 31) (hh : h < L.length)
    (K1 : F.length ≤ 30 → ∀ M', SkAt M' s h (mk1 L h t bs lw hg wf F en) z → OnlyS M0 M' s → Q (some (.int (nI 1))) M' z w)
    (K0 : ¬ F.length ≤ 30 → ∀ M' rc, SkAt M' s h (mk1 L h t bs lw hg wf rc en) z → OnlyS M0 M' s → Q (some (.int (nI 0))) M' z w) :
    ∀ (P : List xrow) (i : Nat) (M : xM) (cur : xrow) (acc : List xrow) (x5 : Option Value), P.length + i ≤ 360 → F = acc ++ P.filter (kpX lo) → SkAt M s h (mk1 L h t bs lw hg wf acc en) z → WkP M (s + 3) false (fun q => ¬ (t ≤ q ∧ q < t + 10)) cur P → OnlyS M0 M s → (x5 = none ∨ ∃ v, x5 = some (.int v)) →
    WP (d + 3) mTs_mergeRecords 13 [some (.ref s), some (.ref t), some (.int (nI lo)), some (.ref (s + 3)), some (.int (nI i)), x5] [] M z w Q := by
  intro P
  induction P with
  | nil =>
    intro i M cur acc x5 hi hF hS hW hO hx5
    obtain ⟨n, hc⟩ := hW.cell
    rw [sTs_mergeRecords_13]
    simp only [sTs_mergeRecords_15, sTs_mergeRecords_18, sTs_mergeRecords_21]
    rw [if_neg (nI_ge (by simp at hi; omega) (by omega)), sTs_mergeRecords_22 hc]
    refine c_sto hW (fun _ M' cur' hW' hO' => ?_) (fun M' x P' e => by cases e)
    simp only [sTs_mergeRecords_25, sTs_mergeRecords_83, sTs_mergeRecords_84 xb0, sTs_mergeRecords_84 xb1, xk_i, xk_l, xk_a, xk_n, xk_0, Option.toList_some, Option.toList_none, List.cons_append, List.nil_append]
    rw [if_pos (by decide)]
    have hS' := hS.walkfalse hO' hW'.idle
    rw [List.filter_nil, List.append_nil] at hF
    have hl : acc.length ≤ 30 := by
      have hTt := hS.tab (i := h) (e := (t, bs, lw, hg, wf, acc, en)) (List.getElem?_set_self hh)
      obtain ⟨_, _, _, _, _, _, q, _⟩ := hTt.recs
      exact q
    subst hF
    exact K1 hl M' hS' (hO.trans (fun q hq => hO' q (by omega)))
  | cons x P ih =>
    intro i M cur acc x5 hi hF hS hW hO hx5
    obtain ⟨n, hc⟩ := hW.cell
    rw [sTs_mergeRecords_13]
    simp only [sTs_mergeRecords_15, sTs_mergeRecords_18, sTs_mergeRecords_21]
    rw [if_neg (nI_ge (by simp at hi; omega) (by omega)), sTs_mergeRecords_22 hc]
    refine c_sto hW (fun e => by cases e) (fun M' y P' e ho hW' hO' => ?_)
    cases e
    obtain ⟨n', hc'⟩ := hW'.cell
    have hS' := hS.walkfalse hO' hW'.idle
    have hO2 : OnlyS M0 M' s := hO.trans (fun q hq => hO' q (by omega))
    have q0 := nI_eq (a := lo) (b := 0) hlo (by omega)
    have hTt := hS'.tab (i := h) (e := (t, bs, lw, hg, wf, acc, en)) (List.getElem?_set_self hh)
    have hloc := hS'.2.2.2.2.2.2.2.1 h (t, bs, lw, hg, wf, acc, en) (List.getElem?_set_self hh)
    have hl : acc.length ≤ 30 := by
      obtain ⟨_, _, _, _, _, _, q, _⟩ := hTt.recs
      exact q
    have htc := hTt.cell
    have nxt : ∀ (M2 : xM) (acc2 : List xrow) (x6 : Int32), F = acc2 ++ P.filter (kpX lo) → SkAt M2 s h (mk1 L h t bs lw hg wf acc2 en) z → WkP M2 (s + 3) false (fun q => ¬ (t ≤ q ∧ q < t + 10)) x P → OnlyS M0 M2 s → WP (d + 3) mTs_mergeRecords 77 [some (.ref s), some (.ref t), some (.int (nI lo)), some (.ref (s + 3)), some (.int (nI i)), some (.int x6)] [] M2 z w Q := by
      intro M2 acc2 x6 hF2 hS2 hW2 hO2
      simp only [sTs_mergeRecords_77, sTs_mergeRecords_80, xk_i, xk_l, xk_a, xk_n, xk_0, Option.toList_some, Option.toList_none, List.cons_append, List.nil_append, nI_add]
      exact ih (i + 1) M2 x acc2 _ (by simp at hi ⊢; omega) hF2 hS2 hW2 hO2 (Or.inr ⟨_, rfl⟩)
    have keep : kpX lo x = true → WP (d + 3) mTs_mergeRecords 46 [some (.ref s), some (.ref t), some (.int (nI lo)), some (.ref (s + 3)), some (.int (nI i)), x5] [.int (nI 0)] M' z w Q := by
      intro hkp
      rw [List.filter_cons_of_pos hkp] at hF
      simp only [sTs_mergeRecords_46, sTs_mergeRecords_48, sTs_mergeRecords_50, sTs_mergeRecords_53, sTs_mergeRecords_54 htc rfl, sTs_mergeRecords_57, sTs_mergeRecords_58 hc' rfl, sTs_mergeRecords_61, sTs_mergeRecords_62 hc' rfl, sTs_mergeRecords_65, sTs_mergeRecords_66 hc' rfl, xk_i, xk_l, xk_a, xk_n, xk_0, Option.toList_some, Option.toList_none, List.cons_append, List.nil_append]
      rw [if_pos trivial, sTs_mergeRecords_69 hTt.recs.cell]
      by_cases h30 : acc.length < 30
      · refine c_rows_add hTt.recs (by omega) h30 (fun M2 hR2 hOr => ?_)
        simp only [sTs_mergeRecords_72, xk_i, xk_l, xk_a, xk_n, xk_0, Option.toList_some, Option.toList_none, List.cons_append, List.nil_append]
        rw [if_neg (by decide)]
        have hO10 : Only M' M2 t 10 := fun q hq => hOr q (by omega)
        have hS2 := hS'.setT (i := h) (List.getElem?_set_self hh) (hTt.putR hR2 hOr) hO10
        rw [List.set_set] at hS2
        refine nxt M2 (acc ++ [x]) _ (by rw [hF, List.append_assoc]; rfl) hS2 (hW'.kept (fun q q1 q2 => hO10 q (by omega)) (fun q hq => hO10 q (by omega))) (hO2.trans (fun q hq => hO10 q (by omega)))
      · rw [c_rows_full hTt.recs (by omega) (by show acc.length = 30; omega)]
        simp only [sTs_mergeRecords_72, sTs_mergeRecords_75, sTs_mergeRecords_76 xb0, sTs_mergeRecords_76 xb1, xk_i, xk_l, xk_a, xk_n, xk_0, Option.toList_some, Option.toList_none, List.cons_append, List.nil_append]
        rw [if_pos (by decide)]
        exact K0 (by rw [hF, List.length_append, List.length_cons]; omega) M' acc hS' hO2
    simp only [sTs_mergeRecords_25, sTs_mergeRecords_28, sTs_mergeRecords_29 hc' rfl, sTs_mergeRecords_32, sTs_mergeRecords_33, sTs_mergeRecords_34, sTs_mergeRecords_37, sTs_mergeRecords_38, sTs_mergeRecords_41, sTs_mergeRecords_42, sTs_mergeRecords_45, xk_i, xk_l, xk_a, xk_n, xk_0, Option.toList_some, Option.toList_none, List.cons_append, List.nil_append, lcmp_eq, lcmp_lt, lcmp_ge, lcmp_gt, lcmp_le, q0]
    rw [if_neg (by decide)]
    by_cases h0 : x.2.2 = lN 0
    · rw [if_pos h0]
      by_cases hl0 : lo = 0
      · rw [if_pos hl0]
        have hkp : kpX lo x = false := by unfold kpX; simp [h0, hl0]
        rw [List.filter_cons_of_neg (by rw [hkp]; decide)] at hF
        simp only [sTs_mergeRecords_46, sTs_mergeRecords_48, sTs_mergeRecords_50, xk_i, xk_l, xk_a, xk_n, xk_0, Option.toList_some, Option.toList_none, List.cons_append, List.nil_append]
        rw [if_neg (by decide)]
        rcases hx5 with rfl | ⟨v, rfl⟩
        · exact nxt M' acc _ hF hS' hW' hO2
        · exact nxt M' acc _ hF hS' hW' hO2
      · rw [if_neg hl0]; exact keep (by unfold kpX; simp [hl0])
    · rw [if_neg h0]; exact keep (by unfold kpX; simp [h0])
theorem c_mergeRecords {lo : Nat} {t : Nat} {bs : List Nat} {lw hg : Int32} {wf : Bool} {en : List xrow} (hS : SkAt M s h (mk1 L h t bs lw hg wf [] en) z) (hh : h < L.length) (hlo : lo ≤ h) (hok : okL ((L.take h).drop lo))
    (K1 : ((mG (fW false) (yR ((L.take h).drop lo))).filter (kpX lo)).length ≤ 30 → ∀ M', SkAt M' s h (mk1 L h t bs lw hg wf ((mG (fW false) (yR ((L.take h).drop lo))).filter (kpX lo)) en) z → OnlyS M M' s → Q (some (.int (nI 1))) M' z w)
    (K0 : ¬ ((mG (fW false) (yR ((L.take h).drop lo))).filter (kpX lo)).length ≤ 30 → ∀ M' rc, SkAt M' s h (mk1 L h t bs lw hg wf rc en) z → OnlyS M M' s → Q (some (.int (nI 0))) M' z w) :
    WP (d + 3) mTs_mergeRecords 0 [some (.ref s), some (.ref t), some (.int (nI lo)), none, none, none] [] M z w Q := by
  have k1 := hS.1
  have h9 := hS.2.2.2.2.2.1
  simp only [List.length_set] at h9
  simp only [sTs_mergeRecords_0, sTs_mergeRecords_1, sTs_mergeRecords_2, sTs_mergeRecords_3 k1 rfl]
  rw [sTs_mergeRecords_6 k1]
  have het : (mk1 L h t bs lw hg wf [] en)[h]? = some (t, bs, lw, hg, wf, [], en) := List.getElem?_set_self hh
  refine c_wkR (D := fun q => ¬ (t ≤ q ∧ q < t + 10)) (ab := h) (lo := lo) hS (by simp; omega) hlo (by rw [tk_set]; exact hok) (fun e he => wkD hS het (Nat.le_refl _) e he) (fun M1 cur hW hS1 hO1 => ?_)
  rw [tk_set] at hW
  simp only [sTs_mergeRecords_9, sTs_mergeRecords_10, sTs_mergeRecords_11, xk_i, xk_l, xk_a, xk_n, xk_0, Option.toList_some, Option.toList_none, List.cons_append, List.nil_append]
  exact mrec_loop (M0 := M) (by omega) hh K1 K0 _ 0 M1 cur [] none (by have := hW.len; omega) rfl hS1 hW (fun q hq => hO1 q (by omega)) (Or.inl rfl)
set_option maxHeartbeats 1000000 in
theorem ment_loop {lo t : Nat} {bs : List Nat} {lw hg tm : Int32} {wf : Bool} {rc : List xrow} {M0 : xM} {F : List xrow} (hh : h < L.length)
    (K1 : F.length ≤ 40 → ∀ M', SkAt M' s h (mk1 L h t bs lw hg wf rc F) z → OnlyS M0 M' s → Q (some (.int (nI 1))) M' z w)
    (K0 : ¬ F.length ≤ 40 → ∀ M' en, SkAt M' s h (mk1 L h t bs lw hg wf rc en) z → OnlyS M0 M' s → Q (some (.int (nI 0))) M' z w) :
    ∀ (P : List xrow) (i : Nat) (M : xM) (cur : xrow) (acc : List xrow) (x6 : Option Value), P.length + i ≤ 360 → F = acc ++ P.filter (exX tm) → SkAt M s h (mk1 L h t bs lw hg wf rc acc) z → WkP M (s + 6) true (fun q => ¬ (t ≤ q ∧ q < t + 10)) cur P → OnlyS M0 M s → (x6 = none ∨ ∃ v, x6 = some (.int v)) →
    WP (d + 3) mTs_mergeEntries 14 [some (.ref s), some (.ref t), some (.int (nI lo)), some (.int tm), some (.ref (s + 6)), some (.int (nI i)), x6] [] M z w Q := by
  intro P
  induction P with
  | nil =>
    intro i M cur acc x6 hi hF hS hW hO hx6
    obtain ⟨n, hc⟩ := hW.cell
    rw [sTs_mergeEntries_14]
    simp only [sTs_mergeEntries_16, sTs_mergeEntries_19, sTs_mergeEntries_22]
    rw [if_neg (nI_ge (by simp at hi; omega) (by omega)), sTs_mergeEntries_24 hc]
    refine c_sto hW (fun _ M' cur' hW' hO' => ?_) (fun M' x P' e => by cases e)
    simp only [sTs_mergeEntries_27, sTs_mergeEntries_84, sTs_mergeEntries_85 xb0, sTs_mergeEntries_85 xb1, xk_i, xk_l, xk_a, xk_n, xk_0, Option.toList_some, Option.toList_none, List.cons_append, List.nil_append]
    rw [if_pos (by decide)]
    have hS' := hS.walktrue hO' hW'.idle
    rw [List.filter_nil, List.append_nil] at hF
    have hl : acc.length ≤ 40 := by
      have hTt := hS.tab (i := h) (e := (t, bs, lw, hg, wf, rc, acc)) (List.getElem?_set_self hh)
      obtain ⟨_, _, _, _, _, _, q, _⟩ := hTt.ents
      exact q
    subst hF
    exact K1 hl M' hS' (hO.trans (fun q hq => hO' q (by omega)))
  | cons x P ih =>
    intro i M cur acc x6 hi hF hS hW hO hx6
    obtain ⟨n, hc⟩ := hW.cell
    rw [sTs_mergeEntries_14]
    simp only [sTs_mergeEntries_16, sTs_mergeEntries_19, sTs_mergeEntries_22]
    rw [if_neg (nI_ge (by simp at hi; omega) (by omega)), sTs_mergeEntries_24 hc]
    refine c_sto hW (fun e => by cases e) (fun M' y P' e ho hW' hO' => ?_)
    cases e
    obtain ⟨n', hc'⟩ := hW'.cell
    have hS' := hS.walktrue hO' hW'.idle
    have hO2 : OnlyS M0 M' s := hO.trans (fun q hq => hO' q (by omega))
    have hTt := hS'.tab (i := h) (e := (t, bs, lw, hg, wf, rc, acc)) (List.getElem?_set_self hh)
    have hloc := hS'.2.2.2.2.2.2.2.1 h (t, bs, lw, hg, wf, rc, acc) (List.getElem?_set_self hh)
    have hl : acc.length ≤ 40 := by
      obtain ⟨_, _, _, _, _, _, q, _⟩ := hTt.ents
      exact q
    have htc := hTt.cell
    have nxt : ∀ (M2 : xM) (acc2 : List xrow) (x7 : Int32), F = acc2 ++ P.filter (exX tm) → SkAt M2 s h (mk1 L h t bs lw hg wf rc acc2) z → WkP M2 (s + 6) true (fun q => ¬ (t ≤ q ∧ q < t + 10)) x P → OnlyS M0 M2 s → WP (d + 3) mTs_mergeEntries 78 [some (.ref s), some (.ref t), some (.int (nI lo)), some (.int tm), some (.ref (s + 6)), some (.int (nI i)), some (.int x7)] [] M2 z w Q := by
      intro M2 acc2 x7 hF2 hS2 hW2 hO2
      simp only [sTs_mergeEntries_78, sTs_mergeEntries_81, xk_i, xk_l, xk_a, xk_n, xk_0, Option.toList_some, Option.toList_none, List.cons_append, List.nil_append, nI_add]
      exact ih (i + 1) M2 x acc2 _ (by simp at hi ⊢; omega) hF2 hS2 hW2 hO2 (Or.inr ⟨_, rfl⟩)
    simp only [sTs_mergeEntries_27, sTs_mergeEntries_30, sTs_mergeEntries_32 hc' rfl, sTs_mergeEntries_35, sTs_mergeEntries_36, sTs_mergeEntries_39, sTs_mergeEntries_40, sTs_mergeEntries_43, sTs_mergeEntries_44, sTs_mergeEntries_46, sTs_mergeEntries_48, xk_i, xk_l, xk_a, xk_n, xk_0, Option.toList_some, Option.toList_none, List.cons_append, List.nil_append]
    rw [if_neg (by decide)]
    by_cases h0 : x.2.1 < tm
    · have hkp : exX tm x = false := by unfold exX; simp [h0]
      rw [List.filter_cons_of_neg (by rw [hkp]; decide)] at hF
      rw [if_neg (by rw [Int32.le_iff_toInt_le]; rw [Int32.lt_iff_toInt_lt] at h0; omega), if_neg (by decide)]
      exact nxt M' acc _ hF hS' hW' hO2
    · have hkp : exX tm x = true := by unfold exX; simp [h0]
      rw [List.filter_cons_of_pos hkp] at hF
      rw [if_pos (by rw [Int32.le_iff_toInt_le]; rw [Int32.lt_iff_toInt_lt] at h0; omega), if_pos trivial]
      simp only [sTs_mergeEntries_51, sTs_mergeEntries_52 htc rfl, sTs_mergeEntries_55, sTs_mergeEntries_57 hc' rfl, sTs_mergeEntries_60, sTs_mergeEntries_62 hc' rfl, sTs_mergeEntries_65, sTs_mergeEntries_67 hc' rfl, xk_i, xk_l, xk_a, xk_n, xk_0, Option.toList_some, Option.toList_none, List.cons_append, List.nil_append]
      rw [sTs_mergeEntries_70 hTt.ents.cell]
      by_cases h30 : acc.length < 40
      · refine c_rows_add hTt.ents (by omega) h30 (fun M2 hR2 hOr => ?_)
        simp only [sTs_mergeEntries_73, xk_i, xk_l, xk_a, xk_n, xk_0, Option.toList_some, Option.toList_none, List.cons_append, List.nil_append]
        rw [if_neg (by decide)]
        have hO10 : Only M' M2 t 10 := fun q hq => hOr q (by omega)
        have hS2 := hS'.setT (i := h) (List.getElem?_set_self hh) (hTt.putE hR2 hOr) hO10
        rw [List.set_set] at hS2
        refine nxt M2 (acc ++ [x]) _ (by rw [hF, List.append_assoc]; rfl) hS2 (hW'.kept (fun q q1 q2 => hO10 q (by omega)) (fun q hq => hO10 q (by omega))) (hO2.trans (fun q hq => hO10 q (by omega)))
      · rw [c_rows_full hTt.ents (by omega) (by show acc.length = 40; omega)]
        simp only [sTs_mergeEntries_73, sTs_mergeEntries_76, sTs_mergeEntries_77 xb0, sTs_mergeEntries_77 xb1, xk_i, xk_l, xk_a, xk_n, xk_0, Option.toList_some, Option.toList_none, List.cons_append, List.nil_append]
        rw [if_pos (by decide)]
        exact K0 (by rw [hF, List.length_append, List.length_cons]; omega) M' acc hS' hO2
theorem c_mergeEntries {lo : Nat} {t : Nat} {bs : List Nat} {lw hg tm : Int32} {wf : Bool} {rc : List xrow} (hS : SkAt M s h (mk1 L h t bs lw hg wf rc []) z) (hh : h < L.length) (hlo : lo ≤ h) (hok : okL ((L.take h).drop lo))
    (K1 : ((mG (fW true) (yE ((L.take h).drop lo))).filter (exX tm)).length ≤ 40 → ∀ M', SkAt M' s h (mk1 L h t bs lw hg wf rc ((mG (fW true) (yE ((L.take h).drop lo))).filter (exX tm))) z → OnlyS M M' s → Q (some (.int (nI 1))) M' z w)
    (K0 : ¬ ((mG (fW true) (yE ((L.take h).drop lo))).filter (exX tm)).length ≤ 40 → ∀ M' en, SkAt M' s h (mk1 L h t bs lw hg wf rc en) z → OnlyS M M' s → Q (some (.int (nI 0))) M' z w) :
    WP (d + 3) mTs_mergeEntries 0 [some (.ref s), some (.ref t), some (.int (nI lo)), some (.int tm), none, none, none] [] M z w Q := by
  have k1 := hS.1
  have h9 := hS.2.2.2.2.2.1
  simp only [List.length_set] at h9
  simp only [sTs_mergeEntries_0, sTs_mergeEntries_1, sTs_mergeEntries_2, sTs_mergeEntries_3 k1 rfl]
  rw [sTs_mergeEntries_6 k1]
  have het : (mk1 L h t bs lw hg wf rc [])[h]? = some (t, bs, lw, hg, wf, rc, []) := List.getElem?_set_self hh
  refine c_wkE (D := fun q => ¬ (t ≤ q ∧ q < t + 10)) (ab := h) (lo := lo) hS (by simp; omega) hlo (by rw [tk_set]; exact hok) (fun e he => wkD hS het (Nat.le_refl _) e he) (fun M1 cur hW hS1 hO1 => ?_)
  rw [tk_set] at hW
  simp only [sTs_mergeEntries_9, sTs_mergeEntries_11, sTs_mergeEntries_12, xk_i, xk_l, xk_a, xk_n, xk_0, Option.toList_some, Option.toList_none, List.cons_append, List.nil_append]
  exact ment_loop (M0 := M) hh K1 K0 _ 0 M1 cur [] none (by have := hW.len; omega) rfl hS1 hW (fun q hq => hO1 q (by omega)) (Or.inl rfl)
end MR2
