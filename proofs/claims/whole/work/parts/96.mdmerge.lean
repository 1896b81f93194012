/-! the reference: a table is placed, all are merged -/
theorem mnT_f {le : Nat} : ∀ {TT : List ptab}, mnT le TT ≤ le ∧ (∀ p ∈ TT, mnT le TT ≤ p.2.1) ∧ ∀ k, k ≤ le → (∀ p ∈ TT, k ≤ p.2.1) → k ≤ mnT le TT
  | [] => ⟨Nat.le_refl _, fun p hp => (by cases hp), fun k h _ => h⟩
  | q :: TT => by
    obtain ⟨h1, h2, h3⟩ := mnT_f (le := le) (TT := TT)
    refine ⟨?_, fun p hp => ?_, fun k hk hp => ?_⟩
    · show min q.2.1 (mnT le TT) ≤ le; omega
    · show min q.2.1 (mnT le TT) ≤ p.2.1
      rw [List.mem_cons] at hp
      rcases hp with e | hp
      · subst e; omega
      · have := h2 p hp; omega
    · show k ≤ min q.2.1 (mnT le TT)
      have a1 := hp q (by simp)
      have a2 := h3 k hk (fun p hq => hp p (by simp [hq]))
      omega
theorem mxT_f {gr : Nat} : ∀ {TT : List ptab}, gr ≤ mxT gr TT ∧ (∀ p ∈ TT, p.2.2.1 ≤ mxT gr TT) ∧ ∀ k, gr ≤ k → (∀ p ∈ TT, p.2.2.1 ≤ k) → mxT gr TT ≤ k
  | [] => ⟨Nat.le_refl _, fun p hp => (by cases hp), fun k h _ => h⟩
  | q :: TT => by
    obtain ⟨h1, h2, h3⟩ := mxT_f (gr := gr) (TT := TT)
    refine ⟨?_, fun p hp => ?_, fun k hk hp => ?_⟩
    · show gr ≤ max q.2.2.1 (mxT gr TT); omega
    · show p.2.2.1 ≤ max q.2.2.1 (mxT gr TT)
      rw [List.mem_cons] at hp
      rcases hp with e | hp
      · subst e; omega
      · have := h2 p hp; omega
    · show max q.2.2.1 (mxT gr TT) ≤ k
      have a1 := hp q (by simp)
      have a2 := h3 k hk (fun p hq => hp p (by simp [hq]))
      omega
theorem mnT_lw {TT : List ptab} (h0 : TT ≠ []) (h : ∀ p ∈ TT, wT0 p.2) : mnT 3000 TT = lwM TT := by
  obtain ⟨a1, a2, a3⟩ := mnT_f (le := 3000) (TT := TT)
  obtain ⟨b1, b2, b3⟩ := fold_min (l := TT) (m := 2000)
  cases TT with
  | nil => exact absurd rfl h0
  | cons q TT =>
    have hq := h q (by simp)
    have hq2 := hq.2.1
    have hq3 := hq.2.2.1
    have a4 := a2 q (by simp)
    apply Nat.le_antisymm
    · exact b3 _ (by omega) (fun p hp => a2 p hp)
    · exact a3 _ (by unfold lwM; omega) (fun p hp => b2 p hp)
theorem mxT_hg {TT : List ptab} : mxT 0 TT = hgM TT := by
  obtain ⟨a1, a2, a3⟩ := mxT_f (gr := 0) (TT := TT)
  obtain ⟨b1, b2, b3⟩ := fold_max (l := TT) (m := 0)
  exact Nat.le_antisymm (a3 _ (Nat.zero_le _) (fun p hp => b2 p hp)) (b3 _ (Nat.zero_le _) (fun p hp => a2 p hp))
theorem sin_ek {s : Int32} {l : List aent} (h : ∀ e ∈ l, e.2.1 < 2 ^ 31) : ∀ x ∈ l, ∀ y ∈ l, ek x = ek y → sin s x = sin s y := by
  intro x hx y hy e
  have := (ek_eq (h x hx) (h y hy)).mp e
  unfold sin
  rw [this.2]
theorem mG_ents {s : Int32} {E : List (aent × Nat)} (h : ∀ e ∈ E, e.1.2.1 < 2 ^ 31) : (mG ekP (E.filter (sinP s))).map (fun e => e.1) = (mG ek (E.map (fun e => e.1))).filter (sin s) := by
  have h1 : (mG ekP (E.filter (sinP s))).map (fun e => e.1) = mG ek ((E.filter (sinP s)).map (fun e => e.1)) := (mG_map (f := ek) (φ := fun (e : aent × Nat) => e.1)).symm
  have h2 : (E.map (fun e => e.1)).filter (sin s) = (E.filter (sinP s)).map (fun e => e.1) := List.filter_map
  rw [h1, mG_filter2 (sin_ek ?_), h2]
  intro e he
  obtain ⟨x, hx, rfl⟩ := List.mem_map.mp he
  exact h x hx
theorem wr_mT {tm : Int32} {TT : List ptab} (h0 : TT ≠ []) (hw : ∀ p ∈ TT, wT p.2) : wrT 1 tm (mnT 3000 TT) (mxT 0 TT) (ddf [] (cR TT)) (enT 0 TT) = cmT tm TT := by
  unfold wrT cmT mT
  rw [mnT_lw h0 (fun p hp => (hw p hp).1), mxT_hg, mG_dd_filter (ddf_dd List.Pairwise.nil), ddf_mG, mG_ents, enT_fst]
  · have : frK 1 = ndl true := funext frK_ndl
    rw [this]
  · intro e he
    obtain ⟨p, hp, hm⟩ := enT_mem he
    have h1 := ((hw p hp).1.2.2.2.2.2.2 e.1 hm).2.2.1
    have h2 := (hw p hp).1.2.2.1
    omega
section MM2
variable {d m : Nat} {B : List (List Nat)} {M : xM} {g : Nat → Int32} {A : Nat → Nat → Int32} {L : Nat → Nat → Int64} {N : List arec} {E : List (aent × Nat)} {D : List Nat} {z w : Nat} {Q : Option Value → xM → Nat → Nat → Prop}
set_option maxHeartbeats 1000000 in
theorem place_loop {t : Nat} (ht : t < 10) (hl : D.length ≤ 1200) (h27 : g 27 = nI D.length) {A0 : Nat → Nat → Int32} (hA0 : ∀ i b, D[i]? = some b → A0 16 i = sb b)
    (K : ∀ A', (∀ j, j ≠ 1 → A' j = A0 j) → (∀ q, q < 1200 * t → A' 1 q = A0 1 q) → (∀ i b, D[i]? = some b → A' 1 (1200 * t + i) = sb b) → ∀ x, WP (d + 1) mMd_place 34 [some (.ref m), some (.int (nI t)), some (.int x)] [] (MM (AR M m A' L) m g) z w Q) : ∀ (r i : Nat) (A : Nat → Nat → Int32), i + r = D.length → (∀ j, j ≠ 1 → A j = A0 j) → (∀ q, q < 1200 * t → A 1 q = A0 1 q) → (∀ j b, j < i → D[j]? = some b → A 1 (1200 * t + j) = sb b) →
    WP (d + 1) mMd_place 2 [some (.ref m), some (.int (nI t)), some (.int (nI i))] [] (MM (AR M m A L) m g) z w Q := by
  intro r
  induction r with
  | zero =>
    intro i A hi h1 h2 h3
    rw [sMd_place_2]
    simp only [sMd_place_3, rMd_place_4, sMd_place_7, h27]
    rw [if_pos (nI_le (by omega) (by omega))]
    exact K A h1 h2 (fun j b hb => h3 j b (by have := (List.getElem?_eq_some_iff.mp hb).1; omega) hb) _
  | succ r ih =>
    intro i A hi h1 h2 h3
    have hlt : i < D.length := by omega
    have hv : A 16 i = sb D[i] := by rw [h1 16 (by decide)]; exact hA0 i _ (List.getElem?_eq_getElem hlt)
    rw [sMd_place_2]
    simp only [sMd_place_3, rMd_place_4, sMd_place_7, sMd_place_10, rMd_place_11, sMd_place_14, sMd_place_17, sMd_place_18, sMd_place_19, sMd_place_20, sMd_place_21, rMd_place_22, sMd_place_25, qMd_place_26 (k := i) (by omega), qMd_place_27 (k := 1200 * t + i) (by omega), sMd_place_28, sMd_place_31, xk_i, xk_l, xk_a, xk_n, xk_0, Option.toList_some, Option.toList_none, List.cons_append, List.nil_append, h27, pk_mul, nI_add, hv]
    rw [if_neg (nI_ge (by omega) (by omega))]
    refine ih (i + 1) _ (by omega) (fun j hj => ?_) (fun q hq => ?_) (fun j b hj hb => ?_)
    · rw [u2_ne hj]; exact h1 j hj
    · rw [u2_eq, if_neg (by omega)]; exact h2 q hq
    · rw [u2_eq]
      by_cases hji : j = i
      · subst hji
        rw [if_pos rfl, sb_sb]
        rw [List.getElem?_eq_getElem hlt] at hb
        cases hb; rfl
      · rw [if_neg (by omega)]
        exact h3 j b (by omega) hb
theorem c_place {t : Nat} (ht : t < 10) (htB : t ≤ B.length) (hS : StA g A B) (hD : DrA g A D) (hl : D.length ≤ 1200) (h3 : 3 ≤ D.length) (K : ∀ g' A', StA g' A' (B.take t ++ [D]) → Fr [2] [1, 2] [] g g' A A' L L → Q none (MM (AR M m A' L) m g') z w) :
    WP (d + 1) mMd_place 0 [some (.ref m), some (.int (nI t)), none] [] (MM (AR M m A L) m g) z w Q := by
  have h27 : g 27 = nI D.length := by rw [hD.1, Nat.min_eq_left hl]
  simp only [sMd_place_0, sMd_place_1, xk_i, xk_l, xk_a, xk_n, xk_0, Option.toList_some, Option.toList_none, List.cons_append, List.nil_append]
  refine place_loop ht hl h27 (fun i b hb => hD.2.2.2 i b hb (by have := (List.getElem?_eq_some_iff.mp hb).1; omega)) (fun A1 k1 k2 k3 x => ?_) D.length 0 A (by omega) (fun _ _ => rfl) (fun _ _ => rfl) (fun j b hj => by omega)
  simp only [sMd_place_34, rMd_place_35, sMd_place_38, sMd_place_39, rMd_place_40, qMd_place_43 (k := t) (by omega), sMd_place_44, sMd_place_45, sMd_place_46, sMd_place_47, rMd_place_48, sMd_place_51, h27, nI_add]
  refine K _ _ ⟨?_, fun t' bs hb => ?_⟩ ⟨fun j hj => ug_e (fun q => hj (by rw [q]; decide)), fun j hj => ?_, fun _ _ => rfl⟩
  · rw [ug_s, List.length_append, List.length_take, List.length_singleton, Nat.min_eq_left htB]
  · by_cases htt : t' < t
    · rw [List.getElem?_append_left (by rw [List.length_take]; omega), List.getElem?_take_of_lt htt] at hb
      obtain ⟨s1, s2, s3⟩ := hS.2 t' bs hb
      have s4 := s1.2.2.1
      refine ⟨⟨fun i b hib => ?_, s1.2⟩, ?_, s3⟩
      · have := (List.getElem?_eq_some_iff.mp hib).1
        rw [u2_ne (by decide), k2 _ (by omega)]
        exact s1.1 i b hib
      · rw [u2_eq, if_neg (by omega), k1 2 (by decide)]; exact s2
    · have h5 := (List.getElem?_eq_some_iff.mp hb).1
      rw [List.length_append, List.length_take, List.length_singleton] at h5
      have : t' = t := by omega
      subst this
      rw [List.getElem?_append_right (by rw [List.length_take]; omega), List.length_take, Nat.min_eq_left htB, Nat.sub_self] at hb
      cases hb
      refine ⟨⟨fun i b hib => ?_, hD.2.2.1, hl, by omega, by omega⟩, ?_, h3⟩
      · rw [u2_ne (by decide)]; exact k3 i b hib
      · rw [u2_eq, if_pos rfl]
  · rw [u2_ne (fun q => hj (by rw [q]; decide))]
    exact k1 j (fun q => hj (by rw [q]; decide))
/-- what merging all leaves unchanged: the transaction -/
abbrev FgM : List Nat := [2, 9, 10, 11, 12, 13, 14, 19, 25, 26, 27, 29]
abbrev FaM : List Nat := [1, 2, 8, 9, 12, 13, 14, 15, 16]
theorem c_MdmergeAll {tm : Int32} (h8 : B.length ≤ 8) (hS : StA g A B)
    (Kd : vw B = none → ∀ g' A' L', Fr FgV FaR FlR g g' A A' L L' → Q (some (.int (-2))) (MM (AR M m A' L') m g') z w)
    (Ke : B = [] → ∀ g' A' L', Fr FgV FaR FlR g g' A A' L L' → Q (some (.int (nI 0))) (MM (AR M m A' L') m g') z w)
    (K1 : ∀ TT, vw B = some TT → B ≠ [] → fitT (cmT tm TT) → ∀ g' A' L', EnA g' A' L' (enT 0 TT) → StA g' A' [serT (cmT tm TT)] → Fr FgM FaM FlR g g' A A' L L' → Q (some (.int (nI 0))) (MM (AR M m A' L') m g') z w)
    (K0 : ∀ TT, vw B = some TT → B ≠ [] → ¬ fitT (cmT tm TT) → ∀ g' A' L', StA g' A' B → Fr FgM FaM FlR g g' A A' L L' → Q (some (.int (-3))) (MM (AR M m A' L') m g') z w) :
    WP (d + 7) mMd_mergeAll 0 [some (.ref m), some (.int tm)] [] (MM (AR M m A L) m g) z w Q := by
  simp only [sMd_mergeAll_0, rMd_mergeAll_1]
  refine c_view h8 hS (fun hv g1 A1 L1 hF => ?_) (fun TT hv g1 A1 L1 hN hE h25 h26 hF => ?_)
  · simp only [sMd_mergeAll_4, sMd_mergeAll_7, sMd_mergeAll_9, xk_i, xk_l, xk_a, xk_n, xk_0, Option.toList_some, Option.toList_none, List.cons_append, List.nil_append]
    rw [if_pos trivial]
    exact Kd hv g1 A1 L1 hF
  · have hw := (vw_w hv).2.2
    have hTl := vw_len hv
    obtain ⟨v1, v2, v3⟩ := view_ok hw (by omega)
    have hEl := enT_len TT 0 hw
    have hS1 := hS.kept (hF.1 2 (by decide)) (hF.2.1 1 (by decide)) (hF.2.1 2 (by decide))
    simp only [sMd_mergeAll_4, sMd_mergeAll_7, sMd_mergeAll_9, sMd_mergeAll_10, rMd_mergeAll_11, sMd_mergeAll_14, sMd_mergeAll_34, sMd_mergeAll_35, xk_i, xk_l, xk_a, xk_n, xk_0, Option.toList_some, Option.toList_none, List.cons_append, List.nil_append, hS1.1, nI_leI (a := B.length) (b := 0) (by omega) (by omega)]
    rw [if_neg (by decide)]
    by_cases hB : B = []
    · rw [if_pos (by rw [hB]; exact Nat.le_refl _)]
      exact Ke hB g1 A1 L1 hF
    · have hBl : B.length ≠ 0 := fun q => hB (List.length_eq_zero_iff.mp q)
      have hT0 : TT ≠ [] := fun q => by rw [q] at hTl; exact hBl hTl.symm
      rw [if_neg (by omega)]
      simp only [sMd_mergeAll_17, sMd_mergeAll_18, sMd_mergeAll_19, rMd_mergeAll_20]
      have hm1 := mnT_lw hT0 (fun p hp => (hw p hp).1)
      have hmn := mnT_f (le := 3000) (TT := TT)
      have hmx := mxT_f (gr := 0) (TT := TT)
      have hlow : mnT 3000 TT ≤ 2000 := by
        rw [hm1]
        exact (fold_min (l := TT) (m := 2000)).1
      have hhigh : mxT 0 TT ≤ 2000 := hmx.2.2 _ (by omega) (fun p hp => (hw p hp).1.2.2.1)
      have hwr := wr_mT (tm := tm) hT0 hw
      refine c_write2 (fr := 1) (by decide) (by omega) (by omega) hN hE (by omega) (by omega) v2 (enT_ok hw (by omega)) (fun s hs => ?_) (ddf_dd List.Pairwise.nil) h25 h26 (fun hnf g2 A2 hF2 _ => ?_) (fun hf g2 A2 hD2 hF2 => ?_)
      · rcases ddf_mem hs with h | h
        · cases h
        · obtain ⟨p, hp, hr⟩ := mem_cR.mp h
          have e1 := hmn.2.1 p hp
          have e2 := ((hw p hp).1.2.2.2.2.2.1 s hr).2.1
          omega
      · simp only [sMd_mergeAll_23, sMd_mergeAll_26, sMd_mergeAll_28, xk_i, xk_l, xk_a, xk_n, xk_0, Option.toList_some, Option.toList_none, List.cons_append, List.nil_append]
        rw [if_pos trivial]
        rw [hwr] at hnf
        exact K0 TT hv hB hnf g2 A2 L1 (hS1.kept (hF2.1 2 (by decide)) (hF2.2.1 1 (by decide)) (hF2.2.1 2 (by decide))) ((hF.sub (by decide) (by decide) (by decide)).trans (hF2.sub (by decide) (by decide) (by decide)))
      · rw [hwr] at hf hD2
        simp only [sMd_mergeAll_23, sMd_mergeAll_26, sMd_mergeAll_28, sMd_mergeAll_29, sMd_mergeAll_30, rMd_mergeAll_31, xk_i, xk_l, xk_a, xk_n, xk_0, Option.toList_some, Option.toList_none, List.cons_append, List.nil_append]
        rw [if_neg (by decide)]
        have hS2 := hS1.kept (hF2.1 2 (by decide)) (hF2.2.1 1 (by decide)) (hF2.2.1 2 (by decide))
        have h7 := ser_3 (cmT tm TT)
        refine c_place (t := 0) (by decide) (by omega) hS2 hD2 hf.2.2 (by omega) (fun g3 A3 hS3 hF3 => ?_)
        simp only [sMd_mergeAll_34, sMd_mergeAll_35, xk_i, xk_l, xk_a, xk_n, xk_0, Option.toList_some, Option.toList_none, List.cons_append, List.nil_append]
        rw [List.take_zero, List.nil_append] at hS3
        refine K1 TT hv hB hf g3 A3 L1 ?_ hS3 (((hF.sub (by decide) (by decide) (by decide)).trans (hF2.sub (by decide) (by decide) (by decide))).trans (hF3.sub (by decide) (by decide) (by decide)))
        exact (hE.wk hF2).kept hF3 (by decide) (by decide) (by decide) (by decide) (by decide) (by decide)
theorem c_Md_compact (h8 : B.length ≤ 8) (hS : StA g A B)
    (Kd : vw B = none → ∀ g' A' L', Fr FgV FaR FlR g g' A A' L L' → Q (some (.int (-2))) (MM (AR M m A' L') m g') z w)
    (Ke : B = [] → ∀ g' A' L', Fr FgV FaR FlR g g' A A' L L' → Q (some (.int (nI 0))) (MM (AR M m A' L') m g') z w)
    (K1 : ∀ TT, vw B = some TT → B ≠ [] → fitT (cmT (nI 0) TT) → ∀ g' A' L', StA g' A' [serT (cmT (nI 0) TT)] → Fr FgM FaM FlR g g' A A' L L' → Q (some (.int (nI B.length))) (MM (AR M m A' L') m g') z w)
    (K0 : ∀ TT, vw B = some TT → B ≠ [] → ¬ fitT (cmT (nI 0) TT) → ∀ g' A' L', StA g' A' B → Fr FgM FaM FlR g g' A A' L L' → Q (some (.int (-3))) (MM (AR M m A' L') m g') z w) :
    WP (d + 8) mMd_compact 0 [some (.ref m), none, none] [] (MM (AR M m A L) m g) z w Q := by
  simp only [sMd_compact_0, rMd_compact_1, sMd_compact_4, sMd_compact_5, sMd_compact_6, rMd_compact_7, xk_i, xk_l, xk_a, xk_n, xk_0, Option.toList_some, Option.toList_none, List.cons_append, List.nil_append, hS.1]
  refine c_MdmergeAll h8 hS (fun hv g1 A1 L1 hF => ?_) (fun hB g1 A1 L1 hF => ?_) (fun TT hv hB hf g1 A1 L1 hE hS1 hF => ?_) (fun TT hv hB hf g1 A1 L1 hS1 hF => ?_)
  · simp only [sMd_compact_10, sMd_compact_11, sMd_compact_12, sMd_compact_15, sMd_compact_16, sMd_compact_19, sMd_compact_20, xk_i, xk_l, xk_a, xk_n, xk_0, Option.toList_some, Option.toList_none, List.cons_append, List.nil_append]
    rw [if_neg (by decide)]
    exact Kd hv g1 A1 L1 hF
  · simp only [sMd_compact_10, sMd_compact_11, sMd_compact_12, sMd_compact_15, sMd_compact_16, sMd_compact_19, sMd_compact_20, xk_i, xk_l, xk_a, xk_n, xk_0, Option.toList_some, Option.toList_none, List.cons_append, List.nil_append]
    rw [if_pos (by decide), hB]
    exact Ke hB g1 A1 L1 hF
  · simp only [sMd_compact_10, sMd_compact_11, sMd_compact_12, sMd_compact_15, sMd_compact_16, sMd_compact_19, sMd_compact_20, xk_i, xk_l, xk_a, xk_n, xk_0, Option.toList_some, Option.toList_none, List.cons_append, List.nil_append]
    rw [if_pos (by decide)]
    exact K1 TT hv hB hf g1 A1 L1 hS1 hF
  · simp only [sMd_compact_10, sMd_compact_11, sMd_compact_12, sMd_compact_15, sMd_compact_16, sMd_compact_19, sMd_compact_20, xk_i, xk_l, xk_a, xk_n, xk_0, Option.toList_some, Option.toList_none, List.cons_append, List.nil_append]
    rw [if_neg (by decide)]
    exact K0 TT hv hB hf g1 A1 L1 hS1 hF
theorem c_Md_expire {tm : Int32} (h8 : B.length ≤ 8) (hS : StA g A B)
    (Kd : vw B = none → ∀ g' A' L', Fr FgV FaR FlR g g' A A' L L' → Q (some (.int (-2))) (MM (AR M m A' L') m g') z w)
    (Ke : B = [] → ∀ g' A' L', Fr FgV FaR FlR g g' A A' L L' → Q (some (.int (nI 0))) (MM (AR M m A' L') m g') z w)
    (K1 : ∀ TT, vw B = some TT → B ≠ [] → fitT (cmT tm TT) → ∀ g' A' L', StA g' A' [serT (cmT tm TT)] → Fr FgM FaM FlR g g' A A' L L' → Q (some (.int (nI ((cE TT).length - (cmT tm TT).2.2.2.length)))) (MM (AR M m A' L') m g') z w)
    (K0 : ∀ TT, vw B = some TT → B ≠ [] → ¬ fitT (cmT tm TT) → ∀ g' A' L', StA g' A' B → Fr FgM FaM FlR g g' A A' L L' → Q (some (.int (-3))) (MM (AR M m A' L') m g') z w) :
    WP (d + 8) mMd_expire 0 [some (.ref m), some (.int tm), none] [] (MM (AR M m A L) m g) z w Q := by
  simp only [sMd_expire_0, sMd_expire_1, rMd_expire_2]
  refine c_MdmergeAll h8 hS (fun hv g1 A1 L1 hF => ?_) (fun hB g1 A1 L1 hF => ?_) (fun TT hv hB hf g1 A1 L1 hE hS1 hF => ?_) (fun TT hv hB hf g1 A1 L1 hS1 hF => ?_)
  · simp only [sMd_expire_5, sMd_expire_6, sMd_expire_7, sMd_expire_17, sMd_expire_18, sMd_expire_31, xk_i, xk_l, xk_a, xk_n, xk_0, Option.toList_some, Option.toList_none, List.cons_append, List.nil_append]
    rw [if_pos (by decide)]
    exact Kd hv g1 A1 L1 hF
  · have h2 : g1 2 = nI 0 := by rw [hF.1 2 (by decide), hS.1, hB]; rfl
    simp only [sMd_expire_5, sMd_expire_6, sMd_expire_7, sMd_expire_10, rMd_expire_11, sMd_expire_14, sMd_expire_17, sMd_expire_18, sMd_expire_31, xk_i, xk_l, xk_a, xk_n, xk_0, Option.toList_some, Option.toList_none, List.cons_append, List.nil_append, h2]
    rw [if_neg (by decide), if_pos trivial]
    exact Ke hB g1 A1 L1 hF
  · have hw := (vw_w hv).2.2
    have hTl := vw_len hv
    have hEl := enT_len TT 0 hw
    have h2 : g1 2 = nI 1 := hS1.1
    have h19 := hE.1
    simp only [sMd_expire_5, sMd_expire_6, sMd_expire_7, sMd_expire_10, rMd_expire_11, sMd_expire_14, sMd_expire_17, sMd_expire_18, sMd_expire_21, rMd_expire_22, sMd_expire_25, sMd_expire_26, rMd_expire_27, xk_i, xk_l, xk_a, xk_n, xk_0, Option.toList_some, Option.toList_none, List.cons_append, List.nil_append, h2, h19]
    rw [if_neg (by decide), if_neg (by decide)]
    refine c_entriesSince hE (by omega) (enT_ok hw (by omega)) ?_
    simp only [sMd_expire_30, sMd_expire_31, xk_i, xk_l, xk_a, xk_n, xk_0, Option.toList_some, Option.toList_none, List.cons_append, List.nil_append]
    have e1 : (enT 0 TT).length = (cE TT).length := by rw [← enT_fst TT 0, List.length_map]
    have e2 : (cmT tm TT).2.2.2.length = (mG ekP ((enT 0 TT).filter (sinP tm))).length := by
      have hT0 : TT ≠ [] := fun q => by
        rw [q] at hTl
        exact hB (List.length_eq_zero_iff.mp hTl.symm)
      rw [← wr_mT hT0 hw]
      unfold wrT
      rw [List.length_map]
    have e3 : (mG ekP ((enT 0 TT).filter (sinP tm))).length ≤ (enT 0 TT).length := by
      have a1 := mG_len (f := ekP) (l := (enT 0 TT).filter (sinP tm))
      have a2 := List.length_filter_le (sinP tm) (enT 0 TT)
      omega
    rw [pk_sub e3, e1, ← e2]
    exact K1 TT hv hB hf g1 A1 L1 hS1 hF
  · simp only [sMd_expire_5, sMd_expire_6, sMd_expire_7, sMd_expire_17, sMd_expire_18, sMd_expire_31, xk_i, xk_l, xk_a, xk_n, xk_0, Option.toList_some, Option.toList_none, List.cons_append, List.nil_append]
    rw [if_pos (by decide)]
    exact K0 TT hv hB hf g1 A1 L1 hS1 hF
end MM2
