/-! RefStack$TableStack: looking through a draft, merging -/
def OnlyS (M M' : xM) (s : Nat) : Prop := ∀ q, (q < s ∨ (s + 9 ≤ q ∧ q < s + 31)) → M' q = M q
theorem OnlyS.trans {M M1 M2 : xM} {s : Nat} (h : OnlyS M M1 s) (h2 : OnlyS M1 M2 s) : OnlyS M M2 s := fun q hq => (h2 q hq).trans (h q hq)
theorem OnlyS.rf {M : xM} {s : Nat} : OnlyS M M s := fun _ _ => rfl
section MRG
variable {d s h : Nat} {L : List (Nat × tS)} {M : xM} {z w : Nat} {Q : Option Value → xM → Nat → Nat → Prop}
/-- rows that a walk can go through -/
def okL (l : List (Nat × tS)) : Prop := ∀ e ∈ l, sT (fW false) e.2.2.2.2.2.1 ∧ (∀ r ∈ e.2.2.2.2.2.1, rok r) ∧ sT (fW true) e.2.2.2.2.2.2 ∧ ∀ r ∈ e.2.2.2.2.2.2, rok r
def yR (l : List (Nat × tS)) : List xrow := l.reverse.flatMap (fun e => e.2.2.2.2.2.1)
def yE (l : List (Nat × tS)) : List xrow := l.reverse.flatMap (fun e => e.2.2.2.2.2.2)
theorem okL.yR {l : List (Nat × tS)} (h : okL l) : ∀ r ∈ yR l, rok r := by
  intro r hr
  obtain ⟨e, he, hm⟩ := List.mem_flatMap.mp hr
  exact (h e (List.mem_reverse.mp he)).2.1 r hm
theorem okL.yE {l : List (Nat × tS)} (h : okL l) : ∀ r ∈ yE l, rok r := by
  intro r hr
  obtain ⟨e, he, hm⟩ := List.mem_flatMap.mp hr
  exact (h e (List.mem_reverse.mp he)).2.2.2 r hm
theorem c_wkR {D : Nat → Prop} {ab lo : Nat} (hS : SkAt M s h L z) (hab : ab ≤ L.length) (hlo : lo ≤ ab) (hok : okL ((L.take ab).drop lo)) (hD : ∀ e ∈ (L.take ab).drop lo, ∀ q, e.1 ≤ q → q < e.1 + 10 → D q)
    (K : ∀ M' cur, WkP M' (s + 3) false D cur (mG (fW false) (yR ((L.take ab).drop lo))) → SkAt M' s h L z → Only M M' (s + 3) 3 → Q (some (.ref (s + 3))) M' z w) :
    WP (d + 2) mTs_walkRecords 0 [some (.ref s), some (.int (nI lo)), some (.int (nI ab)), none] [] M z w Q :=
  c_walkRecords hS hab hlo (fun e he => ⟨(hok e he).1, (hok e he).2.1⟩) hD (fun M' cur hW hc hO => K M' cur (hW.start hc (fun r hr => hok.yR r hr)) (hS.walkfalse hO hW.idle) hO)
theorem c_wkE {D : Nat → Prop} {ab lo : Nat} (hS : SkAt M s h L z) (hab : ab ≤ L.length) (hlo : lo ≤ ab) (hok : okL ((L.take ab).drop lo)) (hD : ∀ e ∈ (L.take ab).drop lo, ∀ q, e.1 ≤ q → q < e.1 + 10 → D q)
    (K : ∀ M' cur, WkP M' (s + 6) true D cur (mG (fW true) (yE ((L.take ab).drop lo))) → SkAt M' s h L z → Only M M' (s + 6) 3 → Q (some (.ref (s + 6))) M' z w) :
    WP (d + 2) mTs_walkEntries 0 [some (.ref s), some (.int (nI lo)), some (.int (nI ab)), none] [] M z w Q :=
  c_walkEntries hS hab hlo (fun e he => ⟨(hok e he).2.2.1, (hok e he).2.2.2⟩) hD (fun M' cur hW hc hO => K M' cur (hW.start hc (fun r hr => hok.yE r hr)) (hS.walktrue hO hW.idle) hO)
def clx (k : Nat) (r : xrow) : Bool := !decide (r.2.2 = lN 0) && (decide (und (kN r.1) k) || decide (und k (kN r.1)))
theorem clashes_loop {k : Nat} {M0 : xM} (hk : k < 2 ^ 60) {D : Nat → Prop} {P0 : List xrow} (K : ∀ M', SkAt M' s h L z → Only M0 M' (s + 3) 3 → Q (some (.int (nI (if P0.any (clx k) = true then 1 else 0)))) M' z w) : ∀ (P : List xrow) (i : Nat) (M : xM) (cur : xrow), P.length + i ≤ 360 → P0.any (clx k) = P.any (clx k) → SkAt M s h L z → WkP M (s + 3) false D cur P → Only M0 M (s + 3) 3 →
    WP (d + 4) mTs_draftClashes 15 [some (.ref s), some (.long (lN k)), none, some (.ref (s + 3)), some (.int (nI i))] [] M z w Q := by
  intro P
  induction P with
  | nil =>
    intro i M cur hi hP hS hW hO
    obtain ⟨n, hc⟩ := hW.cell
    rw [sTs_draftClashes_15]
    simp only [sTs_draftClashes_17, sTs_draftClashes_20, sTs_draftClashes_23]
    rw [if_neg (nI_ge (by simp at hi; omega) (by omega)), sTs_draftClashes_24 hc]
    refine c_sto hW (fun _ M' cur' hW' hO' => ?_) (fun M' x P' e => by cases e)
    simp only [sTs_draftClashes_27, sTs_draftClashes_72, sTs_draftClashes_73 xb0, sTs_draftClashes_73 xb1, xk_i, xk_l, xk_a, xk_n, xk_0, Option.toList_some, Option.toList_none, List.cons_append, List.nil_append]
    rw [if_pos (by decide)]
    have := K M' (hS.walkfalse hO' hW'.idle) (hO.trans hO')
    rw [hP] at this
    exact this
  | cons x P ih =>
    intro i M cur hi hP hS hW hO
    obtain ⟨n, hc⟩ := hW.cell
    rw [sTs_draftClashes_15]
    simp only [sTs_draftClashes_17, sTs_draftClashes_20, sTs_draftClashes_23]
    rw [if_neg (nI_ge (by simp at hi; omega) (by omega)), sTs_draftClashes_24 hc]
    refine c_sto hW (fun e => by cases e) (fun M' y P' e ho hW' hO' => ?_)
    cases e
    obtain ⟨n', hc'⟩ := hW'.cell
    have hS' := hS.walkfalse hO' hW'.idle
    simp only [sTs_draftClashes_27, sTs_draftClashes_30, sTs_draftClashes_31 hc' rfl, sTs_draftClashes_34, sTs_draftClashes_35, sTs_draftClashes_36, sTs_draftClashes_39, sTs_draftClashes_42, sTs_draftClashes_43 hc' rfl, sTs_draftClashes_46, xk_i, xk_l, xk_a, xk_n, xk_0, Option.toList_some, Option.toList_none, List.cons_append, List.nil_append, lcmp_eq, lcmp_lt, lcmp_ge, lcmp_gt, lcmp_le]
    rw [if_neg (by decide)]
    have nxt : clx k x = false → WP (d + 4) mTs_draftClashes 66 [some (.ref s), some (.long (lN k)), none, some (.ref (s + 3)), some (.int (nI i))] [] M' z w Q := by
      intro hx
      simp only [sTs_draftClashes_66, sTs_draftClashes_69, nI_add]
      refine ih (i + 1) M' x (by simp at hi ⊢; omega) ?_ hS' hW' (hO.trans hO')
      rw [hP, List.any_cons, hx, Bool.false_or]
    have fin : clx k x = true → Q (some (.int (nI 1))) M' z w := by
      intro hx
      have := K M' hS' (hO.trans hO')
      rw [hP, List.any_cons, hx, Bool.true_or] at this
      exact this
    by_cases h0 : x.2.2 = lN 0
    · rw [if_pos h0]; exact nxt (by unfold clx; simp [h0])
    · have hku : WP (d + 3) mNm_isUnder 0 [some (.long x.1), none, some (.long (lN k)), none, none] [] M' z w = WP (d + 3) mNm_isUnder 0 [some (.long (lN (kN x.1))), none, some (.long (lN k)), none, none] [] M' z w := by rw [lN_kN]
      have hku2 : WP (d + 3) mNm_isUnder 0 [some (.long (lN k)), none, some (.long x.1), none, none] [] M' z w = WP (d + 3) mNm_isUnder 0 [some (.long (lN k)), none, some (.long (lN (kN x.1))), none, none] [] M' z w := by rw [lN_kN]
      rw [if_neg h0, sTs_draftClashes_47, hku, c_isUnder (kN_lt _) (by omega)]
      simp only [sTs_draftClashes_50, sTs_draftClashes_53, sTs_draftClashes_54, sTs_draftClashes_55 hc' rfl, xk_i, xk_l, xk_a, xk_n, xk_0, Option.toList_some, Option.toList_none, List.cons_append, List.nil_append]
      by_cases h1 : und (kN x.1) k
      · rw [if_pos h1, if_neg (by decide)]
        simp only [sTs_draftClashes_64, sTs_draftClashes_65 xb0, sTs_draftClashes_65 xb1]
        exact fin (by unfold clx; simp [h0, h1])
      · rw [if_neg h1, if_pos (by decide), sTs_draftClashes_58, hku2, c_isUnder (by omega) (kN_lt _)]
        simp only [sTs_draftClashes_61, xk_i, xk_l, xk_a, xk_n, xk_0, Option.toList_some, Option.toList_none, List.cons_append, List.nil_append]
        by_cases h2 : und k (kN x.1)
        · rw [if_pos h2, if_neg (by decide)]
          simp only [sTs_draftClashes_64, sTs_draftClashes_65 xb0, sTs_draftClashes_65 xb1]
          exact fin (by unfold clx; simp [h0, h2])
        · rw [if_neg h2, if_pos (by decide)]
          exact nxt (by unfold clx; simp [h1, h2])
theorem c_draftClashes {k : Nat} (hk : k < 2 ^ 60) (hS : SkAt M s h L z) (hh : h + 1 ≤ L.length) (hok : okL (L.take (h + 1))) (K : ∀ M', SkAt M' s h L z → Only M M' (s + 3) 3 → Q (some (.int (nI (if (mG (fW false) (yR (L.take (h + 1)))).any (clx k) = true then 1 else 0)))) M' z w) :
    WP (d + 4) mTs_draftClashes 0 [some (.ref s), some (.long (lN k)), none, none, none] [] M z w Q := by
  have k1 := hS.1
  simp only [sTs_draftClashes_0, sTs_draftClashes_1, sTs_draftClashes_2, sTs_draftClashes_3 k1 rfl, sTs_draftClashes_6, sTs_draftClashes_7, nI_add]
  rw [sTs_draftClashes_8 k1]
  refine c_wkR (D := fun _ => True) (ab := h + 1) (lo := 0) hS hh (by omega) (by rw [List.drop_zero]; exact hok) (fun _ _ _ _ _ => trivial) (fun M1 cur hW hS1 hO1 => ?_)
  rw [List.drop_zero] at hW
  simp only [sTs_draftClashes_11, sTs_draftClashes_12, sTs_draftClashes_13, xk_i, xk_l, xk_a, xk_n, xk_0, Option.toList_some, Option.toList_none, List.cons_append, List.nil_append]
  exact clashes_loop (M0 := M) hk K _ 0 M1 cur (by have := hW.len; omega) rfl hS1 hW hO1
theorem tooMuch_loop {M0 : xM} {D : Nat → Prop} {N : Nat} (hN : N ≤ 360) (K : ∀ M' x3, SkAt M' s h L z → Only M0 M' (s + 3) 3 → WP (d + 3) mTs_draftIsTooMuch 39 [some (.ref s), some (.ref (s + 3)), some (.int (nI N)), some (.int x3)] [] M' z w Q) : ∀ (P : List xrow) (i : Nat) (M : xM) (cur : xrow), i + P.length = N → SkAt M s h L z → WkP M (s + 3) false D cur P → Only M0 M (s + 3) 3 →
    WP (d + 3) mTs_draftIsTooMuch 16 [some (.ref s), some (.ref (s + 3)), some (.int (nI i)), some (.int (nI i))] [] M z w Q := by
  intro P
  induction P with
  | nil =>
    intro i M cur hi hS hW hO
    obtain ⟨n, hc⟩ := hW.cell
    rw [sTs_draftIsTooMuch_16]
    simp only [sTs_draftIsTooMuch_17, sTs_draftIsTooMuch_20, sTs_draftIsTooMuch_23]
    rw [if_neg (nI_ge (by simp at hi; omega) (by omega)), sTs_draftIsTooMuch_24 hc]
    refine c_sto hW (fun _ M' cur' hW' hO' => ?_) (fun M' x P' e => by cases e)
    simp only [sTs_draftIsTooMuch_27, xk_i, xk_l, xk_a, xk_n, xk_0, Option.toList_some, Option.toList_none, List.cons_append, List.nil_append]
    rw [if_pos (by decide)]
    have := K M' (nI i) (hS.walkfalse hO' hW'.idle) (hO.trans hO')
    rw [← hi] at this
    exact this
  | cons x P ih =>
    intro i M cur hi hS hW hO
    obtain ⟨n, hc⟩ := hW.cell
    rw [sTs_draftIsTooMuch_16]
    simp only [sTs_draftIsTooMuch_17, sTs_draftIsTooMuch_20, sTs_draftIsTooMuch_23]
    rw [if_neg (nI_ge (by simp at hi; omega) (by omega)), sTs_draftIsTooMuch_24 hc]
    refine c_sto hW (fun e => by cases e) (fun M' y P' e ho hW' hO' => ?_)
    cases e
    simp only [sTs_draftIsTooMuch_27, sTs_draftIsTooMuch_30, sTs_draftIsTooMuch_33, sTs_draftIsTooMuch_36, xk_i, xk_l, xk_a, xk_n, xk_0, Option.toList_some, Option.toList_none, List.cons_append, List.nil_append, nI_add]
    rw [if_neg (by decide)]
    exact ih (i + 1) M' x (by simp at hi; omega) (hS.walkfalse hO' hW'.idle) hW' (hO.trans hO')
theorem c_draftIsTooMuch (hS : SkAt M s h L z) (hh : h + 1 ≤ L.length) (hok : okL (L.take (h + 1))) (hE : (L.take (h + 1)).foldl (fun m e => m + e.2.2.2.2.2.2.length) 0 < 2 ^ 31) (K : ∀ M', SkAt M' s h L z → Only M M' (s + 3) 3 → Q (some (.int (nI (if 16 < (mG (fW false) (yR (L.take (h + 1)))).length ∨ 24 < (L.take (h + 1)).foldl (fun m e => m + e.2.2.2.2.2.2.length) 0 then 1 else 0)))) M' z w) :
    WP (d + 3) mTs_draftIsTooMuch 0 [some (.ref s), none, none, none] [] M z w Q := by
  have k1 := hS.1
  simp only [sTs_draftIsTooMuch_0, sTs_draftIsTooMuch_1, sTs_draftIsTooMuch_2, sTs_draftIsTooMuch_3 k1 rfl, sTs_draftIsTooMuch_6, sTs_draftIsTooMuch_7, nI_add]
  rw [sTs_draftIsTooMuch_8 k1]
  refine c_wkR (D := fun _ => True) (ab := h + 1) (lo := 0) hS hh (by omega) (by rw [List.drop_zero]; exact hok) (fun _ _ _ _ _ => trivial) (fun M1 cur hW hS1 hO1 => ?_)
  rw [List.drop_zero] at hW
  simp only [sTs_draftIsTooMuch_11, sTs_draftIsTooMuch_12, sTs_draftIsTooMuch_13, sTs_draftIsTooMuch_14, sTs_draftIsTooMuch_15, xk_i, xk_l, xk_a, xk_n, xk_0, Option.toList_some, Option.toList_none, List.cons_append, List.nil_append]
  have hl := hW.len
  refine tooMuch_loop (M0 := M) (N := (mG (fW false) (yR (L.take (h + 1)))).length) hl (fun M2 x3 hS2 hO2 => ?_) _ 0 M1 cur (by omega) hS1 hW hO1
  have j1 := hS2.1
  have hK := K M2 hS2 hO2
  simp only [sTs_draftIsTooMuch_39, sTs_draftIsTooMuch_40, sTs_draftIsTooMuch_42, sTs_draftIsTooMuch_45, sTs_draftIsTooMuch_46, sTs_draftIsTooMuch_47 j1 rfl, sTs_draftIsTooMuch_50, sTs_draftIsTooMuch_51, sTs_draftIsTooMuch_60, sTs_draftIsTooMuch_61, sTs_draftIsTooMuch_64, sTs_draftIsTooMuch_65 xb0, sTs_draftIsTooMuch_65 xb1, nI_add]
  by_cases h16 : 16 < (mG (fW false) (yR (L.take (h + 1)))).length
  · rw [if_pos (nI_lt h16 (by omega))]
    rw [if_pos (Or.inl h16)] at hK
    exact hK
  · rw [if_neg (nI_nlt (by omega) (by omega)), sTs_draftIsTooMuch_52 j1, c_entriesBelow hS2 hh]
    simp only [sTs_draftIsTooMuch_55, sTs_draftIsTooMuch_57, sTs_draftIsTooMuch_60, sTs_draftIsTooMuch_61, sTs_draftIsTooMuch_64, sTs_draftIsTooMuch_65 xb0, sTs_draftIsTooMuch_65 xb1, xk_i, xk_l, xk_a, xk_n, xk_0, Option.toList_some, Option.toList_none, List.cons_append, List.nil_append]
    by_cases h24 : 24 < (L.take (h + 1)).foldl (fun m e => m + e.2.2.2.2.2.2.length) 0
    · rw [if_neg (nI_ge h24 hE)]
      rw [if_pos (Or.inr h24)] at hK
      exact hK
    · rw [if_pos (nI_le (by omega) (by omega))]
      rw [if_neg (by rintro (q | q); exact h16 q; exact h24 q)] at hK
      exact hK
/-- one table is written anew -/
theorem SkAt.setT {M' : xM} {i : Nat} {e : Nat × tS} {b : tS} (hS : SkAt M s h L z) (he : L[i]? = some e) (hb : TbAt M' (e.1, b)) (hO : Only M M' e.1 10) : SkAt M' s h (L.set i (e.1, b)) z := by
  obtain ⟨k1, k2, ⟨v, f, k3⟩, k4, k5, k6, k7, k8, k9⟩ := hS
  have hil := (List.getElem?_eq_some_iff.mp he).1
  obtain ⟨a1, a2, a3⟩ := k8 i e he
  have hslv : slv (L.set i (e.1, b)) = slv L := by
    unfold slv
    rw [List.length_set]
    congr 1
    apply List.ext_getElem?
    intro n
    rw [List.getElem?_map, List.getElem?_map, List.getElem?_set]
    by_cases hn : i = n
    · subst hn; rw [if_pos rfl, if_pos hil, he]; rfl
    · rw [if_neg hn]
  refine ⟨by rw [hO _ (by omega)]; exact k1, by rw [hO _ (by omega), hslv]; exact k2, ⟨v, f, by rw [hO _ (by omega)]; exact k3⟩, k4.kept (fun q a b => hO q (by omega)), k5.kept (fun q a b => hO q (by omega)), by simpa using k6, by simpa using k7, fun j e' he' => ?_, fun j1 j2 e1 e2 hj h1 h2 => ?_⟩
  · by_cases hij : i = j
    · subst hij
      rw [List.getElem?_set_self hil] at he'
      cases he'
      exact ⟨a1, a2, hb⟩
    · rw [List.getElem?_set_ne hij] at he'
      obtain ⟨b1, b2, b3⟩ := k8 j e' he'
      refine ⟨b1, b2, b3.kept (fun q q1 q2 => hO q ?_)⟩
      rcases Nat.lt_or_gt_of_ne hij with hl | hl
      · have := k9 i j e e' hl he he'; omega
      · have := k9 j i e' e hl he' he; omega
  · by_cases hi1 : i = j1
    · subst hi1
      rw [List.getElem?_set_self hil] at h1
      rw [List.getElem?_set_ne (by omega)] at h2
      cases h1
      exact k9 i j2 e e2 hj he h2
    · rw [List.getElem?_set_ne hi1] at h1
      by_cases hi2 : i = j2
      · subst hi2
        rw [List.getElem?_set_self hil] at h2
        cases h2
        exact k9 j1 i e1 e hj h1 he
      · rw [List.getElem?_set_ne hi2] at h2
        exact k9 j1 j2 e1 e2 hj h1 h2
end MRG
