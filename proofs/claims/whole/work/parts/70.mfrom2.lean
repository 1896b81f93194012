/-! RefStack$TableStack: mergeFrom, on -/
section MF2
variable {d s h : Nat} {L : List (Nat × tS)} {M : xM} {z w : Nat} {Q : Option Value → xM → Nat → Nat → Prop}
/-- the merged table takes the lowest one's place -/
theorem swp_at {lo : Nat} {e0 e : Nat × tS} (hlo : lo < h) (h0 : L[lo]? = some e0) (he : L[h]? = some e) (i : Nat) : ((L.set h e0).set lo e)[i]? = if i = lo then some e else if i = h then some e0 else L[i]? := by
  have a1 := (List.getElem?_eq_some_iff.mp h0).1
  have a2 := (List.getElem?_eq_some_iff.mp he).1
  rw [List.getElem?_set]
  by_cases h1 : lo = i
  · subst h1; rw [if_pos rfl, if_pos (by simp; omega), if_pos rfl]
  · rw [if_neg h1, if_neg (fun q => h1 q.symm), List.getElem?_set]
    by_cases h2 : h = i
    · subst h2; rw [if_pos rfl, if_pos a2, if_pos rfl]
    · rw [if_neg h2, if_neg (fun q => h2 q.symm)]
theorem slv_set {i : Nat} {e : Nat × tS} (hi : i < L.length) : (slv L).set i (.ref e.1) = slv (L.set i e) := by
  unfold slv
  rw [List.length_set, List.map_set]
  apply List.ext_getElem?
  intro n
  rw [List.getElem?_set]
  by_cases hn : i = n
  · subst hn
    rw [if_pos rfl, if_pos (by simp; omega), List.getElem?_append_left (by simp; omega), List.getElem?_set_self (by simp; omega)]
  · rw [if_neg hn]
    by_cases hl : n < L.length
    · rw [List.getElem?_append_left (by simp; omega), List.getElem?_append_left (by simp; omega), List.getElem?_set_ne hn]
    · rw [List.getElem?_append_right (by simp; omega), List.getElem?_append_right (by simp; omega), List.length_set]
theorem SkAt.swap {M' : xM} {lo : Nat} {e0 e : Nat × tS} (hS : SkAt M s h L z) (hlo : lo < h) (h0 : L[lo]? = some e0) (he : L[h]? = some e)
    (hM1 : M' s = some (4, [.ref (s + 1), .ref (s + 2), .ref (s + 3), .ref (s + 6), .int (nI (lo + 1))])) (hM2 : M' (s + 1) = some (23, slv ((L.set h e0).set lo e))) (hO : ∀ q, q ≠ s → q ≠ s + 1 → M' q = M q) : SkAt M' s (lo + 1) ((L.set h e0).set lo e) z := by
  obtain ⟨k1, k2, ⟨v, f, k3⟩, k4, k5, k6, k7, k8, k9⟩ := hS
  have a2 := (List.getElem?_eq_some_iff.mp he).1
  have k9' : ∀ (i j : Nat) (e e' : Nat × tS), i ≠ j → L[i]? = some e → L[j]? = some e' → e.1 + 10 ≤ e'.1 ∨ e'.1 + 10 ≤ e.1 := by
    intro i j e e' hij h1 h2
    rcases Nat.lt_or_gt_of_ne hij with hl | hl
    · exact k9 i j e e' hl h1 h2
    · exact (k9 j i e' e hl h2 h1).symm
  have hsw : ∀ (i : Nat) (x : Nat × tS), ((L.set h e0).set lo e)[i]? = some x → L[if i = lo then h else if i = h then lo else i]? = some x := by
    intro i x hx
    rw [swp_at hlo h0 he] at hx
    by_cases h1 : i = lo
    · rw [if_pos h1] at hx ⊢; rw [← hx]; exact he
    · rw [if_neg h1] at hx ⊢
      by_cases h2 : i = h
      · rw [if_pos h2] at hx ⊢; rw [← hx]; exact h0
      · rw [if_neg h2] at hx ⊢; exact hx
  refine ⟨hM1, hM2, ⟨v, f, by rw [hO _ (by omega) (by omega)]; exact k3⟩, k4.kept (fun q a b => hO q (by omega) (by omega)), k5.kept (fun q a b => hO q (by omega) (by omega)), by simpa using k6, by simp; omega, fun i x hx => ?_, fun i j x y hij hx hy => ?_⟩
  · obtain ⟨b1, b2, b3⟩ := k8 _ x (hsw i x hx)
    exact ⟨b1, b2, b3.kept (fun q q1 q2 => hO q (by omega) (by omega))⟩
  · refine k9' _ _ x y ?_ (hsw i x hx) (hsw j y hy)
    by_cases h1 : i = lo
    · rw [if_pos h1, if_neg (by omega)]
      by_cases h2 : j = h
      · rw [if_pos h2]; omega
      · rw [if_neg h2]; omega
    · rw [if_neg h1]
      by_cases h3 : i = h
      · rw [if_pos h3, if_neg (by omega), if_neg (by omega)]; omega
      · rw [if_neg h3]
        by_cases h4 : j = lo
        · rw [if_pos h4]; omega
        · rw [if_neg h4]
          by_cases h5 : j = h
          · rw [if_pos h5]; omega
          · rw [if_neg h5]; omega
theorem SkAt.wrote {M' : xM} {i : Nat} {e : Nat × tS} {b : tS} {v : Value} {f : Int32} (hS : SkAt M s h L z) (he : L[i]? = some e) (hb : TbAt M' (e.1, b)) (hv : M' (s + 2) = some (7, [v, .int f])) (hO : OnlyW M M' (s + 2) e.1) : SkAt M' s h (L.set i (e.1, b)) z := by
  have hloc := hS.2.2.2.2.2.2.2.1 i e he
  have h1 : SkAt (fun q => if q = s + 2 then M q else M' q) s h (L.set i (e.1, b)) z := by
    refine hS.setT he (hb.kept (fun q q1 q2 => if_neg (by have : e.1 ≤ q := q1; omega))) (fun q hq => ?_)
    by_cases h2 : q = s + 2
    · simp only [h2, if_true]
    · simp only [h2, if_false]
      exact hO q h2 hq
  obtain ⟨k1, k2, -, k4, k5, k6, k7, k8, k9⟩ := h1
  have ne : ∀ q, q ≠ s + 2 → M' q = (fun q => if q = s + 2 then M q else M' q) q := fun q hq => by simp only [hq, if_false]
  exact ⟨by rw [ne _ (by omega)]; exact k1, by rw [ne _ (by omega)]; exact k2, ⟨v, f, hv⟩, k4.kept (fun q a b => ne q (by omega)), k5.kept (fun q a b => ne q (by omega)), k6, k7, fun j x hx => ⟨(k8 j x hx).1, (k8 j x hx).2.1, (k8 j x hx).2.2.kept (fun q a b => ne q (by have := (k8 j x hx).1; omega))⟩, k9⟩
set_option maxHeartbeats 2000000 in
theorem c_mergeFrom {lo : Nat} {tm : Int32} {TT : List ptab} (hS : SkAt M s h L z) (hz : s + 31 ≤ z) (h9 : h < 9) (hlo : lo < h) (hT : (L.take h).map (fun e => e.2) = TT.map rawP) (hw : ∀ p ∈ TT, wT0 p.2)
    (K1 : (mT (decide (lo = 0)) tm (TT.drop lo)).2.2.1.length ≤ 30 → (mT (decide (lo = 0)) tm (TT.drop lo)).2.2.2.length ≤ 40 → (serT (mT (decide (lo = 0)) tm (TT.drop lo))).length ≤ 1200 → ∀ M' L', SkAt M' s (lo + 1) L' (z + 10 * (L'.length - L.length)) → (L'.take (lo + 1)).map (fun e => e.2) = (TT.take lo ++ [(serT (mT (decide (lo = 0)) tm (TT.drop lo)), mT (decide (lo = 0)) tm (TT.drop lo))]).map rawP → L.length ≤ L'.length → OnlyS M M' s → Q (some (.int (nI 1))) M' (z + 10 * (L'.length - L.length)) (w + 1427 * (L'.length - L.length)))
    (K0 : ¬ ((mT (decide (lo = 0)) tm (TT.drop lo)).2.2.1.length ≤ 30 ∧ (mT (decide (lo = 0)) tm (TT.drop lo)).2.2.2.length ≤ 40 ∧ (serT (mT (decide (lo = 0)) tm (TT.drop lo))).length ≤ 1200) → ∀ M' L', SkAt M' s h L' (z + 10 * (L'.length - L.length)) → L'.take h = L.take h → L.length ≤ L'.length → OnlyS M M' s → Q (some (.int (nI 0))) M' (z + 10 * (L'.length - L.length)) (w + 1427 * (L'.length - L.length))) :
    WP (d + 4) mTs_mergeFrom 0 [some (.ref s), some (.int (nI lo)), some (.int tm), none] [] M z w Q := by
  have k1 := hS.1
  have hTl : TT.length = h := by
    have := congrArg List.length hT
    simp only [List.length_map, List.length_take] at this
    have := hS.2.2.2.2.2.2.1
    omega
  have q0 := nI_eq (a := h) (b := 0) (by omega) (by omega)
  have hT2 : ((L.take h).drop lo).map (fun e => e.2) = (TT.drop lo).map rawP := by rw [List.map_drop, hT, List.map_drop]
  have hw2 : ∀ p ∈ TT.drop lo, wT0 p.2 := fun p hp => hw p (List.mem_of_mem_drop hp)
  have hne : TT.drop lo ≠ [] := by intro q; have := congrArg List.length q; simp at this; omega
  have hm0 := mT_wT0 (b := decide (lo = 0)) (t := tm) hne hw2
  have eR : (mG (fW false) (yR ((L.take h).drop lo))).filter (kpX lo) = (mT (decide (lo = 0)) tm (TT.drop lo)).2.2.1.map rawR := by
    rw [yR_raw hT2, mG_R (cR_lt hw2), flt_R (fun r hr => ?_)]
    · rfl
    · obtain ⟨p, hp, hm⟩ := mem_cR.mp (mG_sub hr)
      exact ((hw2 p hp).2.2.2.2.2.1 r hm).2.2.2.ok
  have eE : (mG (fW true) (yE ((L.take h).drop lo))).filter (exX tm) = (mT (decide (lo = 0)) tm (TT.drop lo)).2.2.2.map rawE := by
    rw [yE_raw hT2, mG_E (cE_lt hw2), flt_E]
    rfl
  have eL : ((L.take h).drop lo).foldl (fun m e => mn32 m e.2.2.1) (nI 2000) = nI (mT (decide (lo = 0)) tm (TT.drop lo)).1 := lw_raw hw2 (by omega) hT2
  have eH : ((L.take h).drop lo).foldl (fun m e => mx32 m e.2.2.2.1) (nI 0) = nI (mT (decide (lo = 0)) tm (TT.drop lo)).2.1 := hg_raw hw2 (by omega) hT2
  have hok := ok_raw hw2 hT2
  generalize mT (decide (lo = 0)) tm (TT.drop lo) = T at K1 K0 hm0 eR eE eL eH
  simp only [sTs_mergeFrom_0, sTs_mergeFrom_1 k1 rfl, sTs_mergeFrom_4, sTs_mergeFrom_7, sTs_mergeFrom_8 xb0, sTs_mergeFrom_8 xb1, sTs_mergeFrom_9, sTs_mergeFrom_10, sTs_mergeFrom_13, sTs_mergeFrom_14, sTs_mergeFrom_15 k1 rfl, sTs_mergeFrom_18, sTs_mergeFrom_21, sTs_mergeFrom_22 k1 rfl, sTs_mergeFrom_25, sTs_mergeFrom_27, sTs_mergeFrom_30, sTs_mergeFrom_31 xb0, sTs_mergeFrom_31 xb1, sTs_mergeFrom_32, sTs_mergeFrom_33, sTs_mergeFrom_34 k1 rfl, q0]
  rw [if_neg (by omega), if_neg (nI_nlt (by omega) (by omega)), if_neg (nI_ge hlo (by omega)), if_pos (nI_lt (by omega) (by omega)), sTs_mergeFrom_37 k1]
  refine c_tableIn_h (d := d) hS h9 hz (fun M1 L1 e hS1 he htk hll hO1 => ?_)
  have hh1 := (List.getElem?_eq_some_iff.mp he).1
  rw [← htk] at eR eE eL eH hok
  simp only [sTs_mergeFrom_40, sTs_mergeFrom_41, sTs_mergeFrom_42, sTs_mergeFrom_43, xk_i, xk_l, xk_a, xk_n, xk_0, Option.toList_some, Option.toList_none, List.cons_append, List.nil_append]
  rw [sTs_mergeFrom_44 hS1.1]
  refine c_clearForMerge hS1 he (Nat.le_of_lt hlo) (fun M2 hS2 hOa => ?_)
  rw [eL, eH] at hS2
  have hloc := hS1.2.2.2.2.2.2.2.1 h e he
  have hO2 : OnlyS M M2 s := hO1.trans (fun q hq => hOa q (by omega))
  simp only [sTs_mergeFrom_47, sTs_mergeFrom_48, sTs_mergeFrom_49, xk_i, xk_l, xk_a, xk_n, xk_0, Option.toList_some, Option.toList_none, List.cons_append, List.nil_append]
  rw [sTs_mergeFrom_50 hS2.1]
  have lset : ∀ (x : Nat × tS), (L1.set h x).length = L1.length := fun x => List.length_set
  have fin0 : ¬ (T.2.2.1.length ≤ 30 ∧ T.2.2.2.length ≤ 40 ∧ (serT T).length ≤ 1200) → ∀ (M' : xM) (b : tS), SkAt M' s h (L1.set h (e.1, b)) (z + 10 * (L1.length - L.length)) → OnlyS M M' s → Q (some (.int (nI 0))) M' (z + 10 * (L1.length - L.length)) (w + 1427 * (L1.length - L.length)) := by
    intro hn M' b hS' hO'
    have := K0 hn M' (L1.set h (e.1, b))
    rw [lset, tk_set] at this
    exact this hS' htk hll hO'
  refine c_mergeRecords (L := L1) (en := []) hS2 hh1 (Nat.le_of_lt hlo) hok (fun h30 M3 hS3 hO3 => ?_) (fun h30 M3 rc hS3 hO3 => ?_)
  rotate_left
  · simp only [sTs_mergeFrom_53, sTs_mergeFrom_66, sTs_mergeFrom_67 xb0, sTs_mergeFrom_67 xb1, xk_i, xk_l, xk_a, xk_n, xk_0, Option.toList_some, Option.toList_none, List.cons_append, List.nil_append]
    rw [if_pos (by decide)]
    rw [eR, List.length_map] at h30
    exact fin0 (fun q => h30 q.1) M3 _ hS3 (hO2.trans hO3)
  rw [eR, List.length_map] at h30
  rw [eR] at hS3
  simp only [sTs_mergeFrom_53, sTs_mergeFrom_56, sTs_mergeFrom_57, sTs_mergeFrom_58, sTs_mergeFrom_59, xk_i, xk_l, xk_a, xk_n, xk_0, Option.toList_some, Option.toList_none, List.cons_append, List.nil_append]
  rw [if_neg (by decide), sTs_mergeFrom_60 hS3.1]
  refine c_mergeEntries (L := L1) hS3 hh1 (Nat.le_of_lt hlo) hok (fun h40 M4 hS4 hO4 => ?_) (fun h40 M4 en hS4 hO4 => ?_)
  rotate_left
  · simp only [sTs_mergeFrom_63, sTs_mergeFrom_66, sTs_mergeFrom_67 xb0, sTs_mergeFrom_67 xb1, xk_i, xk_l, xk_a, xk_n, xk_0, Option.toList_some, Option.toList_none, List.cons_append, List.nil_append]
    rw [if_pos (by decide)]
    rw [eE, List.length_map] at h40
    exact fin0 (fun q => h40 q.2.1) M4 _ hS4 ((hO2.trans hO3).trans hO4)
  rw [eE, List.length_map] at h40
  rw [eE] at hS4
  have hOx : OnlyS M M4 s := (hO2.trans hO3).trans hO4
  have j1 := hS4.1
  obtain ⟨v4, f4, j3⟩ := hS4.2.2.1
  simp only [sTs_mergeFrom_63, sTs_mergeFrom_66, sTs_mergeFrom_67 xb0, sTs_mergeFrom_67 xb1, sTs_mergeFrom_68, sTs_mergeFrom_69 j1 rfl, sTs_mergeFrom_72, xk_i, xk_l, xk_a, xk_n, xk_0, Option.toList_some, Option.toList_none, List.cons_append, List.nil_append]
  rw [if_neg (by decide), sTs_mergeFrom_73 j3]
  have het : ∀ (x : Nat × tS), (L1.set h x)[h]? = some x := fun x => List.getElem?_set_self hh1
  have hT4 := hS4.tab (het _)
  have b1 := hm0.1
  have b2 := hm0.2.1
  have b3 := hm0.2.2.1
  refine c_write (d := d) (wr := s + 2) (t := e.1) (R := T.2.2.1) (E := T.2.2.2) (lw := T.1) (hg := T.2.1) (by omega) j3 hT4 (fun r hr => (hm0.2.2.2.2.2.1 r hr).ok b3) (fun r hr => (hm0.2.2.2.2.2.2 r hr).ok b3) h30 h40 (by omega) (by omega) (fun h12 M5 hT5 hw5 hO5 => ?_) (fun h12 M5 bs5 hT5 hw5 hO5 => ?_)
  rotate_left
  · simp only [sTs_mergeFrom_76, sTs_mergeFrom_79, sTs_mergeFrom_80 xb0, sTs_mergeFrom_80 xb1, xk_i, xk_l, xk_a, xk_n, xk_0, Option.toList_some, Option.toList_none, List.cons_append, List.nil_append]
    rw [if_pos (by decide)]
    have hS5 := hS4.wrote (b := (bs5, nI T.1, nI T.2.1, false, T.2.2.1.map rawR, T.2.2.2.map rawE)) (het _) hT5 hw5 hO5
    rw [List.set_set] at hS5
    exact fin0 (fun q => h12 q.2.2) M5 _ hS5 (hOx.trans (fun q hq => hO5 q (by omega) (by omega)))
  have hS5 : SkAt M5 s h (L1.set h (e.1, rawT (serT T) T)) (z + 10 * (L1.length - L.length)) := by
    have := hS4.wrote (b := rawT (serT T) T) (het _) hT5 hw5 hO5
    rw [List.set_set] at this
    exact this
  have hO5' : OnlyS M M5 s := hOx.trans (fun q hq => hO5 q (by omega) (by omega))
  have g1 := hS5.1
  have g2 := hS5.2.1
  have h90 : L1.length ≤ 9 := hS1.2.2.2.2.2.1
  have h0 : L1[lo]? = some L1[lo] := List.getElem?_eq_getElem (by omega)
  generalize L1[lo] = e0 at h0
  have h0' : (L1.set h (e.1, rawT (serT T) T))[lo]? = some e0 := by rw [List.getElem?_set_ne (by omega)]; exact h0
  have hsl : (slv (L1.set h (e.1, rawT (serT T) T))).length = 9 := slv_len (by rw [lset]; exact h90)
  simp only [sTs_mergeFrom_76, sTs_mergeFrom_79, sTs_mergeFrom_80 xb0, sTs_mergeFrom_80 xb1, sTs_mergeFrom_81, sTs_mergeFrom_82 g1 rfl, sTs_mergeFrom_85, sTs_mergeFrom_86 g1 rfl, sTs_mergeFrom_89, sTs_mergeFrom_90 g1 rfl, sTs_mergeFrom_93, xk_i, xk_l, xk_a, xk_n, xk_0, Option.toList_some, Option.toList_none, List.cons_append, List.nil_append]
  rw [if_neg (by decide), sTs_mergeFrom_94 g2 (nI_toInt (n := lo) (by omega)) (slv_at h0'), sTs_mergeFrom_95 g2 (hS5.tab h0').cell (nI_toInt (n := h) (by omega)) (by omega), slv_set (e := e0) (by rw [lset]; omega)]
  have f1 : xput M5 (s + 1) (23, slv ((L1.set h (e.1, rawT (serT T) T)).set h e0)) s = _ := (xput_ne (by omega)).trans g1
  simp only [sTs_mergeFrom_96, sTs_mergeFrom_97 f1 rfl, sTs_mergeFrom_100, sTs_mergeFrom_101]
  rw [sTs_mergeFrom_102 xput_same ((xput_ne (by omega)).trans (hS5.tab (het _)).cell) (nI_toInt (n := lo) (by omega)) (by rw [slv_len (by simp; omega)]; omega)]
  rw [show (slv ((L1.set h (e.1, rawT (serT T) T)).set h e0)).set lo (.ref (e.1, rawT (serT T) T).1) = slv (((L1.set h (e.1, rawT (serT T) T)).set h e0).set lo (e.1, rawT (serT T) T)) from slv_set (by simp; omega)]
  simp only [sTs_mergeFrom_103, sTs_mergeFrom_104, sTs_mergeFrom_105, sTs_mergeFrom_106, nI_add]
  rw [sTs_mergeFrom_107 ((xput_ne (by omega)).trans f1) rfl, sTs_mergeFrom_110, sTs_mergeFrom_111 xb1]
  generalize hM6 : xput (xput (xput M5 (s + 1) _) (s + 1) _) s _ = M6
  have o6 : ∀ q, q ≠ s → q ≠ s + 1 → M6 q = M5 q := fun q q1 q2 => by rw [← hM6, xput_ne q1, xput_ne q2, xput_ne q2]
  have hS6 := hS5.swap (M' := M6) hlo h0' (het _) (by rw [← hM6, xput_same]; rfl) (by rw [← hM6, xput_ne (by omega), xput_same]) o6
  have lfin : ((L1.set h (e.1, rawT (serT T) T)).set h e0).set lo (e.1, rawT (serT T) T) = ((L1.set h (e.1, rawT (serT T) T)).set h e0).set lo (e.1, rawT (serT T) T) := rfl
  have := K1 h30 h40 h12 M6 (((L1.set h (e.1, rawT (serT T) T)).set h e0).set lo (e.1, rawT (serT T) T))
  rw [List.length_set, List.length_set, List.length_set] at this
  refine this hS6 ?_ hll (hO5'.trans (fun q hq => o6 q (by omega) (by omega)))
  rw [List.set_set, List.take_succ_eq_append_getElem (by simp; omega), List.getElem_set_self, List.take_set_of_le (Nat.le_refl _), List.take_set_of_le (by omega), List.map_append, List.map_append]
  congr 1
  have e9 : L1.take lo = (L1.take h).take lo := by rw [List.take_take, Nat.min_eq_left (by omega)]
  rw [e9, htk, List.map_take, hT, List.map_take]
end MF2
