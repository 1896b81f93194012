/-! RefStack$Reader: records and entries -/
section RD3
variable {d rd t : Nat} {bs : List Nat} {lw hg : Nat} {wf : Bool} {recs ents : List xrow} {ps : Option (List Nat)} {M : xM} {z w : Nat} {Q : Option Value → xM → Nat → Nat → Prop}
theorem RdAt.putR {M' : xM} {low high : Int32} {recs' : List xrow} (h : RdAt M rd t bs low high wf recs ents ps) (hR : RowsAt M' (t + 2) 30 recs') (hO : Only M M' (t + 2) 4) : RdAt M' rd t bs low high wf recs' ents ps := by
  obtain ⟨h1, ⟨k1, k2, ⟨bl, k3, k4, k5⟩, k6, k7, k8⟩, h3, pos, h4, h5, h6⟩ := h
  exact ⟨h1, ⟨k1, k2, ⟨bl, k3, by rw [hO _ (by omega)]; exact k4, k5⟩, by rw [hO _ (by omega)]; exact k6, hR, k8.kept (fun q a b => hO q (by omega))⟩, h3, pos, h4, by rw [hO _ (by omega)]; exact h5, h6⟩
theorem RdAt.putE {M' : xM} {low high : Int32} {ents' : List xrow} (h : RdAt M rd t bs low high wf recs ents ps) (hR : RowsAt M' (t + 6) 40 ents') (hO : Only M M' (t + 6) 4) : RdAt M' rd t bs low high wf recs ents' ps := by
  obtain ⟨h1, ⟨k1, k2, ⟨bl, k3, k4, k5⟩, k6, k7, k8⟩, h3, pos, h4, h5, h6⟩ := h
  exact ⟨h1, ⟨k1, k2, ⟨bl, k3, by rw [hO _ (by omega)]; exact k4, k5⟩, by rw [hO _ (by omega)]; exact k6, k7.kept (fun q a b => hO q (by omega)), hR⟩, h3, pos, h4, by rw [hO _ (by omega)]; exact h5, h6⟩
theorem RdAt.cells {low high : Int32} (h : RdAt M rd t bs low high wf recs ents ps) : (∃ fs, M rd = some (1, .ref t :: fs)) ∧ M t = some (3, [.ref (t + 1), .ref (t + 2), .ref (t + 6), .int (nI bs.length), .int low, .int high, .int (nI (if wf = true then 1 else 0))]) ∧ RowsAt M (t + 2) 30 recs ∧ RowsAt M (t + 6) 40 ents := by
  obtain ⟨h1, ⟨k1, k2, ⟨bl, k3, k4, k5⟩, k6, k7, k8⟩, h3, pos, h4, h5, h6⟩ := h
  exact ⟨⟨_, h5⟩, k6, k7, k8⟩
set_option maxHeartbeats 2000000 in
theorem c_readRecord {i p : Nat} (hlw : lw < 2097152) (hhg : hg < 2097152) (hi : i = recs.length) (hi30 : i < 30) (hp : kbf recs i = lN p) (hp60 : p < 2 ^ 60) (h : RdAt M rd t bs (nI lw) (nI hg) wf recs ents ps)
    (K : ∀ M' x ps', RdAt M' rd t bs (nI lw) (nI hg) wf (recs ++ [x]) ents ps' → PR (rD i p lw hg) ps (fun r => x = rawR r) ps' → OnlyW M M' rd t → Q none M' z w) : WP (d + 5) mRd_readRecord 0 [some (.ref rd), some (.int (nI i)), none, none, none, none, none, none] [] M z w Q := by
  obtain ⟨⟨fs, hc⟩, k6, k7, k8⟩ := h.cells
  simp only [sRd_readRecord_0, sRd_readRecord_1 hc rfl, sRd_readRecord_4 k6 rfl, sRd_readRecord_7, sRd_readRecord_8, xk_i, xk_l, xk_a, xk_n, xk_0, Option.toList_some, Option.toList_none, List.cons_append, List.nil_append]
  rw [sRd_readRecord_9 hc]
  refine c_nextVarint h (fun M1 sh ps1 hsh hR1 hP1 hO1 => ?_)
  obtain ⟨⟨fs1, hc1⟩, -, -, -⟩ := hR1.cells
  simp only [sRd_readRecord_12, sRd_readRecord_13, xk_i, xk_l, xk_a, xk_n, xk_0, Option.toList_some, Option.toList_none, List.cons_append, List.nil_append]
  rw [sRd_readRecord_14 hc1]
  refine c_nextVarint hR1 (fun M2 hd ps2 hhd hR2 hP2 hO2 => ?_)
  obtain ⟨⟨fs2, hc2⟩, -, -, -⟩ := hR2.cells
  simp only [sRd_readRecord_17, sRd_readRecord_19, sRd_readRecord_20, sRd_readRecord_22, sRd_readRecord_23, sRd_readRecord_24, sRd_readRecord_25, sRd_readRecord_28, sRd_readRecord_29, sRd_readRecord_32, xk_i, xk_l, xk_a, xk_n, xk_0, Option.toList_some, Option.toList_none, List.cons_append, List.nil_append]
  rw [pk_shrN (n := hd) (by omega) (nI 2 &&& 31) 2 (by decide), show (2 : Nat) ^ 2 = 4 from rfl]
  have fin1 : ∀ c : Bool, (c = true ↔ 1 ≤ hd / 4) → WP (d + 5) mRd_readRecord 33 [some (.ref rd), some (.int (nI i)), some (.ref (t + 2)), some (.int (nI sh)), some (.int (nI hd)), none, none, none] [.int (nI (if c = true then 1 else 0)), .ref rd] M2 z w Q := by
    intro c1 hc1'
    rw [sRd_readRecord_33 hc2]
    refine c_require (c := c1) hR2 (fun M3 hR3 hO3 => ?_)
    obtain ⟨⟨fs3, hc3⟩, -, k73, -⟩ := hR3.cells
    simp only [sRd_readRecord_36, sRd_readRecord_37, sRd_readRecord_38, xk_i, xk_l, xk_a, xk_n, xk_0, Option.toList_some, Option.toList_none, List.cons_append, List.nil_append]
    rw [sRd_readRecord_39 k73.cell, c_keyBefore k73 (by omega) (by omega), hp]
    simp only [sRd_readRecord_42, sRd_readRecord_43, sRd_readRecord_45, sRd_readRecord_46, xk_i, xk_l, xk_a, xk_n, xk_0, Option.toList_some, Option.toList_none, List.cons_append, List.nil_append]
    rw [pk_shrN (n := hd) (by omega) (nI 2 &&& 31) 2 (by decide), show (2 : Nat) ^ 2 = 4 from rfl, sRd_readRecord_47 hc3]
    refine c_nextKey hsh (by omega) hR3 (fun M4 k ps4 hk hR4 hP4 hO4 => ?_)
    rw [kN_lN (n := p) (by omega)] at hP4
    obtain ⟨⟨fs4, hc4⟩, -, k74, -⟩ := hR4.cells
    simp only [sRd_readRecord_50, sRd_readRecord_52, sRd_readRecord_53, sRd_readRecord_54, sRd_readRecord_55, sRd_readRecord_56, xk_i, xk_l, xk_a, xk_n, xk_0, Option.toList_some, Option.toList_none, List.cons_append, List.nil_append]
    rw [sRd_readRecord_58 k74.cell, c_sharedDue k74 (by omega) (by omega), hp, kN_lN (n := p) (by omega), kN_lN (n := k) (by omega)]
    rw [show (if i % 4 = 0 then 0 else alk p k) = shd i p k from rfl]
    have hsd : shd i p k < 2 ^ 31 := by have := shd_le i p k; have := alk_le k k; omega
    have q1 := nI_eq (a := sh) (b := shd i p k) (by omega) hsd
    simp only [sRd_readRecord_61, sRd_readRecord_64, sRd_readRecord_66, sRd_readRecord_67, xk_i, xk_l, xk_a, xk_n, xk_0, Option.toList_some, Option.toList_none, List.cons_append, List.nil_append, q1]
    have fin2 : ∀ c : Bool, (c = true ↔ (sh = shd i p k ∧ p < k)) → WP (d + 5) mRd_readRecord 80 [some (.ref rd), some (.int (nI i)), some (.ref (t + 2)), some (.int (nI sh)), some (.int (nI hd)), some (.long (lN k)), none, none] [.int (nI (if c = true then 1 else 0)), .ref rd] M4 z w Q := by
      intro c2 hc2'
      rw [sRd_readRecord_80 hc4]
      refine c_require (c := c2) hR4 (fun M5 hR5 hO5 => ?_)
      obtain ⟨⟨fs5, hc5⟩, k65, -, -⟩ := hR5.cells
      simp only [sRd_readRecord_83, sRd_readRecord_84 hc5 rfl, sRd_readRecord_87 k65 rfl, sRd_readRecord_90, xk_i, xk_l, xk_a, xk_n, xk_0, Option.toList_some, Option.toList_none, List.cons_append, List.nil_append]
      rw [sRd_readRecord_91 hc5]
      refine c_nextVarint hR5 (fun M6 dt ps6 hdt hR6 hP6 hO6 => ?_)
      obtain ⟨⟨fs6, hc6⟩, k66, -, -⟩ := hR6.cells
      simp only [sRd_readRecord_94, sRd_readRecord_95, sRd_readRecord_97, sRd_readRecord_98, sRd_readRecord_100, sRd_readRecord_101 hc6 rfl, sRd_readRecord_104 k66 rfl, sRd_readRecord_107, sRd_readRecord_110, sRd_readRecord_111, sRd_readRecord_114, xk_i, xk_l, xk_a, xk_n, xk_0, Option.toList_some, Option.toList_none, List.cons_append, List.nil_append, nI_add]
      have fin3 : ∀ c : Bool, (c = true ↔ lw + dt ≤ hg) → WP (d + 5) mRd_readRecord 115 [some (.ref rd), some (.int (nI i)), some (.ref (t + 2)), some (.int (nI sh)), some (.int (nI hd)), some (.long (lN k)), none, some (.int (nI (lw + dt)))] [.int (nI (if c = true then 1 else 0)), .ref rd] M6 z w Q := by
        intro c3 hc3'
        rw [sRd_readRecord_115 hc6]
        refine c_require (c := c3) hR6 (fun M7 hR7 hO7 => ?_)
        obtain ⟨⟨fs7, hc7⟩, -, -, -⟩ := hR7.cells
        simp only [sRd_readRecord_118, sRd_readRecord_119, sRd_readRecord_120, sRd_readRecord_122, sRd_readRecord_124, sRd_readRecord_125, sRd_readRecord_127, sRd_readRecord_128, xk_i, xk_l, xk_a, xk_n, xk_0, Option.toList_some, Option.toList_none, List.cons_append, List.nil_append]
        rw [sRd_readRecord_129 hc7, pk_andN (n := hd) (by omega) 2 (by decide), show (2 : Nat) ^ 2 = 4 from rfl]
        refine c_nextContent (Nat.mod_lt _ (by decide)) hR7 (fun M8 cc ps8 hR8 hP8 hO8 => ?_)
        obtain ⟨⟨fs8, hc8⟩, -, k78, -⟩ := hR8.cells
        simp only [xk_i, xk_l, xk_a, xk_n, xk_0, Option.toList_some, Option.toList_none, List.cons_append, List.nil_append]
        rw [sRd_readRecord_132 k78.cell]
        refine c_rows_add k78 (by omega) (by omega) (fun M9 hRw hOw => ?_)
        have hR9 := hR8.putR hRw hOw
        obtain ⟨⟨fs9, hc9⟩, -, -, -⟩ := hR9.cells
        simp only [xk_i, xk_l, xk_a, xk_n, xk_0, Option.toList_some, Option.toList_none, List.cons_append, List.nil_append]
        rw [sRd_readRecord_135 hc9]
        refine c_require (c := true) hR9 (fun M10 hR10 hO10 => ?_)
        simp only [sRd_readRecord_138, xk_i, xk_l, xk_a, xk_n, xk_0, Option.toList_some, Option.toList_none, List.cons_append, List.nil_append]
        refine K M10 _ ps8 hR10 ?_ ?_
        · refine PR.seq (a := sh) (f := fun sh l => (vD l).bind fun hd => if 1 ≤ hd.1 / 4 then (nK p sh (hd.1 / 4) hd.2).bind fun k => if sh = shd i p k.1 ∧ p < k.1 then (vD k.2).bind fun dt => if lw + dt.1 ≤ hg then (cD (hd.1 % 4) dt.2).bind fun c => some ((k.1, lw + dt.1, c.1), c.2) else none else none else none) hP1 (fun x hx => hx.symm) ?_
          refine PR.seq (a := hd) (f := fun hd l => if 1 ≤ hd / 4 then (nK p sh (hd / 4) l).bind fun k => if sh = shd i p k.1 ∧ p < k.1 then (vD k.2).bind fun dt => if lw + dt.1 ≤ hg then (cD (hd % 4) dt.2).bind fun c => some ((k.1, lw + dt.1, c.1), c.2) else none else none else none) hP2 (fun x hx => hx.symm) ?_
          refine PR.grd (c := 1 ≤ hd / 4) ?_
          simp only [hc1'] at hP4
          refine PR.seq (a := k) (f := fun k l => if sh = shd i p k ∧ p < k then (vD l).bind fun dt => if lw + dt.1 ≤ hg then (cD (hd % 4) dt.2).bind fun c => some ((k, lw + dt.1, c.1), c.2) else none else none) hP4 (fun x hx => hx.symm) ?_
          refine PR.grd (c := sh = shd i p k ∧ p < k) ?_
          simp only [hc2'] at hP6
          refine PR.seq (a := dt) (f := fun dt l => if lw + dt ≤ hg then (cD (hd % 4) l).bind fun c => some ((k, lw + dt, c.1), c.2) else none) hP6 (fun x hx => hx.symm) ?_
          refine PR.grd (c := lw + dt ≤ hg) ?_
          simp only [hc3'] at hP8
          exact PR.map (g := fun c => (k, lw + dt, c)) hP8 (fun x hx => by rw [hx]; rfl)
        · exact ((hO1.trans hO2).trans (hO3.trans hO4)).trans (((hO5.trans hO6).trans (hO7.trans hO8)).trans (OnlyW.trans (fun q q1 q2 => hOw q (by omega)) hO10))
      by_cases hl : lw + dt ≤ hg
      · rw [if_neg (nI_nlt hl (by omega))]; exact fin3 true (by simp [hl])
      · rw [if_pos (nI_lt (by omega) (by omega))]; exact fin3 false (by simp [hl])
    by_cases hl : sh = shd i p k
    · rw [if_pos hl, sRd_readRecord_68 k74.cell, c_keyBefore k74 (by omega) (by omega), hp]
      have q2 := pk_lLE (a := k) (b := p) (by omega) (by omega)
      simp only [sRd_readRecord_71, sRd_readRecord_72, sRd_readRecord_75, sRd_readRecord_76, sRd_readRecord_79, xk_i, xk_l, xk_a, xk_n, xk_0, Option.toList_some, Option.toList_none, List.cons_append, List.nil_append, lcmp_eq, lcmp_lt, lcmp_ge, lcmp_gt, lcmp_le, q2]
      by_cases hkp : k ≤ p
      · rw [if_pos hkp]; exact fin2 false (by simp; omega)
      · rw [if_neg hkp]; exact fin2 true (by simp; omega)
    · rw [if_neg hl]
      simp only [sRd_readRecord_79]
      exact fin2 false (by simp [hl])
  by_cases hl : hd / 4 < 1
  · rw [if_pos (nI_lt hl (by omega))]; exact fin1 false (by simp; omega)
  · rw [if_neg (nI_nlt (by omega) (by omega))]; exact fin1 true (by simp; omega)
end RD3
