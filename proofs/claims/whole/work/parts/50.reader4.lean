/-! RefStack$Reader: entries -/
section RD4
variable {d rd t : Nat} {bs : List Nat} {lw hg : Nat} {wf : Bool} {recs ents : List xrow} {ps : Option (List Nat)} {M : xM} {z w : Nat} {Q : Option Value → xM → Nat → Nat → Prop}
set_option maxHeartbeats 2000000 in
theorem c_readEntry {i p pt : Nat} (hlw : lw < 2097152) (hhg : hg < 2097152) (hi : i = ents.length) (hi40 : i < 40) (hp : kbf ents i = lN p) (hp60 : p < 2 ^ 60) (hpt : i ≠ 0 → ∃ r, ents[i - 1]? = some r ∧ r.2.1 = nI pt) (hpt2 : pt < 2097152) (h : RdAt M rd t bs (nI lw) (nI hg) wf recs ents ps)
    (K : ∀ M' x ps', RdAt M' rd t bs (nI lw) (nI hg) wf recs (ents ++ [x]) ps' → PR (eD i p pt lw hg) ps (fun r => x = rawE r) ps' → OnlyW M M' rd t → Q none M' z w) : WP (d + 5) mRd_readEntry 0 [some (.ref rd), some (.int (nI i)), none, none, none, none, none, none, none, none, none] [] M z w Q := by
  obtain ⟨⟨fs, hc⟩, k6, k7, k8⟩ := h.cells
  simp only [sRd_readEntry_0, sRd_readEntry_1 hc rfl, sRd_readEntry_4 k6 rfl, sRd_readEntry_7, sRd_readEntry_8, xk_i, xk_l, xk_a, xk_n, xk_0, Option.toList_some, Option.toList_none, List.cons_append, List.nil_append]
  rw [sRd_readEntry_9 hc]
  refine c_nextVarint h (fun M1 sh ps1 hsh hR1 hP1 hO1 => ?_)
  obtain ⟨⟨fs1, hc1⟩, -, -, k81⟩ := hR1.cells
  simp only [sRd_readEntry_12, sRd_readEntry_13, sRd_readEntry_14, xk_i, xk_l, xk_a, xk_n, xk_0, Option.toList_some, Option.toList_none, List.cons_append, List.nil_append]
  rw [sRd_readEntry_15 k81.cell, c_keyBefore k81 (by omega) (by omega), hp]
  simp only [sRd_readEntry_18, sRd_readEntry_20, sRd_readEntry_21, sRd_readEntry_23, sRd_readEntry_24, xk_i, xk_l, xk_a, xk_n, xk_0, Option.toList_some, Option.toList_none, List.cons_append, List.nil_append]
  rw [sRd_readEntry_25 hc1]
  refine c_nextVarint hR1 (fun M2 n ps2 hn hR2 hP2 hO2 => ?_)
  obtain ⟨⟨fs2, hc2⟩, -, -, -⟩ := hR2.cells
  simp only [xk_i, xk_l, xk_a, xk_n, xk_0, Option.toList_some, Option.toList_none, List.cons_append, List.nil_append]
  rw [sRd_readEntry_28 hc2]
  refine c_nextKey hsh hn hR2 (fun M4 k ps4 hk hR4 hP4 hO4 => ?_)
  rw [kN_lN (n := p) (by omega)] at hP4
  obtain ⟨⟨fs4, hc4⟩, -, -, k84⟩ := hR4.cells
  simp only [sRd_readEntry_31, sRd_readEntry_33, sRd_readEntry_34, sRd_readEntry_35, sRd_readEntry_36, sRd_readEntry_37, xk_i, xk_l, xk_a, xk_n, xk_0, Option.toList_some, Option.toList_none, List.cons_append, List.nil_append]
  rw [sRd_readEntry_39 k84.cell, c_sharedDue k84 (by omega) (by omega), hp, kN_lN (n := p) (by omega), kN_lN (n := k) (by omega)]
  rw [show (if i % 4 = 0 then 0 else alk p k) = shd i p k from rfl]
  have hsd : shd i p k < 2 ^ 31 := by have := shd_le i p k; have := alk_le k k; omega
  have q1 := nI_eq (a := sh) (b := shd i p k) (by omega) hsd
  have q2 := pk_lLT (a := k) (b := p) (by omega) (by omega)
  have q3 := lN_inj (a := k) (b := p) (by omega) (by omega)
  simp only [sRd_readEntry_42, sRd_readEntry_45, sRd_readEntry_47, sRd_readEntry_49, sRd_readEntry_50, sRd_readEntry_53, sRd_readEntry_54, sRd_readEntry_57, xk_i, xk_l, xk_a, xk_n, xk_0, Option.toList_some, Option.toList_none, List.cons_append, List.nil_append, lcmp_eq, lcmp_lt, lcmp_ge, lcmp_gt, lcmp_le, q1, q2]
  have fin2 : ∀ c : Bool, (c = true ↔ (sh = shd i p k ∧ p ≤ k)) → WP (d + 5) mRd_readEntry 58 [some (.ref rd), some (.int (nI i)), some (.ref (t + 6)), some (.int (nI sh)), some (.long (lN p)), none, some (.long (lN k)), none, none, none, none] [.int (nI (if c = true then 1 else 0)), .ref rd] M4 z w Q := by
    intro c2 hc2'
    rw [sRd_readEntry_58 hc4]
    refine c_require (c := c2) hR4 (fun M5 hR5 hO5 => ?_)
    obtain ⟨⟨fs5, hc5⟩, -, -, -⟩ := hR5.cells
    simp only [sRd_readEntry_61, xk_i, xk_l, xk_a, xk_n, xk_0, Option.toList_some, Option.toList_none, List.cons_append, List.nil_append]
    rw [sRd_readEntry_62 hc5]
    refine c_nextVarint hR5 (fun M6 tm ps6 htm hR6 hP6 hO6 => ?_)
    obtain ⟨⟨fs6, hc6⟩, k66, -, -⟩ := hR6.cells
    simp only [sRd_readEntry_65, sRd_readEntry_67, sRd_readEntry_68, sRd_readEntry_70, sRd_readEntry_71 hc6 rfl, sRd_readEntry_74 k66 rfl, sRd_readEntry_77, sRd_readEntry_80, sRd_readEntry_82, sRd_readEntry_83 hc6 rfl, sRd_readEntry_86 k66 rfl, sRd_readEntry_89, sRd_readEntry_92, sRd_readEntry_93, sRd_readEntry_96, xk_i, xk_l, xk_a, xk_n, xk_0, Option.toList_some, Option.toList_none, List.cons_append, List.nil_append]
    have fin3 : ∀ c : Bool, (c = true ↔ (lw ≤ tm ∧ tm ≤ hg)) → WP (d + 5) mRd_readEntry 97 [some (.ref rd), some (.int (nI i)), some (.ref (t + 6)), some (.int (nI sh)), some (.long (lN p)), none, some (.long (lN k)), none, some (.int (nI tm)), none, none] [.int (nI (if c = true then 1 else 0)), .ref rd] M6 z w Q := by
      intro c3 hc3'
      rw [sRd_readEntry_97 hc6]
      refine c_require (c := c3) hR6 (fun M7 hR7 hO7 => ?_)
      obtain ⟨⟨fs7, hc7⟩, -, -, k87⟩ := hR7.cells
      have r7 := k87.cell
      have q0 := nI_eq (a := i) (b := 0) (by omega) (by omega)
      simp only [sRd_readEntry_100, sRd_readEntry_101, sRd_readEntry_102, sRd_readEntry_105, sRd_readEntry_107, sRd_readEntry_109, sRd_readEntry_110, sRd_readEntry_113, sRd_readEntry_115, sRd_readEntry_116 r7 rfl, sRd_readEntry_119, sRd_readEntry_120, sRd_readEntry_121, xk_i, xk_l, xk_a, xk_n, xk_0, Option.toList_some, Option.toList_none, List.cons_append, List.nil_append, lcmp_eq, lcmp_lt, lcmp_ge, lcmp_gt, lcmp_le, q0, q3]
      have fin4 : ∀ c : Bool, (c = true ↔ (i = 0 ∨ k ≠ p ∨ tm < pt)) → WP (d + 5) mRd_readEntry 131 [some (.ref rd), some (.int (nI i)), some (.ref (t + 6)), some (.int (nI sh)), some (.long (lN p)), none, some (.long (lN k)), none, some (.int (nI tm)), none, none] [.int (nI (if c = true then 1 else 0)), .ref rd] M7 z w Q := by
        intro c4 hc4'
        rw [sRd_readEntry_131 hc7]
        refine c_require (c := c4) hR7 (fun M8 hR8 hO8 => ?_)
        obtain ⟨⟨fs8, hc8⟩, -, -, -⟩ := hR8.cells
        simp only [sRd_readEntry_134, xk_i, xk_l, xk_a, xk_n, xk_0, Option.toList_some, Option.toList_none, List.cons_append, List.nil_append]
        rw [sRd_readEntry_135 hc8]
        refine c_nextNumber hR8 (fun M9 o ps9 ho hR9 hP9 hO9 => ?_)
        obtain ⟨⟨fs9, hc9⟩, -, -, -⟩ := hR9.cells
        simp only [sRd_readEntry_138, sRd_readEntry_140, xk_i, xk_l, xk_a, xk_n, xk_0, Option.toList_some, Option.toList_none, List.cons_append, List.nil_append]
        rw [sRd_readEntry_141 hc9]
        refine c_nextNumber hR9 (fun M10 nw ps10 hnw hR10 hP10 hO10 => ?_)
        obtain ⟨⟨fs10, hc10⟩, -, -, k810⟩ := hR10.cells
        simp only [sRd_readEntry_144, sRd_readEntry_146, sRd_readEntry_147, sRd_readEntry_148, sRd_readEntry_150, sRd_readEntry_152, sRd_readEntry_154, xk_i, xk_l, xk_a, xk_n, xk_0, Option.toList_some, Option.toList_none, List.cons_append, List.nil_append]
        rw [sRd_readEntry_156, c_valueOf]
        simp only [xk_i, xk_l, xk_a, xk_n, xk_0, Option.toList_some, Option.toList_none, List.cons_append, List.nil_append]
        rw [sRd_readEntry_159 k810.cell]
        refine c_rows_add k810 (by omega) (by omega) (fun M11 hRw hOw => ?_)
        have hR11 := hR10.putE hRw hOw
        obtain ⟨⟨fs11, hc11⟩, -, -, -⟩ := hR11.cells
        simp only [xk_i, xk_l, xk_a, xk_n, xk_0, Option.toList_some, Option.toList_none, List.cons_append, List.nil_append]
        rw [sRd_readEntry_162 hc11]
        refine c_require (c := true) hR11 (fun M12 hR12 hO12 => ?_)
        simp only [sRd_readEntry_165, xk_i, xk_l, xk_a, xk_n, xk_0, Option.toList_some, Option.toList_none, List.cons_append, List.nil_append]
        refine K M12 _ ps10 hR12 ?_ ?_
        · refine PR.seq (a := sh) (f := fun sh l => (vD l).bind fun n => (nK p sh n.1 n.2).bind fun k => if sh = shd i p k.1 ∧ p ≤ k.1 then (vD k.2).bind fun tm => if lw ≤ tm.1 ∧ tm.1 ≤ hg then (if i = 0 ∨ k.1 ≠ p ∨ tm.1 < pt then (nD tm.2).bind fun o => (nD o.2).bind fun nw => some ((k.1, tm.1, o.1, nw.1), nw.2) else none) else none else none) hP1 (fun x hx => hx.symm) ?_
          refine PR.seq (a := n) (f := fun n l => (nK p sh n l).bind fun k => if sh = shd i p k.1 ∧ p ≤ k.1 then (vD k.2).bind fun tm => if lw ≤ tm.1 ∧ tm.1 ≤ hg then (if i = 0 ∨ k.1 ≠ p ∨ tm.1 < pt then (nD tm.2).bind fun o => (nD o.2).bind fun nw => some ((k.1, tm.1, o.1, nw.1), nw.2) else none) else none else none) hP2 (fun x hx => hx.symm) ?_
          refine PR.seq (a := k) (f := fun k l => if sh = shd i p k ∧ p ≤ k then (vD l).bind fun tm => if lw ≤ tm.1 ∧ tm.1 ≤ hg then (if i = 0 ∨ k ≠ p ∨ tm.1 < pt then (nD tm.2).bind fun o => (nD o.2).bind fun nw => some ((k, tm.1, o.1, nw.1), nw.2) else none) else none else none) hP4 (fun x hx => hx.symm) ?_
          refine PR.grd (c := sh = shd i p k ∧ p ≤ k) ?_
          simp only [hc2'] at hP6
          refine PR.seq (a := tm) (f := fun tm l => if lw ≤ tm ∧ tm ≤ hg then (if i = 0 ∨ k ≠ p ∨ tm < pt then (nD l).bind fun o => (nD o.2).bind fun nw => some ((k, tm, o.1, nw.1), nw.2) else none) else none) hP6 (fun x hx => hx.symm) ?_
          refine PR.grd (c := lw ≤ tm ∧ tm ≤ hg) ?_
          refine PR.grd (c := i = 0 ∨ k ≠ p ∨ tm < pt) ?_
          simp only [hc3', hc4'] at hP9
          have hP9' := hP9
          -- numbers in range, where reading goes on
          refine PR.seq (a := o) (f := fun o l => (nD l).bind fun nw => some ((k, tm, o, nw.1), nw.2)) hP9 (fun x hx => hx.symm) ?_
          cases hps9 : ps9 with
          | none =>
            rw [hps9] at hP10
            rw [hP10.no]
            rfl
          | some l9 =>
            rw [hps9] at hP10 hP9'
            have ho2 : o < 65536 := by
              unfold PR at hP9'
              split at hP9'
              · rename_i q hq
                obtain ⟨l0, -, hl0⟩ := Option.bind_eq_some_iff.mp hq
                unfold nD at hl0
                obtain ⟨q0, -, hq0⟩ := Option.bind_eq_some_iff.mp hl0
                split at hq0
                · cases hq0
                  have := hP9'.1
                  omega
                · cases hq0
              · cases hP9'
            refine PR.map (g := fun nw => (k, tm, o, nw)) (p := nD) (rel := fun x => nw = x ∧ x < 65536) ?_ (fun x hx => by
              obtain ⟨rfl, hx2⟩ := hx
              show (_, _, valOf (nI o) (nI nw)) = _
              rw [valOf_nI ho2 hx2]
              rfl)
            unfold PR at hP10 ⊢
            split at hP10
            · rename_i q hq
              refine ⟨⟨hP10.1, ?_⟩, hP10.2⟩
              obtain ⟨l0, -, hl0⟩ := Option.bind_eq_some_iff.mp hq
              unfold nD at hl0
              obtain ⟨q0, -, hq0⟩ := Option.bind_eq_some_iff.mp hl0
              split at hq0
              · cases hq0
                omega
              · cases hq0
            · exact hP10
        · exact ((hO1.trans hO2).trans (hO4.trans hO5)).trans (((hO6.trans hO7).trans (hO8.trans hO9)).trans (hO10.trans (OnlyW.trans (fun q q1 q2 => hOw q (by omega)) hO12)))
      by_cases h0 : i = 0
      · rw [if_pos h0]; simp only [sRd_readEntry_126, sRd_readEntry_127, sRd_readEntry_130]; exact fin4 true (by simp [h0])
      · rw [if_neg h0]
        by_cases h1 : k = p
        · rw [if_pos h1]
          obtain ⟨r, hr1, hr2⟩ := hpt h0
          obtain ⟨kl, tl, vs, a1, a2, a3, a4, a5, a6, a7, a8⟩ := k87.at hr1
          rw [pk_sub (by omega), sRd_readEntry_122 a3 (nI_toInt (n := i - 1) (by omega)) a4, hr2]
          simp only [sRd_readEntry_123, sRd_readEntry_126, sRd_readEntry_127, sRd_readEntry_130]
          by_cases h2 : tm < pt
          · rw [if_neg (nI_ge h2 (by omega))]; exact fin4 true (by simp [h2])
          · rw [if_pos (nI_le (by omega) (by omega))]; exact fin4 false (by simp [h0, h1, h2])
        · rw [if_neg h1]; simp only [sRd_readEntry_126, sRd_readEntry_127, sRd_readEntry_130]; exact fin4 true (by simp [h1])
    by_cases h1 : tm < lw
    · rw [if_pos (nI_lt h1 (by omega))]; exact fin3 false (by simp; omega)
    · rw [if_neg (nI_nlt (by omega) (by omega))]
      by_cases h2 : tm ≤ hg
      · rw [if_neg (nI_nlt h2 (by omega))]; exact fin3 true (by simp; omega)
      · rw [if_pos (nI_lt (by omega) (by omega))]; exact fin3 false (by simp; omega)
  by_cases hl : sh = shd i p k
  · rw [if_pos hl]
    by_cases hkp : k < p
    · rw [if_pos hkp]; exact fin2 false (by simp; omega)
    · rw [if_neg hkp]; exact fin2 true (by simp; omega)
  · rw [if_neg hl]; exact fin2 false (by simp [hl])
theorem c_checkIsRight {low high : Int32} (h : RdAt M rd t bs low high wf recs ents ps) : WP (d + 1) mRd_checkIsRight 0 [some (.ref rd)] [] M z w Q ↔ Q (some (.int (nI (if crc (bs.take (bs.length - 2)) = bs.getD (bs.length - 2) 0 * 256 + bs.getD (bs.length - 1) 0 then 1 else 0)))) M z w := by
  obtain ⟨h1, hT, h3, pos, h4, h5, h6⟩ := h
  have hT' := hT
  obtain ⟨k1, k2, ⟨bl, k3, k4, k5⟩, k6, k7, k8⟩ := hT
  simp only [sRd_checkIsRight_0, sRd_checkIsRight_1 h5 rfl, sRd_checkIsRight_4]
  rw [if_neg (nI_nlt (by omega) (by omega))]
  simp only [sRd_checkIsRight_7, sRd_checkIsRight_8 h5 rfl, sRd_checkIsRight_11, sRd_checkIsRight_12, sRd_checkIsRight_13, sRd_checkIsRight_16, nI_add]
  rw [if_pos (nI_lt (by omega) (by omega))]
  simp only [sRd_checkIsRight_21, sRd_checkIsRight_22 h5 rfl, sRd_checkIsRight_25, sRd_checkIsRight_26 h5 rfl]
  rw [sRd_checkIsRight_29 k6, c_checkOf hT' (by omega)]
  have g1 : bs.length - 2 < bs.length := by omega
  have g2 : bs.length - 1 < bs.length := by omega
  have v1 : bl[bs.length - 2]? = some (nI bs[bs.length - 2]) := by rw [k5 _ g1, List.getElem?_eq_getElem g1]; rfl
  have v2 : bl[bs.length - 1]? = some (nI bs[bs.length - 1]) := by rw [k5 _ g2, List.getElem?_eq_getElem g2]; rfl
  have b1 := k2 _ (List.getElem_mem g1)
  have b2 := k2 _ (List.getElem_mem g2)
  simp only [sRd_checkIsRight_32, sRd_checkIsRight_33 h5 rfl, sRd_checkIsRight_36 k6 rfl, sRd_checkIsRight_39, sRd_checkIsRight_40 h5 rfl, xk_i, xk_l, xk_a, xk_n, xk_0, Option.toList_some, Option.toList_none, List.cons_append, List.nil_append]
  rw [sRd_checkIsRight_43 k4 (nI_toInt (n := bs.length - 2) (by omega)) (v := .int (nI bs[bs.length - 2])) (by simp [v1])]
  simp only [sRd_checkIsRight_44, sRd_checkIsRight_46, sRd_checkIsRight_47, sRd_checkIsRight_48 h5 rfl, sRd_checkIsRight_51 k6 rfl, sRd_checkIsRight_54, sRd_checkIsRight_55 h5 rfl, sRd_checkIsRight_58, sRd_checkIsRight_59, xk_i, xk_l, xk_a, xk_n, xk_0, Option.toList_some, Option.toList_none, List.cons_append, List.nil_append, nI_add]
  rw [show bs.length - 2 + 1 = bs.length - 1 by omega, sRd_checkIsRight_60 k4 (nI_toInt (n := bs.length - 1) (by omega)) (v := .int (nI bs[bs.length - 1])) (by simp [v2])]
  rw [pk_shlN (n := bs[bs.length - 2]) (nI 8 &&& 31) 8 (by decide) (by omega), show (2 : Nat) ^ 8 = 256 from rfl]
  have e : bs[bs.length - 2] * 256 ||| bs[bs.length - 1] = bs[bs.length - 2] * 256 + bs[bs.length - 1] := by
    have := Nat.two_pow_add_eq_or_of_lt (i := 8) (b := bs[bs.length - 1]) (by omega) bs[bs.length - 2]
    rw [show (2 : Nat) ^ 8 = 256 from rfl, Nat.mul_comm] at this
    exact this.symm
  have hc : crc (bs.take (bs.length - 2)) < 65536 := crcL_lt _ (by decide) (fun b q => k2 b (List.mem_of_mem_take q))
  have gd1 : bs.getD (bs.length - 2) 0 = bs[bs.length - 2] := by simp [List.getD, g1]
  have gd2 : bs.getD (bs.length - 1) 0 = bs[bs.length - 1] := by simp [List.getD, g2]
  rw [gd1, gd2, sRd_checkIsRight_61, nx_or, e]
  have q := nI_eq (a := crc (bs.take (bs.length - 2))) (b := bs[bs.length - 2] * 256 + bs[bs.length - 1]) (by omega) (by omega)
  simp only [sRd_checkIsRight_62, sRd_checkIsRight_65, sRd_checkIsRight_66, sRd_checkIsRight_69, sRd_checkIsRight_70 xb0, sRd_checkIsRight_70 xb1, q]
  by_cases hq : crc (bs.take (bs.length - 2)) = bs[bs.length - 2] * 256 + bs[bs.length - 1]
  · rw [if_pos hq, if_pos hq]
  · rw [if_neg hq, if_neg hq]
end RD4
