/-! the reference: bytes, numbers, names -/
def sb (b : Nat) : Int32 := (nI b).toInt8.toInt32
theorem sb_and : ∀ b, b < 256 → sb b &&& nI 255 = nI b := by decide +kernel
/-- bytes bs lie at base -/
def BY (M : xM) (m base : Nat) (bs : List Nat) : Prop := (∃ bl : List Int32, M (m + 1) = some (22, vi bl) ∧ ∀ i, i < bs.length → bl[base + i]? = (bs[i]?).map sb) ∧ (∀ b ∈ bs, b < 256) ∧ bs.length ≤ 1200 ∧ 2 ≤ bs.length ∧ base ≤ 12000
/-- how far the reading is -/
def MrS (g : Nat → Int32) (base : Nat) (bs : List Nat) (ps : Option (List Nat)) : Prop := g 11 = nI (if ps.isNone = true then 1 else 0) ∧ g 10 = nI (base + (bs.length - 2)) ∧ ∃ pos, pos ≤ bs.length - 2 ∧ g 9 = nI (base + pos) ∧ ∀ rem, ps = some rem → rem = (bs.take (bs.length - 2)).drop pos
theorem ug_e {g : Nat → Int32} {k j : Nat} {x : Int32} (h : j ≠ k) : ug g k x j = g j := if_neg h
theorem ug_s {g : Nat → Int32} {k : Nat} {x : Int32} : ug g k x k = x := if_pos rfl
theorem MrS.bad {g : Nat → Int32} {base : Nat} {bs : List Nat} {ps : Option (List Nat)} (h : MrS g base bs ps) : MrS (ug g 11 (nI 1)) base bs none := by
  obtain ⟨h1, h2, pos, h3, h4, h5⟩ := h
  exact ⟨ug_s, by rw [ug_e (by decide)]; exact h2, pos, h3, by rw [ug_e (by decide)]; exact h4, fun rem q => by cases q⟩
theorem MrS.fine {g : Nat → Int32} {base : Nat} {bs l : List Nat} (h : MrS g base bs (some l)) : MrS (ug g 11 (nI 0)) base bs (some l) := by
  obtain ⟨h1, h2, pos, h3, h4, h5⟩ := h
  exact ⟨ug_s, by rw [ug_e (by decide)]; exact h2, pos, h3, by rw [ug_e (by decide)]; exact h4, h5⟩
theorem MrS.kept {g g' : Nat → Int32} {base : Nat} {bs : List Nat} {ps : Option (List Nat)} (h : MrS g base bs ps) (h9 : g' 9 = g 9) (h10 : g' 10 = g 10) (h11 : g' 11 = g 11) : MrS g' base bs ps := by
  obtain ⟨h1, h2, pos, h3, h4, h5⟩ := h
  exact ⟨by rw [h11]; exact h1, by rw [h10]; exact h2, pos, h3, by rw [h9]; exact h4, h5⟩
theorem MrS.n {g : Nat → Int32} {base : Nat} {bs : List Nat} (h : MrS g base bs none) : g 11 = nI 1 := h.1
theorem MrS.s {g : Nat → Int32} {base : Nat} {bs l : List Nat} (h : MrS g base bs (some l)) : g 11 = nI 0 := h.1
/-- only where the reading is has changed -/
def Oa (g g' : Nat → Int32) : Prop := ∀ j, j ≠ 9 → j ≠ 11 → g' j = g j
theorem Oa.trans {g g1 g2 : Nat → Int32} (h : Oa g g1) (h2 : Oa g1 g2) : Oa g g2 := fun j a b => (h2 j a b).trans (h j a b)
theorem Oa.rf {g : Nat → Int32} : Oa g g := fun _ _ _ => rfl
theorem Oa.u {g : Nat → Int32} {x : Int32} : Oa g (ug g 11 x) := fun j _ b => ug_e b
theorem vD_eq (l : List Nat) : vD l = (bD l).bind fun q0 => if q0.1 < 128 then some (q0.1, q0.2) else (bD q0.2).bind fun q1 => if q1.1 < 128 then (if q1.1 ≠ 0 then some (q0.1 % 128 + 128 * q1.1, q1.2) else none) else (bD q1.2).bind fun q2 => if q2.1 < 128 then (if q2.1 ≠ 0 then some (q0.1 % 128 + 128 * (q1.1 % 128) + 16384 * q2.1, q2.2) else none) else none := by
  cases l with
  | nil => rfl
  | cons b0 l0 =>
    simp only [vD, bD, Option.bind_some]
    split
    · rfl
    · cases l0 with
      | nil => rfl
      | cons b1 l1 =>
        simp only [Option.bind_some]
        split
        · by_cases h : b1 = 0
          · rw [if_pos h, if_neg (by omega)]
          · rw [if_neg h, if_pos h]
        · cases l1 with
          | nil => rfl
          | cons b2 l2 =>
            simp only [Option.bind_some]
            split
            · by_cases h : b2 = 0
              · rw [if_pos h, if_neg (by omega)]
              · rw [if_neg h, if_pos h]
            · rfl
section MR
variable {d m base : Nat} {bs : List Nat} {ps : Option (List Nat)} {M : xM} {g : Nat → Int32} {z w : Nat} {Q : Option Value → xM → Nat → Nat → Prop}
theorem c_take (hB : BY M m base bs) (hR : MrS g base bs ps) (K : ∀ g' b ps', b < 256 → MrS g' base bs ps' → PR bD ps (fun x => b = x) ps' → Oa g g' → Q (some (.int (nI b))) (MM M m g') z w) : WP d mMd_take 0 [some (.ref m)] [] (MM M m g) z w Q := by
  obtain ⟨⟨bl, b1, b2⟩, b3, b4, b5, b6⟩ := hB
  have hR0 := hR
  obtain ⟨h1, h2, pos, h3, h4, h5⟩ := hR
  simp only [sMd_take_0, rMd_take_1, sMd_take_4, rMd_take_5, sMd_take_8, h2, h4]
  by_cases hl : pos < bs.length - 2
  · rw [if_pos (nI_lt (by omega) (by omega))]
    have hlt : pos < bs.length := by omega
    simp only [sMd_take_18, sMd_take_19, rMd_take_20, sMd_take_23, sMd_take_24, rMd_take_25, sMd_take_28, rMd_take_29, sMd_take_32, rMd_take_33, sMd_take_36, sMd_take_37, ug_ap, Nat.reduceEqDiff, reduceIte, h4, nI_add]
    rw [pk_sub (by omega), show base + pos + 1 - 1 = base + pos by omega]
    rw [sMd_take_38 ((MMn (by omega)).trans b1) (nI_toInt (n := base + pos) (by omega)) (v := .int (sb bs[pos])) (by simp [b2 pos hlt, List.getElem?_eq_getElem hlt])]
    have hb256 := b3 _ (List.getElem_mem hlt)
    simp only [sMd_take_39, sMd_take_42, sMd_take_43, sb_and _ hb256]
    have hdr : (bs.take (bs.length - 2)).drop pos = bs[pos] :: (bs.take (bs.length - 2)).drop (pos + 1) := by
      rw [List.drop_eq_getElem_cons (by simp; omega)]
      congr 1
      simp
    refine K _ bs[pos] (ps.bind (fun _ => some ((bs.take (bs.length - 2)).drop (pos + 1)))) hb256 ⟨?_, by rw [ug_e (by decide)]; exact h2, pos + 1, by omega, by rw [ug_s]; rfl, ?_⟩ ?_ (fun j a b => ug_e a)
    · rw [ug_e (by decide), h1]; cases ps <;> rfl
    · intro rem q; cases ps with
      | none => cases q
      | some l => cases q; rfl
    · cases ps with
      | none => rfl
      | some l =>
        have := h5 l rfl
        rw [hdr] at this
        subst this
        exact ⟨rfl, rfl⟩
  · rw [if_neg (nI_nlt (by omega) (by omega))]
    simp only [sMd_take_11, sMd_take_12, rMd_take_13 xb0, rMd_take_13 xb1, sMd_take_16, sMd_take_17]
    refine K _ 0 none (by omega) hR0.bad ?_ Oa.u
    cases ps with
    | none => rfl
    | some l =>
      have := h5 l rfl
      rw [List.drop_eq_nil_of_le (by simp; omega)] at this
      subst this
      rfl
theorem tn_ret {n i b : Nat} (hi : i < 3) (hb : b < 256) (hR : MrS g base bs ps) (K : ∀ g', MrS g' base bs (if b ≠ 0 ∨ i = 0 then ps else none) → Oa g g' → Q (some (.int (nI n))) (MM M m g') z w) : WP (d + 1) mMd_takeNumber 33 [some (.ref m), some (.int (nI n)), some (.int (nI i)), some (.int (nI b))] [] (MM M m g) z w Q := by
  have q0 := nI_eq (a := b) (b := 0) (by omega) (by omega)
  have q1 := nI_leI (a := i) (b := 0) (by omega) (by omega)
  simp only [sMd_takeNumber_33, sMd_takeNumber_34, rMd_takeNumber_35, sMd_takeNumber_38, sMd_takeNumber_41, sMd_takeNumber_42, sMd_takeNumber_45, sMd_takeNumber_46, sMd_takeNumber_49, sMd_takeNumber_50, sMd_takeNumber_53, rMd_takeNumber_54 xb0, rMd_takeNumber_54 xb1, sMd_takeNumber_57, sMd_takeNumber_58, q0, q1]
  cases ps with
  | none =>
    rw [hR.n, if_neg (by decide)]
    refine K _ ?_ Oa.u
    have : (if b ≠ 0 ∨ i = 0 then none else none : Option (List Nat)) = none := by split <;> rfl
    rw [this]
    exact hR.bad
  | some l =>
    rw [hR.s, if_pos rfl]
    by_cases hb0 : b = 0
    · rw [if_pos hb0]
      by_cases hi0 : i = 0
      · rw [if_pos (by omega)]
        refine K _ ?_ Oa.u
        rw [if_pos (Or.inr hi0)]
        exact hR.fine
      · rw [if_neg (by omega)]
        refine K _ ?_ Oa.u
        rw [if_neg (by rintro (q | q); exact q hb0; exact hi0 q)]
        exact hR.bad
    · rw [if_neg hb0]
      refine K _ ?_ Oa.u
      rw [if_pos (Or.inl hb0)]
      exact hR.fine
theorem v_shl {b k : Nat} (hb : b < 128) (hk : k ≤ 14) : nI b <<< (nI k &&& 31) = nI (b * 2 ^ k) := by
  have hp : 2 ^ k ≤ 2 ^ 14 := Nat.pow_le_pow_right (by decide) hk
  have hm : b * 2 ^ k ≤ 127 * 2 ^ 14 := Nat.mul_le_mul (by omega) hp
  have hs : ((nI k &&& 31).toBitVec.smod 32).toNat = k := by
    have : ∀ k, k ≤ 14 → ((nI k &&& 31).toBitVec.smod 32).toNat = k := by decide
    exact this k hk
  exact pk_shlN (n := b) (nI k &&& 31) k hs (by omega)
set_option maxHeartbeats 1000000 in
theorem c_takeNumber (hB : BY M m base bs) (hR : MrS g base bs ps) (K : ∀ g' n ps', n < 2097152 → MrS g' base bs ps' → PR vD ps (fun x => n = x) ps' → Oa g g' → Q (some (.int (nI n))) (MM M m g') z w) : WP (d + 1) mMd_takeNumber 0 [some (.ref m), none, none, none] [] (MM M m g) z w Q := by
  have hvd : ∀ {n : Nat} {ps' : Option (List Nat)}, PR (fun l => (bD l).bind fun q0 => if q0.1 < 128 then some (q0.1, q0.2) else (bD q0.2).bind fun q1 => if q1.1 < 128 then (if q1.1 ≠ 0 then some (q0.1 % 128 + 128 * q1.1, q1.2) else none) else (bD q1.2).bind fun q2 => if q2.1 < 128 then (if q2.1 ≠ 0 then some (q0.1 % 128 + 128 * (q1.1 % 128) + 16384 * q2.1, q2.2) else none) else none) ps (fun x => n = x) ps' → PR vD ps (fun x => n = x) ps' := fun h => h.congr (fun l => (vD_eq l).symm)
  simp only [sMd_takeNumber_0, sMd_takeNumber_1, sMd_takeNumber_2, sMd_takeNumber_3, xk_i, xk_l, xk_a, xk_n, xk_0, Option.toList_some, Option.toList_none, List.cons_append, List.nil_append]
  rw [sMd_takeNumber_4]
  simp only [sMd_takeNumber_5, sMd_takeNumber_6, sMd_takeNumber_9]
  rw [if_neg (nI_ge (by omega) (by omega)), rMd_takeNumber_10]
  refine c_take hB hR (fun g1 b0 ps1 hb0 hR1 hP1 hO1 => ?_)
  simp only [sMd_takeNumber_13, sMd_takeNumber_14, sMd_takeNumber_15, sMd_takeNumber_16, sMd_takeNumber_18, sMd_takeNumber_19, sMd_takeNumber_21, sMd_takeNumber_22, sMd_takeNumber_23, sMd_takeNumber_24, sMd_takeNumber_25, sMd_takeNumber_26, sMd_takeNumber_27, sMd_takeNumber_30, sMd_takeNumber_59, sMd_takeNumber_62, xk_i, xk_l, xk_a, xk_n, xk_0, Option.toList_some, Option.toList_none, List.cons_append, List.nil_append]
  rw [vand, show nI 7 * nI 0 = nI 0 from rfl, v_shl (k := 0) (Nat.mod_lt _ (by decide)) (by decide), nI_add, show (0 : Nat) + b0 % 128 * 2 ^ 0 = b0 % 128 by omega]
  by_cases h0 : b0 < 128
  · rw [if_neg (nI_ge (by omega) (by omega))]
    refine tn_ret (by omega) hb0 hR1 (fun g2 hR2 hO2 => ?_)
    rw [if_pos (Or.inr rfl)] at hR2
    rw [Nat.mod_eq_of_lt h0]
    refine K g2 b0 ps1 (by omega) hR2 (hvd ?_) (hO1.trans hO2)
    refine PR.seq (a := b0) (f := fun b0 l => if b0 < 128 then some (b0, l) else (bD l).bind fun q1 => if q1.1 < 128 then (if q1.1 ≠ 0 then some (b0 % 128 + 128 * q1.1, q1.2) else none) else (bD q1.2).bind fun q2 => if q2.1 < 128 then (if q2.1 ≠ 0 then some (b0 % 128 + 128 * (q1.1 % 128) + 16384 * q2.1, q2.2) else none) else none) hP1 (fun x hx => hx.symm) ?_
    simp only [if_pos h0]
    cases ps1 with
    | none => rfl
    | some l => exact ⟨rfl, rfl⟩
  · rw [if_pos (nI_le (by omega) (by omega)), nI_add, sMd_takeNumber_4]
    simp only [sMd_takeNumber_5, sMd_takeNumber_6, sMd_takeNumber_9]
    rw [if_neg (nI_ge (by omega) (by omega)), rMd_takeNumber_10]
    refine c_take hB hR1 (fun g2 b1 ps2 hb1 hR2 hP2 hO2 => ?_)
    simp only [sMd_takeNumber_13, sMd_takeNumber_14, sMd_takeNumber_15, sMd_takeNumber_16, sMd_takeNumber_18, sMd_takeNumber_19, sMd_takeNumber_21, sMd_takeNumber_22, sMd_takeNumber_23, sMd_takeNumber_24, sMd_takeNumber_25, sMd_takeNumber_26, sMd_takeNumber_27, sMd_takeNumber_30, sMd_takeNumber_59, sMd_takeNumber_62, xk_i, xk_l, xk_a, xk_n, xk_0, Option.toList_some, Option.toList_none, List.cons_append, List.nil_append]
    rw [vand, show nI 7 * nI (0 + 1) = nI 7 from rfl, v_shl (k := 7) (Nat.mod_lt _ (by decide)) (by decide), nI_add]
    by_cases h1 : b1 < 128
    · rw [if_neg (nI_ge (by omega) (by omega))]
      refine tn_ret (by omega) hb1 hR2 (fun g3 hR3 hO3 => ?_)
      refine K g3 _ _ (by omega) hR3 (hvd ?_) ((hO1.trans hO2).trans hO3)
      refine PR.seq (a := b0) (f := fun b0 l => if b0 < 128 then some (b0, l) else (bD l).bind fun q1 => if q1.1 < 128 then (if q1.1 ≠ 0 then some (b0 % 128 + 128 * q1.1, q1.2) else none) else (bD q1.2).bind fun q2 => if q2.1 < 128 then (if q2.1 ≠ 0 then some (b0 % 128 + 128 * (q1.1 % 128) + 16384 * q2.1, q2.2) else none) else none) hP1 (fun x hx => hx.symm) ?_
      simp only [if_neg h0]
      refine PR.seq (a := b1) (f := fun b1 l => if b1 < 128 then (if b1 ≠ 0 then some (b0 % 128 + 128 * b1, l) else none) else (bD l).bind fun q2 => if q2.1 < 128 then (if q2.1 ≠ 0 then some (b0 % 128 + 128 * (b1 % 128) + 16384 * q2.1, q2.2) else none) else none) hP2 (fun x hx => hx.symm) ?_
      simp only [if_pos h1]
      have e : (if b1 ≠ 0 ∨ 0 + 1 = 0 then ps2 else none) = (if b1 ≠ 0 then ps2 else none) := by simp
      rw [e]
      refine PR.grd (c := b1 ≠ 0) (f := fun l => some (b0 % 128 + 128 * b1, l)) ?_
      generalize (if b1 ≠ 0 then ps2 else none) = ps3
      cases ps3 with
      | none => rfl
      | some l => exact ⟨by omega, rfl⟩
    · rw [if_pos (nI_le (by omega) (by omega)), nI_add, sMd_takeNumber_4]
      simp only [sMd_takeNumber_5, sMd_takeNumber_6, sMd_takeNumber_9]
      rw [if_neg (nI_ge (by omega) (by omega)), rMd_takeNumber_10]
      refine c_take hB hR2 (fun g3 b2 ps3 hb2 hR3 hP3 hO3 => ?_)
      simp only [sMd_takeNumber_13, sMd_takeNumber_14, sMd_takeNumber_15, sMd_takeNumber_16, sMd_takeNumber_18, sMd_takeNumber_19, sMd_takeNumber_21, sMd_takeNumber_22, sMd_takeNumber_23, sMd_takeNumber_24, sMd_takeNumber_25, sMd_takeNumber_26, sMd_takeNumber_27, sMd_takeNumber_30, sMd_takeNumber_59, sMd_takeNumber_62, xk_i, xk_l, xk_a, xk_n, xk_0, Option.toList_some, Option.toList_none, List.cons_append, List.nil_append]
      rw [vand, show nI 7 * nI (0 + 1 + 1) = nI 14 from rfl, v_shl (k := 14) (Nat.mod_lt _ (by decide)) (by decide), nI_add]
      have hseq : ∀ {n : Nat} {ps' : Option (List Nat)}, PR (fun l => if b2 < 128 then (if b2 ≠ 0 then some (b0 % 128 + 128 * (b1 % 128) + 16384 * b2, l) else none) else none) ps3 (fun x => n = x) ps' → PR vD ps (fun x => n = x) ps' := by
        intro n ps' h
        refine hvd ?_
        refine PR.seq (a := b0) (f := fun b0 l => if b0 < 128 then some (b0, l) else (bD l).bind fun q1 => if q1.1 < 128 then (if q1.1 ≠ 0 then some (b0 % 128 + 128 * q1.1, q1.2) else none) else (bD q1.2).bind fun q2 => if q2.1 < 128 then (if q2.1 ≠ 0 then some (b0 % 128 + 128 * (q1.1 % 128) + 16384 * q2.1, q2.2) else none) else none) hP1 (fun x hx => hx.symm) ?_
        simp only [if_neg h0]
        refine PR.seq (a := b1) (f := fun b1 l => if b1 < 128 then (if b1 ≠ 0 then some (b0 % 128 + 128 * b1, l) else none) else (bD l).bind fun q2 => if q2.1 < 128 then (if q2.1 ≠ 0 then some (b0 % 128 + 128 * (b1 % 128) + 16384 * q2.1, q2.2) else none) else none) hP2 (fun x hx => hx.symm) ?_
        simp only [if_neg h1]
        exact PR.seq (a := b2) (f := fun b2 l => if b2 < 128 then (if b2 ≠ 0 then some (b0 % 128 + 128 * (b1 % 128) + 16384 * b2, l) else none) else none) hP3 (fun x hx => hx.symm) h
      by_cases h2 : b2 < 128
      · rw [if_neg (nI_ge (by omega) (by omega))]
        refine tn_ret (by omega) hb2 hR3 (fun g4 hR4 hO4 => ?_)
        refine K g4 _ _ (by omega) hR4 (hseq ?_) ((hO1.trans hO2).trans (hO3.trans hO4))
        simp only [if_pos h2]
        have e : (if b2 ≠ 0 ∨ 0 + 1 + 1 = 0 then ps3 else none) = (if b2 ≠ 0 then ps3 else none) := by simp
        rw [e]
        refine PR.grd (c := b2 ≠ 0) (f := fun l => some (b0 % 128 + 128 * (b1 % 128) + 16384 * b2, l)) ?_
        generalize (if b2 ≠ 0 then ps3 else none) = ps4
        cases ps4 with
        | none => rfl
        | some l => exact ⟨by omega, rfl⟩
      · rw [if_pos (nI_le (by omega) (by omega)), nI_add, sMd_takeNumber_4]
        simp only [sMd_takeNumber_5, sMd_takeNumber_6, sMd_takeNumber_65, sMd_takeNumber_66, rMd_takeNumber_67 xb0, rMd_takeNumber_67 xb1, sMd_takeNumber_70, sMd_takeNumber_71]
        rw [if_pos (nI_le (by omega) (by omega))]
        refine K _ 0 none (by omega) hR3.bad (hseq ?_) ((hO1.trans hO2).trans (hO3.trans Oa.u))
        simp only [if_neg h2]
        cases ps3 with
        | none => rfl
        | some l => rfl
end MR
