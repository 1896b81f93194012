/-! RefStack$Reader -/
def RdAt (M : xM) (rd t : Nat) (bs : List Nat) (low high : Int32) (wf : Bool) (recs ents : List xrow) (ps : Option (List Nat)) : Prop := (rd < t ∨ t + 10 ≤ rd) ∧ TableAt M t bs low high wf recs ents ∧ 2 ≤ bs.length ∧ ∃ pos, pos ≤ bs.length - 2 ∧ M rd = some (1, [.ref t, .int (nI pos), .int (nI (bs.length - 2)), .int (nI (if ps.isNone = true then 1 else 0))]) ∧ ∀ rem, ps = some rem → rem = (bs.take (bs.length - 2)).drop pos
section RDS
variable {d rd t : Nat} {bs : List Nat} {low high : Int32} {wf : Bool} {recs ents : List xrow} {ps : Option (List Nat)} {M : xM} {z w : Nat} {Q : Option Value → xM → Nat → Nat → Prop}
theorem RdAt.cell (h : RdAt M rd t bs low high wf recs ents ps) : ∃ fs, M rd = some (1, fs) := by
  obtain ⟨-, -, -, pos, -, h, -⟩ := h
  exact ⟨_, h⟩
theorem RdAt.fail (h : RdAt M rd t bs low high wf recs ents ps) : ∃ pos, M rd = some (1, [.ref t, .int (nI pos), .int (nI (bs.length - 2)), .int (nI (if ps.isNone = true then 1 else 0))]) ∧ RdAt (xput M rd (1, [.ref t, .int (nI pos), .int (nI (bs.length - 2)), .int (nI 1)])) rd t bs low high wf recs ents none := by
  obtain ⟨h1, h2, h3, pos, h4, h5, h6⟩ := h
  exact ⟨pos, h5, h1, h2.kept (fun q a b => xput_ne (by omega)), h3, pos, h4, by rw [xput_same]; rfl, fun rem q => by cases q⟩
theorem c_require {c : Bool} (h : RdAt M rd t bs low high wf recs ents ps) (K : ∀ M', RdAt M' rd t bs low high wf recs ents (if c = true then ps else none) → OnlyW M M' rd t → Q none M' z w) : WP d mRd_require 0 [some (.ref rd), some (.int (nI (if c = true then 1 else 0)))] [] M z w Q := by
  obtain ⟨pos, h5, hF⟩ := h.fail
  cases c with
  | true =>
    simp only [sRd_require_0, sRd_require_1, sRd_require_9]
    rw [if_neg (by decide)]
    exact K M h OnlyW.rf
  | false =>
    simp only [sRd_require_0, sRd_require_1, sRd_require_4, sRd_require_5]
    rw [if_pos (by decide), sRd_require_6 h5 rfl xb1, sRd_require_9]
    exact K _ hF (fun q q1 _ => xput_ne q1)
theorem c_nextByte (h : RdAt M rd t bs low high wf recs ents ps) (K : ∀ M' b ps', b < 256 → RdAt M' rd t bs low high wf recs ents ps' → PR bD ps (fun x => b = x) ps' → OnlyW M M' rd t → Q (some (.int (nI b))) M' z w) : WP d mRd_nextByte 0 [some (.ref rd)] [] M z w Q := by
  have hh := h
  obtain ⟨pos0, h50, hF⟩ := h.fail
  obtain ⟨h1, h2, h3, pos, h4, h5, h6⟩ := h
  have hpos : nI pos0 = nI pos := by rw [h50] at h5; simp only [Option.some.injEq, Prod.mk.injEq, List.cons.injEq, Value.int.injEq] at h5; exact h5.2.2.1
  have hlen := h2.1
  simp only [sRd_nextByte_0, sRd_nextByte_1 h5 rfl, sRd_nextByte_4, sRd_nextByte_7, sRd_nextByte_8 h5 rfl, sRd_nextByte_11, sRd_nextByte_12 h5 rfl, sRd_nextByte_15, sRd_nextByte_18, sRd_nextByte_19]
  rw [if_neg (nI_nlt (a := pos) (b := 0) (by omega) (by omega))]
  by_cases hl : pos < bs.length - 2
  · rw [if_pos (nI_lt hl (by omega))]
    obtain ⟨k1, k2, ⟨bl, k3, k4, k5⟩, k6, k7, k8⟩ := h2
    simp only [sRd_nextByte_25, sRd_nextByte_26 h5 rfl, sRd_nextByte_29 k6 rfl, sRd_nextByte_32, sRd_nextByte_33, sRd_nextByte_34 h5 rfl, sRd_nextByte_37, sRd_nextByte_38, sRd_nextByte_39]
    rw [sRd_nextByte_40 h5 rfl, nI_add]
    have hlt : pos < bs.length := by omega
    have hv : bl[pos]? = some (nI bs[pos]) := by rw [k5 pos hlt, List.getElem?_eq_getElem hlt]; rfl
    rw [sRd_nextByte_43 ((xput_ne (by omega)).trans k4) (nI_toInt (n := pos) (by omega)) (v := .int (nI bs[pos])) (by simp [hv]), sRd_nextByte_44]
    have hdr : (bs.take (bs.length - 2)).drop pos = bs[pos] :: (bs.take (bs.length - 2)).drop (pos + 1) := by
      rw [List.drop_eq_getElem_cons (by simp; omega)]
      congr 1
      simp
    refine K _ bs[pos] (ps.bind (fun _ => some ((bs.take (bs.length - 2)).drop (pos + 1)))) (k2 _ (List.getElem_mem hlt)) ⟨h1, ?_, h3, pos + 1, by omega, ?_, ?_⟩ ?_ (fun q q1 _ => xput_ne q1)
    · exact TableAt.kept ⟨k1, k2, ⟨bl, k3, k4, k5⟩, k6, k7, k8⟩ (fun q a b => xput_ne (by omega))
    · rw [xput_same]; cases ps <;> rfl
    · intro rem q; cases ps with
      | none => cases q
      | some l => cases q; rfl
    · cases ps with
      | none => rfl
      | some l =>
        have := h6 l rfl
        rw [hdr] at this
        subst this
        exact ⟨rfl, rfl⟩
  · rw [if_neg (nI_nlt (by omega) (by omega)), sRd_nextByte_20 h50 rfl xb1]
    simp only [sRd_nextByte_23, sRd_nextByte_24]
    refine K _ 0 none (by omega) hF ?_ (fun q q1 _ => xput_ne q1)
    cases ps with
    | none => rfl
    | some l =>
      have := h6 l rfl
      rw [List.drop_eq_nil_of_le (by simp; omega)] at this
      subst this
      rfl
/-- the byte's seven bits into a number -/
theorem var_or {a b k : Nat} (ha : a < 2 ^ k) (hb : b < 128) (hk : k ≤ 14) : nI a ||| (nI b <<< (nI k &&& 31)) = nI (a + b * 2 ^ k) := by
  have hp : 2 ^ k ≤ 2 ^ 14 := Nat.pow_le_pow_right (by decide) hk
  have hm : b * 2 ^ k ≤ 127 * 2 ^ 14 := Nat.mul_le_mul (by omega) hp
  have hs : ((nI k &&& 31).toBitVec.smod 32).toNat = k := by
    have : ∀ k, k ≤ 14 → ((nI k &&& 31).toBitVec.smod 32).toNat = k := by decide
    exact this k hk
  rw [pk_shlN (n := b) (nI k &&& 31) k hs (by omega), nx_or]
  congr 1
  have := Nat.two_pow_add_eq_or_of_lt ha b
  rw [Nat.or_comm, Nat.mul_comm b, ← this]
  omega
theorem vand (n : Nat) : nI n &&& nI 127 = nI (n % 128) := by
  rw [pk_and (nI n) 7 (by decide), nI_mod n, pk_tn (Nat.mod_lt _ (by decide))]
  congr 1
  omega
theorem var_ret {n i b : Nat} (hi : i < 3) (hb : b < 256) (h : RdAt M rd t bs low high wf recs ents ps) (K : ∀ M', RdAt M' rd t bs low high wf recs ents (if b ≠ 0 ∨ i = 0 then ps else none) → OnlyW M M' rd t → Q (some (.int (nI n))) M' z w) : WP (d + 1) mRd_nextVarint 33 [some (.ref rd), some (.int (nI n)), some (.int (nI i)), some (.int (nI b))] [] M z w Q := by
  have q0 := nI_eq (a := b) (b := 0) (by omega) (by omega)
  have q1 := nI_eq (a := i) (b := 0) (by omega) (by omega)
  obtain ⟨fs, hc⟩ := h.cell
  simp only [sRd_nextVarint_33, sRd_nextVarint_34, sRd_nextVarint_35, sRd_nextVarint_38, sRd_nextVarint_39, sRd_nextVarint_42, sRd_nextVarint_43, sRd_nextVarint_46, q0, q1]
  have fin : ∀ c : Bool, (c = true ↔ (b ≠ 0 ∨ i = 0)) → WP (d + 1) mRd_nextVarint 47 [some (.ref rd), some (.int (nI n)), some (.int (nI i)), some (.int (nI b))] [.int (nI (if c = true then 1 else 0)), .ref rd] M z w Q := by
    intro c hcc
    rw [sRd_nextVarint_47 hc]
    refine c_require (c := c) h (fun M2 hR2 hO2 => ?_)
    simp only [sRd_nextVarint_50, sRd_nextVarint_51, xk_i, xk_l, xk_a, xk_n, xk_0, Option.toList_some, Option.toList_none, List.cons_append, List.nil_append]
    refine K M2 ?_ hO2
    simp only [hcc] at hR2
    exact hR2
  by_cases hb0 : b = 0
  · rw [if_pos hb0]
    by_cases hi0 : i = 0
    · rw [if_pos hi0]; exact fin true (by simp [hi0])
    · rw [if_neg hi0]; exact fin false (by simp [hi0, hb0])
  · rw [if_neg hb0]; exact fin true (by simp [hb0])
set_option maxHeartbeats 1000000 in
theorem c_nextVarint (h : RdAt M rd t bs low high wf recs ents ps) (K : ∀ M' n ps', n < 2097152 → RdAt M' rd t bs low high wf recs ents ps' → PR vD ps (fun x => n = x) ps' → OnlyW M M' rd t → Q (some (.int (nI n))) M' z w) : WP (d + 1) mRd_nextVarint 0 [some (.ref rd), none, none, none] [] M z w Q := by
  simp only [sRd_nextVarint_0, sRd_nextVarint_1, sRd_nextVarint_2, sRd_nextVarint_3, xk_i, xk_l, xk_a, xk_n, xk_0, Option.toList_some, Option.toList_none, List.cons_append, List.nil_append]
  rw [sRd_nextVarint_4]
  simp only [sRd_nextVarint_5, sRd_nextVarint_6, sRd_nextVarint_9]
  obtain ⟨fs, hc⟩ := h.cell
  rw [if_neg (nI_ge (by omega) (by omega)), sRd_nextVarint_10 hc]
  refine c_nextByte h (fun M1 b0 ps1 hb0 hR1 hP1 hO1 => ?_)
  simp only [sRd_nextVarint_13, sRd_nextVarint_14, sRd_nextVarint_15, sRd_nextVarint_16, sRd_nextVarint_18, sRd_nextVarint_19, sRd_nextVarint_21, sRd_nextVarint_22, sRd_nextVarint_23, sRd_nextVarint_24, sRd_nextVarint_25, sRd_nextVarint_26, sRd_nextVarint_27, sRd_nextVarint_30, sRd_nextVarint_52, sRd_nextVarint_55, xk_i, xk_l, xk_a, xk_n, xk_0, Option.toList_some, Option.toList_none, List.cons_append, List.nil_append]
  rw [vand, show nI 7 * nI 0 = nI 0 from rfl, var_or (k := 0) (by decide) (Nat.mod_lt _ (by decide)) (by decide), show (0 : Nat) + b0 % 128 * 2 ^ 0 = b0 % 128 by omega]
  by_cases h0 : b0 < 128
  · rw [if_neg (nI_ge (by omega) (by omega))]
    refine var_ret (by omega) hb0 hR1 (fun M2 hR2 hO2 => ?_)
    rw [if_pos (Or.inr rfl)] at hR2
    rw [Nat.mod_eq_of_lt h0]
    refine K M2 b0 ps1 (by omega) hR2 ?_ (hO1.trans hO2)
    cases ps with
    | none => exact hP1.no
    | some l =>
      rcases hP1.so with ⟨q, e1, e2, e3⟩ | ⟨e1, e2⟩
      · cases l with
        | nil => cases e1
        | cons x r =>
          cases e1; subst e2
          unfold PR
          rw [Option.bind_some]
          unfold vD
          dsimp only
          rw [if_pos h0]
          exact ⟨rfl, e3⟩
      · cases l with
        | nil => exact e2
        | cons x r => cases e1
  · rw [if_pos (nI_le (by omega) (by omega)), nI_add, sRd_nextVarint_4]
    simp only [sRd_nextVarint_5, sRd_nextVarint_6, sRd_nextVarint_9]
    obtain ⟨fs1, hc1⟩ := hR1.cell
    rw [if_neg (nI_ge (by omega) (by omega)), sRd_nextVarint_10 hc1]
    refine c_nextByte hR1 (fun M2 b1 ps2 hb1 hR2 hP2 hO2 => ?_)
    simp only [sRd_nextVarint_13, sRd_nextVarint_14, sRd_nextVarint_15, sRd_nextVarint_16, sRd_nextVarint_18, sRd_nextVarint_19, sRd_nextVarint_21, sRd_nextVarint_22, sRd_nextVarint_23, sRd_nextVarint_24, sRd_nextVarint_25, sRd_nextVarint_26, sRd_nextVarint_27, sRd_nextVarint_30, sRd_nextVarint_52, sRd_nextVarint_55, xk_i, xk_l, xk_a, xk_n, xk_0, Option.toList_some, Option.toList_none, List.cons_append, List.nil_append]
    rw [vand, show nI 7 * nI (0 + 1) = nI 7 from rfl, var_or (k := 7) (by omega) (Nat.mod_lt _ (by decide)) (by decide)]
    by_cases h1 : b1 < 128
    · rw [if_neg (nI_ge (by omega) (by omega))]
      refine var_ret (by omega) hb1 hR2 (fun M3 hR3 hO3 => ?_)
      rw [Nat.mod_eq_of_lt h1]
      refine K M3 _ _ (by omega) hR3 ?_ ((hO1.trans hO2).trans hO3)
      cases ps with
      | none => rw [hP1.no] at hP2; rw [hP2.no]; unfold PR; simp
      | some l =>
        rcases hP1.so with ⟨q, e1, e2, e3⟩ | ⟨e1, e2⟩
        · cases l with
          | nil => cases e1
          | cons x r =>
            cases e1; subst e2
            dsimp only at e3 h0
            subst e3
            unfold PR
            rw [Option.bind_some]
            unfold vD
            dsimp only
            rw [if_neg h0]
            rcases hP2.so with ⟨q, f1, f2, f3⟩ | ⟨f1, f2⟩
            · cases r with
              | nil => cases f1
              | cons y s =>
                cases f1; subst f2
                dsimp only at f3 h1
                subst f3
                dsimp only
                rw [if_pos h1]
                by_cases hz : b1 = 0
                · rw [if_pos hz]; simp [hz]
                · rw [if_neg hz, if_pos (Or.inl hz)]
                  exact ⟨by omega, rfl⟩
            · cases r with
              | nil => rw [f2]; simp
              | cons y s => cases f1
        · cases l with
          | nil => rw [e2] at hP2; rw [hP2.no]; unfold PR; simp [vD]
          | cons x r => cases e1
    · rw [if_pos (nI_le (by omega) (by omega)), nI_add, sRd_nextVarint_4]
      simp only [sRd_nextVarint_5, sRd_nextVarint_6, sRd_nextVarint_9]
      obtain ⟨fs2, hc2⟩ := hR2.cell
      rw [if_neg (nI_ge (by omega) (by omega)), sRd_nextVarint_10 hc2]
      refine c_nextByte hR2 (fun M3 b2 ps3 hb2 hR3 hP3 hO3 => ?_)
      simp only [sRd_nextVarint_13, sRd_nextVarint_14, sRd_nextVarint_15, sRd_nextVarint_16, sRd_nextVarint_18, sRd_nextVarint_19, sRd_nextVarint_21, sRd_nextVarint_22, sRd_nextVarint_23, sRd_nextVarint_24, sRd_nextVarint_25, sRd_nextVarint_26, sRd_nextVarint_27, sRd_nextVarint_30, sRd_nextVarint_52, sRd_nextVarint_55, xk_i, xk_l, xk_a, xk_n, xk_0, Option.toList_some, Option.toList_none, List.cons_append, List.nil_append]
      rw [vand, show nI 7 * nI (0 + 1 + 1) = nI 14 from rfl, var_or (k := 14) (by omega) (Nat.mod_lt _ (by decide)) (by decide)]
      have chain : ∀ {ps4 : Option (List Nat)} {nn : Nat}, (∀ s : List Nat, ps3 = some s → (b2 < 128 ∧ b2 ≠ 0 ∧ nn = b0 % 128 + 128 * (b1 % 128) + 16384 * b2 ∧ ps4 = some s) ∨ (¬ (b2 < 128 ∧ b2 ≠ 0) ∧ ps4 = none)) → (ps3 = none → ps4 = none) → PR vD ps (fun x => nn = x) ps4 := by
        intro ps4 nn hs hn
        cases ps with
        | none => rw [hP1.no] at hP2; rw [hP2.no] at hP3; exact hn hP3.no
        | some l =>
          rcases hP1.so with ⟨q, e1, e2, e3⟩ | ⟨e1, e2⟩
          · cases l with
            | nil => cases e1
            | cons x r =>
              cases e1; subst e2
              dsimp only at e3 h0
              subst e3
              unfold PR
              rw [Option.bind_some]
              unfold vD
              dsimp only
              rw [if_neg h0]
              rcases hP2.so with ⟨q, f1, f2, f3⟩ | ⟨f1, f2⟩
              · cases r with
                | nil => cases f1
                | cons y s =>
                  cases f1; subst f2
                  dsimp only at f3 h1
                  subst f3
                  dsimp only
                  rw [if_neg h1]
                  rcases hP3.so with ⟨q, g1, g2, g3⟩ | ⟨g1, g2⟩
                  · cases s with
                    | nil => cases g1
                    | cons y2 s2 =>
                      cases g1; subst g2
                      dsimp only at g3
                      subst g3
                      dsimp only at hs ⊢
                      rcases hs s2 rfl with ⟨i1, i2, i3, i4⟩ | ⟨i1, i2⟩
                      · rw [if_pos i1, if_neg i2]; exact ⟨i3, i4⟩
                      · by_cases j1 : b2 < 128
                        · rw [if_pos j1, if_pos (Classical.byContradiction fun j2 => i1 ⟨j1, j2⟩)]; exact i2
                        · rw [if_neg j1]; exact i2
                  · cases s with
                    | nil => exact hn g2
                    | cons y2 s2 => cases g1
              · cases r with
                | nil => rw [f2] at hP3; exact hn hP3.no
                | cons y s => cases f1
          · cases l with
            | nil => rw [e2] at hP2; rw [hP2.no] at hP3; exact hn hP3.no
            | cons x r => cases e1
      by_cases h2 : b2 < 128
      · rw [if_neg (nI_ge (by omega) (by omega))]
        refine var_ret (by omega) hb2 hR3 (fun M4 hR4 hO4 => ?_)
        rw [Nat.mod_eq_of_lt h2]
        refine K M4 _ _ (by omega) hR4 (chain (fun s hs => ?_) (fun hs => by rw [hs]; simp)) ((hO1.trans hO2).trans (hO3.trans hO4))
        by_cases hz : b2 = 0
        · exact Or.inr ⟨fun q => q.2 hz, by simp [hz]⟩
        · exact Or.inl ⟨h2, hz, by omega, by rw [if_pos (Or.inl hz)]; exact hs⟩
      · rw [if_pos (nI_le (by omega) (by omega)), nI_add, sRd_nextVarint_4]
        simp only [sRd_nextVarint_5, sRd_nextVarint_6, sRd_nextVarint_58, sRd_nextVarint_59]
        obtain ⟨pos, c5, hF⟩ := hR3.fail
        rw [if_pos (nI_le (by omega) (by omega)), sRd_nextVarint_60 c5 rfl xb1]
        simp only [sRd_nextVarint_63, sRd_nextVarint_64]
        refine K _ _ none (by omega) hF (chain (fun s hs => Or.inr ⟨fun q => h2 q.1, rfl⟩) (fun _ => rfl)) ((hO1.trans hO2).trans (hO3.trans (fun q q1 _ => xput_ne q1)))
end RDS
