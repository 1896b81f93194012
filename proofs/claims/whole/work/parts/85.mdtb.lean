/-! the reference: its names and entries -/
theorem nI_div {a b : Nat} (ha : a < 2 ^ 31) (hb : b < 2 ^ 31) : nI a / nI b = nI (a / b) := by
  apply Int32.toInt_inj.mp
  have hq : a / b ≤ a := Nat.div_le_self _ _
  rw [Int32.toInt_div, nI_toInt ha, nI_toInt hb, nI_toInt (n := a / b) (by omega), Int.tdiv_eq_ediv_of_nonneg (by omega), ← Int.natCast_ediv]
  have h1 : (0 : Int) ≤ ((a / b : Nat) : Int) := Int.natCast_nonneg _
  have h2 : ((a / b : Nat) : Int) ≤ ((a : Nat) : Int) := Int.ofNat_le.mpr hq
  generalize ((a / b : Nat) : Int) = c at h1 h2
  exact Int.bmod_eq_of_le (by omega) (by omega)
theorem nI_rem {a b : Nat} (ha : a < 2 ^ 31) (hb : b < 2 ^ 31) : nI a - nI a / nI b * nI b = nI (a % b) := by
  have h1 : a / b * b ≤ a := Nat.div_mul_le_self a b
  rw [nI_div ha hb, pk_mul, pk_sub h1]
  congr 1
  rw [Nat.mod_eq_sub_mul_div, Nat.mul_comm]
/-- what may have changed -/
def Fr (gs as ls : List Nat) (g g' : Nat → Int32) (A A' : Nat → Nat → Int32) (L L' : Nat → Nat → Int64) : Prop := (∀ j, j ∉ gs → g' j = g j) ∧ (∀ j, j ∉ as → A' j = A j) ∧ ∀ j, j ∉ ls → L' j = L j
section FR
variable {gs as ls gt at2 lt : List Nat} {g g1 g2 : Nat → Int32} {A A1 A2 : Nat → Nat → Int32} {L L1 L2 : Nat → Nat → Int64}
theorem Fr.rf : Fr gs as ls g g A A L L := ⟨fun _ _ => rfl, fun _ _ => rfl, fun _ _ => rfl⟩
theorem Fr.trans (h : Fr gs as ls g g1 A A1 L L1) (h2 : Fr gs as ls g1 g2 A1 A2 L1 L2) : Fr gs as ls g g2 A A2 L L2 := ⟨fun j q => (h2.1 j q).trans (h.1 j q), fun j q => (h2.2.1 j q).trans (h.2.1 j q), fun j q => (h2.2.2 j q).trans (h.2.2 j q)⟩
theorem Fr.sub (h : Fr gs as ls g g1 A A1 L L1) (h1 : ∀ j ∈ gs, j ∈ gt) (h2 : ∀ j ∈ as, j ∈ at2) (h3 : ∀ j ∈ ls, j ∈ lt) : Fr gt at2 lt g g1 A A1 L L1 := ⟨fun j q => h.1 j (fun k => q (h1 j k)), fun j q => h.2.1 j (fun k => q (h2 j k)), fun j q => h.2.2 j (fun k => q (h3 j k))⟩
theorem Oa.fr (h : Oa g g1) (h9 : 9 ∈ gs) (h11 : 11 ∈ gs) : Fr gs as ls g g1 A A L L := ⟨fun j q => h j (fun e => q (e ▸ h9)) (fun e => q (e ▸ h11)), fun _ _ => rfl, fun _ _ => rfl⟩
theorem Fr.ug {k : Nat} {x : Int32} (h : k ∈ gs) : Fr gs as ls g (ug g k x) A A L L := ⟨fun j q => ug_e (fun e => q (e ▸ h)), fun _ _ => rfl, fun _ _ => rfl⟩
end FR
/-- bytes bs lie at base -/
def BA (A : Nat → Nat → Int32) (base : Nat) (bs : List Nat) : Prop := (∀ i b, bs[i]? = some b → A 1 (base + i) = sb b) ∧ (∀ b ∈ bs, b < 256) ∧ bs.length ≤ 1200 ∧ 2 ≤ bs.length ∧ base + bs.length ≤ 12000
theorem BA.by {A : Nat → Nat → Int32} {L : Nat → Nat → Int64} {base m : Nat} {bs : List Nat} {M : xM} (h : BA A base bs) : BY (AR M m A L) m base bs := by
  obtain ⟨h1, h2, h3, h4, h5⟩ := h
  refine ⟨⟨(List.range 12000).map (A 1), ?_, fun i hi => ?_⟩, h2, h3, h4, by omega⟩
  · unfold AR
    rw [if_pos (by omega), Nat.add_sub_cancel_left]
    simp [ard, va, vi]
  · rw [List.getElem?_eq_getElem hi, Option.map_some, List.getElem?_map, List.getElem?_range (by omega), Option.map_some, h1 i _ (List.getElem?_eq_getElem hi)]
theorem BA.kept {A A' : Nat → Nat → Int32} {base : Nat} {bs : List Nat} (h : BA A base bs) (e : A' 1 = A 1) : BA A' base bs := ⟨fun i b q => by rw [e]; exact h.1 i b q, h.2⟩
def vN (c : Int) : Nat := if 0 ≤ c then c.toNat else rv (-c).toNat
def NmA (g : Nat → Int32) (A : Nat → Nat → Int32) (L : Nat → Nat → Int64) (N : List arec) : Prop := g 14 = nI N.length ∧ ∀ i r, N[i]? = some r → L 7 i = lN (rv r.1) ∧ A 8 i = nI (knd r.2.2) ∧ A 9 i = nI r.2.1 ∧ L 10 i = lN (vN r.2.2)
def EnA (g : Nat → Int32) (A : Nat → Nat → Int32) (L : Nat → Nat → Int64) (E : List (aent × Nat)) : Prop := g 19 = nI E.length ∧ ∀ i e, E[i]? = some e → L 11 i = lN (rv e.1.1) ∧ A 12 i = nI e.1.2.1 ∧ A 13 i = nI e.1.2.2.1 ∧ A 14 i = nI e.1.2.2.2 ∧ A 15 i = nI e.2
def ddi (N : List arec) (r : arec) : List arec := if N.any (fun s => s.1 == r.1) = true then N else N ++ [r]
def fxI (N : List arec) (n : Nat) : Option Nat := N.findIdx? (fun r => rv r.1 == n)
section MT
variable {d m : Nat} {M : xM} {gs as ls : List Nat} {g g' : Nat → Int32} {A A' : Nat → Nat → Int32} {L L' : Nat → Nat → Int64} {N : List arec} {E : List (aent × Nat)} {z w : Nat} {Q : Option Value → xM → Nat → Nat → Prop}
theorem NmA.kept (h : NmA g A L N) (f : Fr gs as ls g g' A A' L L') (e1 : 14 ∉ gs) (e2 : 8 ∉ as) (e3 : 9 ∉ as) (e4 : 7 ∉ ls) (e5 : 10 ∉ ls) : NmA g' A' L' N :=
  ⟨(f.1 14 e1).trans h.1, fun i r q => by rw [f.2.1 8 e2, f.2.1 9 e3, f.2.2 7 e4, f.2.2 10 e5]; exact h.2 i r q⟩
theorem EnA.kept (h : EnA g A L E) (f : Fr gs as ls g g' A A' L L') (e1 : 19 ∉ gs) (e2 : 12 ∉ as) (e3 : 13 ∉ as) (e4 : 14 ∉ as) (e5 : 15 ∉ as) (e6 : 11 ∉ ls) : EnA g' A' L' E :=
  ⟨(f.1 19 e1).trans h.1, fun i r q => by rw [f.2.1 12 e2, f.2.1 13 e3, f.2.1 14 e4, f.2.1 15 e5, f.2.2 11 e6]; exact h.2 i r q⟩
theorem find_loop {n : Nat} (hn : n < 2 ^ 64) (hN : NmA g A L N) (hl : N.length ≤ 260) : ∀ (k i : Nat), i + k = N.length →
    (WP d mMd_find 2 [some (.ref m), some (.long (lN n)), none, some (.int (nI i))] [] (MM (AR M m A L) m g) z w Q ↔ Q (some (.int (oI ((fxI (N.drop i) n).map (fun q => q + i))))) (MM (AR M m A L) m g) z w) := by
  intro k
  induction k with
  | zero =>
    intro i hi
    simp only [sMd_find_2, sMd_find_3, rMd_find_4, sMd_find_7, sMd_find_29, sMd_find_30, hN.1]
    rw [if_pos (nI_le (by omega) (by omega)), List.drop_eq_nil_of_le (by omega)]
    rfl
  | succ k ih =>
    intro i hi
    have hlt : i < N.length := by omega
    obtain ⟨q1, q2, q3, q4⟩ := hN.2 i N[i] (List.getElem?_eq_getElem hlt)
    have e := lN_inj (a := rv N[i].1) (b := n) (by have := rv_lt N[i].1; omega) hn
    rw [sMd_find_2]
    simp only [sMd_find_3, rMd_find_4, sMd_find_7, sMd_find_10, rMd_find_11, sMd_find_14, qMd_find_15 (k := i) (by omega), sMd_find_16, sMd_find_17, sMd_find_18, sMd_find_21, sMd_find_22, sMd_find_23, sMd_find_26, lcmp_eq, lcmp_lt, lcmp_ge, lcmp_gt, lcmp_le, xk_i, xk_l, xk_a, xk_n, xk_0, Option.toList_some, Option.toList_none, List.cons_append, List.nil_append, hN.1, q1, e, nI_add]
    rw [if_neg (nI_ge (by omega) (by omega)), ih (i + 1) (by omega), List.drop_eq_getElem_cons hlt]
    unfold fxI
    rw [List.findIdx?_cons]
    by_cases hq : rv N[i].1 = n
    · rw [if_pos hq, if_pos (by rw [hq, beq_self_eq_true])]
      show _ ↔ Q (some (.int (nI (0 + i)))) _ _ _
      rw [Nat.zero_add]
    · rw [if_neg hq, if_neg (by simp [hq]), Option.map_map]
      have e2 : ((fun q => q + i) ∘ fun q => q + 1) = fun q => q + (i + 1) := by funext q; simp only [Function.comp]; omega
      rw [e2]
theorem c_find {n : Nat} (hn : n < 2 ^ 64) (hN : NmA g A L N) (hl : N.length ≤ 260) : WP d mMd_find 0 [some (.ref m), some (.long (lN n)), none, none] [] (MM (AR M m A L) m g) z w Q ↔ Q (some (.int (oI (fxI N n)))) (MM (AR M m A L) m g) z w := by
  simp only [sMd_find_0, sMd_find_1, xk_i, xk_l, xk_a, xk_n, xk_0, Option.toList_some, Option.toList_none, List.cons_append, List.nil_append]
  rw [find_loop hn hN hl N.length 0 (by omega), List.drop_zero]
  have e : ((fxI N n).map (fun q => q + 0)) = fxI N n := by cases fxI N n <;> rfl
  rw [e]
theorem fxI_none {n : Nat} : fxI N n = none ↔ ∀ r ∈ N, rv r.1 ≠ n := by
  unfold fxI
  rw [List.findIdx?_eq_none_iff]
  simp
theorem fxI_some {n i : Nat} (h : fxI N n = some i) : ∃ r, N[i]? = some r ∧ rv r.1 = n ∧ i < N.length := by
  unfold fxI at h
  rw [List.findIdx?_eq_some_iff_getElem] at h
  obtain ⟨h1, h2, h3⟩ := h
  exact ⟨N[i], List.getElem?_eq_getElem h1, by simpa using h2, h1⟩
theorem oI_ge {b : Option Nat} (h : ∀ j, b = some j → j < 2 ^ 31) : nI 0 ≤ oI b ↔ b ≠ none := by
  cases b with
  | none => exact ⟨fun q => absurd q (by decide), fun q => absurd rfl q⟩
  | some j => exact ⟨fun _ q => (by cases q), fun _ => nI_le (by omega) (h j rfl)⟩
theorem NmA.snoc {r : arec} (h : NmA g A L N) (e1 : g' 14 = nI (N.length + 1)) (e2 : L' 7 = fun q => if q = N.length then lN (rv r.1) else L 7 q) (e3 : A' 8 = fun q => if q = N.length then nI (knd r.2.2) else A 8 q) (e4 : A' 9 = fun q => if q = N.length then nI r.2.1 else A 9 q) (e5 : L' 10 = fun q => if q = N.length then lN (vN r.2.2) else L 10 q) : NmA g' A' L' (N ++ [r]) := by
  refine ⟨by rw [e1]; simp, fun i s hs => ?_⟩
  rw [e2, e3, e4, e5]
  by_cases hi : i < N.length
  · rw [List.getElem?_append_left hi] at hs
    simp only [if_neg (show ¬ i = N.length by omega)]
    exact h.2 i s hs
  · have hi2 := (List.getElem?_eq_some_iff.mp hs).1
    simp only [List.length_append, List.length_singleton] at hi2
    have : i = N.length := by omega
    subst this
    rw [List.getElem?_append_right (Nat.le_refl _), Nat.sub_self] at hs
    cases hs
    simp only [if_true]
    exact ⟨trivial, trivial, trivial, trivial⟩
theorem EnA.snoc {e : aent × Nat} (h : EnA g A L E) (e1 : g' 19 = nI (E.length + 1)) (e2 : L' 11 = fun q => if q = E.length then lN (rv e.1.1) else L 11 q) (e3 : A' 12 = fun q => if q = E.length then nI e.1.2.1 else A 12 q) (e4 : A' 13 = fun q => if q = E.length then nI e.1.2.2.1 else A 13 q) (e5 : A' 14 = fun q => if q = E.length then nI e.1.2.2.2 else A 14 q) (e6 : A' 15 = fun q => if q = E.length then nI e.2 else A 15 q) : EnA g' A' L' (E ++ [e]) := by
  refine ⟨by rw [e1]; simp, fun i s hs => ?_⟩
  rw [e2, e3, e4, e5, e6]
  by_cases hi : i < E.length
  · rw [List.getElem?_append_left hi] at hs
    simp only [if_neg (show ¬ i = E.length by omega)]
    exact h.2 i s hs
  · have hi2 := (List.getElem?_eq_some_iff.mp hs).1
    simp only [List.length_append, List.length_singleton] at hi2
    have : i = E.length := by omega
    subst this
    rw [List.getElem?_append_right (Nat.le_refl _), Nat.sub_self] at hs
    cases hs
    simp only [if_true]
    exact ⟨trivial, trivial, trivial, trivial, trivial⟩
theorem u2_fn {α : Type} {A : Nat → Nat → α} {j k : Nat} {x : α} : u2 A j k x j = fun q => if q = k then x else A j q := if_pos rfl
theorem c_enter {r : arec} (hr : r.1 < 2 ^ 60) (hk : ∀ s ∈ N, s.1 < 2 ^ 60) (hN : NmA g A L N) (hl : N.length < 260) (K : ∀ g' A' L', NmA g' A' L' (ddi N r) → Fr [14] [8, 9] [7, 10] g g' A A' L L' → Q none (MM (AR M m A' L') m g') z w) :
    WP (d + 1) mMd_enter 0 [some (.ref m), some (.long (lN (rv r.1))), none, some (.int (nI (knd r.2.2))), some (.int (nI r.2.1)), some (.long (lN (vN r.2.2))), none] [] (MM (AR M m A L) m g) z w Q := by
  have hr2 := rv_lt r.1
  simp only [sMd_enter_0, sMd_enter_1, rMd_enter_2]
  rw [c_find (by omega) hN (by omega)]
  simp only [sMd_enter_5, xk_i, xk_l, xk_a, xk_n, xk_0, Option.toList_some, Option.toList_none, List.cons_append, List.nil_append, oI_ge (b := fxI N (rv r.1)) (fun j hj => by obtain ⟨s, -, -, q⟩ := fxI_some hj; omega)]
  have hany : fxI N (rv r.1) ≠ none ↔ N.any (fun s => s.1 == r.1) = true := by
    rw [Ne, fxI_none, List.any_eq_true]
    constructor
    · intro q
      apply Classical.byContradiction
      intro q2
      refine q (fun s hs e => q2 ⟨s, hs, ?_⟩)
      rw [rv_inj (hk s hs) hr e, beq_self_eq_true]
    · rintro ⟨s, hs, e⟩ q
      exact q s hs (by rw [eq_of_beq e])
  by_cases hc : fxI N (rv r.1) ≠ none
  · rw [if_pos hc, sMd_enter_60]
    refine K g A L ?_ Fr.rf
    unfold ddi
    rw [if_pos (hany.mp hc)]
    exact hN
  · rw [if_neg hc]
    simp only [sMd_enter_8, rMd_enter_9, sMd_enter_12, rMd_enter_13, sMd_enter_16, qMd_enter_17 (k := N.length) hl, sMd_enter_18, rMd_enter_19, sMd_enter_22, rMd_enter_23, sMd_enter_26, qMd_enter_27 (k := N.length) hl, sMd_enter_28, rMd_enter_29, sMd_enter_32, rMd_enter_33, sMd_enter_36, qMd_enter_38 (k := N.length) hl, sMd_enter_39, rMd_enter_40, sMd_enter_43, rMd_enter_44, sMd_enter_47, qMd_enter_49 (k := N.length) hl, sMd_enter_50, sMd_enter_51, rMd_enter_52, sMd_enter_55, sMd_enter_56, rMd_enter_57, sMd_enter_60, hN.1, nI_add]
    refine K _ _ _ ?_ ⟨?_, ?_, ?_⟩
    · unfold ddi
      rw [if_neg (fun q => hc (hany.mpr q))]
      refine hN.snoc ug_s ?_ ?_ ?_ ?_
      · rw [u2_ne (by decide), u2_fn]
      · rw [u2_ne (by decide), u2_fn]
      · rw [u2_fn, u2_ne (by decide)]
      · rw [u2_fn, u2_ne (by decide)]
    · intro j hj; exact ug_e (fun q => hj (by rw [q]; decide))
    · intro j hj
      rw [u2_ne (fun q => hj (by rw [q]; decide)), u2_ne (fun q => hj (by rw [q]; decide))]
    · intro j hj
      rw [u2_ne (fun q => hj (by rw [q]; decide)), u2_ne (fun q => hj (by rw [q]; decide))]
theorem c_entry {n : Int64} {t o f tb : Int32} {c : Nat} (hc : c < 340) (h : g 19 = nI c) (K : ∀ g' A' L', g' 19 = nI (c + 1) → (L' 11 = fun q => if q = c then n else L 11 q) → (A' 12 = fun q => if q = c then t else A 12 q) → (A' 13 = fun q => if q = c then o else A 13 q) → (A' 14 = fun q => if q = c then f else A 14 q) → (A' 15 = fun q => if q = c then tb else A 15 q) → Fr [19] [12, 13, 14, 15] [11] g g' A A' L L' → Q none (MM (AR M m A' L') m g') z w) :
    WP d mMd_entry 0 [some (.ref m), some (.long n), none, some (.int t), some (.int o), some (.int f), some (.int tb)] [] (MM (AR M m A L) m g) z w Q := by
  simp only [sMd_entry_0, rMd_entry_1, sMd_entry_4, rMd_entry_5, sMd_entry_8, qMd_entry_9 (k := c) hc, sMd_entry_10, rMd_entry_11, sMd_entry_14, rMd_entry_15, sMd_entry_18, qMd_entry_19 (k := c) hc, sMd_entry_20, rMd_entry_21, sMd_entry_24, rMd_entry_25, sMd_entry_28, qMd_entry_30 (k := c) hc, sMd_entry_31, rMd_entry_32, sMd_entry_35, rMd_entry_36, sMd_entry_39, qMd_entry_41 (k := c) hc, sMd_entry_42, rMd_entry_43, sMd_entry_46, rMd_entry_47, sMd_entry_50, qMd_entry_52 (k := c) hc, sMd_entry_53, sMd_entry_54, rMd_entry_55, sMd_entry_58, sMd_entry_59, rMd_entry_60, sMd_entry_63, h, nI_add]
  refine K _ _ _ ug_s u2_fn ?_ ?_ ?_ ?_ ⟨?_, ?_, ?_⟩
  · rw [u2_ne (by decide), u2_ne (by decide), u2_ne (by decide), u2_fn]
  · rw [u2_ne (by decide), u2_ne (by decide), u2_fn, u2_ne (by decide)]
  · rw [u2_ne (by decide), u2_fn, u2_ne (by decide), u2_ne (by decide)]
  · rw [u2_fn, u2_ne (by decide), u2_ne (by decide), u2_ne (by decide)]
  · intro j hj; exact ug_e (fun q => hj (by rw [q]; decide))
  · intro j hj
    rw [u2_ne (fun q => hj (by rw [q]; decide)), u2_ne (fun q => hj (by rw [q]; decide)), u2_ne (fun q => hj (by rw [q]; decide)), u2_ne (fun q => hj (by rw [q]; decide))]
  · intro j hj
    exact u2_ne (fun q => hj (by rw [q]; decide))
end MT
