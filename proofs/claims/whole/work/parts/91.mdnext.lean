/-! the reference: the next record, the next entry -/
/-- among the first i: the first one with the least value above v, if there is one -/
def nxI {α : Type} (N : List α) (f : α → Nat) (P : α → Bool) (v i : Nat) : Option Nat → Prop
  | none => ∀ q c, q < i → N[q]? = some c → P c = true → ¬ v < f c
  | some j => j < i ∧ ∃ c, N[j]? = some c ∧ P c = true ∧ v < f c ∧ ∀ q c', q < i → N[q]? = some c' → P c' = true → v < f c' → f c ≤ f c' ∧ (q < j → f c ≠ f c')
section NX
variable {α : Type} {N : List α} {f : α → Nat} {P : α → Bool} {v i : Nat}
theorem nxI_0 : nxI N f P v 0 none := fun q c h => absurd h (Nat.not_lt_zero q)
theorem nxI.keep {b : Option Nat} {c : α} (h : nxI N f P v i b) (hc : N[i]? = some c) (hk : P c = true → v < f c → ∃ j c', b = some j ∧ N[j]? = some c' ∧ f c' ≤ f c) : nxI N f P v (i + 1) b := by
  cases b with
  | none =>
    intro q c' hq hc' hP hv
    by_cases e : q = i
    · subst e
      rw [hc] at hc'; cases hc'
      obtain ⟨j, c'', e1, -⟩ := hk hP hv
      cases e1
    · exact h q c' (by omega) hc' hP hv
  | some j =>
    obtain ⟨h1, c0, h2, h3, h4, h5⟩ := h
    refine ⟨by omega, c0, h2, h3, h4, fun q c' hq hc' hP hv => ?_⟩
    by_cases e : q = i
    · subst e
      rw [hc] at hc'; cases hc'
      obtain ⟨j2, c'', e1, e2, e3⟩ := hk hP hv
      cases e1
      rw [h2] at e2; cases e2
      exact ⟨e3, fun q => by omega⟩
    · exact h5 q c' (by omega) hc' hP hv
theorem nxI.take {b : Option Nat} {c : α} (h : nxI N f P v i b) (hc : N[i]? = some c) (hP : P c = true) (hv : v < f c) (hk : ∀ j c', b = some j → N[j]? = some c' → f c < f c') : nxI N f P v (i + 1) (some i) := by
  refine ⟨by omega, c, hc, hP, hv, fun q c' hq hc' hP' hv' => ?_⟩
  by_cases e : q = i
  · subst e
    rw [hc] at hc'; cases hc'
    exact ⟨Nat.le_refl _, fun q => by omega⟩
  · cases b with
    | none => exact absurd hv' (h q c' (by omega) hc' hP')
    | some j =>
      obtain ⟨h1, c0, h2, h3, h4, h5⟩ := h
      have h6 := h5 q c' (by omega) hc' hP' hv'
      have h7 := hk j c0 rfl h2
      exact ⟨by omega, fun _ => by omega⟩
theorem nxI_none (h : nxI N f P v N.length none) : abv f (N.filter P) v = [] := by
  refine abv_nil (fun y hy => ?_)
  rw [List.mem_filter] at hy
  obtain ⟨q, hq, e⟩ := List.mem_iff_getElem.mp hy.1
  exact h q y hq (by rw [List.getElem?_eq_getElem hq, e]) hy.2
theorem nxI_some {j : Nat} (h : nxI N f P v N.length (some j)) : ∃ c, N[j]? = some c ∧ P c = true ∧ v < f c ∧ j < N.length ∧ abv f (N.filter P) v = c :: abv f (N.filter P) (f c) := by
  obtain ⟨h1, c, h2, h3, h4, h5⟩ := h
  refine ⟨c, h2, h3, h4, h1, abv_cons ?_ h4 (fun y hy hv => ?_)⟩
  · rw [List.find?_filter, List.find?_eq_some_iff_getElem]
    refine ⟨by simp [h3], j, h1, (List.getElem?_eq_some_iff.mp h2).2, fun q hq => ?_⟩
    cases hPq : P N[q] with
    | false => simp
    | true =>
      by_cases e : f N[q] = f c
      · exact absurd e.symm ((h5 q N[q] (by omega) (List.getElem?_eq_getElem (by omega)) hPq (by omega)).2 hq)
      · simp [e]
  · rw [List.mem_filter] at hy
    obtain ⟨q, hq, e⟩ := List.mem_iff_getElem.mp hy.1
    exact (h5 q y hq (by rw [List.getElem?_eq_getElem hq, e]) hy.2 hv).1
end NX
def frK (fr : Nat) (r : arec) : Bool := decide (fr ≤ knd r.2.2)
/-- sooner: the lower one of two entries, the higher table of two equal ones -/
def so (a b : aent × Nat) : Prop := ek a.1 < ek b.1 ∨ (ek a.1 = ek b.1 ∧ b.2 < a.2)
theorem ek_eq {a b : aent} (ha : a.2.1 < 2 ^ 31) (hb : b.2.1 < 2 ^ 31) : ek a = ek b ↔ a.1 = b.1 ∧ a.2.1 = b.2.1 := by
  unfold ek
  omega
theorem ek_pos {a : aent} (h : 0 < a.1) : 0 < ek a := by
  unfold ek
  omega
/-- keys and times that fit -/
def okN (N : List arec) : Prop := ∀ s ∈ N, 0 < s.1 ∧ s.1 < 2 ^ 60 ∧ s.2.1 ≤ 2001 ∧ okC s.2.2
def okEn (E : List (aent × Nat)) : Prop := (∀ e ∈ E, 0 < e.1.1 ∧ okE e.1 ∧ e.2 < 100) ∧ ∀ (i j : Nat) (a b : aent × Nat), i < j → E[i]? = some a → E[j]? = some b → b.2 ≤ a.2
section MX
variable {d m : Nat} {M : xM} {g : Nat → Int32} {A : Nat → Nat → Int32} {L : Nat → Nat → Int64} {N : List arec} {E : List (aent × Nat)} {z w : Nat} {Q : Option Value → xM → Nat → Nat → Prop}
theorem knd_2 (c : Int) : knd c ≤ 2 := by
  unfold knd
  split
  · omega
  · split <;> omega
set_option maxHeartbeats 1000000 in
theorem nextRecord_loop {v fr : Nat} (hv : v < 2 ^ 60) (hfr : fr ≤ 2) (hN : NmA g A L N) (hl : N.length ≤ 260) (ho : okN N) (K : ∀ b, nxI N kR (frK fr) v N.length b → Q (some (.int (oI b))) (MM (AR M m A L) m g) z w) : ∀ (r i : Nat) (b : Option Nat) (x6 : Option Value), i + r = N.length → nxI N kR (frK fr) v i b →
    WP (d + 2) mMd_nextRecord 6 [some (.ref m), some (.long (lN (rv v))), none, some (.int (nI fr)), some (.int (oI b)), some (.int (nI i)), x6] [] (MM (AR M m A L) m g) z w Q := by
  intro r
  induction r with
  | zero =>
    intro i b x6 hi hb
    rw [sMd_nextRecord_6]
    simp only [sMd_nextRecord_8, rMd_nextRecord_9, sMd_nextRecord_12, sMd_nextRecord_98, sMd_nextRecord_100, hN.1]
    rw [if_pos (nI_le (by omega) (by omega))]
    exact K b (by rw [show N.length = i by omega]; exact hb)
  | succ r ih =>
    intro i b x6 hi hb
    have hlt : i < N.length := by omega
    have hgi : N[i]? = some N[i] := List.getElem?_eq_getElem hlt
    obtain ⟨q1, q2, q3, q4⟩ := hN.2 i N[i] hgi
    obtain ⟨o1, o2, o3, o4⟩ := ho N[i] (List.getElem_mem hlt)
    have hk2 := knd_2 N[i].2.2
    have hrv := rv_lt v
    have hrk := rv_lt N[i].1
    have hbj : ∀ j, b = some j → j < i := by
      intro j e
      subst e
      exact hb.1
    have hnext : ∀ (b' : Option Nat) (x : Int32), nxI N kR (frK fr) v (i + 1) b' → WP (d + 2) mMd_nextRecord 90 [some (.ref m), some (.long (lN (rv v))), none, some (.int (nI fr)), some (.int (oI b)), some (.int (nI i)), some (.int x)] [.int (oI b')] (MM (AR M m A L) m g) z w Q := by
      intro b' x hb'
      simp only [sMd_nextRecord_90, sMd_nextRecord_92, sMd_nextRecord_95, xk_i, xk_l, xk_a, xk_n, xk_0, Option.toList_some, Option.toList_none, List.cons_append, List.nil_append, nI_add]
      exact ih (i + 1) b' _ (by omega) hb'
    have hno : ¬ (frK fr N[i] = true ∧ v < kR N[i]) → WP (d + 2) mMd_nextRecord 50 [some (.ref m), some (.long (lN (rv v))), none, some (.int (nI fr)), some (.int (oI b)), some (.int (nI i)), x6] [] (MM (AR M m A L) m g) z w Q := by
      intro hn
      simp only [sMd_nextRecord_50, sMd_nextRecord_51, sMd_nextRecord_53, sMd_nextRecord_55, sMd_nextRecord_88, xk_i, xk_l, xk_a, xk_n, xk_0, Option.toList_some, Option.toList_none, List.cons_append, List.nil_append]
      rw [if_pos trivial]
      exact hnext b _ (hb.keep hgi (fun h1 h2 => absurd ⟨h1, h2⟩ hn))
    have hyes : frK fr N[i] = true → v < kR N[i] → WP (d + 2) mMd_nextRecord 46 [some (.ref m), some (.long (lN (rv v))), none, some (.int (nI fr)), some (.int (oI b)), some (.int (nI i)), x6] [] (MM (AR M m A L) m g) z w Q := by
      intro h1 h2
      simp only [sMd_nextRecord_46, sMd_nextRecord_47, sMd_nextRecord_50, sMd_nextRecord_51, sMd_nextRecord_53, sMd_nextRecord_55, sMd_nextRecord_58, sMd_nextRecord_60, xk_i, xk_l, xk_a, xk_n, xk_0, Option.toList_some, Option.toList_none, List.cons_append, List.nil_append, oI_neg (b := b) (fun j hj => by have := hbj j hj; omega)]
      rw [if_neg (by decide)]
      cases b with
      | none =>
        rw [if_pos rfl]
        simp only [sMd_nextRecord_83, sMd_nextRecord_85]
        exact hnext (some i) _ (hb.take hgi h1 h2 (fun j c' e => (by cases e)))
      | some j =>
        rw [if_neg (by simp)]
        have hj := hb.1
        have hgj : N[j]? = some N[j] := List.getElem?_eq_getElem (by omega)
        obtain ⟨p1, -, -, -⟩ := hN.2 j N[j] hgj
        have hkj := (ho N[j] (List.getElem_mem (by omega))).2.1
        have hrj := rv_lt N[j].1
        simp only [sMd_nextRecord_63, rMd_nextRecord_64, sMd_nextRecord_67, qMd_nextRecord_69 (k := i) (by omega), sMd_nextRecord_70, rMd_nextRecord_71, sMd_nextRecord_74, qMd_nextRecord_76 (k := j) (by omega), oI, q1, p1]
        rw [sMd_nextRecord_77, c_compare (by omega) (by omega)]
        simp only [sMd_nextRecord_80, sMd_nextRecord_83, sMd_nextRecord_85, sMd_nextRecord_88, xk_i, xk_l, xk_a, xk_n, xk_0, Option.toList_some, Option.toList_none, List.cons_append, List.nil_append, cmp_ge, rv_rv' o2, rv_rv' hkj]
        by_cases hc : N[j].1 ≤ N[i].1
        · rw [if_pos hc]
          exact hnext (some j) _ (hb.keep hgi (fun _ _ => ⟨j, N[j], rfl, hgj, hc⟩))
        · rw [if_neg hc]
          refine hnext (some i) _ (hb.take hgi h1 h2 (fun j' c' e e2 => ?_))
          cases e
          rw [hgj] at e2; cases e2
          show N[i].1 < N[j].1
          omega
    rw [sMd_nextRecord_6]
    simp only [sMd_nextRecord_8, rMd_nextRecord_9, sMd_nextRecord_12, sMd_nextRecord_15, rMd_nextRecord_16, sMd_nextRecord_19, qMd_nextRecord_21 (k := i) (by omega), sMd_nextRecord_22, sMd_nextRecord_23, sMd_nextRecord_26, sMd_nextRecord_27, sMd_nextRecord_28, sMd_nextRecord_29, lcmp_eq, lcmp_lt, lcmp_ge, lcmp_gt, lcmp_le, hN.1, q2, nI_ltI (a := knd N[i].2.2) (b := fr) (by omega) (by omega), lN_inj (a := rv v) (b := 0) (by omega) (by decide)]
    rw [if_neg (nI_ge (by omega) (by omega))]
    by_cases hf : knd N[i].2.2 < fr
    · rw [if_pos hf]
      refine hno (fun q => ?_)
      have := q.1
      unfold frK at this
      rw [decide_eq_true_eq] at this
      omega
    · rw [if_neg hf]
      have hfk : frK fr N[i] = true := by unfold frK; rw [decide_eq_true_eq]; omega
      by_cases h0 : rv v = 0
      · rw [if_pos h0]
        have : v = 0 := by rw [← rv_rv' hv, h0]; rfl
        subst this
        exact hyes hfk o1
      · rw [if_neg h0]
        simp only [sMd_nextRecord_32, rMd_nextRecord_33, sMd_nextRecord_36, qMd_nextRecord_38 (k := i) (by omega), sMd_nextRecord_39, q1]
        rw [sMd_nextRecord_40, c_compare (by omega) (by omega)]
        simp only [sMd_nextRecord_43, xk_i, xk_l, xk_a, xk_n, xk_0, Option.toList_some, Option.toList_none, List.cons_append, List.nil_append, cmp_le, rv_rv' o2, rv_rv' hv]
        by_cases hc : N[i].1 ≤ v
        · rw [if_pos hc]
          refine hno (fun q => ?_)
          have : v < N[i].1 := q.2
          omega
        · rw [if_neg hc]
          exact hyes hfk (show v < N[i].1 by omega)
theorem c_nextRecord {v fr : Nat} (hv : v < 2 ^ 60) (hfr : fr ≤ 2) (hN : NmA g A L N) (hl : N.length ≤ 260) (ho : okN N) (K : ∀ b, nxI N kR (frK fr) v N.length b → Q (some (.int (oI b))) (MM (AR M m A L) m g) z w) :
    WP (d + 2) mMd_nextRecord 0 [some (.ref m), some (.long (lN (rv v))), none, some (.int (nI fr)), none, none, none] [] (MM (AR M m A L) m g) z w Q := by
  simp only [sMd_nextRecord_0, sMd_nextRecord_1, sMd_nextRecord_3, sMd_nextRecord_4, xk_i, xk_l, xk_a, xk_n, xk_0, Option.toList_some, Option.toList_none, List.cons_append, List.nil_append]
  exact nextRecord_loop hv hfr hN hl ho K N.length 0 none none (by omega) nxI_0
set_option maxHeartbeats 1000000 in
theorem c_sooner {i j : Nat} {a b : aent × Nat} (hE : EnA g A L E) (hl : E.length ≤ 340) (ho : okEn E) (hi : E[i]? = some a) (hj : E[j]? = some b) [Decidable (so a b)] : WP (d + 2) mMd_sooner 0 [some (.ref m), some (.int (nI i)), some (.int (nI j)), none] [] (MM (AR M m A L) m g) z w Q ↔ Q (some (.int (nI (if so a b then 1 else 0)))) (MM (AR M m A L) m g) z w := by
  have hi1 := (List.getElem?_eq_some_iff.mp hi).1
  have hj1 := (List.getElem?_eq_some_iff.mp hj).1
  obtain ⟨a1, a2, a3, a4, a5⟩ := hE.2 i a hi
  obtain ⟨b1, b2, b3, b4, b5⟩ := hE.2 j b hj
  obtain ⟨p1, ⟨p2, p3, p4, p5⟩, p6⟩ := ho.1 a (List.mem_of_getElem? hi)
  obtain ⟨r1, ⟨r2, r3, r4, r5⟩, r6⟩ := ho.1 b (List.mem_of_getElem? hj)
  have ha := rv_lt a.1.1
  have hb := rv_lt b.1.1
  have hlt := ek_lt (a := a.1) (b := b.1) (by omega) (by omega)
  have heq := ek_eq (a := a.1) (b := b.1) (by omega) (by omega)
  simp only [sMd_sooner_0, rMd_sooner_1, sMd_sooner_4, qMd_sooner_5 (k := i) (by omega), sMd_sooner_6, rMd_sooner_7, sMd_sooner_10, qMd_sooner_11 (k := j) (by omega), a1, b1]
  rw [sMd_sooner_12, c_compare (by omega) (by omega)]
  simp only [sMd_sooner_15, sMd_sooner_16, sMd_sooner_17, sMd_sooner_20, sMd_sooner_21, sMd_sooner_24, sMd_sooner_25, sMd_sooner_28, sMd_sooner_29, sMd_sooner_32, rMd_sooner_33, sMd_sooner_36, qMd_sooner_37 (k := i) (by omega), sMd_sooner_38, rMd_sooner_39, sMd_sooner_42, qMd_sooner_43 (k := j) (by omega), sMd_sooner_44, sMd_sooner_47, rMd_sooner_48, sMd_sooner_51, qMd_sooner_52 (k := i) (by omega), sMd_sooner_53, rMd_sooner_54, sMd_sooner_57, qMd_sooner_58 (k := j) (by omega), sMd_sooner_59, sMd_sooner_62, sMd_sooner_63, sMd_sooner_66, sMd_sooner_67, sMd_sooner_70, rMd_sooner_71, sMd_sooner_74, qMd_sooner_75 (k := i) (by omega), sMd_sooner_76, rMd_sooner_77, sMd_sooner_80, qMd_sooner_81 (k := j) (by omega), sMd_sooner_82, sMd_sooner_85, sMd_sooner_86, sMd_sooner_89, sMd_sooner_90 xb0, sMd_sooner_90 xb1, xk_i, xk_l, xk_a, xk_n, xk_0, Option.toList_some, Option.toList_none, List.cons_append, List.nil_append, a2, b2, a5, b5, cmp_eq, cmp_ge, rv_rv' p2, rv_rv' r2, nI_eq (a := a.1.2.1) (b := b.1.2.1) (by omega) (by omega), nI_leI (a := a.1.2.1) (b := b.1.2.1) (by omega) (by omega), nI_leI (a := a.2) (b := b.2) (by omega) (by omega)]
  by_cases h1 : a.1.1 = b.1.1
  · rw [if_pos h1]
    by_cases h2 : a.1.2.1 = b.1.2.1
    · rw [if_pos h2]
      by_cases h3 : a.2 ≤ b.2
      · rw [if_pos h3, if_neg (show ¬ so a b from by unfold so; omega)]
      · rw [if_neg h3, if_pos (show so a b from by unfold so; omega)]
    · rw [if_neg h2]
      by_cases h3 : a.1.2.1 ≤ b.1.2.1
      · rw [if_pos h3, if_neg (show ¬ so a b from by unfold so; omega)]
      · rw [if_neg h3, if_pos (show so a b from by unfold so; omega)]
  · rw [if_neg h1]
    by_cases h3 : b.1.1 ≤ a.1.1
    · rw [if_pos h3, if_neg (show ¬ so a b from by unfold so; omega)]
    · rw [if_neg h3, if_pos (show so a b from by unfold so; omega)]
abbrev sinP (s : Int32) (e : aent × Nat) : Bool := sin s e.1
abbrev ekP (e : aent × Nat) : Nat := ek e.1
/-- the entry before -/
def bfr (E : List (aent × Nat)) (v : Nat) : Option Nat → Prop
  | none => v = 0
  | some j => ∃ e, E[j]? = some e ∧ v = ekP e
set_option maxHeartbeats 1000000 in
theorem nextEntry_loop {v : Nat} {s : Int32} {p : Option Nat} (hp : bfr E v p) (hE : EnA g A L E) (hl : E.length ≤ 340) (ho : okEn E) (K : ∀ b, nxI E ekP (sinP s) v E.length b → Q (some (.int (oI b))) (MM (AR M m A L) m g) z w) : ∀ (r i : Nat) (b : Option Nat) (x5 : Option Value), i + r = E.length → nxI E ekP (sinP s) v i b →
    WP (d + 3) mMd_nextEntry 5 [some (.ref m), some (.int (oI p)), some (.int s), some (.int (oI b)), some (.int (nI i)), x5] [] (MM (AR M m A L) m g) z w Q := by
  classical
  intro r
  induction r with
  | zero =>
    intro i b x5 hi hb
    rw [sMd_nextEntry_5]
    simp only [sMd_nextEntry_7, rMd_nextEntry_8, sMd_nextEntry_11, sMd_nextEntry_111, sMd_nextEntry_112, hE.1]
    rw [if_pos (nI_le (by omega) (by omega))]
    exact K b (by rw [show E.length = i by omega]; exact hb)
  | succ r ih =>
    intro i b x5 hi hb
    have hlt : i < E.length := by omega
    have hgi : E[i]? = some E[i] := List.getElem?_eq_getElem hlt
    obtain ⟨q1, q2, q3, q4, q5⟩ := hE.2 i E[i] hgi
    obtain ⟨o1, ⟨o2, o3, o4, o5⟩, o6⟩ := ho.1 E[i] (List.getElem_mem hlt)
    have hrk := rv_lt E[i].1.1
    have hbj : ∀ j, b = some j → j < i := by
      intro j e
      subst e
      exact hb.1
    have hnext : ∀ (b' : Option Nat) (x : Int32), nxI E ekP (sinP s) v (i + 1) b' → WP (d + 3) mMd_nextEntry 104 [some (.ref m), some (.int (oI p)), some (.int s), some (.int (oI b)), some (.int (nI i)), some (.int x)] [.int (oI b')] (MM (AR M m A L) m g) z w Q := by
      intro b' x hb'
      simp only [sMd_nextEntry_104, sMd_nextEntry_105, sMd_nextEntry_108, xk_i, xk_l, xk_a, xk_n, xk_0, Option.toList_some, Option.toList_none, List.cons_append, List.nil_append, nI_add]
      exact ih (i + 1) b' _ (by omega) hb'
    have hno : ¬ (sinP s E[i] = true ∧ v < ekP E[i]) → WP (d + 3) mMd_nextEntry 76 [some (.ref m), some (.int (oI p)), some (.int s), some (.int (oI b)), some (.int (nI i)), x5] [] (MM (AR M m A L) m g) z w Q := by
      intro hn
      simp only [sMd_nextEntry_76, sMd_nextEntry_77, sMd_nextEntry_79, sMd_nextEntry_81, sMd_nextEntry_103, xk_i, xk_l, xk_a, xk_n, xk_0, Option.toList_some, Option.toList_none, List.cons_append, List.nil_append]
      rw [if_pos trivial]
      exact hnext b _ (hb.keep hgi (fun h1 h2 => absurd ⟨h1, h2⟩ hn))
    have hyes : sinP s E[i] = true → v < ekP E[i] → WP (d + 3) mMd_nextEntry 72 [some (.ref m), some (.int (oI p)), some (.int s), some (.int (oI b)), some (.int (nI i)), x5] [] (MM (AR M m A L) m g) z w Q := by
      intro h1 h2
      simp only [sMd_nextEntry_72, sMd_nextEntry_73, sMd_nextEntry_76, sMd_nextEntry_77, sMd_nextEntry_79, sMd_nextEntry_81, sMd_nextEntry_84, sMd_nextEntry_85, xk_i, xk_l, xk_a, xk_n, xk_0, Option.toList_some, Option.toList_none, List.cons_append, List.nil_append, oI_neg (b := b) (fun j hj => by have := hbj j hj; omega)]
      rw [if_neg (by decide)]
      cases b with
      | none =>
        rw [if_pos rfl]
        simp only [sMd_nextEntry_98, sMd_nextEntry_100]
        exact hnext (some i) _ (hb.take hgi h1 h2 (fun j c' e => (by cases e)))
      | some j =>
        rw [if_neg (by simp)]
        have hj := hb.1
        have hgj : E[j]? = some E[j] := List.getElem?_eq_getElem (by omega)
        simp only [sMd_nextEntry_88, sMd_nextEntry_89, sMd_nextEntry_91, rMd_nextEntry_92, oI]
        rw [c_sooner hE hl ho hgi hgj]
        simp only [sMd_nextEntry_95, sMd_nextEntry_98, sMd_nextEntry_100, sMd_nextEntry_103, xk_i, xk_l, xk_a, xk_n, xk_0, Option.toList_some, Option.toList_none, List.cons_append, List.nil_append]
        have htb := ho.2 j i _ _ hj hgj hgi
        have hso : so E[i] E[j] ↔ ekP E[i] < ekP E[j] := by
          unfold so
          constructor
          · rintro (h | ⟨h, h'⟩)
            · exact h
            · omega
          · exact Or.inl
        by_cases hc : so E[i] E[j]
        · rw [if_neg (by rw [if_pos hc]; decide)]
          refine hnext (some i) _ (hb.take hgi h1 h2 (fun j' c' e e2 => ?_))
          cases e
          rw [hgj] at e2; cases e2
          exact hso.mp hc
        · rw [if_pos (by rw [if_neg hc])]
          exact hnext (some j) _ (hb.keep hgi (fun _ _ => ⟨j, E[j], rfl, hgj, Nat.le_of_not_lt (fun h => hc (hso.mpr h))⟩))
    rw [sMd_nextEntry_5]
    simp only [sMd_nextEntry_7, rMd_nextEntry_8, sMd_nextEntry_11, sMd_nextEntry_14, rMd_nextEntry_15, sMd_nextEntry_18, qMd_nextEntry_20 (k := i) (by omega), sMd_nextEntry_21, sMd_nextEntry_22, sMd_nextEntry_25, sMd_nextEntry_26, hE.1, q2, oI_neg (b := p) (fun j hj => by subst hj; obtain ⟨e, he, -⟩ := hp; have := (List.getElem?_eq_some_iff.mp he).1; omega)]
    rw [if_neg (nI_ge (by omega) (by omega))]
    by_cases hf : nI E[i].1.2.1 < s
    · rw [if_pos hf]
      refine hno (fun q => ?_)
      have := q.1
      simp [sinP, sin, hf] at this
    · rw [if_neg hf]
      have hfk : sinP s E[i] = true := by simp [sinP, sin, hf]
      cases p with
      | none =>
        rw [if_pos rfl]
        have hv : v = 0 := hp
        subst hv
        exact hyes hfk (ek_pos o1)
      | some j =>
        obtain ⟨e, he, hve⟩ := hp
        have hj := (List.getElem?_eq_some_iff.mp he).1
        obtain ⟨s1, s2, s3, s4, s5⟩ := hE.2 j e he
        obtain ⟨t1, ⟨t2, t3, t4, t5⟩, t6⟩ := ho.1 e (List.mem_of_getElem? he)
        have hre := rv_lt e.1.1
        rw [if_neg (by simp)]
        simp only [sMd_nextEntry_29, sMd_nextEntry_30, sMd_nextEntry_31, rMd_nextEntry_33, oI]
        rw [c_sooner hE hl ho he hgi]
        have heq := ek_eq (a := e.1) (b := E[i].1) (by omega) (by omega)
        simp only [sMd_nextEntry_36, sMd_nextEntry_39, rMd_nextEntry_40, sMd_nextEntry_43, qMd_nextEntry_45 (k := i) (by omega), sMd_nextEntry_46, rMd_nextEntry_47, sMd_nextEntry_50, qMd_nextEntry_51 (k := j) (by omega), sMd_nextEntry_52, sMd_nextEntry_53, sMd_nextEntry_56, rMd_nextEntry_57, sMd_nextEntry_60, qMd_nextEntry_62 (k := i) (by omega), sMd_nextEntry_63, rMd_nextEntry_64, sMd_nextEntry_67, qMd_nextEntry_68 (k := j) (by omega), sMd_nextEntry_69, xk_i, xk_l, xk_a, xk_n, xk_0, Option.toList_some, Option.toList_none, List.cons_append, List.nil_append, lcmp_eq, lcmp_lt, lcmp_ge, lcmp_gt, lcmp_le, q1, s1, q2, s2, lN_inj (a := rv E[i].1.1) (b := rv e.1.1) (by omega) (by omega), nI_eq (a := E[i].1.2.1) (b := e.1.2.1) (by omega) (by omega)]
        have hrr : rv E[i].1.1 = rv e.1.1 ↔ E[i].1.1 = e.1.1 := ⟨rv_inj o2 t2, fun h => by rw [h]⟩
        simp only [hrr]
        by_cases hc : so e E[i]
        · rw [if_neg (by rw [if_pos hc]; decide)]
          by_cases h1 : E[i].1.1 = e.1.1
          · rw [if_pos h1]
            by_cases h2 : E[i].1.2.1 = e.1.2.1
            · rw [if_pos h2]
              refine hno (fun q => ?_)
              have := q.2
              have : ek e.1 = ek E[i].1 := heq.mpr ⟨h1.symm, h2.symm⟩
              simp only [ekP] at *
              omega
            · rw [if_neg h2]
              refine hyes hfk ?_
              rw [hve]
              rcases hc with h | ⟨h, -⟩
              · exact h
              · exact absurd (heq.mp h).2.symm h2
          · rw [if_neg h1]
            refine hyes hfk ?_
            rw [hve]
            rcases hc with h | ⟨h, -⟩
            · exact h
            · exact absurd (heq.mp h).1.symm h1
        · rw [if_pos (by rw [if_neg hc])]
          refine hno (fun q => hc (Or.inl ?_))
          rw [hve] at q
          exact q.2
theorem c_nextEntry {v : Nat} {s : Int32} {p : Option Nat} (hp : bfr E v p) (hE : EnA g A L E) (hl : E.length ≤ 340) (ho : okEn E) (K : ∀ b, nxI E ekP (sinP s) v E.length b → Q (some (.int (oI b))) (MM (AR M m A L) m g) z w) :
    WP (d + 3) mMd_nextEntry 0 [some (.ref m), some (.int (oI p)), some (.int s), none, none, none] [] (MM (AR M m A L) m g) z w Q := by
  simp only [sMd_nextEntry_0, sMd_nextEntry_1, sMd_nextEntry_2, sMd_nextEntry_3, xk_i, xk_l, xk_a, xk_n, xk_0, Option.toList_some, Option.toList_none, List.cons_append, List.nil_append]
  exact nextEntry_loop hp hE hl ho K E.length 0 none none (by omega) nxI_0
theorem recordsFrom_loop {fr : Nat} (hfr : fr ≤ 2) (hN : NmA g A L N) (hl : N.length ≤ 260) : ∀ (r i c : Nat), i + r = N.length → c + r ≤ 260 →
    (WP d mMd_recordsFrom 4 [some (.ref m), some (.int (nI fr)), some (.int (nI c)), some (.int (nI i))] [] (MM (AR M m A L) m g) z w Q ↔ Q (some (.int (nI (c + ((N.drop i).filter (frK fr)).length)))) (MM (AR M m A L) m g) z w) := by
  intro r
  induction r with
  | zero =>
    intro i c hi hc
    rw [sMd_recordsFrom_4]
    simp only [sMd_recordsFrom_5, rMd_recordsFrom_6, sMd_recordsFrom_9, sMd_recordsFrom_36, sMd_recordsFrom_37, hN.1]
    rw [if_pos (nI_le (by omega) (by omega)), List.drop_eq_nil_of_le (by omega)]
    rfl
  | succ r ih =>
    intro i c hi hc
    have hlt : i < N.length := by omega
    obtain ⟨q1, q2, q3, q4⟩ := hN.2 i N[i] (List.getElem?_eq_getElem hlt)
    have hk2 := knd_2 N[i].2.2
    rw [sMd_recordsFrom_4]
    simp only [sMd_recordsFrom_5, rMd_recordsFrom_6, sMd_recordsFrom_9, sMd_recordsFrom_12, rMd_recordsFrom_13, sMd_recordsFrom_16, qMd_recordsFrom_17 (k := i) (by omega), sMd_recordsFrom_18, sMd_recordsFrom_19, sMd_recordsFrom_22, sMd_recordsFrom_23, sMd_recordsFrom_24, sMd_recordsFrom_25, sMd_recordsFrom_28, sMd_recordsFrom_29, sMd_recordsFrom_30, sMd_recordsFrom_33, xk_i, xk_l, xk_a, xk_n, xk_0, Option.toList_some, Option.toList_none, List.cons_append, List.nil_append, hN.1, q2, nI_add, nI_ltI (a := knd N[i].2.2) (b := fr) (by omega) (by omega)]
    rw [if_neg (nI_ge (by omega) (by omega)), List.drop_eq_getElem_cons hlt, List.filter_cons]
    unfold frK
    by_cases hf : knd N[i].2.2 < fr
    · rw [if_pos hf, if_neg (by rw [decide_eq_true_eq]; omega), ih (i + 1) c (by omega) (by omega)]
      rfl
    · rw [if_neg hf, if_pos (by rw [decide_eq_true_eq]; omega), ih (i + 1) (c + 1) (by omega) (by omega)]
      unfold frK
      rw [List.length_cons, Nat.add_assoc, Nat.add_comm 1]
theorem c_recordsFrom {fr : Nat} (hfr : fr ≤ 2) (hN : NmA g A L N) (hl : N.length ≤ 260) : WP d mMd_recordsFrom 0 [some (.ref m), some (.int (nI fr)), none, none] [] (MM (AR M m A L) m g) z w Q ↔ Q (some (.int (nI (N.filter (frK fr)).length))) (MM (AR M m A L) m g) z w := by
  simp only [sMd_recordsFrom_0, sMd_recordsFrom_1, sMd_recordsFrom_2, sMd_recordsFrom_3, xk_i, xk_l, xk_a, xk_n, xk_0, Option.toList_some, Option.toList_none, List.cons_append, List.nil_append]
  rw [recordsFrom_loop hfr hN hl N.length 0 0 (by omega) (by omega), List.drop_zero, Nat.zero_add]
theorem entriesSince_loop {s : Int32} (hE : EnA g A L E) (hl : E.length ≤ 340) (ho : okEn E) : ∀ (r c v : Nat) (b : Option Nat), (abv ekP (E.filter (sinP s)) v).length = r → c + r < 2 ^ 30 → nxI E ekP (sinP s) v E.length b →
    (Q (some (.int (nI (c + r)))) (MM (AR M m A L) m g) z w) → WP (d + 4) mMd_entriesSince 9 [some (.ref m), some (.int s), some (.int (nI c)), some (.int (oI b))] [] (MM (AR M m A L) m g) z w Q := by
  intro r
  induction r with
  | zero =>
    intro c v b hr hc hb K
    cases b with
    | some j =>
      obtain ⟨e, -, -, -, -, h⟩ := nxI_some hb
      rw [h] at hr
      cases hr
    | none =>
      rw [sMd_entriesSince_9]
      simp only [sMd_entriesSince_10, sMd_entriesSince_26, sMd_entriesSince_27]
      rw [if_pos (by decide)]
      exact K
  | succ r ih =>
    intro c v b hr hc hb K
    cases b with
    | none =>
      rw [nxI_none hb] at hr
      cases hr
    | some j =>
      obtain ⟨e, h1, h2, h3, h4, h5⟩ := nxI_some hb
      rw [h5, List.length_cons] at hr
      rw [sMd_entriesSince_9]
      simp only [sMd_entriesSince_10, sMd_entriesSince_13, sMd_entriesSince_16, sMd_entriesSince_17, sMd_entriesSince_18, rMd_entriesSince_19, xk_i, xk_l, xk_a, xk_n, xk_0, Option.toList_some, Option.toList_none, List.cons_append, List.nil_append, nI_add]
      rw [if_neg (show ¬ oI (some j) < nI 0 from nI_nlt (a := j) (b := 0) (by omega) (by omega))]
      refine c_nextEntry (p := some j) (v := ekP e) ⟨e, h1, rfl⟩ hE hl ho (fun b' hb' => ?_)
      simp only [sMd_entriesSince_22, sMd_entriesSince_23, xk_i, xk_l, xk_a, xk_n, xk_0, Option.toList_some, Option.toList_none, List.cons_append, List.nil_append]
      refine ih (c + 1) (ekP e) b' (by omega) (by omega) hb' ?_
      rw [show c + 1 + r = c + (r + 1) by omega]; exact K
theorem c_entriesSince {s : Int32} (hE : EnA g A L E) (hl : E.length ≤ 340) (ho : okEn E) (K : Q (some (.int (nI (mG ekP (E.filter (sinP s))).length))) (MM (AR M m A L) m g) z w) : WP (d + 4) mMd_entriesSince 0 [some (.ref m), some (.int s), none, none] [] (MM (AR M m A L) m g) z w Q := by
  have h0 : abv ekP (E.filter (sinP s)) 0 = mG ekP (E.filter (sinP s)) := abv_0 (fun e he => ek_pos (ho.1 e ((List.mem_filter.mp he).1)).1)
  have hlen : (mG ekP (E.filter (sinP s))).length ≤ 340 := by
    have h1 := mG_len (f := ekP) (l := E.filter (sinP s))
    have h2 := List.length_filter_le (sinP s) E
    omega
  simp only [sMd_entriesSince_0, sMd_entriesSince_1, sMd_entriesSince_2, sMd_entriesSince_3, sMd_entriesSince_4, rMd_entriesSince_5, xk_i, xk_l, xk_a, xk_n, xk_0, Option.toList_some, Option.toList_none, List.cons_append, List.nil_append]
  refine c_nextEntry (p := none) (v := 0) rfl hE hl ho (fun b hb => ?_)
  simp only [sMd_entriesSince_8, xk_i, xk_l, xk_a, xk_n, xk_0, Option.toList_some, Option.toList_none, List.cons_append, List.nil_append]
  refine entriesSince_loop hE hl ho _ 0 0 b rfl (by rw [h0]; omega) hb ?_
  rw [h0, Nat.zero_add]; exact K
end MX
