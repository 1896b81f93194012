/-! the reference: the transaction -/
def ChA (g : Nat → Int32) (A : Nat → Nat → Int32) (L : Nat → Nat → Int64) (cs : List achg) : Prop := g 4 = nI cs.length ∧ ∀ i c, cs[i]? = some c → L 3 i = lN (rv c.1) ∧ A 4 i = nI (if c.2.2 < 0 then 1 else 0) ∧ A 5 i = c.2.1 ∧ L 6 i = lN (vN c.2.2)
def okX (cs : List achg) : Prop := cs.length ≤ 6 ∧ (∀ c ∈ cs, okc c ∧ -1 ≤ c.2.1.toInt) ∧ cs.Pairwise (fun a b => a.1 ≠ b.1)
def TxR (g : Nat → Int32) (A : Nat → Nat → Int32) (L : Nat → Nat → Int64) (tx : Option (List achg)) : Prop := (tx = none → g 3 = nI 0) ∧ ∀ cs, tx = some cs → g 3 = nI 1 ∧ ChA g A L cs
theorem ChA.kept {g g' : Nat → Int32} {A A' : Nat → Nat → Int32} {L L' : Nat → Nat → Int64} {cs : List achg} (h : ChA g A L cs) (e1 : g' 4 = g 4) (e2 : L' 3 = L 3) (e3 : A' 4 = A 4) (e4 : A' 5 = A 5) (e5 : L' 6 = L 6) : ChA g' A' L' cs := ⟨e1.trans h.1, fun i c q => by rw [e2, e3, e4, e5]; exact h.2 i c q⟩
theorem ChA.fr {gs as ls : List Nat} {g g' : Nat → Int32} {A A' : Nat → Nat → Int32} {L L' : Nat → Nat → Int64} {cs : List achg} (h : ChA g A L cs) (f : Fr gs as ls g g' A A' L L') (e1 : 4 ∉ gs) (e2 : 3 ∉ ls) (e3 : 4 ∉ as) (e4 : 5 ∉ as) (e5 : 6 ∉ ls) : ChA g' A' L' cs := h.kept (f.1 4 e1) (f.2.2 3 e2) (f.2.1 4 e3) (f.2.1 5 e4) (f.2.2 6 e5)
theorem TxR.fr {gs as ls : List Nat} {g g' : Nat → Int32} {A A' : Nat → Nat → Int32} {L L' : Nat → Nat → Int64} {tx : Option (List achg)} (h : TxR g A L tx) (f : Fr gs as ls g g' A A' L L') (e0 : 3 ∉ gs) (e1 : 4 ∉ gs) (e2 : 3 ∉ ls) (e3 : 4 ∉ as) (e4 : 5 ∉ as) (e5 : 6 ∉ ls) : TxR g' A' L' tx := ⟨fun q => (f.1 3 e0).trans (h.1 q), fun cs q => ⟨(f.1 3 e0).trans (h.2 cs q).1, (h.2 cs q).2.fr f e1 e2 e3 e4 e5⟩⟩
theorem gkey_GN {n : Nat} : gkey n ≠ 0 ↔ GN n := by
  unfold gkey
  by_cases h : GN n
  · rw [if_pos h]
    refine ⟨fun _ => h, fun _ => ?_⟩
    have hk : GK (rv n) := (GN_GK (rv_lt n)).mp (by rw [rv_rv' h.lt]; exact h)
    have := hk.pos
    omega
  · rw [if_neg h]
    exact ⟨fun q => absurd rfl q, fun q => absurd q h⟩
theorem gkey_GK {n : Nat} (h : GN n) : GK (gkey n) ∧ rv (gkey n) = n := by
  have e : gkey n = rv n := by unfold gkey; rw [if_pos h]
  rw [e]
  refine ⟨(GN_GK (rv_lt n)).mp (by rw [rv_rv' h.lt]; exact h), rv_rv' h.lt⟩
def chX (cs : List achg) (n : Nat) : Option Nat := cs.findIdx? (fun c => rv c.1 == n)
section MT2
variable {d m : Nat} {B : List (List Nat)} {M : xM} {g : Nat → Int32} {A : Nat → Nat → Int32} {L : Nat → Nat → Int64} {N : List arec} {E : List (aent × Nat)} {cs : List achg} {tx : Option (List achg)} {z w : Nat} {Q : Option Value → xM → Nat → Nat → Prop}
theorem changeOf_loop {n : Nat} (hn : n < 2 ^ 64) (hC : ChA g A L cs) (hl : cs.length ≤ 6) : ∀ (k i : Nat), i + k = cs.length →
    (WP d mMd_changeOf 2 [some (.ref m), some (.long (lN n)), none, some (.int (nI i))] [] (MM (AR M m A L) m g) z w Q ↔ Q (some (.int (oI ((chX (cs.drop i) n).map (fun q => q + i))))) (MM (AR M m A L) m g) z w) := by
  intro k
  induction k with
  | zero =>
    intro i hi
    simp only [sMd_changeOf_2, sMd_changeOf_3, rMd_changeOf_4, sMd_changeOf_7, sMd_changeOf_29, sMd_changeOf_30, hC.1]
    rw [if_pos (nI_le (by omega) (by omega)), List.drop_eq_nil_of_le (by omega)]
    rfl
  | succ k ih =>
    intro i hi
    have hlt : i < cs.length := by omega
    obtain ⟨q1, q2, q3, q4⟩ := hC.2 i cs[i] (List.getElem?_eq_getElem hlt)
    have e := lN_inj (a := rv cs[i].1) (b := n) (by have := rv_lt cs[i].1; omega) hn
    rw [sMd_changeOf_2]
    simp only [sMd_changeOf_3, rMd_changeOf_4, sMd_changeOf_7, sMd_changeOf_10, rMd_changeOf_11, sMd_changeOf_14, qMd_changeOf_15 (k := i) (by omega), sMd_changeOf_16, sMd_changeOf_17, sMd_changeOf_18, sMd_changeOf_21, sMd_changeOf_22, sMd_changeOf_23, sMd_changeOf_26, lcmp_eq, lcmp_lt, lcmp_ge, lcmp_gt, lcmp_le, xk_i, xk_l, xk_a, xk_n, xk_0, Option.toList_some, Option.toList_none, List.cons_append, List.nil_append, hC.1, q1, e, nI_add]
    rw [if_neg (nI_ge (by omega) (by omega)), ih (i + 1) (by omega), List.drop_eq_getElem_cons hlt]
    unfold chX
    rw [List.findIdx?_cons]
    by_cases hq : rv cs[i].1 = n
    · rw [if_pos hq, if_pos (by rw [hq, beq_self_eq_true])]
      show _ ↔ Q (some (.int (nI (0 + i)))) _ _ _
      rw [Nat.zero_add]
    · rw [if_neg hq, if_neg (by simp [hq]), Option.map_map]
      have e2 : ((fun q => q + i) ∘ fun q => q + 1) = fun q => q + (i + 1) := by funext q; simp only [Function.comp]; omega
      rw [e2]
theorem c_changeOf {n : Nat} (hn : n < 2 ^ 64) (hC : ChA g A L cs) (hl : cs.length ≤ 6) : WP d mMd_changeOf 0 [some (.ref m), some (.long (lN n)), none, none] [] (MM (AR M m A L) m g) z w Q ↔ Q (some (.int (oI (chX cs n)))) (MM (AR M m A L) m g) z w := by
  simp only [sMd_changeOf_0, sMd_changeOf_1, xk_i, xk_l, xk_a, xk_n, xk_0, Option.toList_some, Option.toList_none, List.cons_append, List.nil_append]
  rw [changeOf_loop hn hC hl cs.length 0 (by omega), List.drop_zero]
  have e : ((chX cs n).map (fun q => q + 0)) = chX cs n := by cases chX cs n <;> rfl
  rw [e]
theorem chX_ge {n : Nat} (hG : ∀ c ∈ cs, GK c.1) (hl : cs.length ≤ 6) : nI 0 ≤ oI (chX cs n) ↔ ckeys cs (gkey n) = true := by
  rw [oI_ge]
  · unfold chX ckeys
    rw [Ne, List.findIdx?_eq_none_iff, List.any_eq_true]
    constructor
    · intro q
      apply Classical.byContradiction
      intro q2
      refine q (fun c hc => ?_)
      have : ¬ rv c.1 = n := fun e => q2 ⟨c, hc, by rw [beq_iff_eq]; exact (rv_gkey (hG c hc)).mp e⟩
      simp [this]
    · rintro ⟨c, hc, e⟩ q
      have h1 := q c hc
      rw [beq_iff_eq] at e
      have h2 := (rv_gkey (n := n) (hG c hc)).mpr e
      rw [h2, beq_self_eq_true] at h1
      cases h1
  · intro j hj
    unfold chX at hj
    rw [List.findIdx?_eq_some_iff_getElem] at hj
    obtain ⟨h1, -⟩ := hj
    omega
set_option maxHeartbeats 1000000 in
theorem c_change {n : Nat} {e : Int32} {c : Int} (hn : n < 2 ^ 64) (hT : TxR g A L tx) (hok : ∀ cs, tx = some cs → okX cs) (hc : c < 0 ∨ 0 ≤ c)
    (K0 : ¬ canA tx (gkey n) → Q (some (.int (nI 0))) (MM (AR M m A L) m g) z w)
    (K1 : canA tx (gkey n) → ∀ g' A' L', TxR g' A' L' (putA tx (gkey n) e c) → Fr [4] [4, 5] [3, 6] g g' A A' L L' → Q (some (.int (nI 1))) (MM (AR M m A' L') m g') z w) :
    WP (d + 3) mMd_change 0 [some (.ref m), some (.long (lN n)), none, some (.int (nI (if c < 0 then 1 else 0))), some (.int e), some (.long (lN (vN c))), none] [] (MM (AR M m A L) m g) z w Q := by
  classical
  simp only [sMd_change_0, rMd_change_1, sMd_change_4, sMd_change_31, sMd_change_32 xb0, sMd_change_32 xb1]
  cases tx with
  | none =>
    rw [hT.1 rfl, if_pos rfl]
    exact K0 (by rintro ⟨cs, q, -⟩; cases q)
  | some cs =>
    obtain ⟨h3, hC⟩ := hT.2 cs rfl
    obtain ⟨o1, o2, o3⟩ := hok cs rfl
    rw [h3, if_neg (by decide)]
    simp only [sMd_change_7, rMd_change_8, sMd_change_11, sMd_change_13, sMd_change_31, sMd_change_32 xb0, sMd_change_32 xb1, hC.1, nI_eq (a := cs.length) (b := 6) (by omega) (by omega)]
    by_cases h6 : cs.length = 6
    · rw [if_pos h6]
      refine K0 ?_
      rintro ⟨cs', q, q1, q2, q3⟩
      cases q
      omega
    · rw [if_neg h6]
      simp only [sMd_change_16, sMd_change_17, rMd_change_18]
      rw [c_changeOf hn hC o1]
      simp only [sMd_change_21, sMd_change_24, sMd_change_31, sMd_change_32 xb0, sMd_change_32 xb1, xk_i, xk_l, xk_a, xk_n, xk_0, Option.toList_some, Option.toList_none, List.cons_append, List.nil_append, chX_ge (n := n) (fun c hc => (o2 c hc).1.1) o1]
      by_cases hk : ckeys cs (gkey n) = true
      · rw [if_pos hk]
        refine K0 ?_
        rintro ⟨cs', q, q1, q2, q3⟩
        cases q
        rw [hk] at q3; cases q3
      · rw [if_neg hk, sMd_change_25, c_isGood2 hn]
        simp only [sMd_change_28, sMd_change_31, sMd_change_32 xb0, sMd_change_32 xb1, xk_i, xk_l, xk_a, xk_n, xk_0, Option.toList_some, Option.toList_none, List.cons_append, List.nil_append]
        by_cases hg : GN n
        · rw [if_neg (by rw [if_pos hg]; decide)]
          have hlt : cs.length < 6 := by omega
          simp only [sMd_change_33, rMd_change_34, sMd_change_37, rMd_change_38, sMd_change_41, qMd_change_42 (k := cs.length) hlt, sMd_change_43, rMd_change_44, sMd_change_47, rMd_change_48, sMd_change_51, qMd_change_52 (k := cs.length) hlt, sMd_change_53, rMd_change_54, sMd_change_57, rMd_change_58, sMd_change_61, qMd_change_63 (k := cs.length) hlt, sMd_change_64, rMd_change_65, sMd_change_68, rMd_change_69, sMd_change_72, qMd_change_74 (k := cs.length) hlt, sMd_change_75, sMd_change_76, rMd_change_77, sMd_change_80, sMd_change_81, rMd_change_82, sMd_change_85, sMd_change_86 xb0, sMd_change_86 xb1, hC.1, nI_add]
          have e3 : (u2 (u2 L 3 cs.length (lN n)) 6 cs.length (lN (vN c))) 3 = fun q => if q = cs.length then lN n else L 3 q := by rw [u2_ne (by decide), u2_fn]
          have e4 : (u2 (u2 A 4 cs.length (nI (if c < 0 then 1 else 0))) 5 cs.length e) 4 = fun q => if q = cs.length then nI (if c < 0 then 1 else 0) else A 4 q := by rw [u2_ne (by decide), u2_fn]
          have e5 : (u2 (u2 A 4 cs.length (nI (if c < 0 then 1 else 0))) 5 cs.length e) 5 = fun q => if q = cs.length then e else A 5 q := by rw [u2_fn, u2_ne (by decide)]
          have e6 : (u2 (u2 L 3 cs.length (lN n)) 6 cs.length (lN (vN c))) 6 = fun q => if q = cs.length then lN (vN c) else L 6 q := by rw [u2_fn, u2_ne (by decide)]
          refine K1 ⟨cs, rfl, gkey_GN.mpr hg, hlt, by simpa using hk⟩ _ _ _ ⟨fun q => (by cases q), fun cs' q => ?_⟩ ⟨?_, ?_, ?_⟩
          · unfold putA at q
            rw [Option.map_some] at q
            cases q
            refine ⟨by rw [ug_e (by decide)]; exact h3, by rw [ug_s, List.length_append]; rfl, fun i c' hi => ?_⟩
            by_cases hil : i < cs.length
            · rw [List.getElem?_append_left hil] at hi
              have := hC.2 i c' hi
              rw [e3, e4, e5, e6]
              simp only [if_neg (show ¬ i = cs.length by omega)]
              exact this
            · have hi3 := (List.getElem?_eq_some_iff.mp hi).1
              simp only [List.length_append, List.length_singleton] at hi3
              have : i = cs.length := by omega
              subst this
              rw [List.getElem?_append_right (Nat.le_refl _), Nat.sub_self] at hi
              cases hi
              rw [e3, e4, e5, e6]
              refine ⟨?_, ?_, ?_, ?_⟩
              · dsimp only; rw [if_pos rfl, (gkey_GK hg).2]
              · dsimp only; rw [if_pos rfl]
              · dsimp only; rw [if_pos rfl]
              · dsimp only; rw [if_pos rfl]
          · intro j hj; exact ug_e (fun q => hj (by rw [q]; decide))
          · intro j hj
            rw [u2_ne (fun q => hj (by rw [q]; decide)), u2_ne (fun q => hj (by rw [q]; decide))]
          · intro j hj
            rw [u2_ne (fun q => hj (by rw [q]; decide)), u2_ne (fun q => hj (by rw [q]; decide))]
        · rw [if_pos (by rw [if_neg hg])]
          refine K0 ?_
          rintro ⟨cs', q, q1, q2, q3⟩
          exact hg (gkey_GN.mp q1)
theorem c_Md_update {n : Nat} {e v : Int32} (hn : n < 2 ^ 64) (hT : TxR g A L tx) (hok : ∀ cs, tx = some cs → okX cs) (K0 : ¬ (updR e v ∧ canA tx (gkey n)) → Q (some (.int (nI 0))) (MM (AR M m A L) m g) z w)
    (K1 : updR e v ∧ canA tx (gkey n) → ∀ g' A' L', TxR g' A' L' (putA tx (gkey n) e v.toInt) → Fr [4] [4, 5] [3, 6] g g' A A' L L' → Q (some (.int (nI 1))) (MM (AR M m A' L') m g') z w) :
    WP (d + 4) mMd_update 0 [some (.ref m), some (.long (lN n)), none, some (.int e), some (.int v)] [] (MM (AR M m A L) m g) z w Q := by
  simp only [sMd_update_0, sMd_update_1, sMd_update_2]
  rw [sMd_update_4, c_within]
  simp only [sMd_update_7, sMd_update_10, sMd_update_12, sMd_update_13, sMd_update_38, sMd_update_39 xb0, sMd_update_39 xb1, xk_i, xk_l, xk_a, xk_n, xk_0, Option.toList_some, Option.toList_none, List.cons_append, List.nil_append]
  by_cases h1 : -1 ≤ e ∧ e ≤ nI 65535
  · rw [if_neg (by rw [if_pos h1]; decide), sMd_update_15, c_within]
    simp only [sMd_update_18, sMd_update_21, sMd_update_22, sMd_update_23, sMd_update_24, sMd_update_25, sMd_update_27, sMd_update_38, sMd_update_39 xb0, sMd_update_39 xb1, xk_i, xk_l, xk_a, xk_n, xk_0, Option.toList_some, Option.toList_none, List.cons_append, List.nil_append]
    by_cases h2 : nI 0 ≤ v ∧ v ≤ nI 65535
    · rw [if_neg (by rw [if_pos h2]; decide)]
      have h0 : ¬ v < 0 := by
        have := h2.1
        rw [Int32.lt_iff_toInt_lt]
        rw [Int32.le_iff_toInt_le] at this
        have e : (nI 0).toInt = (0 : Int32).toInt := rfl
        omega
      obtain ⟨j, hj, rfl⟩ := nI_of h0
      have ej : (nI j).toInt = (j : Int) := nI_toInt hj
      rw [nI_l hj, rMd_update_28]
      have hch := c_change (d := d) (m := m) (M := M) (z := z) (w := w) (g := g) (A := A) (L := L) (tx := tx) (Q := fun v M' z' w' => WP (d + 3 + 1) mMd_update 31 [some (.ref m), some (.long (lN n)), none, some (.int e), some (.int (nI j))] (v.toList ++ []) M' z' w' Q) (n := n) (e := e) (c := (j : Int)) hn hT hok (Or.inr (by omega)) (fun h => ?_) (fun h g' A' L' hT' hF' => ?_)
      · rw [if_neg (by omega), vN_nat] at hch
        exact hch
      · simp only [sMd_update_31, sMd_update_34, sMd_update_35, sMd_update_38, sMd_update_39 xb0, sMd_update_39 xb1, xk_i, xk_l, xk_a, xk_n, xk_0, Option.toList_some, Option.toList_none, List.cons_append, List.nil_append]
        rw [if_pos trivial]
        exact K0 (fun q => h q.2)
      · simp only [sMd_update_31, sMd_update_34, sMd_update_35, sMd_update_38, sMd_update_39 xb0, sMd_update_39 xb1, xk_i, xk_l, xk_a, xk_n, xk_0, Option.toList_some, Option.toList_none, List.cons_append, List.nil_append]
        rw [if_neg (by decide)]
        rw [← ej] at hT'
        exact K1 ⟨⟨h1, h2⟩, h⟩ g' A' L' hT' hF'
    · rw [if_pos (by rw [if_neg h2])]
      exact K0 (fun q => h2 q.1.2)
  · rw [if_pos (by rw [if_neg h1])]
    exact K0 (fun q => h1 q.1.1)
theorem c_Md_link {n t : Nat} (hn : n < 2 ^ 64) (ht : t < 2 ^ 64) (hT : TxR g A L tx) (hok : ∀ cs, tx = some cs → okX cs) (K0 : ¬ (gkey t ≠ 0 ∧ gkey t ≠ gkey n ∧ canA tx (gkey n)) → Q (some (.int (nI 0))) (MM (AR M m A L) m g) z w)
    (K1 : gkey t ≠ 0 ∧ gkey t ≠ gkey n ∧ canA tx (gkey n) → ∀ g' A' L', TxR g' A' L' (putA tx (gkey n) (-1) (-(gkey t : Int))) → Fr [4] [4, 5] [3, 6] g g' A A' L L' → Q (some (.int (nI 1))) (MM (AR M m A' L') m g') z w) :
    WP (d + 4) mMd_link 0 [some (.ref m), some (.long (lN n)), none, some (.long (lN t)), none] [] (MM (AR M m A L) m g) z w Q := by
  classical
  simp only [sMd_link_0]
  rw [sMd_link_1, c_isGood2 ht]
  simp only [sMd_link_4, sMd_link_7, sMd_link_8, sMd_link_9, sMd_link_10, sMd_link_28, sMd_link_29 xb0, sMd_link_29 xb1, xk_i, xk_l, xk_a, xk_n, xk_0, Option.toList_some, Option.toList_none, List.cons_append, List.nil_append, lcmp_eq, lcmp_lt, lcmp_ge, lcmp_gt, lcmp_le, lN_inj (a := n) (b := t) hn ht]
  by_cases hg : GN t
  · obtain ⟨g1, g2⟩ := gkey_GK hg
    rw [if_neg (by rw [if_pos hg]; decide)]
    by_cases hnt : n = t
    · rw [if_pos hnt]
      exact K0 (fun q => q.2.1 (by rw [hnt]))
    · rw [if_neg hnt]
      simp only [sMd_link_13, sMd_link_14, sMd_link_15, sMd_link_16, sMd_link_17, rMd_link_18]
      have hpos := g1.pos
      have hch := c_change (d := d) (m := m) (M := M) (z := z) (w := w) (g := g) (A := A) (L := L) (tx := tx) (Q := fun v M' z' w' => WP (d + 3 + 1) mMd_link 21 [some (.ref m), some (.long (lN n)), none, some (.long (lN t)), none] (v.toList ++ []) M' z' w' Q) (n := n) (e := -1) (c := -(gkey t : Int)) hn hT hok (Or.inl (by omega)) (fun h => ?_) (fun h g' A' L' hT' hF' => ?_)
      · rw [if_pos (by omega), vN_neg, g2] at hch
        exact hch
      · simp only [sMd_link_21, sMd_link_24, sMd_link_25, sMd_link_28, sMd_link_29 xb0, sMd_link_29 xb1, xk_i, xk_l, xk_a, xk_n, xk_0, Option.toList_some, Option.toList_none, List.cons_append, List.nil_append]
        rw [if_pos trivial]
        exact K0 (fun q => h q.2.2)
      · simp only [sMd_link_21, sMd_link_24, sMd_link_25, sMd_link_28, sMd_link_29 xb0, sMd_link_29 xb1, xk_i, xk_l, xk_a, xk_n, xk_0, Option.toList_some, Option.toList_none, List.cons_append, List.nil_append]
        rw [if_neg (by decide)]
        refine K1 ⟨gkey_GN.mpr hg, fun q => hnt ?_, h⟩ g' A' L' hT' hF'
        obtain ⟨cs', -, h1, -⟩ := h
        have h2 := (gkey_GK (gkey_GN.mp h1)).2
        rw [← h2, ← q, g2]
  · rw [if_pos (by rw [if_neg hg])]
    exact K0 (fun q => hg (gkey_GN.mp q.1))
theorem c_Md_begin (hT : TxR g A L tx) (K0 : tx.isSome = true → Q (some (.int (nI 0))) (MM (AR M m A L) m g) z w) (K1 : tx = none → ∀ g', TxR g' A L (some []) → Fr [3, 4] [] [] g g' A A L L → Q (some (.int (nI 1))) (MM (AR M m A L) m g') z w) : WP d mMd_begin 0 [some (.ref m)] [] (MM (AR M m A L) m g) z w Q := by
  simp only [sMd_begin_0, rMd_begin_1, sMd_begin_4, sMd_begin_7, sMd_begin_8 xb0, sMd_begin_8 xb1, sMd_begin_9, sMd_begin_10, rMd_begin_11 xb0, rMd_begin_11 xb1, sMd_begin_14, sMd_begin_15, rMd_begin_16, sMd_begin_19, sMd_begin_20 xb0, sMd_begin_20 xb1]
  cases tx with
  | none =>
    rw [hT.1 rfl, if_pos rfl]
    refine K1 rfl _ ⟨fun q => (by cases q), fun cs q => ?_⟩ ((Fr.ug (by decide)).trans (Fr.ug (by decide)))
    cases q
    exact ⟨by rw [ug_e (by decide), ug_s], ug_s, fun i c h => (by simp at h)⟩
  | some cs =>
    rw [(hT.2 cs rfl).1, if_neg (by decide)]
    exact K0 rfl
theorem c_Md_abort (hT : TxR g A L tx) (K0 : tx = none → Q (some (.int (-1))) (MM (AR M m A L) m g) z w) (K1 : ∀ cs, tx = some cs → ∀ g', TxR g' A L none → Fr [3] [] [] g g' A A L L → Q (some (.int (nI cs.length))) (MM (AR M m A L) m g') z w) : WP d mMd_abort 0 [some (.ref m)] [] (MM (AR M m A L) m g) z w Q := by
  simp only [sMd_abort_0, rMd_abort_1, sMd_abort_4, sMd_abort_7, sMd_abort_8, sMd_abort_9, sMd_abort_10, rMd_abort_11 xb0, rMd_abort_11 xb1, sMd_abort_14, rMd_abort_15, sMd_abort_18, ug_ap, Nat.reduceEqDiff, reduceIte]
  cases tx with
  | none =>
    rw [hT.1 rfl, if_pos rfl]
    exact K0 rfl
  | some cs =>
    obtain ⟨h3, hC⟩ := hT.2 cs rfl
    rw [h3, if_neg (by decide), hC.1]
    exact K1 cs rfl _ ⟨fun _ => ug_s, fun cs q => (by cases q)⟩ (Fr.ug (by decide))
theorem c_madeKind {i : Nat} {c : achg} (hC : ChA g A L cs) (hl : cs.length ≤ 6) (hi : cs[i]? = some c) (hw : wC c.2.2) : WP d mMd_madeKind 0 [some (.ref m), some (.int (nI i))] [] (MM (AR M m A L) m g) z w Q ↔ Q (some (.int (nI (knd c.2.2)))) (MM (AR M m A L) m g) z w := by
  obtain ⟨q1, q2, q3, q4⟩ := hC.2 i c hi
  have hil := (List.getElem?_eq_some_iff.mp hi).1
  simp only [sMd_madeKind_0, rMd_madeKind_1, sMd_madeKind_4, qMd_madeKind_5 (k := i) (by omega), sMd_madeKind_6, sMd_madeKind_7, sMd_madeKind_10, sMd_madeKind_11, sMd_madeKind_14, rMd_madeKind_15, sMd_madeKind_18, qMd_madeKind_19 (k := i) (by omega), sMd_madeKind_20, sMd_madeKind_21, sMd_madeKind_22, sMd_madeKind_25, sMd_madeKind_26, sMd_madeKind_29, sMd_madeKind_30, lcmp_eq, lcmp_lt, lcmp_ge, lcmp_gt, lcmp_le, q2, q4]
  have hok := hw.ok
  by_cases h : c.2.2 < 0
  · rw [if_pos (by rw [if_pos h]), knd2.mpr h]
  · rw [if_neg (by rw [if_neg h]; decide)]
    have hv : vN c.2.2 = c.2.2.toNat := by unfold vN; rw [if_pos (by omega)]
    rw [hv]
    have hlt := hok.1
    by_cases h0 : c.2.2 = 0
    · rw [if_pos (by rw [h0]; rfl), knd0.mpr h0]
    · rw [if_neg (fun q => h0 (by have := (lN_inj (a := c.2.2.toNat) (b := 0) (by omega) (by decide)).mp q; omega)), knd1.mpr (by omega)]
end MT2
