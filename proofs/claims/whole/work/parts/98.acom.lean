/-! the reference: what a commit looks at -/
def clk (a b : Nat) : Bool := decide (und a b ∨ und b a)
def clsR (N : List arec) (cs : List achg) (c : achg) : Bool := !decide (c.2.2 = 0) && (cs.any (fun x => !decide (x.2.2 = 0) && clk x.1 c.1) || N.any (fun r => !decide (r.2.2 = 0) && !ckeys cs r.1 && clk r.1 c.1))
theorem gkey_rv {k : Nat} (h : GK k) : gkey (rv k) = k := ((rv_gkey h).mp rfl).symm
def rfV (N : List arec) (cs : List achg) : Int32 := match fst1 (unx N) cs with
  | some j => (-100) * nI (j + 1) - nI 1
  | none => match fst1 (clsR N cs) cs with
    | some j => (-100) * nI (j + 1) - nI 2
    | none => nI 0
section MF
variable {d m : Nat} {B : List (List Nat)} {M : xM} {g : Nat → Int32} {A : Nat → Nat → Int32} {L : Nat → Nat → Int64} {N : List arec} {E : List (aent × Nat)} {cs : List achg} {z w : Nat} {Q : Option Value → xM → Nat → Nat → Prop}
set_option maxHeartbeats 1000000 in
theorem c_unexpected {i : Nat} {c : achg} (hC : ChA g A L cs) (ho : okX cs) (hi : cs[i]? = some c) (hN : NmA g A L N) (hl : N.length ≤ 260) (hG : ∀ s ∈ N, GK s.1) (hNo : okN N) :
    WP (d + 1) mMd_unexpected 0 [some (.ref m), some (.int (nI i)), none, none, none] [] (MM (AR M m A L) m g) z w Q ↔ Q (some (.int (nI (if unx N c = true then 1 else 0)))) (MM (AR M m A L) m g) z w := by
  obtain ⟨o1, o2, o3⟩ := ho
  obtain ⟨⟨c1, c2⟩, c3⟩ := o2 c (List.mem_of_getElem? hi)
  obtain ⟨q1, q2, q3, q4⟩ := hC.2 i c hi
  have hil := (List.getElem?_eq_some_iff.mp hi).1
  have hrv := rv_lt c.1
  simp only [sMd_unexpected_0, rMd_unexpected_1, sMd_unexpected_4, qMd_unexpected_5 (k := i) (by omega), sMd_unexpected_6, sMd_unexpected_7, sMd_unexpected_8, rMd_unexpected_9, sMd_unexpected_12, qMd_unexpected_13 (k := i) (by omega), rMd_unexpected_14, xk_i, xk_l, xk_a, xk_n, xk_0, Option.toList_some, Option.toList_none, List.cons_append, List.nil_append, q1, q3]
  rw [c_find (by omega) hN hl]
  have hcont := fx_cases (n := rv c.1) hG
  rw [gkey_rv c1] at hcont
  have hx : c.2.1 = -1 ∨ ∃ j, j < 2 ^ 31 ∧ c.2.1 = nI j := by
    by_cases h0 : c.2.1 < 0
    · left
      rw [Int32.lt_iff_toInt_lt] at h0
      apply Int32.toInt_inj.mp
      have e1 : (0 : Int32).toInt = 0 := rfl
      have e2 : (-1 : Int32).toInt = -1 := rfl
      omega
    · right
      obtain ⟨j, hj, e⟩ := nI_of h0
      exact ⟨j, hj, e⟩
  have hu : unx N c = (!decide (c.2.1 = -1) && !decide (c.2.1.toInt = lkA N c.1)) := rfl
  rcases hcont with ⟨f1, f2⟩ | ⟨j, r, f1, f2, f3, f4⟩
  · rw [f1]
    rw [f2] at hu
    simp only [sMd_unexpected_17, sMd_unexpected_18, sMd_unexpected_19, xk_i, xk_l, xk_a, xk_n, xk_0, Option.toList_some, Option.toList_none, List.cons_append, List.nil_append]
    rw [if_neg (by decide)]
    simp only [sMd_unexpected_22, sMd_unexpected_23, sMd_unexpected_32, sMd_unexpected_34, sMd_unexpected_35, sMd_unexpected_38, sMd_unexpected_40, sMd_unexpected_43, sMd_unexpected_44, sMd_unexpected_47, sMd_unexpected_48, sMd_unexpected_51, sMd_unexpected_52, sMd_unexpected_55, sMd_unexpected_57, sMd_unexpected_58, sMd_unexpected_73, sMd_unexpected_74, sMd_unexpected_77, sMd_unexpected_78 xb0, sMd_unexpected_78 xb1, xk_i, xk_l, xk_a, xk_n, xk_0, Option.toList_some, Option.toList_none, List.cons_append, List.nil_append]
    rcases hx with hx | ⟨v, hv, hx⟩
    · rw [hx] at hu ⊢
      rw [if_neg (by decide), if_pos (by decide), if_neg (by rw [hu]; decide)]
    · rw [hx] at hu ⊢
      rw [nI_toInt hv] at hu
      have hne : ¬ nI v = -1 := by
        intro q
        have := congrArg Int32.toInt q
        rw [nI_toInt hv] at this
        have e2 : (-1 : Int32).toInt = -1 := rfl
        omega
      by_cases hv0 : v = 0
      · subst hv0
        rw [if_pos rfl, if_pos trivial, if_neg (by rw [hu]; decide)]
      · rw [if_neg (fun q => hv0 ((nI_eq hv (by decide)).mp q)), if_neg (fun q => hv0 (by have := (nI_leI hv (by decide)).mp q; omega)), if_neg (by decide), if_pos]
        rw [hu, decide_eq_false hne, decide_eq_false (by omega)]; rfl
  · rw [f1]
    rw [f4] at hu
    obtain ⟨p1, p2, p3, p4⟩ := hN.2 j r f2
    obtain ⟨r1, r2, r3, r4⟩ := hNo r (List.mem_of_getElem? f2)
    have hk2 := knd_2 r.2.2
    simp only [sMd_unexpected_17, sMd_unexpected_18, sMd_unexpected_19, xk_i, xk_l, xk_a, xk_n, xk_0, Option.toList_some, Option.toList_none, List.cons_append, List.nil_append, oI]
    rw [if_pos (nI_le (by omega) (by omega))]
    simp only [sMd_unexpected_26, rMd_unexpected_27, sMd_unexpected_30, qMd_unexpected_31 (k := j) (by omega), sMd_unexpected_32, sMd_unexpected_34, sMd_unexpected_35, sMd_unexpected_38, sMd_unexpected_40, sMd_unexpected_43, sMd_unexpected_44, sMd_unexpected_47, sMd_unexpected_48, sMd_unexpected_51, sMd_unexpected_52, sMd_unexpected_55, sMd_unexpected_57, sMd_unexpected_58, sMd_unexpected_61, rMd_unexpected_62, sMd_unexpected_65, qMd_unexpected_66 (k := j) (by omega), sMd_unexpected_67, sMd_unexpected_68, sMd_unexpected_69, sMd_unexpected_70, sMd_unexpected_73, sMd_unexpected_74, sMd_unexpected_77, sMd_unexpected_78 xb0, sMd_unexpected_78 xb1, xk_i, xk_l, xk_a, xk_n, xk_0, Option.toList_some, Option.toList_none, List.cons_append, List.nil_append, lcmp_eq, lcmp_lt, lcmp_ge, lcmp_gt, lcmp_le, p2, p4, nI_eq (a := knd r.2.2) (b := 0) (by omega) (by omega), nI_eq (a := knd r.2.2) (b := 1) (by omega) (by omega), knd0, knd1]
    rcases hx with hx | ⟨v, hv, hx⟩
    · rw [hx] at hu ⊢
      rw [if_neg (by decide), if_pos (by decide), if_neg (by rw [hu]; simp)]
    · rw [hx] at hu ⊢
      rw [nI_toInt hv] at hu
      have hne : ¬ nI v = -1 := by
        intro q
        have := congrArg Int32.toInt q
        rw [nI_toInt hv] at this
        have e2 : (-1 : Int32).toInt = -1 := rfl
        omega
      rw [decide_eq_false hne] at hu
      by_cases hv0 : v = 0
      · subst hv0
        rw [if_pos rfl]
        by_cases h0 : r.2.2 = 0
        · rw [if_pos h0, if_neg]
          rw [hu, h0]; decide
        · rw [if_neg h0, if_pos]
          rw [hu, decide_eq_false (by omega)]; rfl
      · rw [if_neg (fun q => hv0 ((nI_eq hv (by decide)).mp q)), if_neg (fun q => hv0 (by have := (nI_leI hv (by decide)).mp q; omega))]
        by_cases h1 : 0 < r.2.2
        · rw [if_pos h1]
          have hvn : vN r.2.2 = r.2.2.toNat := by unfold vN; rw [if_pos (by omega)]
          have hlt := r4.1
          rw [hvn, nI_l hv]
          simp only [lN_inj (a := r.2.2.toNat) (b := v) (by omega) (by omega)]
          by_cases he : r.2.2.toNat = v
          · rw [if_pos he, if_neg]
            rw [hu, decide_eq_true (by omega)]; decide
          · rw [if_neg he, if_pos]
            rw [hu, decide_eq_false (by omega)]; rfl
        · rw [if_neg h1, if_pos]
          rw [hu, decide_eq_false (by omega)]; rfl
set_option maxHeartbeats 1000000 in
theorem c_clashes {i : Nat} {c : achg} (hC : ChA g A L cs) (ho : okX cs) (hi : cs[i]? = some c) (hN : NmA g A L N) (hl : N.length ≤ 260) (hG : ∀ s ∈ N, GK s.1) (K : Q (some (.int (nI (if clsR N cs c = true then 1 else 0)))) (MM (AR M m A L) m g) z w) :
    WP (d + 5) mMd_clashes 0 [some (.ref m), some (.int (nI i)), none] [] (MM (AR M m A L) m g) z w Q := by
  obtain ⟨o1, o2, o3⟩ := ho
  obtain ⟨⟨c1, c2⟩, c3⟩ := o2 c (List.mem_of_getElem? hi)
  obtain ⟨q1, q2, q3, q4⟩ := hC.2 i c hi
  have hil := (List.getElem?_eq_some_iff.mp hi).1
  have hrv := rv_lt c.1
  have hk2 := knd_2 c.2.2
  have hcG : ∀ x ∈ cs, GK x.1 := fun x hx => (o2 x hx).1.1
  simp only [sMd_clashes_0, sMd_clashes_1, rMd_clashes_2]
  rw [c_madeKind hC o1 hi c2]
  simp only [sMd_clashes_5, sMd_clashes_8, sMd_clashes_9 xb0, sMd_clashes_9 xb1, sMd_clashes_10, sMd_clashes_11, xk_i, xk_l, xk_a, xk_n, xk_0, Option.toList_some, Option.toList_none, List.cons_append, List.nil_append, nI_eq (a := knd c.2.2) (b := 0) (by omega) (by omega), knd0]
  by_cases h0 : c.2.2 = 0
  · rw [if_pos h0]
    have : clsR N cs c = false := by unfold clsR; rw [decide_eq_true h0]; rfl
    rw [this] at K
    exact K
  · rw [if_neg h0]
    have hcl : clsR N cs c = (cs.any (fun x => !decide (x.2.2 = 0) && clk x.1 c.1) || N.any (fun r => !decide (r.2.2 = 0) && !ckeys cs r.1 && clk r.1 c.1)) := by unfold clsR; rw [decide_eq_false h0]; rfl
    rw [hcl] at K
    have hloop2 : cs.any (fun x => !decide (x.2.2 = 0) && clk x.1 c.1) = false → ∀ (r k : Nat), k + r = N.length → N.any (fun r => !decide (r.2.2 = 0) && !ckeys cs r.1 && clk r.1 c.1) = (N.drop k).any (fun r => !decide (r.2.2 = 0) && !ckeys cs r.1 && clk r.1 c.1) → WP (d + 5) mMd_clashes 56 [some (.ref m), some (.int (nI i)), some (.int (nI k))] [] (MM (AR M m A L) m g) z w Q := by
      intro hf r
      rw [hf, Bool.false_or] at K
      induction r with
      | zero =>
        intro k hk he
        rw [sMd_clashes_56]
        simp only [sMd_clashes_57, rMd_clashes_58, sMd_clashes_61, sMd_clashes_112, sMd_clashes_113 xb0, sMd_clashes_113 xb1, hN.1]
        rw [if_pos (nI_le (by omega) (by omega))]
        rw [he, List.drop_eq_nil_of_le (by omega)] at K
        exact K
      | succ r ih =>
        intro k hk he
        have hlt : k < N.length := by omega
        obtain ⟨p1, p2, p3, p4⟩ := hN.2 k N[k] (List.getElem?_eq_getElem hlt)
        have hgk := hG N[k] (List.getElem_mem hlt)
        have hrk := rv_lt N[k].1
        have hkk := knd_2 N[k].2.2
        rw [List.drop_eq_getElem_cons hlt, List.any_cons] at he
        have hnext : (!decide (N[k].2.2 = 0) && !ckeys cs N[k].1 && clk N[k].1 c.1) = false → WP (d + 5) mMd_clashes 106 [some (.ref m), some (.int (nI i)), some (.int (nI k))] [] (MM (AR M m A L) m g) z w Q := by
          intro hf2
          simp only [sMd_clashes_106, sMd_clashes_109, xk_i, xk_l, xk_a, xk_n, xk_0, Option.toList_some, Option.toList_none, List.cons_append, List.nil_append, nI_add]
          refine ih (k + 1) (by omega) ?_
          rw [he, hf2, Bool.false_or]
        rw [sMd_clashes_56]
        simp only [sMd_clashes_57, rMd_clashes_58, sMd_clashes_61, sMd_clashes_64, rMd_clashes_65, sMd_clashes_68, qMd_clashes_69 (k := k) (by omega), sMd_clashes_70, hN.1, p2, nI_eq (a := knd N[k].2.2) (b := 0) (by omega) (by omega), knd0]
        rw [if_neg (nI_ge (by omega) (by omega))]
        by_cases hz : N[k].2.2 = 0
        · rw [if_pos hz]
          exact hnext (by rw [decide_eq_true hz]; rfl)
        · rw [if_neg hz]
          simp only [sMd_clashes_73, sMd_clashes_74, rMd_clashes_75, sMd_clashes_78, qMd_clashes_79 (k := k) (by omega), rMd_clashes_80, p1]
          rw [c_changeOf (by omega) hC o1]
          simp only [sMd_clashes_83, xk_i, xk_l, xk_a, xk_n, xk_0, Option.toList_some, Option.toList_none, List.cons_append, List.nil_append, chX_ge (n := rv N[k].1) hcG o1, gkey_rv hgk]
          by_cases hky : ckeys cs N[k].1 = true
          · rw [if_pos hky]
            exact hnext (by rw [hky, Bool.not_true, Bool.and_false, Bool.false_and])
          · rw [if_neg hky]
            simp only [sMd_clashes_86, rMd_clashes_87, sMd_clashes_90, qMd_clashes_91 (k := k) (by omega), sMd_clashes_92, rMd_clashes_93, sMd_clashes_96, qMd_clashes_97 (k := i) (by omega), p1, q1]
            rw [sMd_clashes_98, c_clash (by omega) (by omega), rv_rv' hgk.1, rv_rv' c1.1]
            simp only [sMd_clashes_101, sMd_clashes_104, sMd_clashes_105 xb0, sMd_clashes_105 xb1, xk_i, xk_l, xk_a, xk_n, xk_0, Option.toList_some, Option.toList_none, List.cons_append, List.nil_append]
            by_cases hcc : und N[k].1 c.1 ∨ und c.1 N[k].1
            · rw [if_neg (by rw [if_pos hcc]; decide)]
              have hck : clk N[k].1 c.1 = true := decide_eq_true hcc
              have hky2 : ckeys cs N[k].1 = false := by simpa using hky
              rw [he, decide_eq_false hz, hky2, hck] at K
              exact K
            · rw [if_pos (by rw [if_neg hcc])]
              have hck : clk N[k].1 c.1 = false := decide_eq_false hcc
              exact hnext (by rw [hck, Bool.and_false])
    have hloop1 : ∀ (r k : Nat), k + r = cs.length → cs.any (fun x => !decide (x.2.2 = 0) && clk x.1 c.1) = (cs.drop k).any (fun x => !decide (x.2.2 = 0) && clk x.1 c.1) → WP (d + 5) mMd_clashes 12 [some (.ref m), some (.int (nI i)), some (.int (nI k))] [] (MM (AR M m A L) m g) z w Q := by
      intro r
      induction r with
      | zero =>
        intro k hk he
        rw [sMd_clashes_12]
        simp only [sMd_clashes_13, rMd_clashes_14, sMd_clashes_17, sMd_clashes_54, sMd_clashes_55, xk_i, xk_l, xk_a, xk_n, xk_0, Option.toList_some, Option.toList_none, List.cons_append, List.nil_append, hC.1]
        rw [if_pos (nI_le (by omega) (by omega))]
        rw [List.drop_eq_nil_of_le (by omega)] at he
        exact hloop2 he N.length 0 (by omega) (by rw [List.drop_zero])
      | succ r ih =>
        intro k hk he
        have hlt : k < cs.length := by omega
        have hgk := List.getElem?_eq_getElem hlt
        obtain ⟨p1, p2, p3, p4⟩ := hC.2 k cs[k] hgk
        obtain ⟨⟨x1, x2⟩, x3⟩ := o2 cs[k] (List.getElem_mem hlt)
        have hrk := rv_lt cs[k].1
        have hkk := knd_2 cs[k].2.2
        rw [List.drop_eq_getElem_cons hlt, List.any_cons] at he
        have hnext : (!decide (cs[k].2.2 = 0) && clk cs[k].1 c.1) = false → WP (d + 5) mMd_clashes 48 [some (.ref m), some (.int (nI i)), some (.int (nI k))] [] (MM (AR M m A L) m g) z w Q := by
          intro hf2
          simp only [sMd_clashes_48, sMd_clashes_51, xk_i, xk_l, xk_a, xk_n, xk_0, Option.toList_some, Option.toList_none, List.cons_append, List.nil_append, nI_add]
          refine ih (k + 1) (by omega) ?_
          rw [he, hf2, Bool.false_or]
        rw [sMd_clashes_12]
        simp only [sMd_clashes_13, rMd_clashes_14, sMd_clashes_17, sMd_clashes_20, sMd_clashes_21, rMd_clashes_22, hC.1]
        rw [if_neg (nI_ge (by omega) (by omega)), c_madeKind hC o1 hgk x2]
        simp only [sMd_clashes_25, xk_i, xk_l, xk_a, xk_n, xk_0, Option.toList_some, Option.toList_none, List.cons_append, List.nil_append, nI_eq (a := knd cs[k].2.2) (b := 0) (by omega) (by omega), knd0]
        by_cases hz : cs[k].2.2 = 0
        · rw [if_pos hz]
          exact hnext (by rw [decide_eq_true hz]; rfl)
        · rw [if_neg hz]
          simp only [sMd_clashes_28, rMd_clashes_29, sMd_clashes_32, qMd_clashes_33 (k := k) (by omega), sMd_clashes_34, rMd_clashes_35, sMd_clashes_38, qMd_clashes_39 (k := i) (by omega), p1, q1]
          rw [sMd_clashes_40, c_clash (by omega) (by omega), rv_rv' x1.1, rv_rv' c1.1]
          simp only [sMd_clashes_43, sMd_clashes_46, sMd_clashes_47 xb0, sMd_clashes_47 xb1, xk_i, xk_l, xk_a, xk_n, xk_0, Option.toList_some, Option.toList_none, List.cons_append, List.nil_append]
          by_cases hcc : und cs[k].1 c.1 ∨ und c.1 cs[k].1
          · rw [if_neg (by rw [if_pos hcc]; decide)]
            have hck : clk cs[k].1 c.1 = true := decide_eq_true hcc
            rw [he, decide_eq_false hz, hck] at K
            exact K
          · rw [if_pos (by rw [if_neg hcc])]
            have hck : clk cs[k].1 c.1 = false := decide_eq_false hcc
            exact hnext (by rw [hck, Bool.and_false])
    exact hloop1 cs.length 0 (by omega) (by rw [List.drop_zero])
theorem fst1_sh {p : achg → Bool} {l : List achg} {i : Nat} {c : achg} (h : l[i]? = some c) (hp : p c = false) : (fst1 p (l.drop i)).map (· + i) = (fst1 p (l.drop (i + 1))).map (· + (i + 1)) := by
  rw [drop_at h]
  conv => lhs; unfold fst1
  rw [if_neg (by rw [hp]; decide), Option.map_map]
  congr 1
  funext q
  simp only [Function.comp]
  omega
theorem fst1_hd {p : achg → Bool} {l : List achg} {i : Nat} {c : achg} (h : l[i]? = some c) (hp : p c = true) : (fst1 p (l.drop i)).map (· + i) = some i := by
  rw [drop_at h]
  unfold fst1
  rw [if_pos hp, Option.map_some, Nat.zero_add]
set_option maxHeartbeats 1000000 in
theorem c_Mdrefusal (hC : ChA g A L cs) (ho : okX cs) (hN : NmA g A L N) (hl : N.length ≤ 260) (hG : ∀ s ∈ N, GK s.1) (hNo : okN N) (K : Q (some (.int (rfV N cs))) (MM (AR M m A L) m g) z w) :
    WP (d + 6) mMd_refusal 0 [some (.ref m), none] [] (MM (AR M m A L) m g) z w Q := by
  have o1 := ho.1
  have h00 : ∀ (p : achg → Bool), (fst1 p (cs.drop 0)).map (· + 0) = fst1 p cs := by
    intro p
    rw [List.drop_zero]
    cases fst1 p cs <;> rfl
  have hend : ∀ (p : achg → Bool) (i : Nat), cs.length ≤ i → (fst1 p (cs.drop i)).map (· + i) = none := by
    intro p i hi
    rw [List.drop_eq_nil_of_le hi]; rfl
  have hloop2 : fst1 (unx N) cs = none → ∀ (r i : Nat), i + r = cs.length → fst1 (clsR N cs) cs = (fst1 (clsR N cs) (cs.drop i)).map (· + i) → WP (d + 6) mMd_refusal 35 [some (.ref m), some (.int (nI i))] [] (MM (AR M m A L) m g) z w Q := by
    intro hu r
    unfold rfV at K
    rw [hu] at K
    dsimp only at K
    induction r with
    | zero =>
      intro i hi he
      rw [sMd_refusal_35]
      simp only [sMd_refusal_36, rMd_refusal_37, sMd_refusal_40, sMd_refusal_66, sMd_refusal_67, hC.1]
      rw [if_pos (nI_le (by omega) (by omega))]
      rw [he, hend _ i (by omega)] at K
      exact K
    | succ r ih =>
      intro i hi he
      have hlt : i < cs.length := by omega
      have hgi := List.getElem?_eq_getElem hlt
      rw [sMd_refusal_35]
      simp only [sMd_refusal_36, rMd_refusal_37, sMd_refusal_40, sMd_refusal_43, sMd_refusal_44, rMd_refusal_45, hC.1]
      rw [if_neg (nI_ge (by omega) (by omega))]
      refine c_clashes hC ho hgi hN hl hG ?_
      simp only [sMd_refusal_48, sMd_refusal_51, sMd_refusal_53, sMd_refusal_54, sMd_refusal_55, sMd_refusal_56, sMd_refusal_57, sMd_refusal_58, sMd_refusal_59, sMd_refusal_60, sMd_refusal_63, xk_i, xk_l, xk_a, xk_n, xk_0, Option.toList_some, Option.toList_none, List.cons_append, List.nil_append, nI_add]
      cases hp : clsR N cs cs[i] with
      | false =>
        rw [if_pos (by decide)]
        exact ih (i + 1) (by omega) (by rw [he, fst1_sh hgi hp])
      | true =>
        rw [if_neg (by decide)]
        rw [he, fst1_hd hgi hp] at K
        exact K
  have hloop1 : ∀ (r i : Nat), i + r = cs.length → fst1 (unx N) cs = (fst1 (unx N) (cs.drop i)).map (· + i) → WP (d + 6) mMd_refusal 2 [some (.ref m), some (.int (nI i))] [] (MM (AR M m A L) m g) z w Q := by
    intro r
    induction r with
    | zero =>
      intro i hi he
      rw [sMd_refusal_2]
      simp only [sMd_refusal_3, rMd_refusal_4, sMd_refusal_7, sMd_refusal_33, sMd_refusal_34, xk_i, xk_l, xk_a, xk_n, xk_0, Option.toList_some, Option.toList_none, List.cons_append, List.nil_append, hC.1]
      rw [if_pos (nI_le (by omega) (by omega))]
      exact hloop2 (by rw [he, hend _ i (by omega)]) cs.length 0 (by omega) (h00 _).symm
    | succ r ih =>
      intro i hi he
      have hlt : i < cs.length := by omega
      have hgi := List.getElem?_eq_getElem hlt
      rw [sMd_refusal_2]
      simp only [sMd_refusal_3, rMd_refusal_4, sMd_refusal_7, sMd_refusal_10, sMd_refusal_11, rMd_refusal_12, hC.1]
      rw [if_neg (nI_ge (by omega) (by omega)), c_unexpected (d := d + 4) hC ho hgi hN hl hG hNo]
      simp only [sMd_refusal_15, sMd_refusal_18, sMd_refusal_20, sMd_refusal_21, sMd_refusal_22, sMd_refusal_23, sMd_refusal_24, sMd_refusal_25, sMd_refusal_26, sMd_refusal_27, sMd_refusal_30, xk_i, xk_l, xk_a, xk_n, xk_0, Option.toList_some, Option.toList_none, List.cons_append, List.nil_append, nI_add]
      cases hp : unx N cs[i] with
      | false =>
        rw [if_pos (by decide)]
        exact ih (i + 1) (by omega) (by rw [he, fst1_sh hgi hp])
      | true =>
        rw [if_neg (by decide)]
        unfold rfV at K
        rw [he, fst1_hd hgi hp] at K
        exact K
  simp only [sMd_refusal_0, sMd_refusal_1, xk_i, xk_l, xk_a, xk_n, xk_0, Option.toList_some, Option.toList_none, List.cons_append, List.nil_append]
  exact hloop1 cs.length 0 (by omega) (h00 _).symm
theorem c_oldNumber {k : Nat} (hk : GK k) (hN : NmA g A L N) (hl : N.length ≤ 260) (hG : ∀ s ∈ N, GK s.1) (hNo : okN N) : WP (d + 1) mMd_oldNumber 0 [some (.ref m), some (.long (lN (rv k))), none, none] [] (MM (AR M m A L) m g) z w Q ↔ Q (some (.int (nI (lkA N k).toNat))) (MM (AR M m A L) m g) z w := by
  have hrv := rv_lt k
  simp only [sMd_oldNumber_0, sMd_oldNumber_1, rMd_oldNumber_2]
  rw [c_find (by omega) hN hl]
  have hcont := fx_cases (n := rv k) hG
  rw [gkey_rv hk] at hcont
  rcases hcont with ⟨f1, f2⟩ | ⟨j, r, f1, f2, f3, f4⟩
  · rw [f1, f2]
    simp only [sMd_oldNumber_5, sMd_oldNumber_6, sMd_oldNumber_7, sMd_oldNumber_30, sMd_oldNumber_31, xk_i, xk_l, xk_a, xk_n, xk_0, Option.toList_some, Option.toList_none, List.cons_append, List.nil_append]
    rw [if_pos (by decide)]
    rfl
  · rw [f1, f4]
    obtain ⟨p1, p2, p3, p4⟩ := hN.2 j r f2
    have hk2 := knd_2 r.2.2
    simp only [sMd_oldNumber_5, sMd_oldNumber_6, sMd_oldNumber_7, sMd_oldNumber_10, rMd_oldNumber_11, sMd_oldNumber_14, qMd_oldNumber_15 (k := j) (by omega), sMd_oldNumber_16, sMd_oldNumber_17, sMd_oldNumber_20, rMd_oldNumber_21, sMd_oldNumber_24, qMd_oldNumber_25 (k := j) (by omega), sMd_oldNumber_26, sMd_oldNumber_27, sMd_oldNumber_30, sMd_oldNumber_31, xk_i, xk_l, xk_a, xk_n, xk_0, Option.toList_some, Option.toList_none, List.cons_append, List.nil_append, oI, p2, p4, nI_eq (a := knd r.2.2) (b := 1) (by omega) (by omega), knd1]
    rw [if_neg (nI_nlt (a := j) (b := 0) (by omega) (by omega))]
    by_cases h1 : 0 < r.2.2
    · have hvn : vN r.2.2 = r.2.2.toNat := by unfold vN; rw [if_pos (by omega)]
      rw [if_pos h1, hvn, lN_i]
    · rw [if_neg h1, show r.2.2.toNat = 0 by omega]
end MF
