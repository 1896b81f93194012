/-! RefStack: commit -/
section CL6
variable {d x wb : Nat} {B : List (List Nat)} {tx : Option (List achg)} {M : xM} {z w : Nat} {Q : Option Value → xM → Nat → Nat → Prop}
theorem sT_len {α : Type} {f : α → Nat} : ∀ {B A : List α}, sT f A → sT f B → (∀ a ∈ A, ∃ b ∈ B, f b = f a) → A.length ≤ B.length
  | [], A, hA, hB, h => by
    cases A with
    | nil => simp
    | cons a t => obtain ⟨b, hb, -⟩ := h a List.mem_cons_self; cases hb
  | b :: B, A, hA, hB, h => by
    cases A with
    | nil => simp
    | cons a A =>
      have b1 := (List.pairwise_cons.mp hB).1
      have a1 := (List.pairwise_cons.mp hA).1
      by_cases hab : f b < f a
      · have := sT_len (A := a :: A) hA (List.pairwise_cons.mp hB).2 (fun c hc => by
          obtain ⟨y, hy, hf⟩ := h c hc
          rcases List.mem_cons.mp hy with rfl | hy
          · rcases List.mem_cons.mp hc with rfl | hc
            · omega
            · have := a1 c hc; omega
          · exact ⟨y, hy, hf⟩)
        simp only [List.length_cons] at this ⊢
        omega
      · have hba : f b = f a := by
          obtain ⟨y, hy, hf⟩ := h a List.mem_cons_self
          rcases List.mem_cons.mp hy with rfl | hy
          · exact hf
          · have := b1 y hy; omega
        have := sT_len (A := A) (List.pairwise_cons.mp hA).2 (List.pairwise_cons.mp hB).2 (fun c hc => by
          obtain ⟨y, hy, hf⟩ := h c (List.mem_cons_of_mem _ hc)
          rcases List.mem_cons.mp hy with rfl | hy
          · have := a1 c hc
            omega
          · exact ⟨y, hy, hf⟩)
        simp only [List.length_cons]
        omega
/-- names and entries of a pile of tables, the highest first -/
def pR (l : List ptab) : List arec := l.flatMap (fun p => p.2.2.2.1)
def pE (l : List ptab) : List aent := l.flatMap (fun p => p.2.2.2.2)
theorem mdOk_of : ∀ (r : List ptab) (p : ptab), (∀ y ∈ p :: r, wT0 y.2) → (mG kR (pR (p :: r))).length ≤ 16 → (pE (p :: r)).length ≤ 24 → mdOk p r
  | [], p, _, _, _ => trivial
  | q :: r, p, hw, h1, h2 => by
    intro _
    have eR : cR [q, p] = p.2.2.2.1 ++ q.2.2.2.1 := by simp [cR]
    have eE : cE [q, p] = p.2.2.2.2 ++ q.2.2.2.2 := by simp [cE]
    have eP : pR (p :: q :: r) = cR [q, p] ++ pR r := by rw [eR]; simp [pR]
    have eQ : pE (p :: q :: r) = cE [q, p] ++ pE r := by rw [eE]; simp [pE]
    have w0 : wT0 (mg2 q p r.isEmpty).2 := mT_wT0 (by simp) (fun y hy => by
      simp only [List.mem_cons, List.not_mem_nil, or_false] at hy
      rcases hy with rfl | rfl
      · exact hw _ (by simp)
      · exact hw _ (by simp))
    have lE : (mg2 q p r.isEmpty).2.2.2.2.length ≤ (cE [q, p]).length := Nat.le_trans (List.length_filter_le _ _) mG_len
    have l24 : (cE [q, p]).length + (pE r).length ≤ 24 := by rw [eQ, List.length_append] at h2; exact h2
    have sub : ∀ y ∈ (mg2 q p r.isEmpty).2.2.2.1, y ∈ cR [q, p] := fun y hy => mG_sub (List.mem_filter.mp hy).1
    have lR : (mg2 q p r.isEmpty).2.2.2.1.length ≤ 16 := by
      refine Nat.le_trans (sT_len w0.2.2.2.1 (mG_sT (pR (p :: q :: r))) (fun a ha => ?_)) h1
      exact mG_has.mpr ⟨a, by rw [eP]; exact List.mem_append_left _ (sub a ha), rfl⟩
    refine ⟨⟨by omega, by omega, ser_fits w0 lR (by omega)⟩, mdOk_of r _ (fun y hy => ?_) ?_ ?_⟩
    · rcases List.mem_cons.mp hy with rfl | hy
      · exact w0
      · exact hw y (List.mem_cons_of_mem _ (List.mem_cons_of_mem _ hy))
    · refine Nat.le_trans (sT_len (mG_sT _) (mG_sT (pR (p :: q :: r))) (fun a ha => ?_)) h1
      refine mG_has.mpr ⟨a, ?_, rfl⟩
      have := mG_sub ha
      rw [eP]
      unfold pR at this
      rw [List.flatMap_cons] at this
      rcases List.mem_append.mp this with q1 | q1
      · exact List.mem_append_left _ (sub a q1)
      · exact List.mem_append_right _ q1
    · have : pE (mg2 q p r.isEmpty :: r) = (mg2 q p r.isEmpty).2.2.2.2 ++ pE r := by unfold pE; rw [List.flatMap_cons]
      rw [this, List.length_append]
      omega
def clA (k : Nat) (r : arec) : Bool := !decide (r.2.2 = 0) && (decide (und r.1 k) || decide (und k r.1))
def cls (N : List arec) (c : achg) : Bool := !decide (c.2.2 = 0) && N.any (clA c.1)
theorem any_raw {k : Nat} {N : List arec} (h : ∀ r ∈ N, r.1 < 2 ^ 60 ∧ okC r.2.2) : (N.map rawR).any (clx k) = N.any (clA k) := by
  rw [List.any_map]
  induction N with
  | nil => rfl
  | cons r t ih =>
    rw [List.any_cons, List.any_cons, ih (fun a ha => h a (List.mem_cons_of_mem _ ha))]
    congr 1
    obtain ⟨h1, h2⟩ := h r List.mem_cons_self
    show clx k (rawR r) = clA k r
    unfold clx clA
    have e1 : decide ((rawR r).2.2 = lN 0) = decide (r.2.2 = 0) := by rw [Bool.eq_iff_iff]; simp only [decide_eq_true_eq]; exact rawC_eq0 h2
    have e2 : kN (rawR r).1 = r.1 := kN_lN (n := r.1) (by omega)
    rw [e1, e2]
theorem clash_loop {s h : Nat} {L : List (Nat × tS)} {N : List arec} {cs : List achg} {op : Bool} {rd : Nat} {M0 : xM} {V : Option Nat} (hx : s = x + 1) (hh : h + 1 ≤ L.length) (hok : okL (L.take (h + 1))) (hN : mG (fW false) (yR (L.take (h + 1))) = N.map rawR) (hNo : ∀ r ∈ N, r.1 < 2 ^ 60 ∧ okC r.2.2) (hcs : ∀ c ∈ cs, c.1 < 2 ^ 60 ∧ okC c.2.2)
    (K : ∀ M', SkAt M' s h L z → Only M0 M' (s + 3) 3 → Q (some (.int (oiA 0 V))) M' z w) : ∀ (r i : Nat) (M : xM), i + r = cs.length → M x = some (0, [.ref s, .ref (x + 10), .ref rd]) → SkAt M s h L z → TxAt M (x + 10) op cs → Only M0 M (s + 3) 3 → oiA 0 V = oiA i (fst1 (cls N) (cs.drop i)) →
    WP (d + 5) mRS_firstClashing 2 [some (.ref x), some (.int (nI i))] [] M z w Q := by
  intro r
  induction r with
  | zero =>
    intro i M hi k1 hS hX hO hV
    have t2 := hX.2.1
    have t1 := hX.1
    rw [sRS_firstClashing_2]
    simp only [sRS_firstClashing_3, sRS_firstClashing_4 k1 rfl, sRS_firstClashing_7 t2 rfl, sRS_firstClashing_10, sRS_firstClashing_54, sRS_firstClashing_55]
    rw [if_pos (nI_le (by omega) (by omega))]
    rw [List.drop_eq_nil_of_le (by omega)] at hV
    have := K M hS hO
    rw [hV] at this
    exact this
  | succ r ih =>
    intro i M hi k1 hS hX hO hV
    obtain ⟨t1, t2, kl, el, cl, t3, t4, t5, t6, t7, t8, t9⟩ := id hX
    have hc : cs[i]? = some cs[i] := List.getElem?_eq_getElem (by omega)
    have hm : cs[i] ∈ cs := List.getElem_mem _
    generalize cs[i] = c at hc hm
    obtain ⟨q1, q2, q3⟩ := t9 i c hc
    obtain ⟨hk60, hkc⟩ := hcs c hm
    have ti := nI_toInt (n := i) (by omega)
    rw [drop_at hc] at hV
    rw [sRS_firstClashing_2]
    simp only [sRS_firstClashing_3, sRS_firstClashing_4 k1 rfl, sRS_firstClashing_7 t2 rfl, sRS_firstClashing_10, sRS_firstClashing_13, sRS_firstClashing_14 k1 rfl, sRS_firstClashing_17 t2 rfl, sRS_firstClashing_20]
    rw [if_neg (nI_ge (by omega) (by omega)), sRS_firstClashing_21 t8 ti (v := .long (rawC c.2.2)) (by simp [q3])]
    have q0 := rawC_eq0 hkc
    simp only [sRS_firstClashing_22, sRS_firstClashing_23, sRS_firstClashing_24, sRS_firstClashing_27, sRS_firstClashing_28 k1 rfl, sRS_firstClashing_31, sRS_firstClashing_32 k1 rfl, sRS_firstClashing_35 t2 rfl, sRS_firstClashing_38, sRS_firstClashing_48, sRS_firstClashing_51, lcmp_eq, lcmp_lt, lcmp_ge, lcmp_gt, lcmp_le, nI_add, q0]
    have hnx : cls N c = false → oiA 0 V = oiA (i + 1) (fst1 (cls N) (cs.drop (i + 1))) := by
      intro hu
      rw [hV]
      conv => lhs; unfold fst1
      rw [if_neg (by rw [hu]; decide)]
      cases fst1 (cls N) (cs.drop (i + 1)) with
      | none => rfl
      | some j => show nI (i + (j + 1)) = nI (i + 1 + j); congr 1; omega
    by_cases h0 : c.2.2 = 0
    · rw [if_pos h0]
      exact ih (i + 1) M (by omega) k1 hS hX hO (hnx (by unfold cls; simp [h0]))
    · rw [if_neg h0, sRS_firstClashing_39 t6 ti (v := .long (lN c.1)) (by simp [q1]), sRS_firstClashing_40 hS.1]
      refine c_draftClashes (d := d) hk60 hS hh hok (fun M1 hS1 hO1 => ?_)
      rw [hN, any_raw hNo]
      have k1' : M1 x = _ := (hO1 _ (by omega)).trans k1
      simp only [sRS_firstClashing_43, sRS_firstClashing_46, sRS_firstClashing_47, sRS_firstClashing_48, sRS_firstClashing_51, xk_i, xk_l, xk_a, xk_n, xk_0, Option.toList_some, Option.toList_none, List.cons_append, List.nil_append, nI_add]
      cases hq : N.any (clA c.1) with
      | true =>
        rw [if_neg (by decide)]
        have hu : cls N c = true := by unfold cls; simp [h0, hq]
        have := K M1 hS1 (hO.trans hO1)
        rw [hV] at this
        unfold fst1 at this
        rw [if_pos hu] at this
        exact this
      | false =>
        rw [if_pos (show nI (if false = true then 1 else 0) = nI 0 from rfl)]
        exact ih (i + 1) M1 (by omega) k1' hS1 (hX.kept (fun q a b => hO1 q (by omega))) (hO.trans hO1) (hnx (by unfold cls; simp [hq]))
theorem mdR_p : ∀ (r : List ptab) (p : ptab), (∀ y ∈ p :: r, pT y.1 = some y.2) → (∀ y ∈ p :: r, wT0 y.2) → mdOk p r → ∀ y ∈ mdR p r, pT y.1 = some y.2
  | [], p, h, _, _ => h
  | q :: r, p, h, hw, hok => by
    unfold mdR
    split
    · rename_i hlt
      obtain ⟨h1, h2⟩ := hok hlt
      have w0 : wT0 (mg2 q p r.isEmpty).2 := mT_wT0 (by simp) (fun y hy => by
        simp only [List.mem_cons, List.not_mem_nil, or_false] at hy
        rcases hy with rfl | rfl
        · exact hw _ (by simp)
        · exact hw _ (by simp))
      refine mdR_p r _ (fun y hy => ?_) (fun y hy => ?_) h2
      · rcases List.mem_cons.mp hy with rfl | hy
        · exact pT_ser ⟨w0, h1.1, h1.2.1⟩
        · exact h y (List.mem_cons_of_mem _ (List.mem_cons_of_mem _ hy))
      · rcases List.mem_cons.mp hy with rfl | hy
        · exact w0
        · exact hw y (List.mem_cons_of_mem _ (List.mem_cons_of_mem _ hy))
    · exact h
theorem c_refusal {j r : Nat} : WP d mRS_refusal 0 [some (.int (nI j)), some (.int (nI r))] [] M z w Q ↔ Q (some (.int ((-100) * nI (j + 1) - nI r))) M z w := by
  simp only [sRS_refusal_0, sRS_refusal_2, sRS_refusal_3, sRS_refusal_4, sRS_refusal_5, sRS_refusal_6, sRS_refusal_7, sRS_refusal_8, nI_add]
/-- what a commit finds: the merged names of draft and tables -/
def cmN (TT : List ptab) (cs : List achg) : List arec := mG kR (dRc (hgM TT + 1) cs ++ cR TT)
def cmD (TT : List ptab) (cs : List achg) : atab := drT (hgM TT + 1) (cR TT) cs
def cmB (TT : List ptab) (cs : List achg) : List ptab := (mdR (serT (cmD TT cs), cmD TT cs) TT.reverse).reverse
set_option maxHeartbeats 2000000 in
theorem c_RS_commit (hK : KAt M x z w wb B tx) (h7 : B.length ≤ 7) (hcs : ∀ cs, tx = some cs → cs.length ≤ 6 ∧ ∀ c ∈ cs, okc c) (hlen : ∀ l ∈ B, l.length ≤ 1200)
    (Kn : tx = none → Q (some (.int (-1))) M z w)
    (Kd : tx ≠ none → vw B = none → Q (some (.int (-2))) M z w)
    (K0 : ∀ cs TT, tx = some cs → vw B = some TT → cs = [] → ∀ M', KAt M' x z w wb B none → OnlyK M M' x → Q (some (.int (nI 0))) M' z w)
    (Ku : ∀ cs TT j, tx = some cs → vw B = some TT → cs ≠ [] → fst1 (unx (cR TT)) cs = some j → ∀ M', KAt M' x z w wb B none → OnlyK M M' x → Q (some (.int ((-100) * nI (j + 1) - nI 1))) M' z w)
    (Kc : ∀ cs TT j, tx = some cs → vw B = some TT → cs ≠ [] → fst1 (unx (cR TT)) cs = none → fst1 (cls (cmN TT cs)) cs = some j → ∀ M' z' w', KAt M' x z' w' wb B none → OnlyK M M' x → Q (some (.int ((-100) * nI (j + 1) - nI 2))) M' z' w')
    (Kf : ∀ cs TT, tx = some cs → vw B = some TT → cs ≠ [] → fst1 (unx (cR TT)) cs = none → fst1 (cls (cmN TT cs)) cs = none → tooM (hgM TT + 1) TT cs ∨ ¬ (serT (cmD TT cs)).length ≤ 1200 → ∀ M' z' w', KAt M' x z' w' wb B none → OnlyK M M' x → Q (some (.int (-3))) M' z' w')
    (K1 : ∀ cs TT, tx = some cs → vw B = some TT → cs ≠ [] → fst1 (unx (cR TT)) cs = none → fst1 (cls (cmN TT cs)) cs = none → ¬ tooM (hgM TT + 1) TT cs → (serT (cmD TT cs)).length ≤ 1200 → (∀ p ∈ cmB TT cs, pT p.1 = some p.2) → ∀ M' z' w', KAt M' x z' w' wb ((cmB TT cs).map (fun p => p.1)) none → OnlyK M M' x → Q (some (.int (nI (hgM TT + 1)))) M' z' w') :
    WP (d + 6) mRS_commit 0 [some (.ref x), none, none, none] [] M z w Q := by
  have k1 := hK.cell
  have k2 := hK.sk
  obtain ⟨L0, cs0, -, -, ⟨k3, -, -⟩, -⟩ := id hK
  have t2 := k3.2.1
  simp only [sRS_commit_0, sRS_commit_1 k1 rfl, sRS_commit_4 t2 rfl, sRS_commit_7, sRS_commit_10, sRS_commit_11, sRS_commit_12, sRS_commit_13 k1 rfl]
  cases htx : tx with
  | none =>
    rw [if_pos (show nI (if (none : Option (List achg)).isSome = true then 1 else 0) = nI 0 from rfl)]
    exact Kn htx
  | some cs =>
    rw [if_neg (show ¬ nI (if (some cs).isSome = true then 1 else 0) = nI 0 from by show ¬ nI 1 = nI 0; decide), sRS_commit_16 k2, c_isDam hK]
    obtain ⟨hc6, hokc⟩ := hcs cs htx
    cases hv : vw B with
    | none =>
      simp only [sRS_commit_19, sRS_commit_22, sRS_commit_24, xk_i, xk_l, xk_a, xk_n, xk_0, Option.toList_some, Option.toList_none, List.cons_append, List.nil_append]
      rw [if_neg (show ¬ nI (if (none : Option (List ptab)).isNone = true then 1 else 0) = nI 0 by decide)]
      exact Kd (by rw [htx]; simp) hv
    | some TT =>
      simp only [sRS_commit_19, sRS_commit_22, sRS_commit_24, sRS_commit_25, sRS_commit_26 k1 rfl, sRS_commit_29, xk_i, xk_l, xk_a, xk_n, xk_0, Option.toList_some, Option.toList_none, List.cons_append, List.nil_append]
      rw [if_pos (show nI (if (some TT).isNone = true then 1 else 0) = nI 0 from rfl)]
      have hw := vw_w0 hv
      have hwT := (vw_w hv).2.2
      have hTl := vw_len hv
      obtain ⟨L, csx, hB⟩ := hK.b
      have hcsx : csx = cs := hB.2.2.1.2.2 cs htx
      subst hcsx
      have hX := hB.2.2.1.1
      rw [htx] at hX
      obtain ⟨c1, c2, kl, el, cl, c3, c4, c5, c6, c7, c8, c9⟩ := id hX
      rw [sRS_commit_30 c2 rfl xb0]
      generalize hM1 : xput M (x + 10) _ = M1
      have o1 : ∀ q, q ≠ x + 10 → M1 q = M q := fun q hq => by rw [← hM1, xput_ne hq]
      have hX1 : TxAt M1 (x + 10) false csx := ⟨c1, by rw [← hM1, xput_same]; rfl, kl, el, cl, c3, c4, c5, by rw [o1 _ (by omega)]; exact c6, by rw [o1 _ (by omega)]; exact c7, by rw [o1 _ (by omega)]; exact c8, c9⟩
      have hS1 : SkAt M1 (x + 1) B.length L z := hB.2.1.kept (Nat.le_refl _) (fun q a b => o1 q (by omega)) (fun q a b => o1 q (by omega))
      have hB1 : KB M1 x z w wb B none L csx := ⟨by rw [o1 _ (by omega)]; exact k1, hS1, ⟨hX1, hB.2.2.1.2.1, fun c hc => by cases hc⟩, by obtain ⟨v, p, e, f, q⟩ := hB.2.2.2.1; exact ⟨v, p, e, f, by rw [o1 _ (by omega)]; exact q⟩, hB.2.2.2.2⟩
      have hO1 : OnlyK M M1 x := fun q hq => o1 q (by omega)
      have j1 := hB1.1
      have j2 := hX1.2.1
      have hT := hB1.raw hv
      have hz := hB.2.2.2.2.2.2.1
      have q0 := nI_eq (a := csx.length) (b := 0) (by omega) (by omega)
      simp only [sRS_commit_33, sRS_commit_34 j1 rfl, sRS_commit_37 j2 rfl, sRS_commit_40, sRS_commit_43, sRS_commit_44, sRS_commit_45, q0]
      by_cases hc0 : csx.length = 0
      · rw [if_pos hc0]
        exact K0 csx TT htx hv (List.eq_nil_of_length_eq_zero hc0) M1 ⟨L, csx, hB1⟩ hO1
      · rw [if_neg hc0, sRS_commit_46 j1]
        have hne : csx ≠ [] := fun q => hc0 (by rw [q]; rfl)
        simp only [sRS_firstUnexpected_0, sRS_firstUnexpected_1, xk_i, xk_l, xk_a, xk_n, xk_0, Option.toList_some, Option.toList_none, List.cons_append, List.nil_append]
        rw [unexp_loop (d := d + 2) j1 hS1 hX1 hT hw (fun c hc => (hokc c hc).1.1) csx.length 0 none (by omega) (Or.inl rfl), List.drop_zero]
        cases hu : fst1 (unx (cR TT)) csx with
        | some j =>
          have hj := fst1_lt hu
          simp only [sRS_commit_49, sRS_commit_50, sRS_commit_51, sRS_commit_54, sRS_commit_55, xk_i, xk_l, xk_a, xk_n, xk_0, Option.toList_some, Option.toList_none, List.cons_append, List.nil_append]
          rw [show oiA 0 (some j) = nI j from by show nI (0 + j) = nI j; rw [Nat.zero_add], if_neg (nI_nlt (by omega) (by omega)), sRS_commit_56, c_refusal]
          simp only [sRS_commit_59, xk_i, xk_l, xk_a, xk_n, xk_0, Option.toList_some, Option.toList_none, List.cons_append, List.nil_append]
          exact Ku csx TT j htx hv hne hu M1 ⟨L, csx, hB1⟩ hO1
        | none =>
          simp only [sRS_commit_49, sRS_commit_50, sRS_commit_51, sRS_commit_60, sRS_commit_61 j1 rfl, sRS_commit_64, sRS_commit_65 j1 rfl, xk_i, xk_l, xk_a, xk_n, xk_0, Option.toList_some, Option.toList_none, List.cons_append, List.nil_append]
          rw [if_pos (show oiA 0 none < nI 0 by decide), sRS_commit_68 hS1.1]
          refine c_draft (d := d + 1) (tx := x + 10) (now := hgM TT + 1) (by omega) (by omega) hS1 hX1 (by omega) (by omega) hokc hT hw rfl (fun M2 L2 e2 bs2 wf2 hS2 he2 htk2 hl2 hO2 => ?_)
          simp only [sRS_commit_71, sRS_commit_74, sRS_commit_76, sRS_commit_77, xk_i, xk_l, xk_a, xk_n, xk_0, Option.toList_some, Option.toList_none, List.cons_append, List.nil_append]
          have hX2 : TxAt M2 (x + 10) false csx := hX1.kept (fun q a b => hO2 q (by omega))
          have j12 : M2 x = _ := (hO2 _ (by omega)).trans j1
          have hO2K : OnlyK M M2 x := hO1.trans (fun q hq => hO2 q (by omega))
          rw [if_neg (by decide), sRS_commit_78 j12]
          have hT2 : (L2.take B.length).map (fun e => e.2) = TT.map rawP := by rw [htk2]; exact hT
          have htks := tk_snoc he2
          have hg2 : hgM TT ≤ 2000 := (fold_max (l := TT) (m := 0)).2.2 2000 (by omega) (fun p hp => (hw p hp).2.2.1)
          have hlr : ∀ r ∈ cR TT, r.2.2 ≤ 65535 := by
            intro r hr
            obtain ⟨p, hp, hm⟩ := mem_cR.mp hr
            rcases ((hw p hp).2.2.2.2.2.1 r hm).2.2.2 with q | q | q <;> omega
          have hcr : ∀ r ∈ dRc (hgM TT + 1) csx, GK r.1 ∧ r.2.1 = hgM TT + 1 ∧ wC r.2.2 := by
            intro r hr
            obtain ⟨c, hc, rfl⟩ := List.mem_map.mp (mG_sub hr)
            exact ⟨(hokc c hc).1, rfl, (hokc c hc).2⟩
          have hokD : okL (L2.take (B.length + 1)) := by
            rw [htks]
            intro y hy
            rcases List.mem_append.mp hy with q | q
            · exact ok_raw hw hT2 y q
            · rw [List.mem_singleton.mp q]
              have hsR : sT kR (dRc (hgM TT + 1) csx) := mG_sT _
              have hE : ∀ e ∈ dEn (hgM TT + 1) (cR TT) (dRc (hgM TT + 1) csx), GK e.1 ∧ e.2.1 = hgM TT + 1 := by
                intro e he
                obtain ⟨r, hr, rfl⟩ := List.mem_map.mp he
                exact ⟨(hcr r (List.mem_filter.mp hr).1).1, rfl⟩
              have hsE : sT ek (dEn (hgM TT + 1) (cR TT) (dRc (hgM TT + 1) csx)) := by
                unfold dEn
                refine List.pairwise_map.mpr (List.Pairwise.imp (fun {a b} hab => ?_) (List.Pairwise.filter _ hsR))
                have : a.1 < b.1 := hab
                show a.1 * 2 ^ 32 + (2 ^ 32 - 1 - (hgM TT + 1)) < b.1 * 2 ^ 32 + (2 ^ 32 - 1 - (hgM TT + 1))
                omega
              refine ⟨sT_mapR hsR (fun r hr => (hcr r hr).1.1), fun r hr => ?_, sT_mapE hsE (fun r hr => ⟨(hE r hr).1.1, by rw [(hE r hr).2]; omega⟩), fun r hr => ?_⟩
              · obtain ⟨r0, h0, rfl⟩ := List.mem_map.mp hr
                exact rok_R (hcr r0 h0).1 (by rw [(hcr r0 h0).2.1]; omega)
              · obtain ⟨r0, h0, rfl⟩ := List.mem_map.mp hr
                exact rok_E (hE r0 h0).1 (by rw [(hE r0 h0).2]; omega)
          have hlt : ∀ r ∈ dRc (hgM TT + 1) csx ++ cR TT, r.1 < 2 ^ 60 ∧ okC r.2.2 := by
            intro r hr
            rcases List.mem_append.mp hr with q | q
            · exact ⟨(hcr r q).1.1, (hcr r q).2.2.ok⟩
            · obtain ⟨p, hp, hm⟩ := mem_cR.mp q
              have := (hw p hp).2.2.2.2.2.1 r hm
              exact ⟨this.1.1, this.2.2.2.ok⟩
          have hN : mG (fW false) (yR (L2.take (B.length + 1))) = (cmN TT csx).map rawR := by
            rw [htks, yR_snoc, yR_raw hT2, ← List.map_append, mG_R (fun r hr => (hlt r hr).1)]
            rfl
          have hh2 := (List.getElem?_eq_some_iff.mp he2).1
          simp only [sRS_firstClashing_0, sRS_firstClashing_1, xk_i, xk_l, xk_a, xk_n, xk_0, Option.toList_some, Option.toList_none, List.cons_append, List.nil_append]
          have hstay : ∀ {M' : xM} {b : tS}, SkAt M' (x + 1) B.length (L2.set B.length (e2, b)) (z + 10 * (L2.length - L.length)) → OnlyS M1 M' (x + 1) → KAt M' x (z + 10 * (L2.length - L.length)) (w + 1427 * (L2.length - L.length)) wb B none := by
            intro M' b hS' hO'
            refine hB1.stack hS' ?_ ?_ (by rw [List.length_set]) (by rw [List.length_set]) (by rw [List.length_set]; exact hl2) hO'
            · rw [tk_set, htk2]; exact hB1.2.2.2.2.1
            · rw [tk_set, htk2]; exact hB1.2.2.2.2.2.1
          have hset2 : ∀ {M' : xM}, SkAt M' (x + 1) B.length L2 (z + 10 * (L2.length - L.length)) → ∃ b, SkAt M' (x + 1) B.length (L2.set B.length (e2, b)) (z + 10 * (L2.length - L.length)) := by
            intro M' hS'
            refine ⟨(bs2, nI (hgM TT + 1), nI (hgM TT + 1), wf2, (dRc (hgM TT + 1) csx).map rawR, (dEn (hgM TT + 1) (cR TT) (dRc (hgM TT + 1) csx)).map rawE), ?_⟩
            have : L2.set B.length (e2, bs2, nI (hgM TT + 1), nI (hgM TT + 1), wf2, (dRc (hgM TT + 1) csx).map rawR, (dEn (hgM TT + 1) (cR TT) (dRc (hgM TT + 1) csx)).map rawE) = L2 := by
              apply List.ext_getElem?
              intro n
              rw [List.getElem?_set]
              by_cases hn : B.length = n
              · subst hn; rw [if_pos rfl, if_pos hh2, he2]
              · rw [if_neg hn]
            rw [this]
            exact hS'
          refine clash_loop (d := d) (V := fst1 (cls (cmN TT csx)) csx) (M0 := M2) rfl (by omega) hokD hN (fun r hr => hlt r (mG_sub hr)) (fun c hc => ⟨(hokc c hc).1.1, (hokc c hc).2.ok⟩) (fun M3 hS3 hO3 => ?_) csx.length 0 M2 (by omega) j12 hS2 hX2 (fun _ _ => rfl) rfl
          have hO3S : OnlyS M1 M3 (x + 1) := hO2.trans (fun q hq => hO3 q (by omega))
          have hO3K : OnlyK M M3 x := hO1.trans (fun q hq => hO3S q (by omega))
          have j13 : M3 x = _ := (hO3 _ (by omega)).trans j12
          cases hcl : fst1 (cls (cmN TT csx)) csx with
          | some j =>
            have hj := fst1_lt hcl
            simp only [sRS_commit_81, sRS_commit_82, sRS_commit_83, sRS_commit_86, sRS_commit_87, xk_i, xk_l, xk_a, xk_n, xk_0, Option.toList_some, Option.toList_none, List.cons_append, List.nil_append]
            rw [show oiA 0 (some j) = nI j from by show nI (0 + j) = nI j; rw [Nat.zero_add], if_neg (nI_nlt (by omega) (by omega)), sRS_commit_88, c_refusal]
            simp only [sRS_commit_91, xk_i, xk_l, xk_a, xk_n, xk_0, Option.toList_some, Option.toList_none, List.cons_append, List.nil_append]
            obtain ⟨b3, hS3'⟩ := hset2 hS3
            exact Kc csx TT j htx hv hne hu hcl M3 _ _ (hstay hS3' hO3S) hO3K
          | none =>
            simp only [sRS_commit_81, sRS_commit_82, sRS_commit_83, sRS_commit_92, sRS_commit_93 j13 rfl, xk_i, xk_l, xk_a, xk_n, xk_0, Option.toList_some, Option.toList_none, List.cons_append, List.nil_append]
            rw [if_pos (show oiA 0 none < nI 0 by decide), sRS_commit_96 hS3.1]
            refine c_pushDraft (d := d + 1) (cs := csx) hS3 (by omega) hokc hc6 hT2 hwT rfl he2 (fun hno M4 b4 hS4 hO4 => ?_) (fun hnt h12 M4 hS4 hO4 => ?_)
            · simp only [sRS_commit_99, sRS_commit_102, sRS_commit_104, xk_i, xk_l, xk_a, xk_n, xk_0, Option.toList_some, Option.toList_none, List.cons_append, List.nil_append]
              rw [if_pos (by decide)]
              exact Kf csx TT htx hv hne hu hcl hno M4 _ _ (hstay hS4 (hO3S.trans hO4)) (hO3K.trans (fun q hq => hO4 q (by omega)))
            · replace hS4 : SkAt M4 (x + 1) (B.length + 1) (L2.set B.length (e2, rawT (serT (cmD TT csx)) (cmD TT csx))) (z + 10 * (L2.length - L.length)) := hS4
              replace h12 : (serT (cmD TT csx)).length ≤ 1200 := h12
              have j14 : M4 x = _ := (hO4 _ (by omega)).trans j13
              have hnow2 : hgM TT + 1 ≤ 2000 := Classical.byContradiction fun q => hnt (Or.inl (by omega))
              have hDw : wT0 (cmD TT csx) := drT_w (by omega) hnow2 hokc hlr
              have hdl : (dRc (hgM TT + 1) csx).length ≤ 6 := by
                have := mG_len (f := kR) (l := csx.map (crec (hgM TT + 1)))
                rw [List.length_map] at this
                unfold dRc
                omega
              have hel : (cmD TT csx).2.2.2.length ≤ 6 := by
                show (dEn (hgM TT + 1) (cR TT) (dRc (hgM TT + 1) csx)).length ≤ 6
                unfold dEn
                rw [List.length_map]
                exact Nat.le_trans (List.length_filter_le _ _) hdl
              have hDwT : wT (cmD TT csx) := ⟨hDw, by show (dRc (hgM TT + 1) csx).length ≤ 30; omega, by omega⟩
              have hT4 : ((L2.set B.length (e2, rawT (serT (cmD TT csx)) (cmD TT csx))).take (B.length + 1)).map (fun e => e.2) = (TT ++ [(serT (cmD TT csx), cmD TT csx)]).map rawP := by
                rw [tk_snoc (h := B.length) (List.getElem?_set_self hh2), tk_set, List.map_append, List.map_append, hT2]
                rfl
              have hw4 : ∀ p ∈ TT ++ [(serT (cmD TT csx), cmD TT csx)], wT0 p.2 := by
                intro p hp
                rcases List.mem_append.mp hp with q | q
                · exact hw p q
                · rw [List.mem_singleton.mp q]; exact hDw
              have hhg : (TT ++ [(serT (cmD TT csx), cmD TT csx)]).foldl (fun m p => max m p.2.2.1) 0 = hgM TT + 1 := by
                rw [List.foldl_append]
                show max (hgM TT) (hgM TT + 1) = _
                omega
              simp only [sRS_commit_99, sRS_commit_102, sRS_commit_104, sRS_commit_105, sRS_commit_106 j14 rfl, xk_i, xk_l, xk_a, xk_n, xk_0, Option.toList_some, Option.toList_none, List.cons_append, List.nil_append]
              rw [if_neg (by decide), sRS_commit_109 hS4.1, c_latestTime hS4, hg_raw hw4 (by omega) hT4, hhg]
              simp only [sRS_commit_112, sRS_commit_113, sRS_commit_114 j14 rfl, xk_i, xk_l, xk_a, xk_n, xk_0, Option.toList_some, Option.toList_none, List.cons_append, List.nil_append]
              rw [sRS_commit_117 hS4.1]
              have hrev : (TT ++ [(serT (cmD TT csx), cmD TT csx)]) = ((serT (cmD TT csx), cmD TT csx) :: TT.reverse).reverse := by simp
              rw [hrev] at hT4
              have hwr : ∀ y ∈ (serT (cmD TT csx), cmD TT csx) :: TT.reverse, wT0 y.2 := by
                intro y hy
                rcases List.mem_cons.mp hy with rfl | hy
                · exact hDw
                · exact hw y (List.mem_reverse.mp hy)
              have hpr : ∀ y ∈ (serT (cmD TT csx), cmD TT csx) :: TT.reverse, pT y.1 = some y.2 := by
                intro y hy
                rcases List.mem_cons.mp hy with rfl | hy
                · exact pT_ser hDwT
                · exact (vw_w hv).2.1 y (List.mem_reverse.mp hy)
              have hlr2 : ∀ y ∈ (serT (cmD TT csx), cmD TT csx) :: TT.reverse, y.1.length ≤ 1200 := by
                intro y hy
                rcases List.mem_cons.mp hy with rfl | hy
                · exact h12
                · refine hlen y.1 ?_
                  rw [← (vw_w hv).1]
                  exact List.mem_map_of_mem (List.mem_reverse.mp hy)
              have hmd : mdOk (serT (cmD TT csx), cmD TT csx) TT.reverse := by
                refine mdOk_of _ _ hwr ?_ ?_
                · have : pR ((serT (cmD TT csx), cmD TT csx) :: TT.reverse) = dRc (hgM TT + 1) csx ++ cR TT := by unfold pR; rw [List.flatMap_cons]; rfl
                  rw [this]
                  exact Nat.le_of_not_lt (fun q => hnt (Or.inr (Or.inl q)))
                · have : pE ((serT (cmD TT csx), cmD TT csx) :: TT.reverse) = (cmD TT csx).2.2.2 ++ cE TT := by unfold pE; rw [List.flatMap_cons]; rfl
                  rw [this, List.length_append, ← nE_len]
                  refine Nat.le_of_not_lt (fun q => hnt (Or.inr (Or.inr ?_)))
                  show 24 < nE TT + (cmD TT csx).2.2.2.length
                  omega
              have hrl : TT.reverse.length = B.length := by rw [List.length_reverse, hTl]
              refine c_mergeDown (d := d) hS4 (by omega) (by rw [hrl]) (by omega) hmd hT4 (fun y hy => ⟨hwr y hy, hlr2 y hy⟩) (fun M5 L5 hS5 hT5 hl5 hO5 => ?_)
              simp only [sRS_commit_120, sRS_commit_121, xk_i, xk_l, xk_a, xk_n, xk_0, Option.toList_some, Option.toList_none, List.cons_append, List.nil_append]
              have hl52 : (L2.set B.length (e2, rawT (serT (cmD TT csx)) (cmD TT csx))).length = L2.length := List.length_set
              rw [hl52] at hS5 hl5 ⊢
              have ez : z + 10 * (L2.length - L.length) + 10 * (L5.length - L2.length) = z + 10 * (L5.length - L.length) := by omega
              have ew : w + 1427 * (L2.length - L.length) + 1427 * (L5.length - L2.length) = w + 1427 * (L5.length - L.length) := by omega
              rw [ez] at hS5 ⊢
              rw [ew]
              have hp : ∀ p ∈ cmB TT csx, pT p.1 = some p.2 := fun p hp => mdR_p _ _ hpr hwr hmd p (List.mem_reverse.mp hp)
              exact K1 csx TT htx hv hne hu hcl hnt h12 hp M5 _ _ (hB1.remade (TT := cmB TT csx) hS5 (by unfold cmB; rw [List.length_reverse]) hT5 hp (by omega) ((hO3S.trans hO4).trans hO5)) (hO3K.trans (fun q hq => by rw [hO5 q (by omega)]; exact hO4 q (by omega)))
end CL6
