/-! the reference: commit -/
theorem dd_find {α : Type} {f : α → Nat} : ∀ {l : List α}, l.Pairwise (fun a b => f a ≠ f b) → ∀ x ∈ l, l.find? (fun y => f y == f x) = some x
  | [], _, x, hx => by cases hx
  | a :: l, h, x, hx => by
    rw [List.pairwise_cons] at h
    rw [List.find?_cons]
    by_cases e : f a = f x
    · have hb : (f a == f x) = true := by simp [e]
      rw [hb]
      rw [List.mem_cons] at hx
      rcases hx with q | q
      · rw [q]
      · exact absurd e (h.1 x q)
    · have hb : (f a == f x) = false := by simp [e]
      rw [hb]
      rw [List.mem_cons] at hx
      rcases hx with q | q
      · rw [q] at e; exact absurd rfl e
      · exact dd_find h.2 x q
theorem fst1_congr {p q : achg → Bool} : ∀ {cs : List achg}, (∀ c ∈ cs, p c = q c) → fst1 p cs = fst1 q cs
  | [], _ => rfl
  | c :: cs, h => by
    unfold fst1
    rw [h c (by simp), fst1_congr (fun x hx => h x (by simp [hx]))]
theorem ck_n0 {now k : Nat} {cs : List achg} : (n0 now cs).find? (fun r => kR r == k) = none ↔ ckeys cs k = false := by
  unfold ckeys n0
  rw [List.find?_eq_none, List.any_eq_false]
  constructor
  · intro h c hc
    have := h (crec now c) (List.mem_map.mpr ⟨c, hc, rfl⟩)
    exact this
  · intro h r hr
    obtain ⟨c, hc, rfl⟩ := List.mem_map.mp hr
    exact h c hc
theorem cls_eq {TT : List ptab} {cs : List achg} (hd : cs.Pairwise (fun a b => a.1 ≠ b.1)) (c : achg) : clsR (ddf [] (cR TT)) cs c = cls (cmN TT cs) c := by
  unfold clsR cls
  congr 1
  rw [Bool.eq_iff_iff, Bool.or_eq_true, List.any_eq_true, List.any_eq_true, List.any_eq_true]
  have hclk : ∀ a b : Nat, (decide (und a b) || decide (und b a)) = clk a b := by
    intro a b
    unfold clk
    rw [Bool.eq_iff_iff, Bool.or_eq_true, decide_eq_true_eq, decide_eq_true_eq, decide_eq_true_eq]
  have hmem : ∀ r, r ∈ cmN TT cs ↔ ((n0 (hgM TT + 1) cs).find? (fun y => kR y == kR r)).or ((cR TT).find? (fun y => kR y == kR r)) = some r := by
    intro r
    unfold cmN dRc
    rw [mem_mG, List.find?_append, find_mG]
    rfl
  have hNf : ∀ k, (ddf [] (cR TT)).find? (fun y => kR y == k) = (cR TT).find? (fun y => kR y == k) := by
    intro k
    have := ddf_find (cR TT) [] k
    rw [List.nil_append] at this
    exact this
  constructor
  · rintro (⟨x, hx, h⟩ | ⟨r, hr, h⟩)
    · rw [Bool.and_eq_true] at h
      refine ⟨crec (hgM TT + 1) x, (hmem _).mpr ?_, ?_⟩
      · rw [dd_find (n0_dd hd) (crec (hgM TT + 1) x) (List.mem_map.mpr ⟨x, hx, rfl⟩)]
        rfl
      · unfold clA
        rw [hclk, Bool.and_eq_true]
        exact h
    · rw [Bool.and_eq_true, Bool.and_eq_true] at h
      refine ⟨r, (hmem r).mpr ?_, ?_⟩
      · have h1 : ckeys cs r.1 = false := by
          have := h.1.2
          rwa [Bool.not_eq_true'] at this
        have h2 : (n0 (hgM TT + 1) cs).find? (fun y => kR y == kR r) = none := ck_n0.mpr h1
        rw [h2, Option.none_or, ← hNf]
        exact dd_find (ddf_dd List.Pairwise.nil) r hr
      · unfold clA
        rw [hclk, Bool.and_eq_true]
        exact ⟨h.1.1, h.2⟩
  · rintro ⟨r, hr, h⟩
    rw [hmem] at hr
    unfold clA at h
    rw [hclk, Bool.and_eq_true] at h
    cases hf : (n0 (hgM TT + 1) cs).find? (fun y => kR y == kR r) with
    | some y =>
      rw [hf, Option.some_or] at hr
      cases hr
      left
      obtain ⟨x, hx, rfl⟩ := List.mem_map.mp (List.mem_of_find?_eq_some hf)
      exact ⟨x, hx, by rw [Bool.and_eq_true]; exact h⟩
    | none =>
      rw [hf, Option.none_or, ← hNf] at hr
      right
      refine ⟨r, List.mem_of_find?_eq_some hr, ?_⟩
      have h1 : ckeys cs r.1 = false := ck_n0.mp hf
      rw [Bool.and_eq_true, Bool.and_eq_true, h1]
      exact ⟨⟨h.1, rfl⟩, h.2⟩
theorem ddf_cnt : ∀ {R N : List arec}, R.Pairwise (fun a b => kR a ≠ kR b) → (ddf N R).length = N.length + (R.filter (fun r => !N.any (fun s => s.1 == r.1))).length
  | [], N, _ => by simp [ddf]
  | r :: R, N, h => by
    rw [List.pairwise_cons] at h
    show (ddf (ddi N r) R).length = _
    rw [ddf_cnt h.2, List.filter_cons]
    unfold ddi
    by_cases hc : N.any (fun s => s.1 == r.1) = true
    · rw [if_pos hc, hc]; rfl
    · have hc' : N.any (fun s => s.1 == r.1) = false := eq_false_of_ne_true hc
      rw [if_neg hc, hc', if_pos (show (!false) = true from rfl), List.length_append, List.length_singleton, List.length_cons]
      have : R.filter (fun q => !(N ++ [r]).any (fun s => s.1 == q.1)) = R.filter (fun q => !N.any (fun s => s.1 == q.1)) := by
        refine List.filter_congr (fun q hq => ?_)
        rw [List.any_append]
        have h1 : (r.1 == q.1) = false := by
          have : r.1 ≠ q.1 := h.1 q hq
          simp [this]
        simp [h1]
      rw [this]
      omega
theorem mG_len_sw (a b : List arec) : (mG kR (a ++ b)).length = (mG kR (b ++ a)).length := by
  have h : ∀ a b : List arec, (mG kR (a ++ b)).length ≤ (mG kR (b ++ a)).length := by
    intro a b
    refine sT_len (mG_sT _) (mG_sT _) (fun x hx => mG_has.mpr ⟨x, ?_, rfl⟩)
    have := mG_sub hx
    rw [List.mem_append] at this ⊢
    exact this.symm
  exact Nat.le_antisymm (h a b) (h b a)
theorem cnt_new {TT : List ptab} {cs : List achg} {now : Nat} (hd : cs.Pairwise (fun a b => a.1 ≠ b.1)) : (mG kR (dRc now cs ++ cR TT)).length = (ddf [] (cR TT)).length + (cs.filter (fun c => !(ddf [] (cR TT)).any (fun s => s.1 == c.1))).length := by
  have h1 : mG kR (dRc now cs ++ cR TT) = mG kR (n0 now cs ++ cR TT) := mG_idem _ _
  have h2 : (ddf [] (cR TT)).length + (cs.filter (fun c => !(ddf [] (cR TT)).any (fun s => s.1 == c.1))).length = (ddf (ddf [] (cR TT)) (n0 now cs)).length := by
    rw [ddf_cnt (n0_dd hd)]
    congr 1
    unfold n0
    rw [List.filter_map, List.length_map]
    rfl
  rw [h1, h2, ← mG_len_eq (f := kR) (ddf_dd (ddf_dd List.Pairwise.nil)), ddf_mG2, mG_len_sw, ← mG_idem (f := kR) (cR TT) (n0 now cs), ← ddf_mG (cR TT), mG_idem]
theorem cnt_upd {l : List arec} {cs : List achg} {now : Nat} (hd : cs.Pairwise (fun a b => a.1 ≠ b.1)) : (drT now l cs).2.2.2.length = (cs.filter (fun c => decide (0 ≤ c.2.2))).length := by
  show (dEn now l (dRc now cs)).length = _
  unfold dEn dRc
  have h1 : mG kR (cs.map (crec now)) = mG kR (n0 now cs) := rfl
  rw [List.length_map, h1, ← mG_dd_filter (n0_dd hd), mG_len_eq ((n0_dd hd).sublist List.filter_sublist)]
  unfold n0
  rw [List.filter_map, List.length_map]
  rfl
section MCo
variable {d m : Nat} {B : List (List Nat)} {M : xM} {g : Nat → Int32} {A : Nat → Nat → Int32} {L : Nat → Nat → Int64} {N : List arec} {E : List (aent × Nat)} {cs : List achg} {tx : Option (List achg)} {z w : Nat} {Q : Option Value → xM → Nat → Nat → Prop}
set_option maxHeartbeats 1000000 in
theorem cnt_loop {x1 x2 : Int32} (hC : ChA g A L cs) (ho : okX cs) (hN : NmA g A L N) (hl : N.length ≤ 260) (hG : ∀ s ∈ N, GK s.1) (K : ∀ a b x, a = N.length + (cs.filter (fun c => !N.any (fun s => s.1 == c.1))).length → b = E.length + (cs.filter (fun c => decide (0 ≤ c.2.2))).length → WP (d + 1) mMd_commit 121 [some (.ref m), some (.int x1), some (.int x2), some (.int (nI a)), some (.int (nI b)), some (.int x)] [] (MM (AR M m A L) m g) z w Q) : ∀ (r i a b : Nat), i + r = cs.length → N.length + (cs.filter (fun c => !N.any (fun s => s.1 == c.1))).length = a + ((cs.drop i).filter (fun c => !N.any (fun s => s.1 == c.1))).length → E.length + (cs.filter (fun c => decide (0 ≤ c.2.2))).length = b + ((cs.drop i).filter (fun c => decide (0 ≤ c.2.2))).length →
    WP (d + 1) mMd_commit 63 [some (.ref m), some (.int x1), some (.int x2), some (.int (nI a)), some (.int (nI b)), some (.int (nI i))] [] (MM (AR M m A L) m g) z w Q := by
  obtain ⟨o1, o2, o3⟩ := ho
  intro r
  induction r with
  | zero =>
    intro i a b hi ha hb
    rw [List.drop_eq_nil_of_le (by omega)] at ha hb
    rw [sMd_commit_63]
    simp only [sMd_commit_65, rMd_commit_66, sMd_commit_69, hC.1]
    rw [if_pos (nI_le (by omega) (by omega))]
    exact K a b _ ha.symm hb.symm
  | succ r ih =>
    intro i a b hi ha hb
    have hlt : i < cs.length := by omega
    have hgi : cs[i]? = some cs[i] := List.getElem?_eq_getElem hlt
    have hmi := List.getElem_mem hlt
    have hdr : cs.drop i = cs[i] :: cs.drop (i + 1) := List.drop_eq_getElem_cons hlt
    generalize cs[i] = c at hgi hmi hdr
    obtain ⟨⟨c1, c2⟩, c3⟩ := o2 c hmi
    obtain ⟨q1, q2, q3, q4⟩ := hC.2 i c hgi
    have hrv := rv_lt c.1
    rw [hdr, List.filter_cons] at ha hb
    have hfx : nI 0 ≤ oI (fxI N (rv c.1)) ↔ N.any (fun s => s.1 == c.1) = true := by
      rw [oI_ge (fun j hj => by obtain ⟨s, -, -, q⟩ := fxI_some hj; omega), Ne, fxI_none, List.any_eq_true]
      constructor
      · intro q
        apply Classical.byContradiction
        intro q2
        refine q (fun s hs e => q2 ⟨s, hs, ?_⟩)
        rw [beq_iff_eq]
        exact rv_inj (hG s hs).1 c1.1 e
      · rintro ⟨s, hs, e⟩ q
        rw [beq_iff_eq] at e
        exact q s hs (by rw [e])
    rw [sMd_commit_63]
    simp only [sMd_commit_65, rMd_commit_66, sMd_commit_69, sMd_commit_72, sMd_commit_73, rMd_commit_74, sMd_commit_77, qMd_commit_79 (k := i) (by omega), rMd_commit_80, hC.1, q1]
    rw [if_neg (nI_ge (by omega) (by omega)), c_find (by omega) hN hl]
    simp only [sMd_commit_83, xk_i, xk_l, xk_a, xk_n, xk_0, Option.toList_some, Option.toList_none, List.cons_append, List.nil_append, hfx]
    have hnext : ∀ a' , N.length + (cs.filter (fun c => !N.any (fun s => s.1 == c.1))).length = a' + ((cs.drop (i + 1)).filter (fun c => !N.any (fun s => s.1 == c.1))).length → WP (d + 1) mMd_commit 93 [some (.ref m), some (.int x1), some (.int x2), some (.int (nI a)), some (.int (nI b)), some (.int (nI i))] [.int (nI a')] (MM (AR M m A L) m g) z w Q := by
      intro a' ha'
      simp only [sMd_commit_93, sMd_commit_94, rMd_commit_95, sMd_commit_98, qMd_commit_100 (k := i) (by omega), sMd_commit_101, xk_i, xk_l, xk_a, xk_n, xk_0, Option.toList_some, Option.toList_none, List.cons_append, List.nil_append, q2]
      by_cases hc0 : c.2.2 < 0
      · rw [if_neg (by rw [if_pos hc0]; decide)]
        simp only [sMd_commit_111, sMd_commit_113, sMd_commit_115, sMd_commit_118, xk_i, xk_l, xk_a, xk_n, xk_0, Option.toList_some, Option.toList_none, List.cons_append, List.nil_append, nI_add]
        rw [if_neg (by simp; omega)] at hb
        exact ih (i + 1) a' b (by omega) ha' hb
      · rw [if_pos (by rw [if_neg hc0])]
        simp only [sMd_commit_104, sMd_commit_106, sMd_commit_107, sMd_commit_108, sMd_commit_113, sMd_commit_115, sMd_commit_118, xk_i, xk_l, xk_a, xk_n, xk_0, Option.toList_some, Option.toList_none, List.cons_append, List.nil_append, nI_add]
        rw [if_pos (by simp; omega), List.length_cons] at hb
        exact ih (i + 1) a' (b + 1) (by omega) ha' (by omega)
    cases hany : N.any (fun s => s.1 == c.1) with
    | true =>
      rw [hany] at ha
      rw [if_pos rfl]
      simp only [sMd_commit_92]
      exact hnext a ha
    | false =>
      rw [hany] at ha
      rw [if_neg (by decide)]
      simp only [sMd_commit_86, sMd_commit_87, sMd_commit_88, sMd_commit_89, nI_add]
      refine hnext (a + 1) ?_
      rw [if_pos (show (!false) = true from rfl), List.length_cons] at ha
      omega
theorem rf_neg : ∀ j, j < 6 → ((-100 : Int32) * nI (j + 1) - nI 1 < nI 0) ∧ ((-100 : Int32) * nI (j + 1) - nI 2 < nI 0) := by decide
theorem unx_lk {l l' : List arec} (h : ∀ k, lkA l k = lkA l' k) : unx l = unx l' := by
  funext c
  unfold unx
  rw [h]
set_option maxHeartbeats 2000000 in
theorem c_Md_commit (h7 : B.length ≤ 7) (hS : StA g A B) (hT : TxR g A L tx) (hok : ∀ cs, tx = some cs → okX cs)
    (Kn : tx = none → Q (some (.int (-1))) (MM (AR M m A L) m g) z w)
    (Kd : tx ≠ none → vw B = none → ∀ g' A' L', Fr FgV FaR FlR g g' A A' L L' → Q (some (.int (-2))) (MM (AR M m A' L') m g') z w)
    (K0 : ∀ cs TT, tx = some cs → vw B = some TT → cs = [] → ∀ g' A' L', StA g' A' B → TxR g' A' L' none → Q (some (.int (nI 0))) (MM (AR M m A' L') m g') z w)
    (Ku : ∀ cs TT j, tx = some cs → vw B = some TT → cs ≠ [] → fst1 (unx (cR TT)) cs = some j → ∀ g' A' L', StA g' A' B → TxR g' A' L' none → Q (some (.int ((-100) * nI (j + 1) - nI 1))) (MM (AR M m A' L') m g') z w)
    (Kc : ∀ cs TT j, tx = some cs → vw B = some TT → cs ≠ [] → fst1 (unx (cR TT)) cs = none → fst1 (cls (cmN TT cs)) cs = some j → ∀ g' A' L', StA g' A' B → TxR g' A' L' none → Q (some (.int ((-100) * nI (j + 1) - nI 2))) (MM (AR M m A' L') m g') z w)
    (Kf : ∀ cs TT, tx = some cs → vw B = some TT → cs ≠ [] → fst1 (unx (cR TT)) cs = none → fst1 (cls (cmN TT cs)) cs = none → tooM (hgM TT + 1) TT cs → ∀ g' A' L', StA g' A' B → TxR g' A' L' none → Q (some (.int (-3))) (MM (AR M m A' L') m g') z w)
    (K1 : ∀ cs TT, tx = some cs → vw B = some TT → cs ≠ [] → fst1 (unx (cR TT)) cs = none → fst1 (cls (cmN TT cs)) cs = none → ¬ tooM (hgM TT + 1) TT cs → (serT (cmD TT cs)).length ≤ 1200 → ∀ g' A' L', StA g' A' ((cmB TT cs).map (fun p => p.1)) → TxR g' A' L' none → Q (some (.int (nI (hgM TT + 1)))) (MM (AR M m A' L') m g') z w) :
    WP (d + 7) mMd_commit 0 [some (.ref m), none, none, none, none, none] [] (MM (AR M m A L) m g) z w Q := by
  simp only [sMd_commit_0, rMd_commit_1, sMd_commit_4, sMd_commit_7, sMd_commit_8, sMd_commit_9, rMd_commit_10]
  cases tx with
  | none =>
    rw [hT.1 rfl, if_pos rfl]
    exact Kn rfl
  | some cs =>
    obtain ⟨h3, hC⟩ := hT.2 cs rfl
    have ho := hok cs rfl
    rw [h3, if_neg (by decide)]
    refine c_view (by omega) hS (fun hv g1 A1 L1 hF => ?_) (fun TT hv g1 A1 L1 hN hE h25 h26 hF => ?_)
    · simp only [sMd_commit_13, sMd_commit_16, sMd_commit_18, xk_i, xk_l, xk_a, xk_n, xk_0, Option.toList_some, Option.toList_none, List.cons_append, List.nil_append]
      rw [if_pos trivial]
      exact Kd (by simp) hv g1 A1 L1 hF
    · have hw := (vw_w hv).2.2
      have hTl := vw_len hv
      obtain ⟨v1, v2, v3⟩ := view_ok hw (by omega)
      have hEl := enT_len TT 0 hw
      have hC1 := hC.fr hF (by decide) (by decide) (by decide) (by decide) (by decide)
      have hS1 := hS.kept (hF.1 2 (by decide)) (hF.2.1 1 (by decide)) (hF.2.1 2 (by decide))
      have hux : unx (ddf [] (cR TT)) = unx (cR TT) := unx_lk (ddf_lk (cR TT))
      have hcl : fst1 (clsR (ddf [] (cR TT)) cs) cs = fst1 (cls (cmN TT cs)) cs := fst1_congr (fun c _ => cls_eq ho.2.2 c)
      simp only [sMd_commit_13, sMd_commit_16, sMd_commit_18, sMd_commit_19, rMd_commit_20, xk_i, xk_l, xk_a, xk_n, xk_0, Option.toList_some, Option.toList_none, List.cons_append, List.nil_append]
      rw [if_neg (by decide)]
      refine c_Mdrefusal (d := d) hC1 ho hN (by omega) v1 v2 ?_
      have hTn : ∀ (g2 : Nat → Int32) (A2 : Nat → Nat → Int32) (L2 : Nat → Nat → Int64), g2 3 = nI 0 → TxR g2 A2 L2 none := fun g2 A2 L2 h => ⟨fun _ => h, fun cs q => (by cases q)⟩
      have hS3 : StA (ug g1 3 (nI 0)) A1 B := hS1.kept (ug_e (by decide)) rfl rfl
      have hneg : ∀ x : Int32, x < nI 0 → Q (some (.int x)) (MM (AR M m A1 L1) m (ug g1 3 (nI 0))) z w → WP (d + 6 + 1) mMd_commit 23 [some (.ref m), none, none, none, none, none] [.int x] (MM (AR M m A1 L1) m g1) z w Q := by
        intro x hx hQ
        simp only [sMd_commit_23, sMd_commit_24, sMd_commit_25, sMd_commit_35, sMd_commit_36, rMd_commit_37 xb0, rMd_commit_37 xb1, sMd_commit_40, sMd_commit_41, xk_i, xk_l, xk_a, xk_n, xk_0, Option.toList_some, Option.toList_none, List.cons_append, List.nil_append]
        rw [if_pos hx]
        exact hQ
      simp only [xk_i, xk_l, xk_a, xk_n, xk_0, Option.toList_some, Option.toList_none, List.cons_append, List.nil_append]
      unfold rfV
      rw [hux, hcl]
      by_cases hcs : cs = []
      · subst hcs
        have e1 : fst1 (unx (cR TT)) [] = none := rfl
        have e2 : fst1 (cls (cmN TT [])) [] = none := rfl
        rw [e1]
        dsimp only
        rw [e2]
        have h4 : g1 4 = nI 0 := hC1.1
        simp only [sMd_commit_23, sMd_commit_24, sMd_commit_25, sMd_commit_28, rMd_commit_29, sMd_commit_32, sMd_commit_35, sMd_commit_36, rMd_commit_37 xb0, rMd_commit_37 xb1, sMd_commit_40, sMd_commit_41, xk_i, xk_l, xk_a, xk_n, xk_0, Option.toList_some, Option.toList_none, List.cons_append, List.nil_append, h4]
        rw [if_neg (by decide), if_pos trivial]
        exact K0 [] TT rfl hv rfl _ A1 L1 hS3 (hTn _ _ _ ug_s)
      · cases hu : fst1 (unx (cR TT)) cs with
        | some j =>
          dsimp only
          have hj := fst1_lt hu
          have ho1 := ho.1
          exact hneg _ (rf_neg j (by omega)).1 (Ku cs TT j rfl hv hcs hu _ A1 L1 hS3 (hTn _ _ _ ug_s))
        | none =>
          dsimp only
          cases hc : fst1 (cls (cmN TT cs)) cs with
          | some j =>
            dsimp only
            have hj := fst1_lt hc
            have ho1 := ho.1
            exact hneg _ (rf_neg j (by omega)).2 (Kc cs TT j rfl hv hcs hu hc _ A1 L1 hS3 (hTn _ _ _ ug_s))
          | none =>
            dsimp only
            have hne : cs.length ≠ 0 := fun q => hcs (List.length_eq_zero_iff.mp q)
            have ho1 := ho.1
            have hhg : mxT 0 TT = hgM TT := mxT_hg
            have hhl : hgM TT ≤ 2000 := by
              rw [← hhg]
              exact mxT_f.2.2 _ (by omega) (fun p hp => (hw p hp).1.2.2.1)
            rw [hhg] at h26
            simp only [sMd_commit_23, sMd_commit_24, sMd_commit_25, sMd_commit_28, rMd_commit_29, sMd_commit_32, sMd_commit_35, sMd_commit_36, rMd_commit_37 xb0, rMd_commit_37 xb1, sMd_commit_40, sMd_commit_41, sMd_commit_42, rMd_commit_43, sMd_commit_46, sMd_commit_47, sMd_commit_48, sMd_commit_49, rMd_commit_50, sMd_commit_53, sMd_commit_54, rMd_commit_55, sMd_commit_58, sMd_commit_60, sMd_commit_61, xk_i, xk_l, xk_a, xk_n, xk_0, Option.toList_some, Option.toList_none, List.cons_append, List.nil_append, hC1.1, h26, hN.1, hE.1, nI_add, nI_eq (a := cs.length) (b := 0) (by omega) (by omega)]
            rw [if_neg (by decide), if_neg hne]
            refine cnt_loop (d := d + 6) (E := enT 0 TT) hC1 ho hN (by omega) v1 (fun a b x ha hb => ?_) cs.length 0 _ _ (by omega) (by rw [List.drop_zero]) (by rw [List.drop_zero])
            have hcn := cnt_new (TT := TT) (now := hgM TT + 1) ho.2.2
            have hcu := cnt_upd (l := cR TT) (now := hgM TT + 1) ho.2.2
            have hEt : (enT 0 TT).length = nE TT := by rw [nE_len, ← enT_fst TT 0, List.length_map]
            rw [← hcn] at ha
            rw [hEt, ← hcu] at hb
            have hal : a ≤ 300 := by
              rw [ha, hcn]
              have := List.length_filter_le (fun c : achg => !(ddf [] (cR TT)).any (fun s => s.1 == c.1)) cs
              omega
            have hbl : b ≤ 400 := by
              rw [hb, ← hEt, hcu]
              have := List.length_filter_le (fun c : achg => decide (0 ≤ c.2.2)) cs
              omega
            simp only [sMd_commit_121, sMd_commit_122, rMd_commit_123 xb0, rMd_commit_123 xb1, sMd_commit_126, sMd_commit_127, sMd_commit_129, sMd_commit_132, sMd_commit_134, sMd_commit_136, sMd_commit_139, sMd_commit_140, sMd_commit_143, sMd_commit_146, sMd_commit_148, nI_ltI (a := 16) (b := a) (by omega) (by omega), nI_ltI (a := 24) (b := b) (by omega) (by omega), nI_leI (a := hgM TT + 1) (b := 2000) (by omega) (by omega)]
            have hfull : tooM (hgM TT + 1) TT cs → Q (some (.int (-3))) (MM (AR M m A1 L1) m (ug g1 3 (nI 0))) z w := fun h => Kf cs TT rfl hv hcs hu hc h _ A1 L1 hS3 (hTn _ _ _ ug_s)
            by_cases h16 : 16 < a
            · rw [if_pos h16]
              simp only [sMd_commit_156]
              exact hfull (Or.inr (Or.inl (by rw [← ha]; exact h16)))
            · rw [if_neg h16]
              by_cases h24 : 24 < b
              · rw [if_pos h24]
                simp only [sMd_commit_156]
                exact hfull (Or.inr (Or.inr (by rw [← hb]; exact h24)))
              · rw [if_neg h24]
                by_cases h20 : hgM TT + 1 ≤ 2000
                · rw [if_pos h20]
                  simp only [sMd_commit_151, sMd_commit_152, rMd_commit_153]
                  have hnt : ¬ tooM (hgM TT + 1) TT cs := by
                    rintro (q | q | q)
                    · omega
                    · rw [← ha] at q; omega
                    · rw [← hb] at q; omega
                  have hlk : ∀ r ∈ cR TT, r.2.2 ≤ 65535 := by
                    intro r hr
                    obtain ⟨p, hp, hm⟩ := mem_cR.mp hr
                    have := ((hw p hp).1.2.2.2.2.2.1 r hm).2.2.2.ok.1
                    omega
                  have hw0 : wT0 (cmD TT cs) := drT_w (by omega) h20 (fun c hc => (ho.2.1 c hc).1) hlk
                  have hRl : (cmD TT cs).2.2.1.length ≤ 6 := by
                    show (mG kR (cs.map (crec (hgM TT + 1)))).length ≤ 6
                    have := mG_len (f := kR) (l := cs.map (crec (hgM TT + 1)))
                    rw [List.length_map] at this
                    omega
                  have hEl2 : (cmD TT cs).2.2.2.length ≤ 6 := by
                    show (drT (hgM TT + 1) (cR TT) cs).2.2.2.length ≤ 6
                    rw [hcu]
                    have := List.length_filter_le (fun c : achg => decide (0 ≤ c.2.2)) cs
                    omega
                  have hfit : fitT (cmD TT cs) := ⟨by omega, by omega, ser_fits hw0 (by omega) (by omega)⟩
                  have hmd : mdOk (serT (cmD TT cs), cmD TT cs) TT.reverse := by
                    refine mdOk_of _ _ (fun y hy => ?_) ?_ ?_
                    · rw [List.mem_cons, List.mem_reverse] at hy
                      rcases hy with e | hy
                      · rw [e]; exact hw0
                      · exact (hw y hy).1
                    · have e : pR ((serT (cmD TT cs), cmD TT cs) :: TT.reverse) = dRc (hgM TT + 1) cs ++ cR TT := by
                        unfold pR cR
                        rw [List.flatMap_cons]
                        rfl
                      rw [e, ← ha]
                      omega
                    · have e : pE ((serT (cmD TT cs), cmD TT cs) :: TT.reverse) = (cmD TT cs).2.2.2 ++ cE TT := by
                        unfold pE cE
                        rw [List.flatMap_cons]
                      have e2 : b = (cE TT).length + (cmD TT cs).2.2.2.length := by
                        rw [hb, nE_len]
                        rfl
                      rw [e, List.length_append]
                      omega
                  have hFu : Fr [3] [] [] g1 (ug g1 3 (nI 0)) A1 A1 L1 L1 := Fr.ug (by decide)
                  refine c_store (d := d) hv h7 ho h20 hS3 (hC1.fr hFu (by decide) (by decide) (by decide) (by decide) (by decide)) (hN.kept hFu (by decide) (by decide) (by decide) (by decide) (by decide)) hfit hmd (fun g2 A2 L2 hS2 hF2 => ?_)
                  simp only [sMd_commit_156, xk_i, xk_l, xk_a, xk_n, xk_0, Option.toList_some, Option.toList_none, List.cons_append, List.nil_append]
                  exact K1 cs TT rfl hv hcs hu hc hnt hfit.2.2 g2 A2 L2 hS2 (hTn _ _ _ ((hF2.1 3 (by decide)).trans ug_s))
                · rw [if_neg h20]
                  simp only [sMd_commit_156]
                  exact hfull (Or.inl (by omega))
end MCo
