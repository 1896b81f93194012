/-! RefStack$TableStack: draft, pushDraft -/
section PSH
variable {d s h : Nat} {L : List (Nat × tS)} {M : xM} {z w : Nat} {Q : Option Value → xM → Nat → Nat → Prop}
def okc (c : achg) : Prop := GK c.1 ∧ wC c.2.2
theorem insR_len {α : Type} {f : α → Nat} {x : α} : ∀ {l : List α}, (insR f x l).length ≤ l.length + 1
  | [] => Nat.le_refl _
  | y :: t => by
    unfold insR
    split
    · exact Nat.le_refl _
    · split
      · simp
      · rw [List.length_cons, List.length_cons]; have := insR_len (f := f) (x := x) (l := t); omega
theorem mG_len {α : Type} {f : α → Nat} : ∀ {l : List α}, (mG f l).length ≤ l.length
  | [] => Nat.le_refl _
  | y :: t => by rw [mG_cons, List.length_cons]; have := insR_len (f := f) (x := y) (l := mG f t); have := mG_len (f := f) (l := t); omega
set_option maxHeartbeats 2000000 in
theorem draft_loop {t now tx : Nat} {bs : List Nat} {wf op : Bool} {cs : List achg} {l : List arec} {M0 : xM} {x5 : Int32} (hx : tx < s ∨ (s + 9 ≤ tx ∧ tx + 4 ≤ s + 31)) (hh : h < L.length) (hok : ∀ c ∈ cs, okc c) (hl : yR (L.take h) = l.map rawR) (hlk : ∀ r ∈ l, r.1 < 2 ^ 60 ∧ okC r.2.2 ∧ r.2.2 ≤ 65535)
    (K : ∀ M', SkAt M' s h (mk1 L h t bs (nI now) (nI now) wf ((dRc now cs).map rawR) ((dEn now l (dRc now cs)).map rawE)) z → OnlyS M0 M' s → Q (some (.int (nI 1))) M' z w) :
    ∀ (P : List arec) (i v : Nat) (b : Option Nat) (M : xM) (A : List arec) (x6 x8 x10 : Option Value), fabI cs v cs.length b → P = abv kR (cs.map (crec now)) v → dRc now cs = A ++ P → i + P.length ≤ 6 → A.length ≤ i → SkAt M s h (mk1 L h t bs (nI now) (nI now) wf (A.map rawR) ((dEn now l A).map rawE)) z → TxAt M tx op cs → OnlyS M0 M s →
    WP (d + 3) mTs_draft 45 [some (.ref s), some (.ref tx), some (.int (nI now)), some (.ref t), some (.int (oI b)), some (.int (nI i)), x6, none, x8, none, x10] [] M z w Q := by
  intro P
  induction P with
  | nil =>
    intro i v b M A x6 x8 x10 hb hP hD hi hA hS hX hO
    rcases fab_abv (now := now) hb with ⟨rfl, h0⟩ | ⟨j, c, rfl, hj, hc, h0⟩
    · rw [sTs_draft_45]
      simp only [sTs_draft_47, sTs_draft_49, sTs_draft_52, sTs_draft_54, sTs_draft_141, sTs_draft_142 xb0, sTs_draft_142 xb1, oI]
      have fin : Q (some (.int (nI 1))) M z w := by
        rw [List.append_nil] at hD
        rw [← hD] at hS
        exact K M hS hO
      by_cases h6 : 6 ≤ i
      · rw [if_pos (nI_le h6 (by simp at hi; omega))]; exact fin
      · rw [if_neg (nI_ge (by omega) (by omega)), if_pos (by decide)]; exact fin
    · rw [h0] at hP; cases hP
  | cons x P ih =>
    intro i v b M A x6 x8 x10 hb hP hD hi hA hS hX hO
    rcases fab_abv (now := now) hb with ⟨rfl, h0⟩ | ⟨j, c, rfl, hj, hc, h0⟩
    · rw [h0] at hP; cases hP
    · rw [h0] at hP
      simp only [List.cons.injEq] at hP
      obtain ⟨rfl, hP2⟩ := hP
      have hX0 := hX
      obtain ⟨t1, t2, kl, el, cl, t3, t4, t5, t6, t7, t8, t9⟩ := hX0
      obtain ⟨q1, q2, q3⟩ := t9 j c hc
      have okk := hok c (List.mem_of_getElem? hc)
      have hgk := okk.1
      have hk60 := hgk.1
      have hwc := okk.2
      have hok2 := hwc.ok
      have tj := nI_toInt (n := j) (by omega)
      simp only [List.length_cons] at hi
      have hTt := hS.tab (i := h) (e := (t, bs, nI now, nI now, wf, A.map rawR, (dEn now l A).map rawE)) (List.getElem?_set_self hh)
      have hloc := hS.2.2.2.2.2.2.2.1 h (t, bs, nI now, nI now, wf, A.map rawR, (dEn now l A).map rawE) (List.getElem?_set_self hh)
      have htc := hTt.cell
      have hAl : (A.map rawR).length < 30 := by rw [List.length_map]; omega
      have hEl : ((dEn now l A).map rawE).length < 40 := by
        rw [List.length_map]
        unfold dEn
        rw [List.length_map]
        have := List.length_filter_le (fun r : arec => decide (0 ≤ r.2.2)) A
        omega
      rw [sTs_draft_45]
      simp only [sTs_draft_47, sTs_draft_49, sTs_draft_52, sTs_draft_54, sTs_draft_57, sTs_draft_58 t2 rfl, sTs_draft_61, oI]
      rw [if_neg (nI_ge (by omega) (by omega)), if_neg (nI_nlt (by omega) (by omega)), sTs_draft_63 t6 tj (v := .long (lN c.1)) (by simp [q1])]
      simp only [sTs_draft_64, sTs_draft_66, sTs_draft_67 t2 rfl, sTs_draft_70, xk_i, xk_l, xk_a, xk_n, xk_0, Option.toList_some, Option.toList_none, List.cons_append, List.nil_append]
      rw [sTs_draft_72 t8 tj (v := .long (rawC c.2.2)) (by simp [q3])]
      simp only [sTs_draft_73, sTs_draft_75, sTs_draft_76 htc rfl, sTs_draft_79, sTs_draft_81, sTs_draft_82, xk_i, xk_l, xk_a, xk_n, xk_0, Option.toList_some, Option.toList_none, List.cons_append, List.nil_append]
      rw [sTs_draft_84 hTt.recs.cell]
      refine c_rows_add hTt.recs (by omega) hAl (fun M2 hR2 hOr => ?_)
      have hO10 : Only M M2 t 10 := fun q hq => hOr q (by omega)
      have hS2 : SkAt M2 s h (mk1 L h t bs (nI now) (nI now) wf ((A ++ [crec now c]).map rawR) ((dEn now l A).map rawE)) z := by
        have := hS.setT (i := h) (List.getElem?_set_self hh) (hTt.putR hR2 hOr) hO10
        rw [List.set_set] at this
        rw [List.map_append]
        exact this
      have hX2 : TxAt M2 tx op cs := hX.kept (fun q a b => hO10 q (by omega))
      have hO2 : OnlyS M0 M2 s := hO.trans (fun q hq => hO10 q (by omega))
      have hneg := rawC_lt0 hok2
      simp only [sTs_draft_87, sTs_draft_88, sTs_draft_90, sTs_draft_91, sTs_draft_92, sTs_draft_95, sTs_draft_96, xk_i, xk_l, xk_a, xk_n, xk_0, Option.toList_some, Option.toList_none, List.cons_append, List.nil_append, lcmp_eq, lcmp_lt, lcmp_ge, lcmp_gt, lcmp_le, hneg]
      have nxt : ∀ (M3 : xM) (y10 : Option Value), (y10 = x10 ∨ ∃ v, y10 = some (.int v)) → SkAt M3 s h (mk1 L h t bs (nI now) (nI now) wf ((A ++ [crec now c]).map rawR) ((dEn now l (A ++ [crec now c])).map rawE)) z → TxAt M3 tx op cs → OnlyS M0 M3 s →
          WP (d + 3) mTs_draft 127 [some (.ref s), some (.ref tx), some (.int (nI now)), some (.ref t), some (.int (nI j)), some (.int (nI i)), some (.long (lN c.1)), none, some (.long (rawC c.2.2)), none, y10] [] M3 z w Q := by
        intro M3 y10 _ hS3 hX3 hO3
        simp only [sTs_draft_127, sTs_draft_128]
        rw [sTs_draft_130 hX3.2.1]
        refine c_firstAbove hX3 hk60 (fun c' hc' => (hok c' hc').1.1) (fun b' hb' => ?_)
        simp only [sTs_draft_133, sTs_draft_135, sTs_draft_138, xk_i, xk_l, xk_a, xk_n, xk_0, Option.toList_some, Option.toList_none, List.cons_append, List.nil_append, nI_add]
        exact ih (i + 1) c.1 b' M3 (A ++ [crec now c]) _ _ _ hb' hP2 (by rw [hD, List.append_assoc]; rfl) (by omega) (by simp; omega) hS3 hX3 hO3
      by_cases hcn : c.2.2 < 0
      · rw [if_pos hcn]
        refine nxt M2 x10 (Or.inl rfl) ?_ hX2 hO2
        have : dEn now l (A ++ [crec now c]) = dEn now l A := by
          unfold dEn
          rw [List.filter_append, List.filter_cons_of_neg (a := crec now c) (by show ¬ decide (0 ≤ c.2.2) = true; simp only [decide_eq_true_eq]; omega)]
          simp
        rw [this]
        exact hS2
      · rw [if_neg hcn, sTs_draft_98 hS2.1, c_contentOf hS2]
        have hyl : ((mk1 L h t bs (nI now) (nI now) wf ((A ++ [crec now c]).map rawR) ((dEn now l A).map rawE)).take h).reverse.flatMap (fun e => e.2.2.2.2.2.1) = l.map rawR := by rw [tk_set]; exact hl
        rw [hyl, lk_raw hk60 (fun r hr => (hlk r hr).1)]
        have hcl : okC (lkA l c.1) ∧ lkA l c.1 ≤ 65535 := by
          unfold lkA
          cases hf : l.find? (fun r => r.1 == c.1) with
          | none => exact ⟨⟨by decide, by decide⟩, by decide⟩
          | some r => exact ⟨(hlk r (List.mem_of_find?_eq_some hf)).2.1, (hlk r (List.mem_of_find?_eq_some hf)).2.2⟩
        have htc2 := (hS2.tab (i := h) (e := (t, bs, nI now, nI now, wf, (A ++ [crec now c]).map rawR, (dEn now l A).map rawE)) (List.getElem?_set_self hh))
        have hcc2 := htc2.cell
        have e1 : (rawC c.2.2).toInt32 = nI c.2.2.toNat := by unfold rawC; rw [if_pos (by omega), lN_i]
        simp only [sTs_draft_101, sTs_draft_102, sTs_draft_105, sTs_draft_106, sTs_draft_108, sTs_draft_109 hcc2 rfl, sTs_draft_112, sTs_draft_114, sTs_draft_115, sTs_draft_117, sTs_draft_119, xk_i, xk_l, xk_a, xk_n, xk_0, Option.toList_some, Option.toList_none, List.cons_append, List.nil_append, rawC_max hcl.1, lN_i, e1]
        have hc16 : c.2.2.toNat < 65536 := by rcases hwc with q | q | q <;> omega
        rw [sTs_draft_120, c_valueOf, valOf_nI (by omega) hc16]
        simp only [xk_i, xk_l, xk_a, xk_n, xk_0, Option.toList_some, Option.toList_none, List.cons_append, List.nil_append]
        rw [sTs_draft_123 htc2.ents.cell]
        refine c_rows_add htc2.ents (by omega) hEl (fun M3 hR3 hOr3 => ?_)
        have hO13 : Only M2 M3 t 10 := fun q hq => hOr3 q (by omega)
        simp only [sTs_draft_126, xk_i, xk_l, xk_a, xk_n, xk_0, Option.toList_some, Option.toList_none, List.cons_append, List.nil_append]
        refine nxt M3 _ (Or.inr ⟨_, rfl⟩) ?_ (hX2.kept (fun q a b => hO13 q (by omega))) (hO2.trans (fun q hq => hO13 q (by omega)))
        have := hS2.setT (i := h) (List.getElem?_set_self hh) (htc2.putE hR3 hOr3) hO13
        rw [List.set_set] at this
        have e2 : dEn now l (A ++ [crec now c]) = dEn now l A ++ [(c.1, now, (lkA l c.1).toNat, c.2.2.toNat)] := by
          unfold dEn
          rw [List.filter_append, List.filter_cons_of_pos (a := crec now c) (by show decide (0 ≤ c.2.2) = true; simp only [decide_eq_true_eq]; omega), List.map_append]
          rfl
        have e3 : (dEn now l A ++ [(c.1, now, (lkA l c.1).toNat, c.2.2.toNat)]).map rawE = (dEn now l A).map rawE ++ [rawE (c.1, now, (lkA l c.1).toNat, c.2.2.toNat)] := List.map_append
        rw [e2, e3]
        exact this
theorem c_draft {tx now : Nat} {op : Bool} {cs : List achg} {TT : List ptab} (hx : tx < s ∨ (s + 9 ≤ tx ∧ tx + 4 ≤ s + 31)) (hx2 : tx + 4 ≤ s ∨ s ≤ tx) (hS : SkAt M s h L z) (hX : TxAt M tx op cs) (hz : s + 31 ≤ z) (h8 : h < 8) (hok : ∀ c ∈ cs, okc c) (hT : (L.take h).map (fun e => e.2) = TT.map rawP) (hw : ∀ p ∈ TT, wT0 p.2) (hnow : now = hgM TT + 1)
    (K : ∀ M' L' e bs wf, SkAt M' s h L' (z + 10 * (L'.length - L.length)) → L'[h]? = some (e, bs, nI now, nI now, wf, (dRc now cs).map rawR, (dEn now (cR TT) (dRc now cs)).map rawE) → L'.take h = L.take h → L.length ≤ L'.length → OnlyS M M' s → Q (some (.int (nI 1))) M' (z + 10 * (L'.length - L.length)) (w + 1427 * (L'.length - L.length))) :
    WP (d + 4) mTs_draft 0 [some (.ref s), some (.ref tx), none, none, none, none, none, none, none, none, none] [] M z w Q := by
  have k1 := hS.1
  simp only [sTs_draft_0, sTs_draft_1 k1 rfl, sTs_draft_4, sTs_draft_5, sTs_draft_6, sTs_draft_8, sTs_draft_11, sTs_draft_12 xb0, sTs_draft_12 xb1, sTs_draft_13, nI_add]
  rw [if_pos (nI_lt (by omega) (by omega)), sTs_draft_14 k1, c_latestTime hS, hg_raw hw (by omega) hT]
  rw [show TT.foldl (fun m p => max m p.2.2.1) 0 = hgM TT from rfl]
  simp only [sTs_draft_17, sTs_draft_18, sTs_draft_19, sTs_draft_20, sTs_draft_21, sTs_draft_22 k1 rfl, xk_i, xk_l, xk_a, xk_n, xk_0, Option.toList_some, Option.toList_none, List.cons_append, List.nil_append, nI_add]
  rw [← hnow, sTs_draft_25 k1]
  refine c_tableIn_h (d := d) hS (by omega) hz (fun M1 L1 e hS1 he htk hll hO1 => ?_)
  have hh1 := (List.getElem?_eq_some_iff.mp he).1
  have hloc := hS1.2.2.2.2.2.2.2.1 h e he
  have hT1 := hS1.tab he
  simp only [sTs_draft_28, sTs_draft_29, sTs_draft_30, sTs_draft_31, xk_i, xk_l, xk_a, xk_n, xk_0, Option.toList_some, Option.toList_none, List.cons_append, List.nil_append]
  rw [sTs_draft_32 hT1.cell]
  refine c_clearRows hT1 (fun M2 hT2 hO2 => ?_)
  have hS2 := hS1.setT (b := (e.2.1, nI now, nI now, e.2.2.2.2.1, [], [])) he hT2 hO2
  have hX2 : TxAt M2 tx op cs := hX.kept (fun q a b => by rw [hO2 q (by omega), hO1 q (by omega)])
  have hyR : yR (L1.take h) = (cR TT).map rawR := by rw [htk]; exact yR_raw hT
  simp only [sTs_draft_35, sTs_draft_36, xk_i, xk_l, xk_a, xk_n, xk_0, Option.toList_some, Option.toList_none, List.cons_append, List.nil_append]
  rw [sTs_draft_37 hX2.2.1]
  refine c_firstAbove hX2 (by omega) (fun c' hc' => (hok c' hc').1.1) (fun b hb => ?_)
  simp only [sTs_draft_40, sTs_draft_42, sTs_draft_43, xk_i, xk_l, xk_a, xk_n, xk_0, Option.toList_some, Option.toList_none, List.cons_append, List.nil_append]
  have hpos : ∀ x ∈ cs.map (crec now), 0 < kR x := by
    intro x hx
    obtain ⟨c, hc, rfl⟩ := List.mem_map.mp hx
    exact (hok c hc).1.pos
  have hab := abv_0 (f := kR) hpos
  have hcl : cs.length ≤ 6 := hX.1
  refine draft_loop (d := d + 1) (bs := e.2.1) (wf := e.2.2.2.2.1) (t := e.1) (now := now) (tx := tx) (L := L1) (l := cR TT) (M0 := M) (x5 := 0) hx hh1 hok hyR (fun r hr => ?_) (fun M3 hS3 hO3 => ?_) _ 0 0 b M2 [] _ _ _ hb rfl ?_ ?_ (by simp) ?_ hX2 ?_
  · obtain ⟨p, hp, hm⟩ := mem_cR.mp hr
    have := (hw p hp).2.2.2.2.2.1 r hm
    exact ⟨this.1.1, this.2.2.2.ok, by rcases this.2.2.2 with q | q | q <;> omega⟩
  · have := K M3 (mk1 L1 h e.1 e.2.1 (nI now) (nI now) e.2.2.2.2.1 ((dRc now cs).map rawR) ((dEn now (cR TT) (dRc now cs)).map rawE)) e.1 e.2.1 e.2.2.2.2.1
    rw [List.length_set, tk_set] at this
    exact this hS3 (List.getElem?_set_self hh1) htk hll hO3
  · unfold dRc
    rw [hab]; rfl
  · rw [hab]
    have := mG_len (f := kR) (l := cs.map (crec now))
    rw [List.length_map] at this
    omega
  · exact hS2
  · exact hO1.trans (fun q hq => hO2 q (by omega))
theorem yR_snoc {l : List (Nat × tS)} {x : Nat × tS} : yR (l ++ [x]) = x.2.2.2.2.2.1 ++ yR l := by
  unfold yR
  rw [List.reverse_append, List.flatMap_append]
  simp
theorem tk_snoc {x : Nat × tS} (hx : L[h]? = some x) : L.take (h + 1) = L.take h ++ [x] := by
  obtain ⟨h1, h2⟩ := List.getElem?_eq_some_iff.mp hx
  rw [List.take_succ_eq_append_getElem h1, h2]
/-- what a commit asks of a draft -/
def drT (now : Nat) (l : List arec) (cs : List achg) : atab := (now, now, dRc now cs, dEn now l (dRc now cs))
def nE (TT : List ptab) : Nat := TT.foldl (fun m p => m + p.2.2.2.2.length) 0
def tooM (now : Nat) (TT : List ptab) (cs : List achg) : Prop := 2000 < now ∨ 16 < (mG kR (dRc now cs ++ cR TT)).length ∨ 24 < nE TT + (drT now (cR TT) cs).2.2.2.length
theorem drT_w {now : Nat} {l : List arec} {cs : List achg} (h1 : 1 ≤ now) (h2 : now ≤ 2000) (hok : ∀ c ∈ cs, okc c) (hl : ∀ r ∈ l, r.2.2 ≤ 65535) : wT0 (drT now l cs) := by
  have hsR : sT kR (dRc now cs) := mG_sT _
  have hcr : ∀ r ∈ dRc now cs, ∃ c ∈ cs, r = crec now c := by
    intro r hr
    obtain ⟨c, hc, rfl⟩ := List.mem_map.mp (mG_sub hr)
    exact ⟨c, hc, rfl⟩
  refine ⟨h1, Nat.le_refl _, h2, hsR, ?_, fun r hr => ?_, fun e he => ?_⟩
  · show sT ek (dEn now l (dRc now cs))
    unfold dEn
    refine List.pairwise_map.mpr (List.Pairwise.imp (fun {a b} hab => ?_) (List.Pairwise.filter _ hsR))
    have : a.1 < b.1 := hab
    show a.1 * 2 ^ 32 + (2 ^ 32 - 1 - now) < b.1 * 2 ^ 32 + (2 ^ 32 - 1 - now)
    omega
  · obtain ⟨c, hc, rfl⟩ := hcr r hr
    exact ⟨(hok c hc).1, Nat.le_refl _, Nat.le_refl _, (hok c hc).2⟩
  · obtain ⟨r, hr, rfl⟩ := List.mem_map.mp he
    obtain ⟨hr1, hr2⟩ := List.mem_filter.mp hr
    obtain ⟨c, hc, rfl⟩ := hcr r hr1
    refine ⟨(hok c hc).1, Nat.le_refl _, Nat.le_refl _, ?_, ?_⟩
    · show (lkA l c.1).toNat ≤ 65535
      unfold lkA
      cases hf : l.find? (fun r => r.1 == c.1) with
      | none => decide
      | some r => have := hl r (List.mem_of_find?_eq_some hf); simp only [Option.map_some, Option.getD_some]; omega
    · show c.2.2.toNat ≤ 65535
      rcases (hok c hc).2 with q | q | q <;> omega
set_option maxHeartbeats 1000000 in
theorem c_pushDraft {e now : Nat} {bs : List Nat} {wf : Bool} {cs : List achg} {TT : List ptab} (hS : SkAt M s h L z) (h8 : h < 8) (hok : ∀ c ∈ cs, okc c) (hcs : cs.length ≤ 6) (hT : (L.take h).map (fun e => e.2) = TT.map rawP) (hw : ∀ p ∈ TT, wT p.2) (hnow : now = hgM TT + 1)
    (he : L[h]? = some (e, bs, nI now, nI now, wf, (dRc now cs).map rawR, (dEn now (cR TT) (dRc now cs)).map rawE))
    (K0 : (tooM now TT cs ∨ ¬ (serT (drT now (cR TT) cs)).length ≤ 1200) → ∀ M' b, SkAt M' s h (L.set h (e, b)) z → OnlyS M M' s → Q (some (.int (nI 0))) M' z w)
    (K1 : ¬ tooM now TT cs → (serT (drT now (cR TT) cs)).length ≤ 1200 → ∀ M', SkAt M' s (h + 1) (L.set h (e, rawT (serT (drT now (cR TT) cs)) (drT now (cR TT) cs))) z → OnlyS M M' s → Q (some (.int (nI 1))) M' z w) :
    WP (d + 4) mTs_pushDraft 0 [some (.ref s)] [] M z w Q := by
  have k1 := hS.1
  have hh1 := (List.getElem?_eq_some_iff.mp he).1
  have hc := (hS.tab he).cell
  have hw0 : ∀ p ∈ TT, wT0 p.2 := fun p hp => (hw p hp).1
  have hnow2 : now ≤ 2001 := by
    have := (fold_max (l := TT) (m := 0)).2.2 2000 (by omega) (fun p hp => (hw0 p hp).2.2.1)
    unfold hgM at hnow
    omega
  have hset : L.set h (e, bs, nI now, nI now, wf, (dRc now cs).map rawR, (dEn now (cR TT) (dRc now cs)).map rawE) = L := by
    apply List.ext_getElem?
    intro n
    rw [List.getElem?_set]
    by_cases hn : h = n
    · subst hn; rw [if_pos rfl, if_pos hh1, he]
    · rw [if_neg hn]
  have hS' : SkAt M s h (L.set h (e, bs, nI now, nI now, wf, (dRc now cs).map rawR, (dEn now (cR TT) (dRc now cs)).map rawE)) z := by rw [hset]; exact hS
  simp only [sTs_pushDraft_0, sTs_pushDraft_1, sTs_pushDraft_2 k1 rfl]
  rw [sTs_pushDraft_5 k1, c_tableIn hS he]
  simp only [sTs_pushDraft_8 hc rfl, sTs_pushDraft_11, sTs_pushDraft_14, sTs_pushDraft_17, sTs_pushDraft_24, sTs_pushDraft_25 xb0, sTs_pushDraft_25 xb1, xk_i, xk_l, xk_a, xk_n, xk_0, Option.toList_some, Option.toList_none, List.cons_append, List.nil_append]
  by_cases h2 : 2000 < now
  · rw [if_pos (nI_lt h2 (by omega))]
    exact K0 (Or.inl (Or.inl h2)) M _ hS' OnlyS.rf
  · rw [if_neg (nI_nlt (by omega) (by omega)), sTs_pushDraft_18 k1]
    have hlr : ∀ r ∈ cR TT, r.2.2 ≤ 65535 := by
      intro r hr
      obtain ⟨p, hp, hm⟩ := mem_cR.mp hr
      rcases ((hw0 p hp).2.2.2.2.2.1 r hm).2.2.2 with q | q | q <;> omega
    have hD := drT_w (now := now) (l := cR TT) (cs := cs) (by omega) (by omega) hok hlr
    have htk := tk_snoc he
    have hokD : okL (L.take (h + 1)) := by
      rw [htk]
      intro x hx
      rcases List.mem_append.mp hx with q | q
      · exact ok_raw hw0 hT x q
      · have : okL [(e, rawT (serT (drT now (cR TT) cs)) (drT now (cR TT) cs))] := ok_raw (T2 := [(serT (drT now (cR TT) cs), drT now (cR TT) cs)]) (fun p hp => by rw [List.mem_singleton.mp hp]; exact hD) rfl
        have := this _ (List.mem_singleton.mpr rfl)
        rw [List.mem_singleton.mp q]
        exact this
    have hyR : yR (L.take (h + 1)) = (dRc now cs ++ cR TT).map rawR := by
      rw [htk, yR_snoc, yR_raw hT, List.map_append]
    have hlt : ∀ r ∈ dRc now cs ++ cR TT, r.1 < 2 ^ 60 := by
      intro r hr
      rcases List.mem_append.mp hr with q | q
      · exact (hD.2.2.2.2.2.1 r q).1.1
      · exact cR_lt hw0 r q
    have hen : (L.take (h + 1)).foldl (fun m e => m + e.2.2.2.2.2.2.length) 0 = nE TT + (drT now (cR TT) cs).2.2.2.length := by
      rw [htk, List.foldl_append, en_raw hT]
      show _ + ((dEn now (cR TT) (dRc now cs)).map rawE).length = _
      rw [List.length_map]
      rfl
    have hdl : (dRc now cs).length ≤ 6 := by
      have := mG_len (f := kR) (l := cs.map (crec now))
      rw [List.length_map] at this
      unfold dRc
      omega
    have hel : (drT now (cR TT) cs).2.2.2.length ≤ 6 := by
      show (dEn now (cR TT) (dRc now cs)).length ≤ 6
      unfold dEn
      rw [List.length_map]
      exact Nat.le_trans (List.length_filter_le _ _) hdl
    have hne : nE TT ≤ 40 * TT.length := by
      have : ∀ (l : List ptab) (m : Nat), (∀ p ∈ l, wT p.2) → l.foldl (fun m p => m + p.2.2.2.2.length) m ≤ m + 40 * l.length := by
        intro l
        induction l with
        | nil => intro m _; simp
        | cons a t ih =>
          intro m hl
          have h1 := (hl a List.mem_cons_self).2.2
          have h2 := ih (m + a.2.2.2.2.length) (fun p hp => hl p (List.mem_cons_of_mem _ hp))
          rw [List.foldl_cons, List.length_cons]
          omega
      have := this TT 0 hw
      unfold nE
      omega
    have hTl : TT.length = h := by
      have := congrArg List.length hT
      simp only [List.length_map, List.length_take] at this
      have := hS.2.2.2.2.2.2.1
      omega
    refine c_draftIsTooMuch (d := d) hS (by omega) hokD (by rw [hen]; omega) (fun M1 hS1 hO1 => ?_)
    have hO1' : OnlyS M M1 s := fun q hq => hO1 q (by omega)
    have hS1' : SkAt M1 s h (L.set h (e, bs, nI now, nI now, wf, (dRc now cs).map rawR, (dEn now (cR TT) (dRc now cs)).map rawE)) z := by rw [hset]; exact hS1
    rw [hyR, mG_R hlt, List.length_map, hen]
    simp only [sTs_pushDraft_21, sTs_pushDraft_24, sTs_pushDraft_25 xb0, sTs_pushDraft_25 xb1, xk_i, xk_l, xk_a, xk_n, xk_0, Option.toList_some, Option.toList_none, List.cons_append, List.nil_append]
    by_cases h3 : 16 < (mG kR (dRc now cs ++ cR TT)).length ∨ 24 < nE TT + (drT now (cR TT) cs).2.2.2.length
    · rw [if_pos h3, if_neg (by decide)]
      exact K0 (Or.inl (Or.inr h3)) M1 _ hS1' hO1'
    · rw [if_neg h3, if_pos (by decide)]
      have hnt : ¬ tooM now TT cs := fun q => q.elim h2 h3
      have j1 := hS1.1
      obtain ⟨v1, f1, j3⟩ := hS1.2.2.1
      have hloc := hS1.2.2.2.2.2.2.2.1 h _ he
      have hT1 := hS1.tab he
      simp only [sTs_pushDraft_26, sTs_pushDraft_27 j1 rfl, sTs_pushDraft_30, sTs_pushDraft_31, sTs_pushDraft_32 j1 rfl]
      rw [sTs_pushDraft_35 j1, c_tableIn hS1 he]
      simp only [xk_i, xk_l, xk_a, xk_n, xk_0, Option.toList_some, Option.toList_none, List.cons_append, List.nil_append]
      rw [sTs_pushDraft_38 j3]
      have bb := hD.2.2.1
      refine c_write (d := d) (wr := s + 2) (t := e) (R := dRc now cs) (E := dEn now (cR TT) (dRc now cs)) (lw := now) (hg := now) (by have : s + 31 ≤ e := hloc.1; omega) j3 hT1 (fun r hr => (hD.2.2.2.2.2.1 r hr).ok (by omega)) (fun r hr => (hD.2.2.2.2.2.2 r hr).ok (by omega)) (by omega) (by have : (dEn now (cR TT) (dRc now cs)).length ≤ 6 := hel; omega) (by omega) (by omega) (fun h12 M5 hT5 hw5 hO5 => ?_) (fun h12 M5 bs5 hT5 hw5 hO5 => ?_)
      · have hS5 : SkAt M5 s h (L.set h (e, rawT (serT (drT now (cR TT) cs)) (drT now (cR TT) cs))) z := hS1.wrote he hT5 hw5 hO5
        have g1 := hS5.1
        simp only [sTs_pushDraft_41, sTs_pushDraft_44, sTs_pushDraft_45 xb0, sTs_pushDraft_45 xb1, sTs_pushDraft_46, sTs_pushDraft_47, sTs_pushDraft_48 g1 rfl, sTs_pushDraft_51, sTs_pushDraft_52, xk_i, xk_l, xk_a, xk_n, xk_0, Option.toList_some, Option.toList_none, List.cons_append, List.nil_append, nI_add]
        rw [if_neg (by decide), sTs_pushDraft_53 g1 rfl, sTs_pushDraft_56, sTs_pushDraft_57 xb1]
        refine K1 hnt h12 _ ?_ (hO1'.trans (fun q hq => by rw [xput_ne (by omega)]; exact hO5 q (by omega) (by have : s + 31 ≤ e := hloc.1; omega)))
        obtain ⟨a1, a2, ⟨v, f, a3⟩, a4, a5, a6, a7, a8, a9⟩ := hS5
        exact ⟨by rw [xput_same]; rfl, by rw [xput_ne (by omega)]; exact a2, ⟨v, f, by rw [xput_ne (by omega)]; exact a3⟩, a4.kept (fun q a b => xput_ne (by omega)), a5.kept (fun q a b => xput_ne (by omega)), a6, by simp; omega, fun j x hx => ⟨(a8 j x hx).1, (a8 j x hx).2.1, (a8 j x hx).2.2.kept (fun q a b => xput_ne (by have := (a8 j x hx).1; omega))⟩, a9⟩
      · simp only [sTs_pushDraft_41, sTs_pushDraft_44, sTs_pushDraft_45 xb0, sTs_pushDraft_45 xb1, xk_i, xk_l, xk_a, xk_n, xk_0, Option.toList_some, Option.toList_none, List.cons_append, List.nil_append]
        rw [if_pos (by decide)]
        have hS5 : SkAt M5 s h (L.set h (e, bs5, nI now, nI now, false, (dRc now cs).map rawR, (dEn now (cR TT) (dRc now cs)).map rawE)) z := hS1.wrote he hT5 hw5 hO5
        exact K0 (Or.inr h12) M5 _ hS5 (hO1'.trans (fun q hq => hO5 q (by omega) (by have : s + 31 ≤ e := hloc.1; omega)))
end PSH
