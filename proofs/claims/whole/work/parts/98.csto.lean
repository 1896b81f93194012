/-! the reference: store -/
abbrev FaS : List Nat := [1, 2, 5, 8, 9, 12, 13, 14, 15, 16]
theorem okN_n0 {now : Nat} {cs : List achg} (ho : okX cs) (hn : now ≤ 2001) : okN (n0 now cs) := by
  intro s hs
  unfold n0 at hs
  obtain ⟨x, hx, rfl⟩ := List.mem_map.mp hs
  have h1 := (ho.2.1 x hx).1
  exact ⟨h1.1.pos, h1.1.1, hn, h1.2.ok⟩
theorem okN_ddf {N0 : List arec} {X : List ptab} (h : okN N0) (hw : ∀ p ∈ X, wT p.2) : okN (ddf N0 (cR X)) := by
  intro s hs
  rcases ddf_mem hs with h1 | h1
  · exact h s h1
  · obtain ⟨p, hp, hr⟩ := mem_cR.mp h1
    have h2 := (hw p hp).1.2.2.2.2.2.1 s hr
    have h3 := (hw p hp).1.2.2.1
    have h4 := h2.2.2.1
    exact ⟨h2.1.pos, h2.1.1, by omega, h2.2.2.2.ok⟩
theorem eX_mem {now tb : Nat} {N : List arec} {cs : List achg} {e : aent × Nat} (h : e ∈ eX now N tb cs) : ∃ c ∈ cs, 0 ≤ c.2.2 ∧ e = ((c.1, now, (lkA N c.1).toNat, c.2.2.toNat), tb) := by
  unfold eX at h
  obtain ⟨c, hc, rfl⟩ := List.mem_map.mp h
  rw [List.mem_filter, decide_eq_true_eq] at hc
  exact ⟨c, hc.1, hc.2, rfl⟩
theorem eX_len {now tb : Nat} {N : List arec} {cs : List achg} (ho : okX cs) : (eX now N tb cs).length ≤ 6 := by
  unfold eX
  rw [List.length_map]
  have := List.length_filter_le (fun c : achg => decide (0 ≤ c.2.2)) cs
  have := ho.1
  omega
theorem okEn_all {now tb t : Nat} {N : List arec} {cs : List achg} {X : List ptab} (ho : okX cs) (hn : now ≤ 2001) (hNo : ∀ s ∈ N, okC s.2.2) (hw : ∀ p ∈ X, wT p.2) (ht : t + X.length ≤ tb) (htb : tb < 100) : okEn (eX now N tb cs ++ enT t X) := by
  have hpw : (eX now N tb cs ++ enT t X).Pairwise (fun a b => b.2 ≤ a.2) := by
    rw [List.pairwise_append]
    refine ⟨?_, (enT_ord X t hw).imp (fun {a b} h => h.1), fun a ha b hb => ?_⟩
    · unfold eX
      rw [List.pairwise_map]
      exact List.Pairwise.imp (R := fun _ _ => True) (fun {a b} _ => Nat.le_refl _) (by simp [List.pairwise_iff_getElem])
    · obtain ⟨c, -, -, rfl⟩ := eX_mem ha
      have := enT_tb X t b hb
      show b.2 ≤ tb
      omega
  refine ⟨fun e he => ?_, fun i j a b hij ha hb => pw_get hpw hij ha hb⟩
  rcases List.mem_append.mp he with h | h
  · obtain ⟨c, hc, h0, rfl⟩ := eX_mem h
    have h1 := (ho.2.1 c hc).1
    have h2 := h1.2.ok
    have h3 := lk_ok (N := N) (k := c.1) hNo
    have h4 := h2.1
    refine ⟨h1.1.pos, ⟨h1.1.1, hn, by show (lkA N c.1).toNat < 65536; omega, by show c.2.2.toNat < 65536; omega⟩, htb⟩
  · exact (enT_ok hw (by omega)).1 e h
section MSt
variable {d m : Nat} {B : List (List Nat)} {M : xM} {g : Nat → Int32} {A : Nat → Nat → Int32} {L : Nat → Nat → Int64} {N : List arec} {cs : List achg} {z w : Nat} {Q : Option Value → xM → Nat → Nat → Prop}
set_option maxHeartbeats 1000000 in
theorem stX_loop {now : Nat} (ho : okX cs) (hN : NmA g A L N) (hl : N.length ≤ 260) (hG : ∀ s ∈ N, GK s.1) (hNo : okN N) (K : ∀ A' x, ChA g A' L (oX N cs) → (∀ j, j ≠ 5 → A' j = A j) → WP (d + 6) mMd_store 32 [some (.ref m), some (.int (nI now)), some (.int x), none, none] [] (MM (AR M m A' L) m g) z w Q) : ∀ (r i : Nat) (A1 : Nat → Nat → Int32), i + r = cs.length → ChA g A1 L (oX N (cs.take i) ++ cs.drop i) → (∀ j, j ≠ 5 → A1 j = A j) →
    WP (d + 6) mMd_store 2 [some (.ref m), some (.int (nI now)), some (.int (nI i)), none, none] [] (MM (AR M m A1 L) m g) z w Q := by
  obtain ⟨o1, o2, o3⟩ := ho
  intro r
  induction r with
  | zero =>
    intro i A1 hi hC hA
    have h4 : g 4 = nI cs.length := by
      rw [hC.1, List.length_append, List.length_drop]
      unfold oX
      rw [List.length_map, List.length_take]
      congr 1
      omega
    rw [List.take_of_length_le (by omega), List.drop_eq_nil_of_le (by omega), List.append_nil] at hC
    rw [sMd_store_2]
    simp only [sMd_store_3, rMd_store_4, sMd_store_7, h4]
    rw [if_pos (nI_le (by omega) (by omega))]
    exact K A1 _ hC hA
  | succ r ih =>
    intro i A1 hi hC hA
    have hlt : i < cs.length := by omega
    have hgi : cs[i]? = some cs[i] := List.getElem?_eq_getElem hlt
    have hmi := List.getElem_mem hlt
    have htk : cs.take (i + 1) = cs.take i ++ [cs[i]] := List.take_succ_eq_append_getElem hlt
    have hdr : cs.drop i = cs[i] :: cs.drop (i + 1) := List.drop_eq_getElem_cons hlt
    generalize cs[i] = c at hgi hmi htk hdr
    obtain ⟨⟨c1, c2⟩, c3⟩ := o2 c hmi
    have hol : (oX N (cs.take i)).length = i := by unfold oX; rw [List.length_map, List.length_take]; omega
    have h4 : g 4 = nI cs.length := by
      rw [hC.1, List.length_append, List.length_drop, hol]
      congr 1
      omega
    have hat : (oX N (cs.take i) ++ cs.drop i)[i]? = some c := by
      rw [List.getElem?_append_right (by omega), hol, Nat.sub_self, hdr]; rfl
    obtain ⟨q1, q2, q3, q4⟩ := hC.2 i c hat
    have hN1 : NmA g A1 L N := ⟨hN.1, fun j r hr => by rw [hA 8 (by decide), hA 9 (by decide)]; exact hN.2 j r hr⟩
    rw [sMd_store_2]
    simp only [sMd_store_3, rMd_store_4, sMd_store_7, sMd_store_10, rMd_store_11, sMd_store_14, sMd_store_15, sMd_store_16, rMd_store_17, sMd_store_20, qMd_store_21 (k := i) (by omega), rMd_store_22, h4, q1]
    rw [if_neg (nI_ge (by omega) (by omega)), c_oldNumber (d := d + 4) c1 hN1 hl hG hNo]
    simp only [qMd_store_25 (k := i) (by omega), sMd_store_26, sMd_store_29, xk_i, xk_l, xk_a, xk_n, xk_0, Option.toList_some, Option.toList_none, List.cons_append, List.nil_append, nI_add]
    refine ih (i + 1) _ (by omega) ⟨?_, fun j c' hj => ?_⟩ (fun j hj => by rw [u2_ne hj]; exact hA j hj)
    · rw [h4, List.length_append, List.length_drop]
      unfold oX
      rw [List.length_map, List.length_take]
      congr 1
      omega
    · have hsame : ∀ c'', (oX N (cs.take i) ++ cs.drop i)[j]? = some c'' → j ≠ i → c' = c'' := by
        intro c'' h1 hne
        have : (oX N (cs.take (i + 1)) ++ cs.drop (i + 1))[j]? = (oX N (cs.take i) ++ cs.drop i)[j]? := by
          rw [htk, hdr]
          unfold oX
          rw [List.map_append, List.append_assoc]
          unfold oX at hol
          by_cases hji : j < i
          · rw [List.getElem?_append_left (by omega), List.getElem?_append_left (by omega)]
          · have hFz : ∀ (Z : List achg), (List.map (fun c : achg => (c.1, nI (lkA N c.1).toNat, c.2.2)) (cs.take i) ++ Z)[j]? = Z[j - i]? := fun Z => by rw [List.getElem?_append_right (by omega), hol]
            obtain ⟨k, hk⟩ : ∃ k, j - i = k + 1 := ⟨j - i - 1, by omega⟩
            rw [hFz, hFz, hk]
            rfl
        rw [this, h1] at hj
        cases hj; rfl
      rw [u2_ne (by decide), u2_eq]
      by_cases hji : j = i
      · subst hji
        rw [if_pos rfl]
        rw [htk] at hj
        unfold oX at hj hol
        rw [List.map_append, List.append_assoc, List.getElem?_append_right (by omega), hol, Nat.sub_self] at hj
        cases hj
        exact ⟨q1, q2, rfl, q4⟩
      · rw [if_neg hji]
        have hjl := (List.getElem?_eq_some_iff.mp hj).1
        have hjl2 : j < (oX N (cs.take i) ++ cs.drop i).length := by
          rw [List.length_append, List.length_drop] at hjl ⊢
          unfold oX at hjl ⊢
          rw [List.length_map, List.length_take] at hjl ⊢
          omega
        have h1 := List.getElem?_eq_getElem hjl2
        have h2 := hsame _ h1 hji
        have h3 := hC.2 j _ h1
        rw [← h2] at h3
        exact h3
set_option maxHeartbeats 2000000 in
theorem store_loop {now : Nat} {TT : List ptab} {R : List (List Nat)} {g0 : Nat → Int32} {A0 : Nat → Nat → Int32} {L0 : Nat → Nat → Int64} (hv : vw B = some TT) (h7 : B.length ≤ 7) (ho : okX cs) (hn : now ≤ 2000) (hNo : ∀ s ∈ N, okC s.2.2)
    (K : ∀ g' A' L', StA g' A' R → Fr FgM FaS FlR g0 g' A0 A' L0 L' → Q (some (.int (nI now))) (MM (AR M m A' L') m g') z w) : ∀ (t : Nat) (g : Nat → Int32) (A : Nat → Nat → Int32) (L : Nat → Nat → Int64) (p : ptab) (x4 : Option Value), t ≤ B.length → p.1 = serT p.2 → fitT p.2 → (0 < t → p.2 = wrT 0 (nI 0) (mnT now (TT.drop t)) (mxT now (TT.drop t)) (ddf (n0 now cs) (cR (TT.drop t))) (eX now N B.length cs ++ enT t (TT.drop t))) → mdOk p (TT.take t).reverse → R = ((mdR p (TT.take t).reverse).reverse).map (fun p => p.1) → StA g A B → ChA g A L (oX N cs) → DrA g A (serT p.2) → Fr FgM FaS FlR g0 g A0 A L0 L →
    WP (d + 6) mMd_store 49 [some (.ref m), some (.int (nI now)), some (.int (nI t)), some (.int (nI 1)), x4] [] (MM (AR M m A L) m g) z w Q := by
  have hw := (vw_w hv).2.2
  have hTB := (vw_w hv).1
  have hTl := vw_len hv
  have hend : ∀ (t : Nat) (g : Nat → Int32) (A : Nat → Nat → Int32) (L : Nat → Nat → Int64) (p : ptab) (x4 : Option Value), t ≤ B.length → p.1 = serT p.2 → fitT p.2 → R = ((p :: (TT.take t).reverse).reverse).map (fun p => p.1) → StA g A B → DrA g A (serT p.2) → Fr FgM FaS FlR g0 g A0 A L0 L → WP (d + 6) mMd_store 120 [some (.ref m), some (.int (nI now)), some (.int (nI t)), some (.int (nI 1)), x4] [] (MM (AR M m A L) m g) z w Q := by
    intro t g A L p x4 ht hp hf hR hS hD hF
    simp only [sMd_store_120, sMd_store_121, sMd_store_124, sMd_store_126, sMd_store_127, sMd_store_128, rMd_store_129]
    rw [if_neg (by decide)]
    have h7' := ser_3 p.2
    refine c_place (d := d + 4) (by omega) ht hS hD hf.2.2 (by omega) (fun g1 A1 hS1 hF1 => ?_)
    simp only [sMd_store_132, sMd_store_133, xk_i, xk_l, xk_a, xk_n, xk_0, Option.toList_some, Option.toList_none, List.cons_append, List.nil_append]
    refine K g1 A1 L ?_ (hF.trans (hF1.sub (by decide) (by decide) (by decide)))
    have : R = B.take t ++ [serT p.2] := by
      rw [hR, List.reverse_cons, List.reverse_reverse, List.map_append, List.map_take, hTB, ← hp]
      rfl
    rw [this]
    exact hS1
  intro t
  induction t with
  | zero =>
    intro g A L p x4 ht hp hf hpt hmd hR hS hC hD hF
    rw [sMd_store_49]
    simp only [sMd_store_50, sMd_store_53, sMd_store_54]
    rw [if_neg (by decide), if_pos (nI_le (by omega) (by omega))]
    refine hend 0 g A L p x4 ht hp hf ?_ hS hD hF
    rw [hR]
    rfl
  | succ t ih =>
    intro g A L p x4 ht hp hf hpt hmd hR hS hC hD hF
    have hlt : t < B.length := by omega
    have hltT : t < TT.length := by omega
    obtain ⟨s1, s2, s3⟩ := hS.2 t B[t] (List.getElem?_eq_getElem hlt)
    have hb12 := s1.2.2.1
    have hpl := hf.2.2
    have h27 : g 27 = nI (serT p.2).length := by rw [hD.1, Nat.min_eq_left hpl]
    have htk : (TT.take (t + 1)).reverse = TT[t] :: (TT.take t).reverse := by
      rw [List.take_succ_eq_append_getElem hltT, List.reverse_append]
      rfl
    have hdr : TT.drop t = TT[t] :: TT.drop (t + 1) := List.drop_eq_getElem_cons hltT
    have hq1 : TT[t].1 = B[t] := by
      have := congrArg (fun l => l[t]?) hTB
      simp only [List.getElem?_map, List.getElem?_eq_getElem hltT, List.getElem?_eq_getElem hlt, Option.map_some, Option.some.injEq] at this
      exact this
    rw [htk] at hmd hR
    rw [sMd_store_49]
    simp only [sMd_store_50, sMd_store_53, sMd_store_54, sMd_store_57, rMd_store_58, sMd_store_61, sMd_store_62, sMd_store_63]
    rw [if_neg (by decide), if_neg (nI_ge (by omega) (by omega)), pk_sub (by omega), show t + 1 - 1 = t by omega]
    simp only [qMd_store_64 (k := t) (by omega), sMd_store_65, sMd_store_66, rMd_store_67, sMd_store_70, sMd_store_71, s2, h27, pk_mul, nI_leI (a := 2 * (serT p.2).length) (b := B[t].length) (by omega) (by omega)]
    by_cases hcond : 2 * (serT p.2).length ≤ B[t].length
    · rw [if_pos hcond]
      refine hend (t + 1) g A L p x4 ht hp hf ?_ hS hD hF
      rw [hR, htk]
      have : mdR p (TT[t] :: (TT.take t).reverse) = p :: TT[t] :: (TT.take t).reverse := by
        unfold mdR
        rw [if_neg (by rw [hq1, hp]; omega)]
      rw [this]
    · rw [if_neg hcond]
      have hcond2 : TT[t].1.length < 2 * p.1.length := by rw [hq1, hp]; omega
      have hmd2 := hmd hcond2
      have hR2 : mdR p (TT[t] :: (TT.take t).reverse) = mdR (mg2 TT[t] p (TT.take t).reverse.isEmpty) (TT.take t).reverse := by
        conv => lhs; unfold mdR
        rw [if_pos hcond2]
      rw [hR2] at hR
      have e1 : nI (t + 1) + (-1) = nI t := by
        have : nI (t + 1) + (-1) = nI (t + 1) - nI 1 := by rw [Int32.sub_eq_add_neg]; rfl
        rw [this, pk_sub (by omega)]
        rfl
      simp only [sMd_store_74, sMd_store_77, sMd_store_78, rMd_store_79, xk_i, xk_l, xk_a, xk_n, xk_0, Option.toList_some, Option.toList_none, List.cons_append, List.nil_append, e1]
      refine c_putChanges (d := d + 3) (by omega) ho hC hS.1 (fun g1 A1 L1 hC1 hN1 hE1 h25 h26 hF1 => ?_)
      simp only [sMd_store_82, sMd_store_83, rMd_store_84, xk_i, xk_l, xk_a, xk_n, xk_0, Option.toList_some, Option.toList_none, List.cons_append, List.nil_append]
      have hS1 := hS.kept (hF1.1 2 (by decide)) (hF1.2.1 1 (by decide)) (hF1.2.1 2 (by decide))
      have hok0 := okN_n0 (now := now) ho (by omega)
      have hel := eX_len (now := now) (tb := B.length) (N := N) ho
      have hnl : (n0 now cs).length ≤ 6 := by unfold n0; rw [List.length_map]; exact ho.1
      have hvt := vw_drop t hv
      refine c_gather (by omega) (by omega) hS1 hN1 hE1 (by omega) (by omega) (fun s hs => (hok0 s hs).2.1) h25 h26 (by omega) (by omega) (fun hv0 => ?_) (fun TT' hv' g2 A2 L2 hN2 hE2 k25 k26 hF2 => ?_)
      · rw [hvt] at hv0; cases hv0
      · rw [hvt] at hv'
        cases hv'
        have hwX : ∀ y ∈ TT.drop t, wT y.2 := fun y hy => hw y (List.mem_of_mem_drop hy)
        have hbe : (TT.take t).reverse.isEmpty = decide (t = 0) := by
          cases t with
          | zero => rfl
          | succ t =>
            have : (TT.take (t + 1)).reverse ≠ [] := by
              intro h
              have := congrArg List.length h
              rw [List.length_reverse, List.length_take, List.length_nil] at this
              omega
            rw [decide_eq_false (by omega)]
            cases hh : (TT.take (t + 1)).reverse with
            | nil => exact absurd hh this
            | cons a b => rfl
        have hT := T_step (now := now) (t := t) (b := (TT.take t).reverse.isEmpty) (q := TT[t]) (p := p) (X := TT.drop (t + 1)) (N0 := n0 now cs) (E0 := eX now N B.length cs) (hpt (by omega)) hn (n0_dd ho.2.2) (fun e he => by
          obtain ⟨c, -, -, rfl⟩ := eX_mem he
          show now < 2 ^ 31
          omega) (by rw [← hdr]; exact hwX)
        rw [← hdr] at hT
        have hgr := mxT_f (gr := now) (TT := TT.drop t)
        have hle := mnT_f (le := now) (TT := TT.drop t)
        have hmx : mxT now (TT.drop t) ≤ 2000 := hgr.2.2 _ hn (fun y hy => (hwX y hy).1.2.2.1)
        have hXl : (TT.drop t).length = B.length - t := by rw [List.length_drop, hTl]
        have hcl := cR_len (TT.drop t) hwX
        have hdl := ddf_len (cR (TT.drop t)) (n0 now cs)
        have hentl := enT_len (TT.drop t) t hwX
        have hS2 := hS1.kept (hF2.1 2 (by decide)) (hF2.2.1 1 (by decide)) (hF2.2.1 2 (by decide))
        have hC2 := hC1.fr hF2 (by decide) (by decide) (by decide) (by decide) (by decide)
        have hwrite : ∀ (b : Bool) (x : Int32), (TT.take t).reverse.isEmpty = b → WP (d + 6) mMd_store 104 [some (.ref m), some (.int (nI now)), some (.int (nI t)), some (.int (nI 1)), some (.int x)] [.int (nI (if b = true then 1 else 0)), .ref m] (MM (AR M m A2 L2) m g2) z w Q := by
          intro b x hb
          rw [hb] at hT hmd2 hR
          simp only [sMd_store_104, rMd_store_105]
          refine c_write2 (d := d) (fr := if b = true then 1 else 0) (by split <;> omega) (by omega) (by omega) hN2 hE2 (by omega) (by rw [List.length_append]; omega) (okN_ddf hok0 hwX) (okEn_all ho (by omega) hNo hwX (by omega) (by omega)) (fun s hs => ?_) (ddf_dd (n0_dd ho.2.2)) k25 k26 (fun hnf => ?_) (fun hf2 g3 A3 hD3 hF3 => ?_)
          · rcases ddf_mem hs with h | h
            · unfold n0 at h
              obtain ⟨c, -, rfl⟩ := List.mem_map.mp h
              exact hle.1
            · obtain ⟨y, hy, hr⟩ := mem_cR.mp h
              have a1 := hle.2.1 y hy
              have a2 := ((hwX y hy).1.2.2.2.2.2.1 s hr).2.1
              omega
          · rw [← hT] at hnf
            exact absurd hmd2.1 hnf
          · simp only [sMd_store_108, sMd_store_111, sMd_store_112, sMd_store_115, sMd_store_116, sMd_store_117, xk_i, xk_l, xk_a, xk_n, xk_0, Option.toList_some, Option.toList_none, List.cons_append, List.nil_append]
            rw [if_neg (by decide)]
            rw [← hT] at hD3
            refine ih g3 A3 L2 (mg2 TT[t] p b) _ (by omega) rfl hmd2.1 (fun h0 => ?_) hmd2.2 hR (hS2.kept (hF3.1 2 (by decide)) (hF3.2.1 1 (by decide)) (hF3.2.1 2 (by decide))) (hC2.fr hF3 (by decide) (by decide) (by decide) (by decide) (by decide)) hD3 (((hF.trans (hF1.sub (by decide) (by decide) (by decide))).trans (hF2.sub (by decide) (by decide) (by decide))).trans (hF3.sub (by decide) (by decide) (by decide)))
            show mT b (nI 0) [TT[t], p] = _
            rw [hT]
            have : b = false := by rw [← hb, hbe, decide_eq_false (by omega)]
            rw [this]
            rfl
        simp only [sMd_store_87, sMd_store_89, sMd_store_91, sMd_store_94, sMd_store_95, sMd_store_96, sMd_store_99, sMd_store_100, sMd_store_103, xk_i, xk_l, xk_a, xk_n, xk_0, Option.toList_some, Option.toList_none, List.cons_append, List.nil_append, nI_eq (a := t) (b := 0) (by omega) (by omega)]
        rw [if_neg (by decide)]
        by_cases ht0 : t = 0
        · rw [if_pos ht0]
          exact hwrite true _ (by rw [hbe, decide_eq_true ht0])
        · rw [if_neg ht0]
          exact hwrite false _ (by rw [hbe, decide_eq_false ht0])
set_option maxHeartbeats 1000000 in
theorem c_store {now : Nat} {TT : List ptab} (hv : vw B = some TT) (h7 : B.length ≤ 7) (ho : okX cs) (hn : now ≤ 2000) (hS : StA g A B) (hC : ChA g A L cs) (hN : NmA g A L (ddf [] (cR TT)))
    (hfit : fitT (drT now (cR TT) cs)) (hmd : mdOk (serT (drT now (cR TT) cs), drT now (cR TT) cs) TT.reverse)
    (K : ∀ g' A' L', StA g' A' (((mdR (serT (drT now (cR TT) cs), drT now (cR TT) cs) TT.reverse).reverse).map (fun p => p.1)) → Fr FgM FaS FlR g g' A A' L L' → Q (some (.int (nI now))) (MM (AR M m A' L') m g') z w) :
    WP (d + 6) mMd_store 0 [some (.ref m), some (.int (nI now)), none, none, none] [] (MM (AR M m A L) m g) z w Q := by
  have hw := (vw_w hv).2.2
  have hTl := vw_len hv
  obtain ⟨v1, v2, v3⟩ := view_ok hw (by omega)
  simp only [sMd_store_0, sMd_store_1, xk_i, xk_l, xk_a, xk_n, xk_0, Option.toList_some, Option.toList_none, List.cons_append, List.nil_append]
  refine stX_loop ho hN (by omega) v1 v2 (fun A1 x hC1 hA1 => ?_) cs.length 0 A (by omega) (by simpa [oX] using hC) (fun _ _ => rfl)
  have hS1 : StA g A1 B := hS.kept rfl (hA1 1 (by decide)) (hA1 2 (by decide))
  have hF1 : Fr FgM FaS FlR g g A A1 L L := ⟨fun _ _ => rfl, fun j hj => hA1 j (fun q => hj (by rw [q]; decide)), fun _ _ => rfl⟩
  simp only [sMd_store_32, rMd_store_33, sMd_store_36, sMd_store_37, sMd_store_38, rMd_store_39, xk_i, xk_l, xk_a, xk_n, xk_0, Option.toList_some, Option.toList_none, List.cons_append, List.nil_append, hS.1]
  refine c_putChanges (d := d + 3) (by omega) ho hC1 hS1.1 (fun g2 A2 L2 hC2 hN2 hE2 h25 h26 hF2 => ?_)
  have hS2 := hS1.kept (hF2.1 2 (by decide)) (hF2.2.1 1 (by decide)) (hF2.2.1 2 (by decide))
  have hT := T_first (now := now) (tb := B.length) (N := ddf [] (cR TT)) (l := cR TT) (cs := cs) hn (ddf_lk (cR TT)) ho.2.2
  have hok0 := okN_n0 (now := now) ho (by omega)
  have hel := eX_len (now := now) (tb := B.length) (N := ddf [] (cR TT)) ho
  have hnl : (n0 now cs).length ≤ 6 := by unfold n0; rw [List.length_map]; exact ho.1
  have hNo : ∀ s ∈ ddf [] (cR TT), okC s.2.2 := fun s hs => (v2 s hs).2.2.2
  have hoe := okEn_all (now := now) (tb := B.length) (t := 0) (N := ddf [] (cR TT)) (X := []) ho (by omega) hNo (fun y hy => (by cases hy)) (by simp) (by omega)
  simp only [enT, List.append_nil] at hoe
  simp only [sMd_store_42, sMd_store_43, sMd_store_44, rMd_store_45, xk_i, xk_l, xk_a, xk_n, xk_0, Option.toList_some, Option.toList_none, List.cons_append, List.nil_append]
  refine c_write2 (d := d) (fr := 0) (by decide) (by omega) (by omega) hN2 hE2 (by omega) (by omega) hok0 hoe (fun s hs => ?_) (n0_dd ho.2.2) h25 h26 (fun hnf => ?_) (fun hf2 g3 A3 hD3 hF3 => ?_)
  · unfold n0 at hs
    obtain ⟨c, -, rfl⟩ := List.mem_map.mp hs
    exact Nat.le_refl _
  · rw [hT] at hnf
    exact absurd hfit hnf
  · simp only [sMd_store_48, xk_i, xk_l, xk_a, xk_n, xk_0, Option.toList_some, Option.toList_none, List.cons_append, List.nil_append]
    have hTT : TT.take B.length = TT := List.take_of_length_le (by omega)
    have hTd : TT.drop B.length = [] := List.drop_eq_nil_of_le (by omega)
    refine store_loop hv h7 ho hn hNo K B.length g3 A3 L2 (serT (drT now (cR TT) cs), drT now (cR TT) cs) none (Nat.le_refl _) rfl hfit (fun _ => ?_) (by rw [hTT]; exact hmd) (by rw [hTT]) (hS2.kept (hF3.1 2 (by decide)) (hF3.2.1 1 (by decide)) (hF3.2.1 2 (by decide))) (hC2.fr hF3 (by decide) (by decide) (by decide) (by decide) (by decide)) (by rw [← hT]; exact hD3) ((hF1.trans (hF2.sub (by decide) (by decide) (by decide))).trans (hF3.sub (by decide) (by decide) (by decide)))
    rw [hTd]
    simp only [enT, List.append_nil]
    show drT now (cR TT) cs = wrT 0 (nI 0) now now (ddf (n0 now cs) (cR [])) (eX now (ddf [] (cR TT)) B.length cs)
    rw [← hT]
    rfl
end MSt
