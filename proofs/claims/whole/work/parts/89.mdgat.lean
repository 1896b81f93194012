/-! the reference: all tables are read -/
def StA (g : Nat → Int32) (A : Nat → Nat → Int32) (B : List (List Nat)) : Prop := g 2 = nI B.length ∧ ∀ t bs, B[t]? = some bs → BA A (1200 * t) bs ∧ A 2 t = nI bs.length ∧ 3 ≤ bs.length
theorem StA.kept {g g' : Nat → Int32} {A A' : Nat → Nat → Int32} {B : List (List Nat)} (h : StA g A B) (e : g' 2 = g 2) (e1 : A' 1 = A 1) (e2 : A' 2 = A 2) : StA g' A' B :=
  ⟨e.trans h.1, fun t bs q => ⟨(h.2 t bs q).1.kept e1, by rw [e2]; exact (h.2 t bs q).2⟩⟩
/-- entries with the number of their table, the highest table first -/
def enT : Nat → List ptab → List (aent × Nat)
  | _, [] => []
  | t, p :: TT => enT (t + 1) TT ++ p.2.2.2.2.map (fun e => (e, t))
def mnT (le : Nat) : List ptab → Nat
  | [] => le
  | p :: TT => min p.2.1 (mnT le TT)
def mxT (gr : Nat) : List ptab → Nat
  | [] => gr
  | p :: TT => max p.2.2.1 (mxT gr TT)
theorem cR_cons (p : ptab) (TT : List ptab) : cR (p :: TT) = cR TT ++ p.2.2.2.1 := by simp [cR]
theorem ddf_app (N R S : List arec) : ddf N (R ++ S) = ddf (ddf N R) S := List.foldl_append
theorem vw_drop : ∀ (n : Nat) {B : List (List Nat)} {TT : List ptab}, vw B = some TT → vw (B.drop n) = some (TT.drop n)
  | 0, B, TT, h => h
  | n + 1, [], TT, h => by cases h; rfl
  | n + 1, b :: B, TT, h => by
    unfold vw at h
    cases h1 : pT b with
    | none => rw [h1] at h; cases h
    | some T =>
      rw [h1, Option.bind_some] at h
      cases h2 : vw B with
      | none => rw [h2] at h; cases h
      | some l =>
        rw [h2, Option.bind_some] at h
        cases h
        exact vw_drop n h2
theorem vw_bad {B : List (List Nat)} {t : Nat} {bs : List Nat} (h : B[t]? = some bs) (hp : pT bs = none) : vw B = none := by
  cases hv : vw B with
  | none => rfl
  | some TT =>
    have hl := vw_drop t hv
    rw [List.drop_eq_getElem_cons (List.getElem?_eq_some_iff.mp h).1, (List.getElem?_eq_some_iff.mp h).2] at hl
    unfold vw at hl
    rw [hp] at hl
    cases hl
theorem m1_sub {k : Nat} (h : 1 ≤ k) : nI (k - 1) + (-1) = nI (k - 1) - nI 1 := by
  rw [Int32.sub_eq_add_neg]
  rfl
abbrev FgR : List Nat := [9, 10, 11, 12, 13, 14, 19]
abbrev FgV : List Nat := [9, 10, 11, 12, 13, 14, 19, 25, 26]
abbrev FaR : List Nat := [8, 9, 12, 13, 14, 15]
abbrev FlR : List Nat := [7, 10, 11]
section MG
variable {d m : Nat} {B : List (List Nat)} {M : xM} {g : Nat → Int32} {A : Nat → Nat → Int32} {L : Nat → Nat → Int64} {N : List arec} {E : List (aent × Nat)} {z w : Nat} {Q : Option Value → xM → Nat → Nat → Prop}
theorem enT_len : ∀ (TT : List ptab) (t : Nat), (∀ p ∈ TT, wT p.2) → (enT t TT).length ≤ 40 * TT.length
  | [], _, _ => by simp [enT]
  | p :: TT, t, h => by
    have h1 := enT_len TT (t + 1) (fun q hq => h q (by simp [hq]))
    have h2 := (h p (by simp)).2.2
    simp only [enT, List.length_append, List.length_map, List.length_cons]
    omega
theorem cR_len : ∀ (TT : List ptab), (∀ p ∈ TT, wT p.2) → (cR TT).length ≤ 30 * TT.length
  | [], _ => by simp [cR]
  | p :: TT, h => by
    have h1 := cR_len TT (fun q hq => h q (by simp [hq]))
    have h2 := (h p (by simp)).2.1
    rw [cR_cons]
    simp only [List.length_append, List.length_cons]
    omega
set_option maxHeartbeats 1000000 in
theorem gath_loop {dn le gr : Nat} {g0 : Nat → Int32} {A0 : Nat → Nat → Int32} {L0 : Nat → Nat → Int64} (h8 : B.length ≤ 8) (hS0 : StA g0 A0 B) (hl : N.length + 30 * (B.length - dn) ≤ 260) (hl2 : E.length + 40 * (B.length - dn) ≤ 340) (hNk : ∀ s ∈ N, s.1 < 2 ^ 60) (hle : le ≤ 3000) (hgr : gr ≤ 2001)
    (K0 : vw (B.drop dn) = none → ∀ g' A' L', Fr FgV FaR FlR g0 g' A0 A' L0 L' → Q (some (.int (nI 0))) (MM (AR M m A' L') m g') z w)
    (K1 : ∀ TT, vw (B.drop dn) = some TT → ∀ g' A' L', NmA g' A' L' (ddf N (cR TT)) → EnA g' A' L' (E ++ enT dn TT) → g' 25 = nI (mnT le TT) → g' 26 = nI (mxT gr TT) → Fr FgV FaR FlR g0 g' A0 A' L0 L' → Q (some (.int (nI 1))) (MM (AR M m A' L') m g') z w) :
    ∀ (r : Nat) (g : Nat → Int32) (A : Nat → Nat → Int32) (L : Nat → Nat → Int64) (TT : List ptab), dn + r ≤ B.length → vw (B.drop (dn + r)) = some TT → NmA g A L (ddf N (cR TT)) → EnA g A L (E ++ enT (dn + r) TT) → g 25 = nI (mnT le TT) → mnT le TT ≤ 3000 → g 26 = nI (mxT gr TT) → mxT gr TT ≤ 2001 → Fr FgV FaR FlR g0 g A0 A L0 L →
    WP (d + 5) mMd_gather 7 [some (.ref m), some (.int (nI dn)), some (.int (nI (dn + r) - nI 1))] [] (MM (AR M m A L) m g) z w Q := by
  intro r
  induction r with
  | zero =>
    intro g A L TT hr hv hN hE h25 h25' h26 h26' hF
    simp only [sMd_gather_7, sMd_gather_8, sMd_gather_9, sMd_gather_80, sMd_gather_81 xb0, sMd_gather_81 xb1]
    have : nI (dn + 0) - nI 1 < nI dn := by
      by_cases h : dn = 0
      · subst h; decide
      · rw [pk_sub (by omega)]; exact nI_lt (by omega) (by omega)
    rw [if_pos this]
    exact K1 TT hv g A L hN hE h25 h26 hF
  | succ r ih =>
    intro g A L TT hr hv hN hE h25 h25' h26 h26' hF
    have hlt : dn + r < B.length := by omega
    have hTl := vw_len hv
    have hw := (vw_w hv).2.2
    rw [List.length_drop] at hTl
    have hS := hS0.kept (hF.1 2 (by decide)) (hF.2.1 1 (by decide)) (hF.2.1 2 (by decide))
    obtain ⟨s1, s2, s3⟩ := hS.2 (dn + r) B[dn + r] (List.getElem?_eq_getElem hlt)
    rw [sMd_gather_7]
    simp only [sMd_gather_8, sMd_gather_9, sMd_gather_12, sMd_gather_13, rMd_gather_14]
    rw [pk_sub (by omega), show dn + (r + 1) - 1 = dn + r by omega, if_neg (nI_nlt (by omega) (by omega))]
    have b1 := ddf_len (cR TT) N
    have b2 := cR_len TT hw
    have b3 := enT_len TT (dn + (r + 1)) hw
    refine c_read2 (by omega) s1 s2 s3 hN hE (by omega) (by rw [List.length_append]; omega) (fun s hs => ?_) (fun hp g1 A1 L1 hF1 => ?_) (fun T hp g1 A1 L1 hN1 hE1 h12 h13 hF1 => ?_)
    · rcases ddf_mem hs with h | h
      · exact hNk s h
      · obtain ⟨p, hp, hr⟩ := mem_cR.mp h
        exact ((hw p hp).1.2.2.2.2.2.1 s hr).1.1
    · simp only [sMd_gather_17, sMd_gather_20, sMd_gather_21 xb0, sMd_gather_21 xb1, xk_i, xk_l, xk_a, xk_n, xk_0, Option.toList_some, Option.toList_none, List.cons_append, List.nil_append]
      rw [if_pos trivial]
      exact K0 (vw_bad (t := r) (bs := B[dn + r]) (by rw [List.getElem?_drop]; exact List.getElem?_eq_getElem hlt) hp) g1 A1 L1 (hF.trans (hF1.sub (by decide) (by decide) (by decide)))
    · have hT := pT_w hp
      have hT1 := hT.1.1
      have hT2 := hT.1.2.1
      have hT3 := hT.1.2.2.1
      have k25 := (hF1.1 25 (by decide)).trans h25
      have k26 := (hF1.1 26 (by decide)).trans h26
      have hv2 : vw (B.drop (dn + r)) = some ((B[dn + r], T) :: TT) := by
        rw [List.drop_eq_getElem_cons hlt]
        unfold vw
        rw [hp, Option.bind_some, show dn + r + 1 = dn + (r + 1) by omega, hv]
        rfl
      simp only [sMd_gather_17, xk_i, xk_l, xk_a, xk_n, xk_0, Option.toList_some, Option.toList_none, List.cons_append, List.nil_append]
      rw [if_neg (by decide)]
      simp only [sMd_gather_22, sMd_gather_23, rMd_gather_24, sMd_gather_27, rMd_gather_28, sMd_gather_31, sMd_gather_34, rMd_gather_35, sMd_gather_38, sMd_gather_41, rMd_gather_42, rMd_gather_45, h12, k25, nI_leI (a := mnT le TT) (b := T.1) (by omega) (by omega)]
      have hgo : ∀ (g2 : Nat → Int32), (g2 25 = nI (min T.1 (mnT le TT))) → g2 26 = nI (mxT gr TT) → g2 13 = nI T.2.1 → NmA g2 A1 L1 (ddf (ddf N (cR TT)) T.2.2.1) → EnA g2 A1 L1 (E ++ enT (dn + (r + 1)) TT ++ T.2.2.2.map (fun e => (e, dn + r))) → Fr FgV FaR FlR g0 g2 A0 A1 L0 L1 → WP (d + 5) mMd_gather 48 [some (.ref m), some (.int (nI dn)), some (.int (nI (dn + r)))] [] (MM (AR M m A1 L1) m g2) z w Q := by
        intro g2 e25 e26 e13 hN2 hE2 hF2
        have hfin : ∀ (g3 : Nat → Int32), (g3 25 = nI (min T.1 (mnT le TT))) → g3 26 = nI (max T.2.1 (mxT gr TT)) → NmA g3 A1 L1 (ddf (ddf N (cR TT)) T.2.2.1) → EnA g3 A1 L1 (E ++ enT (dn + (r + 1)) TT ++ T.2.2.2.map (fun e => (e, dn + r))) → Fr FgV FaR FlR g0 g3 A0 A1 L0 L1 → WP (d + 5) mMd_gather 74 [some (.ref m), some (.int (nI dn)), some (.int (nI (dn + r)))] [] (MM (AR M m A1 L1) m g3) z w Q := by
          intro g3 f25 f26 hN3 hE3 hF3
          simp only [sMd_gather_74, sMd_gather_77, xk_i, xk_l, xk_a, xk_n, xk_0, Option.toList_some, Option.toList_none, List.cons_append, List.nil_append]
          have e1 : nI (dn + r) + (-1) = nI (dn + r) - nI 1 := by rw [Int32.sub_eq_add_neg]; rfl
          rw [e1]
          refine ih g3 A1 L1 ((B[dn + r], T) :: TT) (by omega) hv2 ?_ ?_ f25 ?_ f26 ?_ hF3
          · rw [cR_cons, ddf_app]; exact hN3
          · have : E ++ enT (dn + r) ((B[dn + r], T) :: TT) = E ++ enT (dn + (r + 1)) TT ++ T.2.2.2.map (fun e => (e, dn + r)) := by
              rw [List.append_assoc]; rfl
            rw [this]; exact hE3
          · show min T.1 (mnT le TT) ≤ 3000; omega
          · show max T.2.1 (mxT gr TT) ≤ 2001; omega
        simp only [sMd_gather_48, sMd_gather_49, rMd_gather_50, sMd_gather_53, rMd_gather_54, sMd_gather_57, sMd_gather_60, rMd_gather_61, sMd_gather_64, sMd_gather_67, rMd_gather_68, rMd_gather_71, e13, e26, nI_leI (a := T.2.1) (b := mxT gr TT) (by omega) (by omega)]
        by_cases hc : T.2.1 ≤ mxT gr TT
        · rw [if_pos hc]
          refine hfin _ ?_ ?_ ?_ ?_ ?_
          · rw [ug_e (by decide)]; exact e25
          · rw [ug_s, show max T.2.1 (mxT gr TT) = mxT gr TT by omega]
          · exact hN2.kept (Fr.ug (gs := [26]) (as := []) (ls := []) (by decide)) (by decide) (by decide) (by decide) (by decide) (by decide)
          · exact hE2.kept (Fr.ug (gs := [26]) (as := []) (ls := []) (by decide)) (by decide) (by decide) (by decide) (by decide) (by decide) (by decide)
          · exact hF2.trans (Fr.ug (by decide))
        · rw [if_neg hc]
          refine hfin _ ?_ ?_ ?_ ?_ ?_
          · rw [ug_e (by decide)]; exact e25
          · rw [ug_s, show max T.2.1 (mxT gr TT) = T.2.1 by omega]
          · exact hN2.kept (Fr.ug (gs := [26]) (as := []) (ls := []) (by decide)) (by decide) (by decide) (by decide) (by decide) (by decide)
          · exact hE2.kept (Fr.ug (gs := [26]) (as := []) (ls := []) (by decide)) (by decide) (by decide) (by decide) (by decide) (by decide) (by decide)
          · exact hF2.trans (Fr.ug (by decide))
      have hF2 : Fr FgV FaR FlR g0 g1 A0 A1 L0 L1 := hF.trans (hF1.sub (by decide) (by decide) (by decide))
      by_cases hc : mnT le TT ≤ T.1
      · rw [if_pos hc]
        refine hgo _ ?_ ?_ ?_ ?_ ?_ ?_
        · rw [ug_s, show min T.1 (mnT le TT) = mnT le TT by omega]
        · rw [ug_e (by decide)]; exact k26
        · rw [ug_e (by decide)]; exact h13
        · exact hN1.kept (Fr.ug (gs := [25]) (as := []) (ls := []) (by decide)) (by decide) (by decide) (by decide) (by decide) (by decide)
        · exact hE1.kept (Fr.ug (gs := [25]) (as := []) (ls := []) (by decide)) (by decide) (by decide) (by decide) (by decide) (by decide) (by decide)
        · exact hF2.trans (Fr.ug (by decide))
      · rw [if_neg hc]
        refine hgo _ ?_ ?_ ?_ ?_ ?_ ?_
        · rw [ug_s, show min T.1 (mnT le TT) = T.1 by omega]
        · rw [ug_e (by decide)]; exact k26
        · rw [ug_e (by decide)]; exact h13
        · exact hN1.kept (Fr.ug (gs := [25]) (as := []) (ls := []) (by decide)) (by decide) (by decide) (by decide) (by decide) (by decide)
        · exact hE1.kept (Fr.ug (gs := [25]) (as := []) (ls := []) (by decide)) (by decide) (by decide) (by decide) (by decide) (by decide) (by decide)
        · exact hF2.trans (Fr.ug (by decide))
theorem c_gather {dn le gr : Nat} (hdn : dn ≤ B.length) (h8 : B.length ≤ 8) (hS : StA g A B) (hN : NmA g A L N) (hE : EnA g A L E) (hl : N.length + 30 * (B.length - dn) ≤ 260) (hl2 : E.length + 40 * (B.length - dn) ≤ 340) (hNk : ∀ s ∈ N, s.1 < 2 ^ 60) (h25 : g 25 = nI le) (h26 : g 26 = nI gr) (hle : le ≤ 3000) (hgr : gr ≤ 2001)
    (K0 : vw (B.drop dn) = none → ∀ g' A' L', Fr FgV FaR FlR g g' A A' L L' → Q (some (.int (nI 0))) (MM (AR M m A' L') m g') z w)
    (K1 : ∀ TT, vw (B.drop dn) = some TT → ∀ g' A' L', NmA g' A' L' (ddf N (cR TT)) → EnA g' A' L' (E ++ enT dn TT) → g' 25 = nI (mnT le TT) → g' 26 = nI (mxT gr TT) → Fr FgV FaR FlR g g' A A' L L' → Q (some (.int (nI 1))) (MM (AR M m A' L') m g') z w) :
    WP (d + 5) mMd_gather 0 [some (.ref m), some (.int (nI dn)), none] [] (MM (AR M m A L) m g) z w Q := by
  simp only [sMd_gather_0, rMd_gather_1, sMd_gather_4, sMd_gather_5, sMd_gather_6, xk_i, xk_l, xk_a, xk_n, xk_0, Option.toList_some, Option.toList_none, List.cons_append, List.nil_append, hS.1]
  have := gath_loop (d := d) (m := m) (M := M) (z := z) (w := w) (Q := Q) h8 hS hl hl2 hNk hle hgr K0 K1 (B.length - dn) g A L [] (by omega) ?_ hN ?_ h25 hle h26 hgr Fr.rf
  · rw [show dn + (B.length - dn) = B.length by omega] at this
    exact this
  · rw [show dn + (B.length - dn) = B.length by omega, List.drop_length]; rfl
  · simpa [enT] using hE
theorem c_empty (K : ∀ g', NmA g' A L [] → EnA g' A L [] → g' 25 = nI 3000 → g' 26 = nI 0 → Fr FgV FaR FlR g g' A A L L → Q none (MM (AR M m A L) m g') z w) : WP d mMd_empty 0 [some (.ref m)] [] (MM (AR M m A L) m g) z w Q := by
  simp only [sMd_empty_0, sMd_empty_1, rMd_empty_2, sMd_empty_5, sMd_empty_6, rMd_empty_7, sMd_empty_10, sMd_empty_11, rMd_empty_14, sMd_empty_17, sMd_empty_18, rMd_empty_19, sMd_empty_22]
  refine K _ ⟨?_, fun i r h => (by simp at h)⟩ ⟨?_, fun i r h => (by simp at h)⟩ ?_ ?_ ?_
  · rw [ug_e (by decide), ug_e (by decide), ug_e (by decide), ug_s]; rfl
  · rw [ug_e (by decide), ug_e (by decide), ug_s]; rfl
  · rw [ug_e (by decide), ug_s]
  · rw [ug_s]
  · exact ((Fr.ug (by decide)).trans (Fr.ug (by decide))).trans ((Fr.ug (by decide)).trans (Fr.ug (by decide)))
theorem c_view (h8 : B.length ≤ 8) (hS : StA g A B)
    (K0 : vw B = none → ∀ g' A' L', Fr FgV FaR FlR g g' A A' L L' → Q (some (.int (nI 0))) (MM (AR M m A' L') m g') z w)
    (K1 : ∀ TT, vw B = some TT → ∀ g' A' L', NmA g' A' L' (ddf [] (cR TT)) → EnA g' A' L' (enT 0 TT) → g' 25 = nI (mnT 3000 TT) → g' 26 = nI (mxT 0 TT) → Fr FgV FaR FlR g g' A A' L L' → Q (some (.int (nI 1))) (MM (AR M m A' L') m g') z w) :
    WP (d + 6) mMd_view 0 [some (.ref m)] [] (MM (AR M m A L) m g) z w Q := by
  simp only [sMd_view_0, rMd_view_1]
  refine c_empty (fun g1 hN1 hE1 h25 h26 hF1 => ?_)
  simp only [sMd_view_4, sMd_view_5, rMd_view_6, xk_i, xk_l, xk_a, xk_n, xk_0, Option.toList_some, Option.toList_none, List.cons_append, List.nil_append]
  have hS1 := hS.kept (hF1.1 2 (by decide)) rfl rfl
  refine c_gather (dn := 0) (by omega) h8 hS1 hN1 hE1 (by simp; omega) (by simp; omega) (fun s hs => (by cases hs)) h25 h26 (by omega) (by omega) (fun hv g' A' L' hF' => ?_) (fun TT hv g' A' L' hN' hE' e25 e26 hF' => ?_)
  · simp only [sMd_view_9 xb0, sMd_view_9 xb1, xk_i, xk_l, xk_a, xk_n, xk_0, Option.toList_some, Option.toList_none, List.cons_append, List.nil_append]
    exact K0 hv g' A' L' (hF1.trans hF')
  · simp only [sMd_view_9 xb0, sMd_view_9 xb1, xk_i, xk_l, xk_a, xk_n, xk_0, Option.toList_some, Option.toList_none, List.cons_append, List.nil_append]
    exact K1 TT hv g' A' L' hN' hE' e25 e26 (hF1.trans hF')
end MG
