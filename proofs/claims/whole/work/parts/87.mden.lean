/-! the reference: entries that are taken -/
noncomputable def eD2 (i p pt lw hg : Nat) (l : List Nat) : Option (aent × List Nat) :=
  (vD l).bind fun sh => (vD sh.2).bind fun n => (nM p sh.1 n.1 n.2).bind fun k => cif (sh.1 = shd i p k.1)
  ((vD k.2).bind fun tm => (vD tm.2).bind fun o => (vD o.2).bind fun nw => cif (GK k.1 ∧ (lw ≤ tm.1 ∧ tm.1 ≤ hg) ∧ o.1 ≤ 65535 ∧ nw.1 ≤ 65535)
  (cif (i = 0 ∨ p < k.1 ∨ (p = k.1 ∧ tm.1 < pt)) (some ((k.1, tm.1, o.1, nw.1), nw.2)) none) none) none
theorem nD_c {l : List Nat} : nD l = (vD l).bind fun q => cif (q.1 ≤ 65535) (some q) none := by
  unfold nD
  cases vD l with
  | none => rfl
  | some q =>
    simp only [Option.bind_some]
    by_cases h : q.1 ≤ 65535
    · rw [if_pos h, cif_pos h]
    · rw [if_neg h, cif_neg h]
theorem eD_eq {i p pt lw hg : Nat} (hp : i = 0 → p = 0) (l : List Nat) : eD i p pt lw hg l = eD2 i p pt lw hg l := by
  unfold eD eD2
  cases h1 : vD l with
  | none => rfl
  | some sh =>
    simp only [Option.bind_some]
    cases h2 : vD sh.2 with
    | none => rfl
    | some n =>
      simp only [Option.bind_some]
      rw [nK_nM]
      cases h3 : nM p sh.1 n.1 n.2 with
      | none => rfl
      | some k =>
        simp only [Option.bind_some]
        by_cases hc : sh.1 = shd i p k.1
        · rw [cif_pos hc]
          have hgk := nM_gk h3 hc
          have hno : ¬ (GK k.1 ∧ p ≤ k.1) → ((vD k.2).bind fun tm => (vD tm.2).bind fun o => (vD o.2).bind fun nw => cif (GK k.1 ∧ (lw ≤ tm.1 ∧ tm.1 ≤ hg) ∧ o.1 ≤ 65535 ∧ nw.1 ≤ 65535)
              (cif (i = 0 ∨ p < k.1 ∨ (p = k.1 ∧ tm.1 < pt)) (some (((k.1, tm.1, o.1, nw.1) : aent), nw.2)) none) none) = none := by
            intro hn
            cases vD k.2 with
            | none => rfl
            | some tm =>
              simp only [Option.bind_some]
              cases vD tm.2 with
              | none => rfl
              | some o =>
                simp only [Option.bind_some]
                cases vD o.2 with
                | none => rfl
                | some nw =>
                  simp only [Option.bind_some]
                  by_cases hG : GK k.1
                  · have hpk : ¬ p ≤ k.1 := fun q => hn ⟨hG, q⟩
                    rw [cif_neg (c := i = 0 ∨ p < k.1 ∨ (p = k.1 ∧ tm.1 < pt)) (by rintro (q | q | q); · have := hp q; omega
                                                                                   · omega
                                                                                   · omega)]
                    by_cases h5 : GK k.1 ∧ (lw ≤ tm.1 ∧ tm.1 ≤ hg) ∧ o.1 ≤ 65535 ∧ nw.1 ≤ 65535
                    · rw [cif_pos h5]
                    · rw [cif_neg h5]
                  · rw [cif_neg (fun q => hG q.1)]
          by_cases hG : GK k.1
          · rw [if_pos (hgk.mpr hG), Option.bind_some]
            by_cases hp2 : p ≤ k.1
            · rw [if_pos ⟨hc, hp2⟩]
              cases vD k.2 with
              | none => rfl
              | some tm =>
                simp only [Option.bind_some]
                have hord : (i = 0 ∨ k.1 ≠ p ∨ tm.1 < pt) ↔ (i = 0 ∨ p < k.1 ∨ (p = k.1 ∧ tm.1 < pt)) := by omega
                by_cases ht : lw ≤ tm.1 ∧ tm.1 ≤ hg
                · rw [if_pos ht]
                  by_cases ho : i = 0 ∨ k.1 ≠ p ∨ tm.1 < pt
                  · rw [if_pos ho, nD_c]
                    cases vD tm.2 with
                    | none => rfl
                    | some o =>
                      simp only [Option.bind_some]
                      by_cases ho1 : o.1 ≤ 65535
                      · rw [cif_pos ho1, Option.bind_some, nD_c]
                        cases vD o.2 with
                        | none => rfl
                        | some nw =>
                          simp only [Option.bind_some]
                          by_cases hn1 : nw.1 ≤ 65535
                          · rw [cif_pos hn1, Option.bind_some, cif_pos ⟨hG, ht, ho1, hn1⟩, cif_pos (hord.mp ho)]
                          · rw [cif_neg hn1, cif_neg (fun q => hn1 q.2.2.2)]; rfl
                      · rw [cif_neg ho1, Option.bind_none]
                        cases vD o.2 with
                        | none => rfl
                        | some nw =>
                          simp only [Option.bind_some]
                          rw [cif_neg (fun q => ho1 q.2.2.1)]
                  · rw [if_neg ho]
                    cases vD tm.2 with
                    | none => rfl
                    | some o =>
                      simp only [Option.bind_some]
                      cases vD o.2 with
                      | none => rfl
                      | some nw =>
                        simp only [Option.bind_some]
                        rw [cif_neg (c := i = 0 ∨ p < k.1 ∨ (p = k.1 ∧ tm.1 < pt)) (fun q => ho (hord.mpr q))]
                        by_cases h5 : GK k.1 ∧ (lw ≤ tm.1 ∧ tm.1 ≤ hg) ∧ o.1 ≤ 65535 ∧ nw.1 ≤ 65535
                        · rw [cif_pos h5]
                        · rw [cif_neg h5]
                · rw [if_neg ht]
                  cases vD tm.2 with
                  | none => rfl
                  | some o =>
                    simp only [Option.bind_some]
                    cases vD o.2 with
                    | none => rfl
                    | some nw =>
                      simp only [Option.bind_some]
                      rw [cif_neg (fun q => ht q.2.1)]
            · rw [if_neg (fun q => hp2 q.2), hno (fun q => hp2 q.2)]
          · rw [if_neg (fun q => hG (hgk.mp q)), Option.bind_none, hno (fun q => hG q.1)]
        · rw [cif_neg hc]
          by_cases hg' : gk k.1 = true
          · rw [if_pos hg', Option.bind_some, if_neg (fun q => hc q.1)]
          · rw [if_neg hg']; rfl
section ME
variable {d m base : Nat} {bs : List Nat} {ps : Option (List Nat)} {M : xM} {g : Nat → Int32} {A : Nat → Nat → Int32} {L : Nat → Nat → Int64} {N : List arec} {E : List (aent × Nat)} {z w : Nat} {Q : Option Value → xM → Nat → Nat → Prop}
set_option maxHeartbeats 1000000 in
/-- the order of the entries, and the entry itself -/
theorem te_end {i p k t o f tb : Nat} {y : Int32} {pt : Nat} {x6 x7 x13 : Option Value} (hi : i < 2 ^ 30) (hp : p < 2 ^ 60) (hk : k < 2 ^ 60) (ht : t < 2 ^ 30) (hy : ps ≠ none → y = nI pt ∧ pt < 2 ^ 30)
    (hR : MrS g base bs ps) (hE : g 19 = nI E.length) (hE2 : ps ≠ none → EnA g A L E) (hl : E.length < 340)
    (K : ∀ g' A' L' ps', MrS g' base bs ps' → gdp (i = 0 ∨ p < k ∨ (p = k ∧ t < pt)) ps ps' → (ps' ≠ none → EnA g' A' L' (E ++ [((k, t, o, f), tb)])) → g' 19 = nI (E.length + 1) → Fr [9, 11, 19] [12, 13, 14, 15] [11] g g' A A' L L' → Q (some (.long (lN (rv k)))) (MM (AR M m A' L') m g') z w) :
    WP (d + 3) mMd_takeEntry 132 [some (.ref m), some (.int (nI tb)), some (.int (nI i)), some (.long (lN (rv p))), none, some (.int y), x6, x7, some (.long (lN (rv k))), none, some (.int (nI t)), some (.int (nI o)), some (.int (nI f)), x13] [] (MM (AR M m A L) m g) z w Q := by
  have hrp := rv_lt p
  have hrk := rv_lt k
  have hfin : ∀ (g1 : Nat → Int32) (ps1 : Option (List Nat)) (x13 : Option Value), MrS g1 base bs ps1 → gdp (i = 0 ∨ p < k ∨ (p = k ∧ t < pt)) ps ps1 → Oa g g1 → WP (d + 3) mMd_takeEntry 181 [some (.ref m), some (.int (nI tb)), some (.int (nI i)), some (.long (lN (rv p))), none, some (.int y), x6, x7, some (.long (lN (rv k))), none, some (.int (nI t)), some (.int (nI o)), some (.int (nI f)), x13] [] (MM (AR M m A L) m g1) z w Q := by
    intro g1 ps1 x13 hR1 hgd hO1
    simp only [sMd_takeEntry_181, sMd_takeEntry_182, sMd_takeEntry_184, sMd_takeEntry_186, sMd_takeEntry_188, sMd_takeEntry_190, rMd_takeEntry_191]
    refine c_entry (c := E.length) hl ((hO1 19 (by decide) (by decide)).trans hE) (fun g' A' L' k1 k2 k3 k4 k5 k6 hF => ?_)
    simp only [sMd_takeEntry_194, sMd_takeEntry_196, xk_i, xk_l, xk_a, xk_n, xk_0, Option.toList_some, Option.toList_none, List.cons_append, List.nil_append]
    refine K g' A' L' ps1 (hR1.kept (hF.1 9 (by decide)) (hF.1 10 (by decide)) (hF.1 11 (by decide))) hgd (fun hne => ?_) k1 ((hO1.fr (by decide) (by decide)).trans (hF.sub (by decide) (by decide) (by decide)))
    have hne2 : ps ≠ none := by
      rcases hgd with ⟨-, q⟩ | ⟨-, q⟩
      · rw [← q]; exact hne
      · exact absurd q hne
    exact (hE2 hne2).snoc (e := ((k, t, o, f), tb)) k1 k2 k3 k4 k5 k6
  have hmid : ∀ (c : Int32), (0 < i → (nI 0 < c ↔ k < p) ∧ (c = nI 0 ↔ p = k)) → (i = 0 → c = -1) → WP (d + 3) mMd_takeEntry 146 [some (.ref m), some (.int (nI tb)), some (.int (nI i)), some (.long (lN (rv p))), none, some (.int y), x6, x7, some (.long (lN (rv k))), none, some (.int (nI t)), some (.int (nI o)), some (.int (nI f)), x13] [.int c] (MM (AR M m A L) m g) z w Q := by
    intro c hc hc0
    have hbad : gdp (i = 0 ∨ p < k ∨ (p = k ∧ t < pt)) ps none → WP (d + 3) mMd_takeEntry 173 [some (.ref m), some (.int (nI tb)), some (.int (nI i)), some (.long (lN (rv p))), none, some (.int y), x6, x7, some (.long (lN (rv k))), none, some (.int (nI t)), some (.int (nI o)), some (.int (nI f)), some (.int c)] [.ref m] (MM (AR M m A L) m g) z w Q := by
      intro hgd
      simp only [sMd_takeEntry_173, sMd_takeEntry_174, sMd_takeEntry_177, rMd_takeEntry_178 xb0, rMd_takeEntry_178 xb1]
      exact hfin _ none _ hR.bad hgd Oa.u
    have hok : ∀ l, ps = some l → (i = 0 ∨ p < k ∨ (p = k ∧ t < pt)) → WP (d + 3) mMd_takeEntry 177 [some (.ref m), some (.int (nI tb)), some (.int (nI i)), some (.long (lN (rv p))), none, some (.int y), x6, x7, some (.long (lN (rv k))), none, some (.int (nI t)), some (.int (nI o)), some (.int (nI f)), some (.int c)] [.ref m] (MM (AR M m A L) m g) z w Q := by
      intro l hps h
      subst hps
      simp only [sMd_takeEntry_177, rMd_takeEntry_178 xb0, rMd_takeEntry_178 xb1]
      exact hfin _ (some l) _ hR.fine (gdp.yes h) Oa.u
    simp only [sMd_takeEntry_146, sMd_takeEntry_148, sMd_takeEntry_149, rMd_takeEntry_150, sMd_takeEntry_153, xk_i, xk_l, xk_a, xk_n, xk_0, Option.toList_some, Option.toList_none, List.cons_append, List.nil_append]
    cases ps with
    | none => rw [hR.n, if_neg (by decide)]; exact hbad gdp.no
    | some l =>
      obtain ⟨hy1, hy2⟩ := hy (by simp)
      rw [hR.s, if_pos rfl]
      subst hy1
      simp only [sMd_takeEntry_156, sMd_takeEntry_158, sMd_takeEntry_161, sMd_takeEntry_163, sMd_takeEntry_166, sMd_takeEntry_168, sMd_takeEntry_170, nI_ltI (a := t) (b := pt) (by omega) (by omega)]
      by_cases hi0 : i = 0
      · have := hc0 hi0
        subst this
        rw [if_neg (by decide), if_neg (by decide)]
        exact hok l rfl (Or.inl hi0)
      · obtain ⟨c1, c2⟩ := hc (by omega)
        simp only [c1, c2]
        by_cases h1 : k < p
        · rw [if_pos h1]; exact hbad (gdp.not (by omega))
        · rw [if_neg h1]
          by_cases h2 : p = k
          · rw [if_pos h2]
            by_cases h3 : t < pt
            · rw [if_pos h3]; exact hok l rfl (by omega)
            · rw [if_neg h3]; exact hbad (gdp.not (by omega))
          · rw [if_neg h2]; exact hok l rfl (by omega)
  simp only [sMd_takeEntry_132, sMd_takeEntry_133, sMd_takeEntry_136, sMd_takeEntry_137, nI_eq (a := i) (b := 0) (by omega) (by omega)]
  by_cases hi0 : i = 0
  · rw [if_pos hi0]
    exact hmid (-1) (fun q => by omega) (fun _ => rfl)
  · rw [if_neg hi0]
    simp only [sMd_takeEntry_140, sMd_takeEntry_141]
    rw [sMd_takeEntry_143, c_compare (by omega) (by omega)]
    simp only [xk_i, xk_l, xk_a, xk_n, xk_0, Option.toList_some, Option.toList_none, List.cons_append, List.nil_append]
    exact hmid _ (fun _ => ⟨by rw [cmp_gt, rv_rv' hp, rv_rv' hk], by rw [cmp_eq, rv_rv' hp, rv_rv' hk]⟩) (fun q => absurd q hi0)
set_option maxHeartbeats 1000000 in
theorem c_takeEntry {i p lw hg tb : Nat} {y : Int32} {pt : Nat} (hi : i < 2 ^ 30) (hp : p < 2 ^ 60) (hp0 : i = 0 → p = 0) (hy : y = nI pt ∧ pt < 2 ^ 30) (h12 : g 12 = nI lw) (h13 : g 13 = nI hg) (hlw : lw ≤ 2000) (hhg : hg ≤ 2000) (hB : BA A base bs) (hR : MrS g base bs ps) (hE : EnA g A L E) (hl : E.length < 340)
    (K : ∀ g' A' L' k ps', k < 2 ^ 60 → MrS g' base bs ps' → PR (eD i p pt lw hg) ps (fun e => e.1 = k ∧ EnA g' A' L' (E ++ [(e, tb)])) ps' → g' 19 = nI (E.length + 1) → Fr [9, 11, 19] [12, 13, 14, 15] [11] g g' A A' L L' → Q (some (.long (lN (rv k)))) (MM (AR M m A' L') m g') z w) :
    WP (d + 3) mMd_takeEntry 0 [some (.ref m), some (.int (nI tb)), some (.int (nI i)), some (.long (lN (rv p))), none, some (.int y), none, none, none, none, none, none, none, none] [] (MM (AR M m A L) m g) z w Q := by
  classical
  have hrp := rv_lt p
  simp only [sMd_takeEntry_0, rMd_takeEntry_1]
  refine c_takeNumber hB.by hR (fun g1 sh ps1 hsh hR1 hP1 hO1 => ?_)
  simp only [sMd_takeEntry_4, sMd_takeEntry_6, rMd_takeEntry_7, xk_i, xk_l, xk_a, xk_n, xk_0, Option.toList_some, Option.toList_none, List.cons_append, List.nil_append]
  refine c_takeNumber hB.by hR1 (fun g2 n ps2 hn hR2 hP2 hO2 => ?_)
  simp only [sMd_takeEntry_10, sMd_takeEntry_12, sMd_takeEntry_13, sMd_takeEntry_14, sMd_takeEntry_16, rMd_takeEntry_18, xk_i, xk_l, xk_a, xk_n, xk_0, Option.toList_some, Option.toList_none, List.cons_append, List.nil_append]
  refine c_takeName hB.by hp hsh hn hR2 (fun g3 k ps3 hk hR3 hP3 hO3 => ?_)
  have hrk := rv_lt k
  have hgo : ∀ (g4 : Nat → Int32) (ps4 : Option (List Nat)), MrS g4 base bs ps4 → gdp (sh = shd i p k) ps3 ps4 → Oa g3 g4 → WP (d + 3) mMd_takeEntry 60 [some (.ref m), some (.int (nI tb)), some (.int (nI i)), some (.long (lN (rv p))), none, some (.int y), some (.int (nI sh)), some (.int (nI n)), some (.long (lN (rv k))), none, none, none, none, none] [] (MM (AR M m A L) m g4) z w Q := by
    intro g4 ps4 hR4 hgd4 hO4
    have hOa : Oa g g4 := ((hO1.trans hO2).trans hO3).trans hO4
    simp only [sMd_takeEntry_60, rMd_takeEntry_61]
    refine c_takeNumber hB.by hR4 (fun g5 tm ps5 htm hR5 hP5 hO5 => ?_)
    simp only [sMd_takeEntry_64, sMd_takeEntry_66, rMd_takeEntry_67, xk_i, xk_l, xk_a, xk_n, xk_0, Option.toList_some, Option.toList_none, List.cons_append, List.nil_append]
    refine c_takeNumber hB.by hR5 (fun g6 o ps6 ho hR6 hP6 hO6 => ?_)
    simp only [sMd_takeEntry_70, sMd_takeEntry_72, rMd_takeEntry_73, xk_i, xk_l, xk_a, xk_n, xk_0, Option.toList_some, Option.toList_none, List.cons_append, List.nil_append]
    refine c_takeNumber hB.by hR6 (fun g7 nw ps7 hnw hR7 hP7 hO7 => ?_)
    have hOb : Oa g g7 := ((hOa.trans hO5).trans hO6).trans hO7
    have hgo2 : ∀ (g8 : Nat → Int32) (ps8 : Option (List Nat)), MrS g8 base bs ps8 → gdp (GK k ∧ (lw ≤ tm ∧ tm ≤ hg) ∧ o ≤ 65535 ∧ nw ≤ 65535) ps7 ps8 → Oa g7 g8 → WP (d + 3) mMd_takeEntry 132 [some (.ref m), some (.int (nI tb)), some (.int (nI i)), some (.long (lN (rv p))), none, some (.int y), some (.int (nI sh)), some (.int (nI n)), some (.long (lN (rv k))), none, some (.int (nI tm)), some (.int (nI o)), some (.int (nI nw)), none] [] (MM (AR M m A L) m g8) z w Q := by
      intro g8 ps8 hR8 hgd8 hO8
      have hO : Oa g g8 := hOb.trans hO8
      have hF8 : Fr [9, 11] [] [] g g8 A A L L := hO.fr (by decide) (by decide)
      have hE8 := hE.kept hF8 (by decide) (by decide) (by decide) (by decide) (by decide) (by decide)
      refine te_end hi hp hk (by omega) (fun _ => hy) hR8 hE8.1 (fun _ => hE8) hl (fun g' A' L' ps' hR' hgd' hE' h19 hF' => K g' A' L' k ps' hk hR' ?_ h19 ((hO.fr (by decide) (by decide)).trans hF'))
      refine PR.congr ?_ (fun l => (eD_eq hp0 l).symm)
      refine PR.seq (a := sh) (f := fun sh l => (vD l).bind fun n => (nM p sh n.1 n.2).bind fun k => cif (sh = shd i p k.1)
        ((vD k.2).bind fun tm => (vD tm.2).bind fun o => (vD o.2).bind fun nw => cif (GK k.1 ∧ (lw ≤ tm.1 ∧ tm.1 ≤ hg) ∧ o.1 ≤ 65535 ∧ nw.1 ≤ 65535)
        (cif (i = 0 ∨ p < k.1 ∨ (p = k.1 ∧ tm.1 < pt)) (some (((k.1, tm.1, o.1, nw.1) : aent), nw.2)) none) none) none) hP1 (fun x hx => hx.symm) ?_
      refine PR.seq (a := n) (f := fun n l => (nM p sh n l).bind fun k => cif (sh = shd i p k.1)
        ((vD k.2).bind fun tm => (vD tm.2).bind fun o => (vD o.2).bind fun nw => cif (GK k.1 ∧ (lw ≤ tm.1 ∧ tm.1 ≤ hg) ∧ o.1 ≤ 65535 ∧ nw.1 ≤ 65535)
        (cif (i = 0 ∨ p < k.1 ∨ (p = k.1 ∧ tm.1 < pt)) (some (((k.1, tm.1, o.1, nw.1) : aent), nw.2)) none) none) none) hP2 (fun x hx => hx.symm) ?_
      refine PR.seq (a := k) (f := fun k l => cif (sh = shd i p k)
        ((vD l).bind fun tm => (vD tm.2).bind fun o => (vD o.2).bind fun nw => cif (GK k ∧ (lw ≤ tm.1 ∧ tm.1 ≤ hg) ∧ o.1 ≤ 65535 ∧ nw.1 ≤ 65535)
        (cif (i = 0 ∨ p < k ∨ (p = k ∧ tm.1 < pt)) (some (((k, tm.1, o.1, nw.1) : aent), nw.2)) none) none) none) hP3 (fun x hx => hx.symm) ?_
      refine PR.grc hgd4 ?_
      refine PR.seq (a := tm) (f := fun tm l => (vD l).bind fun o => (vD o.2).bind fun nw => cif (GK k ∧ (lw ≤ tm ∧ tm ≤ hg) ∧ o.1 ≤ 65535 ∧ nw.1 ≤ 65535)
        (cif (i = 0 ∨ p < k ∨ (p = k ∧ tm < pt)) (some (((k, tm, o.1, nw.1) : aent), nw.2)) none) none) hP5 (fun x hx => hx.symm) ?_
      refine PR.seq (a := o) (f := fun o l => (vD l).bind fun nw => cif (GK k ∧ (lw ≤ tm ∧ tm ≤ hg) ∧ o ≤ 65535 ∧ nw.1 ≤ 65535)
        (cif (i = 0 ∨ p < k ∨ (p = k ∧ tm < pt)) (some (((k, tm, o, nw.1) : aent), nw.2)) none) none) hP6 (fun x hx => hx.symm) ?_
      refine PR.seq (a := nw) (f := fun nw l => cif (GK k ∧ (lw ≤ tm ∧ tm ≤ hg) ∧ o ≤ 65535 ∧ nw ≤ 65535)
        (cif (i = 0 ∨ p < k ∨ (p = k ∧ tm < pt)) (some (((k, tm, o, nw) : aent), l)) none) none) hP7 (fun x hx => hx.symm) ?_
      refine PR.grc hgd8 (PR.grc hgd' ?_)
      cases ps' with
      | none => rfl
      | some l => exact ⟨⟨rfl, hE' (by simp)⟩, rfl⟩
    have hbad : gdp (GK k ∧ (lw ≤ tm ∧ tm ≤ hg) ∧ o ≤ 65535 ∧ nw ≤ 65535) ps7 none → WP (d + 3) mMd_takeEntry 124 [some (.ref m), some (.int (nI tb)), some (.int (nI i)), some (.long (lN (rv p))), none, some (.int y), some (.int (nI sh)), some (.int (nI n)), some (.long (lN (rv k))), none, some (.int (nI tm)), some (.int (nI o)), some (.int (nI nw)), none] [.ref m] (MM (AR M m A L) m g7) z w Q := by
      intro hgd
      simp only [sMd_takeEntry_124, sMd_takeEntry_125, sMd_takeEntry_128, rMd_takeEntry_129 xb0, rMd_takeEntry_129 xb1]
      exact hgo2 _ none hR7.bad hgd Oa.u
    simp only [sMd_takeEntry_76, sMd_takeEntry_78, sMd_takeEntry_79, rMd_takeEntry_80, sMd_takeEntry_83, xk_i, xk_l, xk_a, xk_n, xk_0, Option.toList_some, Option.toList_none, List.cons_append, List.nil_append]
    cases ps7 with
    | none => rw [hR7.n, if_neg (by decide)]; exact hbad gdp.no
    | some l =>
      rw [hR7.s, if_pos rfl]
      simp only [sMd_takeEntry_86]
      rw [sMd_takeEntry_88, c_isGood2 (by omega)]
      simp only [sMd_takeEntry_91, sMd_takeEntry_94, sMd_takeEntry_96, rMd_takeEntry_97, sMd_takeEntry_100, rMd_takeEntry_101, xk_i, xk_l, xk_a, xk_n, xk_0, Option.toList_some, Option.toList_none, List.cons_append, List.nil_append, (hOb 12 (by decide) (by decide)).trans h12, (hOb 13 (by decide) (by decide)).trans h13]
      by_cases hG : GK k
      · rw [if_neg (by rw [if_pos ((GN_GK hk).mpr hG)]; decide), sMd_takeEntry_104, c_within]
        simp only [sMd_takeEntry_107, sMd_takeEntry_110, sMd_takeEntry_112, sMd_takeEntry_114, sMd_takeEntry_117, sMd_takeEntry_119, sMd_takeEntry_121, sMd_takeEntry_128, rMd_takeEntry_129 xb0, rMd_takeEntry_129 xb1, xk_i, xk_l, xk_a, xk_n, xk_0, Option.toList_some, Option.toList_none, List.cons_append, List.nil_append, nI_leI (a := lw) (b := tm) (by omega) (by omega), nI_leI (a := tm) (b := hg) (by omega) (by omega), nI_ltI (a := 65535) (b := o) (by omega) (by omega), nI_leI (a := nw) (b := 65535) (by omega) (by omega)]
        by_cases hw : lw ≤ tm ∧ tm ≤ hg
        · rw [if_neg (by rw [if_pos hw]; decide)]
          by_cases h1 : 65535 < o
          · rw [if_pos h1]; exact hbad (gdp.not (fun q => by omega))
          · rw [if_neg h1]
            by_cases h2 : nw ≤ 65535
            · rw [if_pos h2]; exact hgo2 _ (some l) hR7.fine (gdp.yes ⟨hG, hw, by omega, h2⟩) Oa.u
            · rw [if_neg h2]; exact hbad (gdp.not (fun q => h2 q.2.2.2))
        · rw [if_pos (by rw [if_neg hw])]; exact hbad (gdp.not (fun q => hw q.2.1))
      · rw [if_pos (by rw [if_neg (fun q => hG ((GN_GK hk).mp q))])]
        exact hbad (gdp.not (fun q => hG q.1))
  have hbad : gdp (sh = shd i p k) ps3 none → WP (d + 3) mMd_takeEntry 52 [some (.ref m), some (.int (nI tb)), some (.int (nI i)), some (.long (lN (rv p))), none, some (.int y), some (.int (nI sh)), some (.int (nI n)), some (.long (lN (rv k))), none, none, none, none, none] [.ref m] (MM (AR M m A L) m g3) z w Q := by
    intro hgd
    simp only [sMd_takeEntry_52, sMd_takeEntry_53, sMd_takeEntry_56, rMd_takeEntry_57 xb0, rMd_takeEntry_57 xb1]
    exact hgo _ none hR3.bad hgd Oa.u
  simp only [sMd_takeEntry_21, sMd_takeEntry_23, sMd_takeEntry_24, rMd_takeEntry_25, sMd_takeEntry_28, xk_i, xk_l, xk_a, xk_n, xk_0, Option.toList_some, Option.toList_none, List.cons_append, List.nil_append]
  cases ps3 with
  | none => rw [hR3.n, if_neg (by decide)]; exact hbad gdp.no
  | some l =>
    rw [hR3.s, if_pos rfl]
    simp only [sMd_takeEntry_31, sMd_takeEntry_33, sMd_takeEntry_34, sMd_takeEntry_35 (y := nI 4) (by decide), sMd_takeEntry_36, sMd_takeEntry_39, sMd_takeEntry_40, sMd_takeEntry_49, nI_rem (a := i) (b := 4) (by omega) (by decide), nI_eq (a := i % 4) (b := 0) (by omega) (by omega), nI_eq (a := sh) (b := 0) (by omega) (by omega)]
    have hok : sh = shd i p k → WP (d + 3) mMd_takeEntry 56 [some (.ref m), some (.int (nI tb)), some (.int (nI i)), some (.long (lN (rv p))), none, some (.int y), some (.int (nI sh)), some (.int (nI n)), some (.long (lN (rv k))), none, none, none, none, none] [.ref m] (MM (AR M m A L) m g3) z w Q := by
      intro h
      simp only [sMd_takeEntry_56, rMd_takeEntry_57 xb0, rMd_takeEntry_57 xb1]
      exact hgo _ (some l) hR3.fine (gdp.yes h) Oa.u
    by_cases hi4 : i % 4 = 0
    · have e : shd i p k = 0 := if_pos hi4
      rw [e] at hok hbad
      rw [if_pos hi4]
      by_cases hs : sh = 0
      · rw [if_pos hs]; exact hok hs
      · rw [if_neg hs]; exact hbad (gdp.not hs)
    · have e : shd i p k = alk p k := if_neg hi4
      rw [e] at hok hbad
      rw [if_neg hi4]
      simp only [sMd_takeEntry_43, sMd_takeEntry_44]
      rw [sMd_takeEntry_46, c_alike2 (by omega) (by omega), rv_rv' hp, rv_rv' hk]
      simp only [sMd_takeEntry_49, xk_i, xk_l, xk_a, xk_n, xk_0, Option.toList_some, Option.toList_none, List.cons_append, List.nil_append]
      simp only [nI_eq (a := sh) (b := alk p k) (by omega) (by have := alk_self p k; have := nln_le (rv k); rw [nln_alk, rv_rv' hk] at this; omega)]
      by_cases hs : sh = alk p k
      · rw [if_pos hs]; exact hok hs
      · rw [if_neg hs]; exact hbad (gdp.not hs)
end ME
