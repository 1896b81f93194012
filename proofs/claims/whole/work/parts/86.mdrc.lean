/-! the reference: records that are taken -/
theorem GN_GK {k : Nat} (hk : k < 2 ^ 60) : GN (rv k) ↔ GK k := by
  have e : rv (rv k) = k := by rw [rv_rv, Nat.mod_eq_of_lt hk]
  have eL : nln (rv k) = alk k k := by rw [nln_alk, e]
  have h12 : alk k k ≤ 12 := by rw [← eL]; exact nln_le _
  unfold GN GK
  rw [e, eL]
  constructor
  · rintro ⟨h1, h2⟩
    exact ⟨hk, h2, fun i a b => by rw [← nd_of k b]; exact nd_small h1 a⟩
  · rintro ⟨_, h2, h3⟩
    exact ⟨lt_of_nd (rv_lt k) h12 (fun i a b => by rw [nd_of k b]; exact h3 i a b), h2⟩
noncomputable def cif {α : Type} (c : Prop) (a b : α) : α := @ite α c (Classical.propDecidable c) a b
theorem cif_pos {α : Type} {c : Prop} {a b : α} (h : c) : cif c a b = a := if_pos h
theorem cif_neg {α : Type} {c : Prop} {a b : α} (h : ¬ c) : cif c a b = b := if_neg h
def gdp (c : Prop) (ps ps' : Option (List Nat)) : Prop := (c ∧ ps' = ps) ∨ (¬ c ∧ ps' = none)
theorem gdp.no {c : Prop} : gdp c none none := (Classical.em c).elim (fun h => Or.inl ⟨h, rfl⟩) (fun h => Or.inr ⟨h, rfl⟩)
theorem gdp.yes {c : Prop} {ps : Option (List Nat)} (h : c) : gdp c ps ps := Or.inl ⟨h, rfl⟩
theorem gdp.not {c : Prop} {ps : Option (List Nat)} (h : ¬ c) : gdp c ps none := Or.inr ⟨h, rfl⟩
theorem PR.grc {α : Type} {f : List Nat → Option (α × List Nat)} {c : Prop} {ps ps1 ps' : Option (List Nat)} {rel : α → Prop} (h0 : gdp c ps ps1) (h : PR f ps1 rel ps') : PR (fun l => cif c (f l) none) ps rel ps' := by
  rcases h0 with ⟨q, e⟩ | ⟨q, e⟩
  · subst e
    exact h.congr (fun l => (cif_pos q).symm)
  · subst e
    rw [h.no]
    cases ps with
    | none => rfl
    | some l =>
      unfold PR
      rw [Option.bind_some, cif_neg q]
theorem nK_nM {p sh n : Nat} {l : List Nat} : nK p sh n l = (nM p sh n l).bind fun q => if gk q.1 = true then some q else none := by
  unfold nK nM
  by_cases h : sh + n ≤ 12
  · rw [if_neg (by omega), if_pos h]
  · rw [if_pos (by omega), if_neg h]; rfl
noncomputable def cD2 (kind : Nat) (l : List Nat) : Option (Int × List Nat) :=
  if kind = 1 then (vD l).bind fun q => cif (1 ≤ q.1 ∧ q.1 ≤ 65535) (some ((q.1 : Int), q.2)) none
  else if kind = 2 then (vD l).bind fun q => (nM 0 0 q.1 q.2).bind fun k => cif (GK k.1) (some (-(k.1 : Int), k.2)) none
  else some (0, l)
theorem nM_gk {p sh n i : Nat} {l : List Nat} {k : Nat × List Nat} (h : nM p sh n l = some k) (hs : sh = shd i p k.1) : gk k.1 = true ↔ GK k.1 :=
  ⟨fun q => (nK_GK (i := i) (n := n) (l := l) (by rw [nK_nM, h, Option.bind_some, if_pos q]) hs).1, fun q => q.2.1⟩
theorem cD_eq {kind : Nat} {l : List Nat} (h : kind ≤ 2) : cD kind l = cD2 kind l := by
  unfold cD cD2
  by_cases h0 : kind = 0
  · subst h0; rfl
  · rw [if_neg h0]
    by_cases h1 : kind = 1
    · rw [if_pos h1, if_pos h1]
      cases vD l with
      | none => rfl
      | some q =>
        simp only [Option.bind_some]
        by_cases hq : 1 ≤ q.1 ∧ q.1 ≤ 65535
        · rw [if_pos hq, cif_pos hq]
        · rw [if_neg hq, cif_neg hq]
    · have h2 : kind = 2 := by omega
      rw [if_neg h1, if_neg h1, if_pos h2, if_pos h2]
      cases vD l with
      | none => rfl
      | some q =>
        simp only [Option.bind_some]
        rw [nK_nM]
        cases hn : nM 0 0 q.1 q.2 with
        | none => rfl
        | some k =>
          simp only [Option.bind_some]
          have hg := nM_gk (i := 0) hn rfl
          by_cases hG : GK k.1
          · rw [if_pos (hg.mpr hG), cif_pos hG]; rfl
          · rw [if_neg (fun q => hG (hg.mp q)), cif_neg hG]; rfl
noncomputable def rD2 (i p lw hg : Nat) (l : List Nat) : Option (arec × List Nat) :=
  (vD l).bind fun sh => (vD sh.2).bind fun hd => (nM p sh.1 (hd.1 / 4) hd.2).bind fun k => cif (4 ≤ hd.1 ∧ sh.1 = shd i p k.1)
  ((vD k.2).bind fun dt => (cD2 (hd.1 % 4) dt.2).bind fun c => cif (hd.1 % 4 ≠ 3 ∧ lw + dt.1 ≤ hg ∧ GK k.1 ∧ (i = 0 ∨ p < k.1)) (some ((k.1, lw + dt.1, c.1), c.2)) none) none
theorem rD_eq {i p lw hg : Nat} (hp : i = 0 → p = 0) (l : List Nat) : rD i p lw hg l = rD2 i p lw hg l := by
  unfold rD rD2
  cases h1 : vD l with
  | none => rfl
  | some sh =>
    simp only [Option.bind_some]
    cases h2 : vD sh.2 with
    | none => rfl
    | some hd =>
      simp only [Option.bind_some]
      rw [nK_nM]
      cases h3 : nM p sh.1 (hd.1 / 4) hd.2 with
      | none => simp only [Option.bind_none]; split <;> rfl
      | some k =>
        simp only [Option.bind_some]
        by_cases hc : 4 ≤ hd.1 ∧ sh.1 = shd i p k.1
        · rw [cif_pos hc, if_pos (by omega)]
          have hgk := nM_gk h3 hc.2
          have hno : ¬ (GK k.1 ∧ (i = 0 ∨ p < k.1)) → ((vD k.2).bind fun dt => (cD2 (hd.1 % 4) dt.2).bind fun c => cif (hd.1 % 4 ≠ 3 ∧ lw + dt.1 ≤ hg ∧ GK k.1 ∧ (i = 0 ∨ p < k.1)) (some (((k.1, lw + dt.1, c.1) : arec), c.2)) none) = none := by
            intro hn
            cases vD k.2 with
            | none => rfl
            | some dt =>
              simp only [Option.bind_some]
              cases cD2 (hd.1 % 4) dt.2 with
              | none => rfl
              | some c =>
                simp only [Option.bind_some]
                rw [cif_neg (fun q => hn q.2.2)]
          by_cases hG : GK k.1
          · rw [if_pos (hgk.mpr hG), Option.bind_some]
            have hpp : p < k.1 ↔ (i = 0 ∨ p < k.1) := ⟨Or.inr, fun q => q.elim (fun q => by rw [hp q]; exact hG.pos) id⟩
            by_cases hp2 : p < k.1
            · rw [if_pos ⟨hc.2, hp2⟩]
              cases vD k.2 with
              | none => rfl
              | some dt =>
                simp only [Option.bind_some]
                by_cases hh : lw + dt.1 ≤ hg
                · rw [if_pos hh]
                  by_cases h33 : hd.1 % 4 = 3
                  · rw [h33]
                    have e1 : cD 3 dt.2 = none := rfl
                    have e2 : cD2 3 dt.2 = some (0, dt.2) := rfl
                    rw [e1, e2, Option.bind_none, Option.bind_some, cif_neg (fun q => q.1 rfl)]
                  · rw [cD_eq (by omega)]
                    cases cD2 (hd.1 % 4) dt.2 with
                    | none => rfl
                    | some c =>
                      simp only [Option.bind_some]
                      rw [cif_pos ⟨h33, hh, hG, hpp.mp hp2⟩]
                · rw [if_neg hh]
                  cases cD2 (hd.1 % 4) dt.2 with
                  | none => rfl
                  | some c =>
                    simp only [Option.bind_some]
                    rw [cif_neg (fun q => hh q.2.1)]
            · rw [if_neg (fun q => hp2 q.2), hno (fun q => hp2 (hpp.mpr q.2))]
          · rw [if_neg (fun q => hG (hgk.mp q)), Option.bind_none, hno (fun q => hG q.1)]
        · rw [cif_neg hc]
          by_cases h4 : 1 ≤ hd.1 / 4
          · rw [if_pos h4]
            by_cases hg' : gk k.1 = true
            · rw [if_pos hg', Option.bind_some, if_neg (fun q => hc ⟨by omega, q.1⟩)]
            · rw [if_neg hg']; rfl
          · rw [if_neg h4]
theorem vN_neg (k : Nat) : vN (-(k : Int)) = rv k := by
  unfold vN
  by_cases h : k = 0
  · subst h; rfl
  · rw [if_neg (by omega), Int.neg_neg, Int.toNat_natCast]
theorem vN_nat (k : Nat) : vN (k : Int) = k := by
  unfold vN
  rw [if_pos (by omega), Int.toNat_natCast]
theorem rv_rv' {k : Nat} (h : k < 2 ^ 60) : rv (rv k) = k := by rw [rv_rv, Nat.mod_eq_of_lt h]
section MC
variable {d m base : Nat} {bs : List Nat} {ps : Option (List Nat)} {M : xM} {g : Nat → Int32} {A : Nat → Nat → Int32} {L : Nat → Nat → Int64} {N : List arec} {E : List (aent × Nat)} {z w : Nat} {Q : Option Value → xM → Nat → Nat → Prop}
set_option maxHeartbeats 1000000 in
theorem tr_end {i p hg k t what : Nat} {c : Int} {x4 x5 x12 : Option Value} (hi : i < 2 ^ 30) (hp : p < 2 ^ 60) (hk : k < 2 ^ 60) (ht : t < 2 ^ 30) (h13 : g 13 = nI hg) (hhg : hg ≤ 2000) (hw : what ≤ 3) (hc : ps ≠ none → what ≠ 3 → knd c = what)
    (hR : MrS g base bs ps) (hN : NmA g A L N) (hl : N.length < 260) (hNk : ∀ s ∈ N, s.1 < 2 ^ 60)
    (K : ∀ g' A' L' ps', MrS g' base bs ps' → gdp (what ≠ 3 ∧ t ≤ hg ∧ GK k ∧ (i = 0 ∨ p < k)) ps ps' → (ps' ≠ none → NmA g' A' L' (ddi N (k, t, c))) → Fr [9, 11, 14] [8, 9] [7, 10] g g' A A' L L' → Q (some (.long (lN (rv k)))) (MM (AR M m A' L') m g') z w) :
    WP (d + 3) mMd_takeRecord 178 [some (.ref m), some (.int (nI i)), some (.long (lN (rv p))), none, x4, x5, some (.long (lN (rv k))), none, some (.int (nI t)), some (.int (nI what)), some (.long (lN (vN c))), none, x12] [] (MM (AR M m A L) m g) z w Q := by
  classical
  have hrp := rv_lt p
  have hrk := rv_lt k
  have hbad : gdp (what ≠ 3 ∧ t ≤ hg ∧ GK k ∧ (i = 0 ∨ p < k)) ps none → WP (d + 3) mMd_takeRecord 222 [some (.ref m), some (.int (nI i)), some (.long (lN (rv p))), none, x4, x5, some (.long (lN (rv k))), none, some (.int (nI t)), some (.int (nI what)), some (.long (lN (vN c))), none, x12] [.ref m] (MM (AR M m A L) m g) z w Q := by
    intro hgd
    simp only [sMd_takeRecord_222, sMd_takeRecord_223, sMd_takeRecord_226, rMd_takeRecord_227 xb0, rMd_takeRecord_227 xb1, sMd_takeRecord_230, rMd_takeRecord_231, sMd_takeRecord_234, sMd_takeRecord_249, sMd_takeRecord_251, ug_ap, Nat.reduceEqDiff, reduceIte]
    rw [if_neg (by decide)]
    exact K _ _ _ none hR.bad hgd (fun q => absurd rfl q) (Fr.ug (by decide))
  simp only [sMd_takeRecord_178, sMd_takeRecord_179, rMd_takeRecord_180, sMd_takeRecord_183]
  cases ps with
  | none => rw [hR.n, if_neg (by decide)]; exact hbad gdp.no
  | some l =>
    have q1 := nI_eq (a := what) (b := 3) (by omega) (by omega)
    have q2 := nI_ltI (a := hg) (b := t) (by omega) (by omega)
    rw [hR.s, if_pos rfl]
    simp only [sMd_takeRecord_186, sMd_takeRecord_188, sMd_takeRecord_189, sMd_takeRecord_192, sMd_takeRecord_194, rMd_takeRecord_195, sMd_takeRecord_198, sMd_takeRecord_201, h13, q1, q2]
    by_cases h3 : what = 3
    · rw [if_pos h3]; exact hbad (gdp.not (fun q => q.1 h3))
    · rw [if_neg h3]
      by_cases h4 : hg < t
      · rw [if_pos h4]; exact hbad (gdp.not (fun q => by omega))
      · rw [if_neg h4, sMd_takeRecord_203, c_isGood2 (by omega)]
        simp only [sMd_takeRecord_206, xk_i, xk_l, xk_a, xk_n, xk_0, Option.toList_some, Option.toList_none, List.cons_append, List.nil_append]
        by_cases hG : GK k
        · rw [if_neg (by rw [if_pos ((GN_GK hk).mpr hG)]; decide)]
          have hfin : (i = 0 ∨ p < k) → WP (d + 3) mMd_takeRecord 226 [some (.ref m), some (.int (nI i)), some (.long (lN (rv p))), none, x4, x5, some (.long (lN (rv k))), none, some (.int (nI t)), some (.int (nI what)), some (.long (lN (vN c))), none, x12] [.ref m] (MM (AR M m A L) m g) z w Q := by
            intro hip
            simp only [sMd_takeRecord_226, rMd_takeRecord_227 xb0, rMd_takeRecord_227 xb1, sMd_takeRecord_230, rMd_takeRecord_231, sMd_takeRecord_234, sMd_takeRecord_237, sMd_takeRecord_238, sMd_takeRecord_240, sMd_takeRecord_242, sMd_takeRecord_244, rMd_takeRecord_246, ug_ap, Nat.reduceEqDiff, reduceIte]
            rw [← hc (by simp) h3]
            have hN2 : NmA (ug g 11 (nI 0)) A L N := hN.kept (Fr.ug (gs := [11]) (as := []) (ls := []) (by decide)) (by decide) (by decide) (by decide) (by decide) (by decide)
            refine c_enter (r := (k, t, c)) hk hNk hN2 hl (fun g' A' L' hN' hF' => ?_)
            simp only [sMd_takeRecord_249, sMd_takeRecord_251, xk_i, xk_l, xk_a, xk_n, xk_0, Option.toList_some, Option.toList_none, List.cons_append, List.nil_append]
            refine K g' A' L' (some l) ?_ (gdp.yes ⟨h3, by omega, hG, hip⟩) (fun _ => hN') ((Fr.ug (by decide)).trans (hF'.sub (by decide) (by decide) (by decide)))
            exact hR.fine.kept (hF'.1 9 (by decide)) (hF'.1 10 (by decide)) (hF'.1 11 (by decide))
          have q3 := nI_leI (a := i) (b := 0) (by omega) (by omega)
          simp only [sMd_takeRecord_209, sMd_takeRecord_210, sMd_takeRecord_213, sMd_takeRecord_214, q3]
          by_cases hi0 : i = 0
          · rw [if_pos (by omega)]; exact hfin (Or.inl hi0)
          · rw [if_neg (by omega), sMd_takeRecord_216, c_compare (by omega) (by omega)]
            simp only [sMd_takeRecord_219, xk_i, xk_l, xk_a, xk_n, xk_0, Option.toList_some, Option.toList_none, List.cons_append, List.nil_append, cmp_lt, rv_rv' hp, rv_rv' hk]
            by_cases hpk : p < k
            · rw [if_pos hpk]; exact hfin (Or.inr hpk)
            · rw [if_neg hpk]; exact hbad (gdp.not (fun q => q.2.2.2.elim hi0 hpk))
        · rw [if_pos (by rw [if_neg (fun q => hG ((GN_GK hk).mp q))])]
          exact hbad (gdp.not (fun q => hG q.2.2.1))
set_option maxHeartbeats 1000000 in
/-- what stands behind the time of a record -/
theorem tr_cont {i p hg k t hd : Nat} {x4 x9 x10 x11 x12 : Option Value} (hi : i < 2 ^ 30) (hp : p < 2 ^ 60) (hk : k < 2 ^ 60) (ht : t < 2 ^ 30) (hhd : hd < 2097152) (h13 : g 13 = nI hg) (hhg : hg ≤ 2000)
    (hB : BA A base bs) (hR : MrS g base bs ps) (hN : NmA g A L N) (hl : N.length < 260) (hNk : ∀ s ∈ N, s.1 < 2 ^ 60)
    (K : ∀ g' A' L' ps', MrS g' base bs ps' → PR (fun l => (cD2 (hd % 4) l).bind fun c => cif (hd % 4 ≠ 3 ∧ t ≤ hg ∧ GK k ∧ (i = 0 ∨ p < k)) (some (((k, t, c.1) : arec), c.2)) none) ps (fun r => r.1 = k ∧ NmA g' A' L' (ddi N r)) ps' → Fr [9, 11, 14] [8, 9] [7, 10] g g' A A' L L' → Q (some (.long (lN (rv k)))) (MM (AR M m A' L') m g') z w) :
    WP (d + 3) mMd_takeRecord 79 [some (.ref m), some (.int (nI i)), some (.long (lN (rv p))), none, x4, some (.int (nI hd)), some (.long (lN (rv k))), none, some (.int (nI t)), x9, x10, x11, x12] [] (MM (AR M m A L) m g) z w Q := by
  classical
  have hfin : ∀ (g1 : Nat → Int32) (c : Int) (ps1 ps2 : Option (List Nat)) (x12 : Option Value), MrS g1 base bs ps1 → PR (cD2 (hd % 4)) ps (fun x => c = x) ps1 → (ps1 ≠ none → hd % 4 ≠ 3 → knd c = hd % 4) → Oa g g1 → WP (d + 3) mMd_takeRecord 178 [some (.ref m), some (.int (nI i)), some (.long (lN (rv p))), none, x4, some (.int (nI hd)), some (.long (lN (rv k))), none, some (.int (nI t)), some (.int (nI (hd % 4))), some (.long (lN (vN c))), none, x12] [] (MM (AR M m A L) m g1) z w Q := by
    intro g1 c ps1 _ x12 hR1 hP1 hkn hO1
    have hF1 : Fr [9, 11] [] [] g g1 A A L L := hO1.fr (by decide) (by decide)
    refine tr_end hi hp hk ht ((hO1 13 (by decide) (by decide)).trans h13) hhg (by omega) hkn hR1 (hN.kept hF1 (by decide) (by decide) (by decide) (by decide) (by decide)) hl hNk (fun g' A' L' ps' hR' hgd hN' hF' => K g' A' L' ps' hR' ?_ ((hO1.fr (by decide) (by decide)).trans hF'))
    refine PR.seq (a := c) (f := fun c l => cif (hd % 4 ≠ 3 ∧ t ≤ hg ∧ GK k ∧ (i = 0 ∨ p < k)) (some (((k, t, c) : arec), l)) none) hP1 (fun x hx => hx.symm) ?_
    refine PR.grc hgd ?_
    cases ps' with
    | none => rfl
    | some l => exact ⟨⟨rfl, hN' (by simp)⟩, rfl⟩
  have q1 := nI_eq (a := hd % 4) (b := 1) (by omega) (by omega)
  have q2 := nI_eq (a := hd % 4) (b := 2) (by omega) (by omega)
  simp only [sMd_takeRecord_79, sMd_takeRecord_81, sMd_takeRecord_82 (y := nI 4) (by decide), sMd_takeRecord_83, sMd_takeRecord_85, sMd_takeRecord_86, sMd_takeRecord_88, sMd_takeRecord_90, sMd_takeRecord_91, sMd_takeRecord_132, sMd_takeRecord_134, sMd_takeRecord_135, xk_i, xk_l, xk_a, xk_n, xk_0, Option.toList_some, Option.toList_none, List.cons_append, List.nil_append, nI_rem (a := hd) (b := 4) (by omega) (by decide), q1, q2]
  by_cases h1 : hd % 4 = 1
  · rw [if_pos h1, sMd_takeRecord_94, rMd_takeRecord_95]
    refine c_takeNumber hB.by hR (fun g1 n ps1 hn hR1 hP1 hO1 => ?_)
    have hgo : ∀ (g2 : Nat → Int32) (ps2 : Option (List Nat)), MrS g2 base bs ps2 → gdp (1 ≤ n ∧ n ≤ 65535) ps1 ps2 → Oa g1 g2 → WP (d + 3) mMd_takeRecord 127 [some (.ref m), some (.int (nI i)), some (.long (lN (rv p))), none, x4, some (.int (nI hd)), some (.long (lN (rv k))), none, some (.int (nI t)), some (.int (nI (hd % 4))), some (.long (lN 0)), none, some (.int (nI n))] [] (MM (AR M m A L) m g2) z w Q := by
      intro g2 ps2 hR2 hgd hO2
      simp only [sMd_takeRecord_127, sMd_takeRecord_129, sMd_takeRecord_130, sMd_takeRecord_132, sMd_takeRecord_134, sMd_takeRecord_135, xk_i, xk_l, xk_a, xk_n, xk_0, Option.toList_some, Option.toList_none, List.cons_append, List.nil_append, q2]
      rw [if_neg (by omega), nI_l (n := n) (by omega)]
      have := hfin g2 (n : Int) ps2 none (some (.int (nI n))) hR2 ?_ (fun hps _ => ?_) (hO1.trans hO2)
      · rw [vN_nat] at this; exact this
      · unfold cD2
        simp only [if_pos h1]
        refine PR.seq (a := n) (f := fun (n : Nat) l => cif (1 ≤ n ∧ n ≤ 65535) (some ((n : Int), l)) none) hP1 (fun x hx => hx.symm) ?_
        refine PR.grc hgd ?_
        cases ps2 with
        | none => rfl
        | some l => exact ⟨rfl, rfl⟩
      · rcases hgd with ⟨q, -⟩ | ⟨-, q⟩
        · rw [h1]; unfold knd; rw [if_neg (by omega), if_pos (by omega)]
        · exact absurd q hps
    simp only [sMd_takeRecord_98, sMd_takeRecord_100, sMd_takeRecord_101, rMd_takeRecord_102, sMd_takeRecord_105, xk_i, xk_l, xk_a, xk_n, xk_0, Option.toList_some, Option.toList_none, List.cons_append, List.nil_append]
    cases ps1 with
    | none =>
      rw [hR1.n, if_neg (by decide)]
      simp only [sMd_takeRecord_119, sMd_takeRecord_120, sMd_takeRecord_123, rMd_takeRecord_124 xb0, rMd_takeRecord_124 xb1]
      exact hgo _ none hR1.bad gdp.no Oa.u
    | some l =>
      rw [hR1.s, if_pos rfl]
      simp only [sMd_takeRecord_108, sMd_takeRecord_110, sMd_takeRecord_111]
      rw [sMd_takeRecord_113, c_within]
      simp only [sMd_takeRecord_116, sMd_takeRecord_119, sMd_takeRecord_120, sMd_takeRecord_123, rMd_takeRecord_124 xb0, rMd_takeRecord_124 xb1, xk_i, xk_l, xk_a, xk_n, xk_0, Option.toList_some, Option.toList_none, List.cons_append, List.nil_append, nI_leI (a := 1) (b := n) (by omega) (by omega), nI_leI (a := n) (b := 65535) (by omega) (by omega)]
      by_cases hc : 1 ≤ n ∧ n ≤ 65535
      · rw [if_neg (by rw [if_pos hc]; decide)]
        exact hgo _ (some l) hR1.fine (gdp.yes hc) Oa.u
      · rw [if_pos (by rw [if_neg hc])]
        exact hgo _ none hR1.bad (gdp.not hc) Oa.u
  · rw [if_neg h1]
    by_cases h2 : hd % 4 = 2
    · rw [if_pos h2, sMd_takeRecord_138, rMd_takeRecord_139]
      refine c_takeNumber hB.by hR (fun g1 n ps1 hn hR1 hP1 hO1 => ?_)
      simp only [sMd_takeRecord_142, sMd_takeRecord_144, sMd_takeRecord_145, sMd_takeRecord_146, sMd_takeRecord_147, rMd_takeRecord_149, xk_i, xk_l, xk_a, xk_n, xk_0, Option.toList_some, Option.toList_none, List.cons_append, List.nil_append]
      refine c_takeName (p := 0) (sh := 0) (n := n) hB.by (by decide) (by decide) hn hR1 (fun g2 v ps2 hv hR2 hP2 hO2 => ?_)
      have hrv := rv_lt v
      have hgo : ∀ (g3 : Nat → Int32) (ps3 : Option (List Nat)), MrS g3 base bs ps3 → gdp (GK v) ps2 ps3 → Oa g2 g3 → WP (d + 3) mMd_takeRecord 178 [some (.ref m), some (.int (nI i)), some (.long (lN (rv p))), none, x4, some (.int (nI hd)), some (.long (lN (rv k))), none, some (.int (nI t)), some (.int (nI (hd % 4))), some (.long (lN (rv v))), none, some (.int (nI n))] [] (MM (AR M m A L) m g3) z w Q := by
        intro g3 ps3 hR3 hgd hO3
        have := hfin g3 (-(v : Int)) ps3 none (some (.int (nI n))) hR3 ?_ (fun hps _ => ?_) ((hO1.trans hO2).trans hO3)
        · rw [vN_neg] at this; exact this
        · unfold cD2
          simp only [if_neg h1, if_pos h2]
          refine PR.seq (a := n) (f := fun n l => (nM 0 0 n l).bind fun k => cif (GK k.1) (some (-(k.1 : Int), k.2)) none) hP1 (fun x hx => hx.symm) ?_
          refine PR.seq (a := v) (f := fun (v : Nat) l => cif (GK v) (some (-(v : Int), l)) none) hP2 (fun x hx => hx.symm) ?_
          refine PR.grc hgd ?_
          cases ps3 with
          | none => rfl
          | some l => exact ⟨rfl, rfl⟩
        · rcases hgd with ⟨q, -⟩ | ⟨-, q⟩
          · have := q.pos
            rw [h2]; unfold knd; rw [if_neg (by omega), if_neg (by omega)]
          · exact absurd q hps
      simp only [sMd_takeRecord_152, sMd_takeRecord_154, sMd_takeRecord_155, rMd_takeRecord_156, sMd_takeRecord_159, xk_i, xk_l, xk_a, xk_n, xk_0, Option.toList_some, Option.toList_none, List.cons_append, List.nil_append]
      cases ps2 with
      | none =>
        rw [hR2.n, if_neg (by decide)]
        simp only [sMd_takeRecord_170, sMd_takeRecord_171, sMd_takeRecord_174, rMd_takeRecord_175 xb0, rMd_takeRecord_175 xb1]
        exact hgo _ none hR2.bad gdp.no Oa.u
      | some l =>
        rw [hR2.s, if_pos rfl]
        simp only [sMd_takeRecord_162]
        rw [sMd_takeRecord_164, c_isGood2 (by omega)]
        simp only [sMd_takeRecord_167, sMd_takeRecord_170, sMd_takeRecord_171, sMd_takeRecord_174, rMd_takeRecord_175 xb0, rMd_takeRecord_175 xb1, xk_i, xk_l, xk_a, xk_n, xk_0, Option.toList_some, Option.toList_none, List.cons_append, List.nil_append]
        by_cases hc : GK v
        · rw [if_neg (by rw [if_pos ((GN_GK hv).mpr hc)]; decide)]
          exact hgo _ (some l) hR2.fine (gdp.yes hc) Oa.u
        · rw [if_pos (by rw [if_neg (fun q => hc ((GN_GK hv).mp q))])]
          exact hgo _ none hR2.bad (gdp.not hc) Oa.u
    · rw [if_neg h2]
      refine hfin g 0 ps none _ hR ?_ (fun _ h3 => ?_) Oa.rf
      · unfold cD2
        simp only [if_neg h1, if_neg h2]
        cases ps with
        | none => rfl
        | some l => exact ⟨rfl, rfl⟩
      · have : hd % 4 = 0 := by omega
        rw [this]; rfl
set_option maxHeartbeats 1000000 in
theorem c_takeRecord {i p lw hg : Nat} (hi : i < 2 ^ 30) (hp : p < 2 ^ 60) (hp0 : i = 0 → p = 0) (h12 : g 12 = nI lw) (h13 : g 13 = nI hg) (hlw : lw ≤ 2000) (hhg : hg ≤ 2000) (hB : BA A base bs) (hR : MrS g base bs ps) (hN : NmA g A L N) (hl : N.length < 260) (hNk : ∀ s ∈ N, s.1 < 2 ^ 60)
    (K : ∀ g' A' L' k ps', k < 2 ^ 60 → MrS g' base bs ps' → PR (rD i p lw hg) ps (fun r => r.1 = k ∧ NmA g' A' L' (ddi N r)) ps' → Fr [9, 11, 14] [8, 9] [7, 10] g g' A A' L L' → Q (some (.long (lN (rv k)))) (MM (AR M m A' L') m g') z w) :
    WP (d + 3) mMd_takeRecord 0 [some (.ref m), some (.int (nI i)), some (.long (lN (rv p))), none, none, none, none, none, none, none, none, none, none] [] (MM (AR M m A L) m g) z w Q := by
  have hrp := rv_lt p
  simp only [sMd_takeRecord_0, rMd_takeRecord_1]
  refine c_takeNumber hB.by hR (fun g1 sh ps1 hsh hR1 hP1 hO1 => ?_)
  simp only [sMd_takeRecord_4, sMd_takeRecord_6, rMd_takeRecord_7, xk_i, xk_l, xk_a, xk_n, xk_0, Option.toList_some, Option.toList_none, List.cons_append, List.nil_append]
  refine c_takeNumber hB.by hR1 (fun g2 hd ps2 hhd hR2 hP2 hO2 => ?_)
  simp only [sMd_takeRecord_10, sMd_takeRecord_12, sMd_takeRecord_13, sMd_takeRecord_14, sMd_takeRecord_16, sMd_takeRecord_18, sMd_takeRecord_19 (y := nI 4) (by decide), rMd_takeRecord_20, xk_i, xk_l, xk_a, xk_n, xk_0, Option.toList_some, Option.toList_none, List.cons_append, List.nil_append, nI_div (a := hd) (b := 4) (by omega) (by decide)]
  refine c_takeName hB.by hp hsh (by omega) hR2 (fun g3 k ps3 hk hR3 hP3 hO3 => ?_)
  have hrk := rv_lt k
  have hgo : ∀ (g4 : Nat → Int32) (ps4 : Option (List Nat)), MrS g4 base bs ps4 → gdp (4 ≤ hd ∧ sh = shd i p k) ps3 ps4 → Oa g3 g4 → WP (d + 3) mMd_takeRecord 68 [some (.ref m), some (.int (nI i)), some (.long (lN (rv p))), none, some (.int (nI sh)), some (.int (nI hd)), some (.long (lN (rv k))), none, none, none, none, none, none] [] (MM (AR M m A L) m g4) z w Q := by
    intro g4 ps4 hR4 hgd hO4
    have hO : Oa g g4 := ((hO1.trans hO2).trans hO3).trans hO4
    simp only [sMd_takeRecord_68, rMd_takeRecord_69, sMd_takeRecord_72, rMd_takeRecord_73]
    refine c_takeNumber hB.by hR4 (fun g5 dt ps5 hdt hR5 hP5 hO5 => ?_)
    have hO' := hO.trans hO5
    have hF5 : Fr [9, 11] [] [] g g5 A A L L := hO'.fr (by decide) (by decide)
    simp only [sMd_takeRecord_76, sMd_takeRecord_77, xk_i, xk_l, xk_a, xk_n, xk_0, Option.toList_some, Option.toList_none, List.cons_append, List.nil_append, (hO 12 (by decide) (by decide)).trans h12, nI_add]
    refine tr_cont hi hp hk (by omega) hhd ((hO' 13 (by decide) (by decide)).trans h13) hhg hB hR5 (hN.kept hF5 (by decide) (by decide) (by decide) (by decide) (by decide)) hl hNk (fun g' A' L' ps' hR' hP' hF' => K g' A' L' k ps' hk hR' ?_ ((hO'.fr (by decide) (by decide)).trans hF'))
    refine PR.congr ?_ (fun l => (rD_eq hp0 l).symm)
    refine PR.seq (a := sh) (f := fun sh l => (vD l).bind fun hd => (nM p sh (hd.1 / 4) hd.2).bind fun k => cif (4 ≤ hd.1 ∧ sh = shd i p k.1)
      ((vD k.2).bind fun dt => (cD2 (hd.1 % 4) dt.2).bind fun c => cif (hd.1 % 4 ≠ 3 ∧ lw + dt.1 ≤ hg ∧ GK k.1 ∧ (i = 0 ∨ p < k.1)) (some (((k.1, lw + dt.1, c.1) : arec), c.2)) none) none) hP1 (fun x hx => hx.symm) ?_
    refine PR.seq (a := hd) (f := fun hd l => (nM p sh (hd / 4) l).bind fun k => cif (4 ≤ hd ∧ sh = shd i p k.1)
      ((vD k.2).bind fun dt => (cD2 (hd % 4) dt.2).bind fun c => cif (hd % 4 ≠ 3 ∧ lw + dt.1 ≤ hg ∧ GK k.1 ∧ (i = 0 ∨ p < k.1)) (some (((k.1, lw + dt.1, c.1) : arec), c.2)) none) none) hP2 (fun x hx => hx.symm) ?_
    refine PR.seq (a := k) (f := fun k l => cif (4 ≤ hd ∧ sh = shd i p k)
      ((vD l).bind fun dt => (cD2 (hd % 4) dt.2).bind fun c => cif (hd % 4 ≠ 3 ∧ lw + dt.1 ≤ hg ∧ GK k ∧ (i = 0 ∨ p < k)) (some (((k, lw + dt.1, c.1) : arec), c.2)) none) none) hP3 (fun x hx => hx.symm) ?_
    refine PR.grc hgd ?_
    exact PR.seq (a := dt) (f := fun dt l => (cD2 (hd % 4) l).bind fun c => cif (hd % 4 ≠ 3 ∧ lw + dt ≤ hg ∧ GK k ∧ (i = 0 ∨ p < k)) (some (((k, lw + dt, c.1) : arec), c.2)) none) hP5 (fun x hx => hx.symm) hP'
  simp only [sMd_takeRecord_23, sMd_takeRecord_25, sMd_takeRecord_26, rMd_takeRecord_27, sMd_takeRecord_30, xk_i, xk_l, xk_a, xk_n, xk_0, Option.toList_some, Option.toList_none, List.cons_append, List.nil_append]
  have hbad : gdp (4 ≤ hd ∧ sh = shd i p k) ps3 none → WP (d + 3) mMd_takeRecord 60 [some (.ref m), some (.int (nI i)), some (.long (lN (rv p))), none, some (.int (nI sh)), some (.int (nI hd)), some (.long (lN (rv k))), none, none, none, none, none, none] [.ref m] (MM (AR M m A L) m g3) z w Q := by
    intro hgd
    simp only [sMd_takeRecord_60, sMd_takeRecord_61, sMd_takeRecord_64, rMd_takeRecord_65 xb0, rMd_takeRecord_65 xb1]
    exact hgo _ none hR3.bad hgd Oa.u
  cases ps3 with
  | none => rw [hR3.n, if_neg (by decide)]; exact hbad gdp.no
  | some l =>
    rw [hR3.s, if_pos rfl]
    simp only [sMd_takeRecord_33, sMd_takeRecord_35, sMd_takeRecord_36, sMd_takeRecord_39, sMd_takeRecord_41, sMd_takeRecord_42, sMd_takeRecord_43 (y := nI 4) (by decide), sMd_takeRecord_44, sMd_takeRecord_47, sMd_takeRecord_48, sMd_takeRecord_57, nI_rem (a := i) (b := 4) (by omega) (by decide), nI_ltI (a := hd) (b := 4) (by omega) (by omega), nI_eq (a := i % 4) (b := 0) (by omega) (by omega), nI_eq (a := sh) (b := 0) (by omega) (by omega)]
    have hok : (4 ≤ hd ∧ sh = shd i p k) → WP (d + 3) mMd_takeRecord 64 [some (.ref m), some (.int (nI i)), some (.long (lN (rv p))), none, some (.int (nI sh)), some (.int (nI hd)), some (.long (lN (rv k))), none, none, none, none, none, none] [.ref m] (MM (AR M m A L) m g3) z w Q := by
      intro h
      simp only [sMd_takeRecord_64, rMd_takeRecord_65 xb0, rMd_takeRecord_65 xb1]
      exact hgo _ (some l) hR3.fine (gdp.yes h) Oa.u
    by_cases h4 : hd < 4
    · rw [if_pos h4]; exact hbad (gdp.not (fun q => by omega))
    · rw [if_neg h4]
      by_cases hi4 : i % 4 = 0
      · have e : shd i p k = 0 := if_pos hi4
        rw [e] at hok hbad
        rw [if_pos hi4]
        by_cases hs : sh = 0
        · rw [if_pos hs]; exact hok ⟨by omega, hs⟩
        · rw [if_neg hs]; exact hbad (gdp.not (fun q => hs q.2))
      · have e : shd i p k = alk p k := if_neg hi4
        rw [e] at hok hbad
        rw [if_neg hi4]
        simp only [sMd_takeRecord_51, sMd_takeRecord_52]
        rw [sMd_takeRecord_54, c_alike2 (by omega) (by omega), rv_rv' hp, rv_rv' hk]
        simp only [sMd_takeRecord_57, xk_i, xk_l, xk_a, xk_n, xk_0, Option.toList_some, Option.toList_none, List.cons_append, List.nil_append]
        simp only [nI_eq (a := sh) (b := alk p k) (by omega) (by have := alk_self p k; have := nln_le (rv k); rw [nln_alk, rv_rv' hk] at this; omega)]
        by_cases hs : sh = alk p k
        · rw [if_pos hs]; exact hok ⟨by omega, hs⟩
        · rw [if_neg hs]; exact hbad (gdp.not (fun q => hs q.2))
end MC
