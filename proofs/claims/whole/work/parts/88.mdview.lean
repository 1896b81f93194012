/-! the reference: a table is read, all are -/
theorem ddi_len (N : List arec) (r : arec) : (ddi N r).length ≤ N.length + 1 := by
  unfold ddi
  split
  · omega
  · simp
theorem ddi_mem {N : List arec} {r s : arec} (h : s ∈ ddi N r) : s ∈ N ∨ s = r := by
  unfold ddi at h
  split at h
  · exact Or.inl h
  · simpa using h
def ddf (N R : List arec) : List arec := R.foldl ddi N
theorem ddf_len : ∀ (R N : List arec), (ddf N R).length ≤ N.length + R.length
  | [], N => by simp [ddf]
  | r :: R, N => by
    have h1 := ddf_len R (ddi N r)
    have h2 := ddi_len N r
    show (ddf (ddi N r) R).length ≤ _
    simp only [List.length_cons]
    omega
theorem ddf_mem : ∀ {R N : List arec} {s : arec}, s ∈ ddf N R → s ∈ N ∨ s ∈ R
  | [], N, s, h => Or.inl h
  | r :: R, N, s, h => by
    have h : s ∈ ddf (ddi N r) R := h
    rcases ddf_mem h with h | h
    · rcases ddi_mem h with h | h
      · exact Or.inl h
      · exact Or.inr (by simp [h])
    · exact Or.inr (by simp [h])
def hB4 (lw hg cn : Nat) (l : List Nat) : Option ((List arec × List aent) × List Nat) := (rsD lw hg cn 0 0 l).bind fun R => (vD R.2).bind fun lg => if lg.1 ≤ 40 then (esD lw hg lg.1 0 0 0 lg.2).bind fun E => some ((R.1, E.1), E.2) else none
def crcK (bs : List Nat) : Prop := crc (bs.take (bs.length - 2)) = bs.getD (bs.length - 2) 0 * 256 + bs.getD (bs.length - 1) 0
theorem hD_4 (l : List Nat) : hD l = (bD l).bind fun b => if b.1 = 82 then (vD b.2).bind fun lw => (vD lw.2).bind fun hg => (vD hg.2).bind fun cn => if 1 ≤ lw.1 ∧ lw.1 ≤ hg.1 ∧ hg.1 ≤ 2000 ∧ cn.1 ≤ 30 then (hB4 lw.1 hg.1 cn.1 cn.2).bind fun q => some ((lw.1, hg.1, q.1.1, q.1.2), q.2) else none else none := by
  unfold hD
  cases bD l with
  | none => rfl
  | some b =>
    simp only [Option.bind_some]
    by_cases hb : b.1 = 82
    · rw [if_pos hb, if_pos hb]
      cases vD b.2 with
      | none => rfl
      | some lw =>
        simp only [Option.bind_some]
        cases vD lw.2 with
        | none => rfl
        | some hg =>
          simp only [Option.bind_some]
          by_cases h1 : 1 ≤ lw.1 ∧ lw.1 ≤ hg.1 ∧ hg.1 ≤ 2000
          · rw [if_pos h1]
            cases vD hg.2 with
            | none => rfl
            | some cn =>
              simp only [Option.bind_some]
              by_cases h2 : cn.1 ≤ 30
              · rw [if_pos h2, if_pos ⟨h1.1, h1.2.1, h1.2.2, h2⟩]
                unfold hB4
                cases rsD lw.1 hg.1 cn.1 0 0 cn.2 with
                | none => rfl
                | some R =>
                  simp only [Option.bind_some]
                  cases vD R.2 with
                  | none => rfl
                  | some lg =>
                    simp only [Option.bind_some]
                    by_cases h3 : lg.1 ≤ 40
                    · rw [if_pos h3, if_pos h3]
                      cases esD lw.1 hg.1 lg.1 0 0 0 lg.2 with
                      | none => rfl
                      | some E => rfl
                    · rw [if_neg h3, if_neg h3]; rfl
              · rw [if_neg h2, if_neg (fun q => h2 q.2.2.2)]
          · rw [if_neg h1]
            cases vD hg.2 with
            | none => rfl
            | some cn =>
              simp only [Option.bind_some]
              rw [if_neg (fun q => h1 ⟨q.1, q.2.1, q.2.2.1⟩)]
    · rw [if_neg hb, if_neg hb]
section MV
variable {d m base : Nat} {bs : List Nat} {ps : Option (List Nat)} {M : xM} {g : Nat → Int32} {A : Nat → Nat → Int32} {L : Nat → Nat → Int64} {N : List arec} {E : List (aent × Nat)} {z w : Nat} {Q : Option Value → xM → Nat → Nat → Prop}
set_option maxHeartbeats 1000000 in
theorem rec_loop {lw hg cn t : Nat} {x2 : Option Value} (hlw : lw ≤ 2000) (hhg : hg ≤ 2000) (hcn : cn ≤ 30) : ∀ (r i p : Nat) (g : Nat → Int32) (A : Nat → Nat → Int32) (L : Nat → Nat → Int64) (N : List arec) (ps : Option (List Nat)), i + r = cn → p < 2 ^ 60 → (i = 0 → p = 0) → g 12 = nI lw → g 13 = nI hg → BA A base bs → MrS g base bs ps → (ps ≠ none → NmA g A L N) → N.length + r ≤ 260 → (∀ s ∈ N, s.1 < 2 ^ 60) →
    (∀ g' A' L' ps' x4 x6, MrS g' base bs ps' → PR (rsD lw hg r i p) ps (fun R => NmA g' A' L' (ddf N R)) ps' → Fr [9, 11, 14] [8, 9] [7, 10] g g' A A' L L' → WP (d + 4) mMd_read 160 [some (.ref m), some (.int (nI t)), x2, some (.int (nI cn)), some (.long x4), none, some (.int x6), none, none, none, none] [] (MM (AR M m A' L') m g') z w Q) →
    WP (d + 4) mMd_read 131 [some (.ref m), some (.int (nI t)), x2, some (.int (nI cn)), some (.long (lN (rv p))), none, some (.int (nI i)), none, none, none, none] [] (MM (AR M m A L) m g) z w Q := by
  intro r
  induction r with
  | zero =>
    intro i p g A L N ps hi hp hp0 h12 h13 hB hR hN hl hNk K
    rw [sMd_read_131]
    simp only [sMd_read_133, sMd_read_134]
    rw [if_pos (nI_le (by omega) (by omega))]
    refine K g A L ps _ _ hR ?_ Fr.rf
    cases ps with
    | none => rfl
    | some l => exact ⟨hN (by simp), rfl⟩
  | succ r ih =>
    intro i p g A L N ps hi hp hp0 h12 h13 hB hR hN hl hNk K
    rw [sMd_read_131]
    simp only [sMd_read_133, sMd_read_134, sMd_read_137, rMd_read_138, sMd_read_141]
    rw [if_neg (nI_ge (by omega) (by omega))]
    cases ps with
    | none =>
      rw [hR.n, if_neg (by decide)]
      exact K g A L none _ _ hR rfl Fr.rf
    | some l =>
      rw [hR.s, if_pos rfl]
      simp only [sMd_read_144, sMd_read_145, sMd_read_147, rMd_read_149]
      refine c_takeRecord (by omega) hp hp0 h12 h13 hlw hhg hB hR (hN (by simp)) (by omega) hNk (fun g1 A1 L1 k ps1 hk hR1 hP1 hF1 => ?_)
      simp only [sMd_read_152, sMd_read_154, sMd_read_157, xk_i, xk_l, xk_a, xk_n, xk_0, Option.toList_some, Option.toList_none, List.cons_append, List.nil_append, nI_add]
      have e0 : ∀ l, rsD lw hg (r + 1) i p l = (rD i p lw hg l).bind fun r' => (rsD lw hg r (i + 1) r'.1.1 r'.2).bind fun q => some (r'.1 :: q.1, q.2) := fun l => rfl
      rcases hP1.so with ⟨q, e1, ⟨e2, e3⟩, e4⟩ | ⟨e1, e2⟩
      · subst e4
        have hw := rD_w e1
        refine ih (i + 1) k g1 A1 L1 (ddi N q.1) _ (by omega) hk (fun h => by omega) ((hF1.1 12 (by decide)).trans h12) ((hF1.1 13 (by decide)).trans h13) (hB.kept (hF1.2.1 1 (by decide))) hR1 (fun _ => e3) (by have := ddi_len N q.1; omega) (fun s hs => (ddi_mem hs).elim (hNk s) (fun e => by rw [e]; exact hw.1.1.1)) (fun g' A' L' ps' x4 x6 hR' hP' hF' => K g' A' L' ps' x4 x6 hR' ?_ (hF1.trans hF'))
        unfold PR
        rw [Option.bind_some, e0, e1, Option.bind_some, e2]
        rcases hP'.so with ⟨q2, f1, f2, f3⟩ | ⟨f1, f2⟩
        · rw [f1]; exact ⟨f2, f3⟩
        · rw [f1]; exact f2
      · subst e2
        refine ih (i + 1) k g1 A1 L1 N none (by omega) hk (fun h => by omega) ((hF1.1 12 (by decide)).trans h12) ((hF1.1 13 (by decide)).trans h13) (hB.kept (hF1.2.1 1 (by decide))) hR1 (fun h => absurd rfl h) (by omega) hNk (fun g' A' L' ps' x4 x6 hR' hP' hF' => K g' A' L' ps' x4 x6 hR' ?_ (hF1.trans hF'))
        unfold PR
        rw [Option.bind_some, e0, e1, Option.bind_none]
        exact hP'.no
set_option maxHeartbeats 1000000 in
theorem ent_loop {lw hg lg t : Nat} {x2 x3 x4 : Option Value} (hlw : lw ≤ 2000) (hhg : hg ≤ 2000) (hlg : lg < 2097152) : ∀ (r i p pt : Nat) (y : Int32) (g : Nat → Int32) (A : Nat → Nat → Int32) (L : Nat → Nat → Int64) (E : List (aent × Nat)) (ps : Option (List Nat)), i + r = lg → p < 2 ^ 60 → (i = 0 → p = 0) → (ps ≠ none → y = nI pt ∧ pt < 2 ^ 30) → g 12 = nI lw → g 13 = nI hg → BA A base bs → MrS g base bs ps → (ps ≠ none → EnA g A L E) → (ps ≠ none → E.length + r ≤ 340) →
    (∀ g' A' L' ps' x7 x9 x10, MrS g' base bs ps' → PR (esD lw hg r i p pt) ps (fun R => EnA g' A' L' (E ++ R.map (fun e => (e, t)))) ps' → Fr [9, 11, 19] [12, 13, 14, 15] [11] g g' A A' L L' → WP (d + 4) mMd_read 244 [some (.ref m), some (.int (nI t)), x2, x3, x4, none, some (.int (nI lg)), some (.long x7), none, some (.int x9), some (.int x10)] [] (MM (AR M m A' L') m g') z w Q) →
    WP (d + 4) mMd_read 198 [some (.ref m), some (.int (nI t)), x2, x3, x4, none, some (.int (nI lg)), some (.long (lN (rv p))), none, some (.int y), some (.int (nI i))] [] (MM (AR M m A L) m g) z w Q := by
  intro r
  induction r with
  | zero =>
    intro i p pt y g A L E ps hi hp hp0 hy h12 h13 hB hR hE hl K
    rw [sMd_read_198]
    simp only [sMd_read_200, sMd_read_202]
    rw [if_pos (nI_le (by omega) (by omega))]
    refine K g A L ps _ _ _ hR ?_ Fr.rf
    cases ps with
    | none => rfl
    | some l => exact ⟨by simpa using hE (by simp), rfl⟩
  | succ r ih =>
    intro i p pt y g A L E ps hi hp hp0 hy h12 h13 hB hR hE hl K
    rw [sMd_read_198]
    simp only [sMd_read_200, sMd_read_202, sMd_read_205, rMd_read_206, sMd_read_209]
    rw [if_neg (nI_ge (by omega) (by omega))]
    cases ps with
    | none =>
      rw [hR.n, if_neg (by decide)]
      exact K g A L none _ _ _ hR rfl Fr.rf
    | some l =>
      have hl' := hl (by simp)
      rw [hR.s, if_pos rfl]
      simp only [sMd_read_212, sMd_read_213, sMd_read_214, sMd_read_216, sMd_read_218, rMd_read_220]
      refine c_takeEntry (by omega) hp hp0 (hy (by simp)) h12 h13 hlw hhg hB hR (hE (by simp)) (by omega) (fun g1 A1 L1 k ps1 hk hR1 hP1 h19 hF1 => ?_)
      simp only [sMd_read_223, sMd_read_225, rMd_read_226, sMd_read_229, rMd_read_230, sMd_read_233, sMd_read_234, xk_i, xk_l, xk_a, xk_n, xk_0, Option.toList_some, Option.toList_none, List.cons_append, List.nil_append, h19]
      rw [pk_sub (by omega), show E.length + 1 - 1 = E.length by omega, qMd_read_235 (by omega)]
      simp only [sMd_read_236, sMd_read_238, sMd_read_241, xk_i, xk_l, xk_a, xk_n, xk_0, Option.toList_some, Option.toList_none, List.cons_append, List.nil_append, nI_add]
      have e0 : ∀ l, esD lw hg (r + 1) i p pt l = (eD i p pt lw hg l).bind fun e => (esD lw hg r (i + 1) e.1.1 e.1.2.1 e.2).bind fun q => some (e.1 :: q.1, q.2) := fun l => rfl
      rcases hP1.so with ⟨q, e1, ⟨e2, e3⟩, e4⟩ | ⟨e1, e2⟩
      · subst e4
        have hw := eD_w e1
        have ht : A1 12 E.length = nI q.1.2.1 := (e3.2 E.length (q.1, t) (by simp)).2.1
        have hq := hw.1.2.2.1
        refine ih (i + 1) k q.1.2.1 _ g1 A1 L1 (E ++ [(q.1, t)]) _ (by omega) hk (fun h => by omega) (fun _ => ⟨ht, by omega⟩) ((hF1.1 12 (by decide)).trans h12) ((hF1.1 13 (by decide)).trans h13) (hB.kept (hF1.2.1 1 (by decide))) hR1 (fun _ => e3) (fun _ => by simp; omega) (fun g' A' L' ps' x7 x9 x10 hR' hP' hF' => K g' A' L' ps' x7 x9 x10 hR' ?_ (hF1.trans hF'))
        unfold PR
        rw [Option.bind_some, e0, e1, Option.bind_some, e2]
        rcases hP'.so with ⟨q2, f1, f2, f3⟩ | ⟨f1, f2⟩
        · rw [f1]; exact ⟨by simpa using f2, f3⟩
        · rw [f1]; exact f2
      · subst e2
        refine ih (i + 1) k 0 _ g1 A1 L1 E none (by omega) hk (fun h => by omega) (fun h => absurd rfl h) ((hF1.1 12 (by decide)).trans h12) ((hF1.1 13 (by decide)).trans h13) (hB.kept (hF1.2.1 1 (by decide))) hR1 (fun h => absurd rfl h) (fun h => absurd rfl h) (fun g' A' L' ps' x7 x9 x10 hR' hP' hF' => K g' A' L' ps' x7 x9 x10 hR' ?_ (hF1.trans hF'))
        unfold PR
        rw [Option.bind_some, e0, e1, Option.bind_none]
        exact hP'.no
set_option maxHeartbeats 1000000 in
theorem read_rest {t lw hg cn : Nat} {x4 x6 : Option Value} (ht : t < 10) (hlw : lw ≤ 2000) (hhg : hg ≤ 2000) (hcn : cn ≤ 30) (h12 : g 12 = nI lw) (h13 : g 13 = nI hg) (hB : BA A (1200 * t) bs) (h3 : 3 ≤ bs.length) (hR : MrS g (1200 * t) bs ps) (hN : NmA g A L N) (hE : EnA g A L E) (hl : N.length + 30 ≤ 260) (hl2 : E.length + 40 ≤ 340) (hNk : ∀ s ∈ N, s.1 < 2 ^ 60)
    (K0 : (∀ q, ps.bind (hB4 lw hg cn) = some q → ¬ (q.2 = [] ∧ crcK bs)) → ∀ g' A' L', Fr [9, 11, 14, 19] [8, 9, 12, 13, 14, 15] [7, 10, 11] g g' A A' L L' → Q (some (.int (nI 0))) (MM (AR M m A' L') m g') z w)
    (K1 : ∀ q, ps.bind (hB4 lw hg cn) = some q → q.2 = [] → crcK bs → ∀ g' A' L', NmA g' A' L' (ddf N q.1.1) → EnA g' A' L' (E ++ q.1.2.map (fun e => (e, t))) → Fr [9, 11, 14, 19] [8, 9, 12, 13, 14, 15] [7, 10, 11] g g' A A' L L' → Q (some (.int (nI 1))) (MM (AR M m A' L') m g') z w) :
    WP (d + 4) mMd_read 125 [some (.ref m), some (.int (nI t)), some (.int (nI bs.length)), some (.int (nI cn)), x4, none, x6, none, none, none, none] [] (MM (AR M m A L) m g) z w Q := by
  have hb1 := hB.2.2.1
  have hb2 := hB.2.2.2.2
  simp only [sMd_read_125, sMd_read_126, sMd_read_128, sMd_read_129, xk_i, xk_l, xk_a, xk_n, xk_0, Option.toList_some, Option.toList_none, List.cons_append, List.nil_append]
  refine rec_loop hlw hhg hcn cn 0 0 g A L N ps (by omega) (by decide) (fun _ => rfl) h12 h13 hB hR (fun _ => hN) (by omega) hNk (fun g1 A1 L1 ps1 x4 x6 hR1 hP1 hF1 => ?_)
  have hB1 := hB.kept (hF1.2.1 1 (by decide))
  have hE1 := hE.kept hF1 (by decide) (by decide) (by decide) (by decide) (by decide) (by decide)
  simp only [sMd_read_160, rMd_read_161]
  refine c_takeNumber hB1.by hR1 (fun g2 lg ps2 hlg hR2 hP2 hO2 => ?_)
  have hF2 : Fr [9, 11, 14] [8, 9] [7, 10] g g2 A A1 L L1 := hF1.trans (hO2.fr (by decide) (by decide))
  have hgo : ∀ (g3 : Nat → Int32) (ps3 : Option (List Nat)), MrS g3 (1200 * t) bs ps3 → (ps3 = if lg ≤ 40 then ps2 else none) → Oa g2 g3 → WP (d + 4) mMd_read 189 [some (.ref m), some (.int (nI t)), some (.int (nI bs.length)), some (.int (nI cn)), some (.long x4), none, some (.int (nI lg)), none, none, none, none] [] (MM (AR M m A1 L1) m g3) z w Q := by
    intro g3 ps3 hR3 hps3 hO3
    have hF3 : Fr [9, 11, 14] [8, 9] [7, 10] g g3 A A1 L L1 := hF2.trans (hO3.fr (by decide) (by decide))
    have hF13 : Fr [9, 11] [] [] g1 g3 A1 A1 L1 L1 := (hO2.trans hO3).fr (by decide) (by decide)
    have hE3 := hE1.kept hF13 (by decide) (by decide) (by decide) (by decide) (by decide) (by decide)
    simp only [sMd_read_189, sMd_read_190, sMd_read_192, sMd_read_193, sMd_read_195, sMd_read_196, xk_i, xk_l, xk_a, xk_n, xk_0, Option.toList_some, Option.toList_none, List.cons_append, List.nil_append]
    refine ent_loop hlw hhg hlg lg 0 0 0 _ g3 A1 L1 E ps3 (by omega) (by decide) (fun _ => rfl) (fun _ => ⟨rfl, by decide⟩) ((hF3.1 12 (by decide)).trans h12) ((hF3.1 13 (by decide)).trans h13) hB1 hR3 (fun _ => hE3) (fun hne => ?_) (fun g4 A4 L4 ps4 x7 x9 x10 hR4 hP4 hF4 => ?_)
    · have : lg ≤ 40 := by
        apply Classical.byContradiction
        intro h
        rw [if_neg h] at hps3
        exact hne hps3
      omega
    · have hP : PR (hB4 lw hg cn) ps (fun q => NmA g4 A4 L4 (ddf N q.1) ∧ EnA g4 A4 L4 (E ++ q.2.map (fun e => (e, t)))) ps4 := by
        subst hps3
        cases ps with
        | none =>
          rw [hP1.no] at hP2
          rw [hP2.no] at hP4
          have e : (if lg ≤ 40 then none else none : Option (List Nat)) = none := by split <;> rfl
          rw [e] at hP4
          rw [hP4.no]; rfl
        | some l =>
          unfold PR
          rw [Option.bind_some]
          unfold hB4
          rcases hP1.so with ⟨q1, a1, a2, a3⟩ | ⟨a1, a2⟩
          · rw [a1, Option.bind_some]
            subst a3
            rcases hP2.so with ⟨q2, b1, b2, b3⟩ | ⟨b1, b2⟩
            · rw [b1, Option.bind_some]
              subst b3
              subst b2
              by_cases h40 : q2.1 ≤ 40
              · rw [if_pos h40]
                rw [if_pos h40] at hP4
                rcases hP4.so with ⟨q3, c1, c2, c3⟩ | ⟨c1, c2⟩
                · rw [c1]
                  have hN3 := a2.kept hF13 (by decide) (by decide) (by decide) (by decide) (by decide)
                  exact ⟨⟨hN3.kept hF4 (by decide) (by decide) (by decide) (by decide) (by decide), c2⟩, c3⟩
                · rw [c1]; exact c2
              · rw [if_neg h40]
                rw [if_neg h40] at hP4
                exact hP4.no
            · rw [b1, Option.bind_none]
              subst b2
              have e : (if lg ≤ 40 then none else none : Option (List Nat)) = none := by split <;> rfl
              rw [e] at hP4
              exact hP4.no
          · rw [a1, Option.bind_none]
            subst a2
            rw [hP2.no] at hP4
            have e : (if lg ≤ 40 then none else none : Option (List Nat)) = none := by split <;> rfl
            rw [e] at hP4
            exact hP4.no
      have hF : Fr [9, 11, 14, 19] [8, 9, 12, 13, 14, 15] [7, 10, 11] g g4 A A4 L L4 := (hF3.sub (by decide) (by decide) (by decide)).trans (hF4.sub (by decide) (by decide) (by decide))
      have hB4' := hB1.kept (hF4.2.1 1 (by decide))
      simp only [sMd_read_244, rMd_read_245, sMd_read_248]
      cases ps4 with
      | none =>
        rw [hR4.n, if_neg (by decide)]
        simp only [sMd_read_309, sMd_read_310 xb0, sMd_read_310 xb1]
        refine K0 (fun q hq => ?_) g4 A4 L4 hF
        unfold PR at hP
        rw [hq] at hP
        exact absurd hP.2 (by simp)
      | some rem =>
        obtain ⟨r1, r2, pos, r3, r4, r5⟩ := hR4
        have hrem := r5 rem rfl
        have hq : ∃ q, ps.bind (hB4 lw hg cn) = some q ∧ (NmA g4 A4 L4 (ddf N q.1.1) ∧ EnA g4 A4 L4 (E ++ q.1.2.map (fun e => (e, t)))) ∧ rem = q.2 := by
          unfold PR at hP
          split at hP
          · rename_i q hq
            exact ⟨q, hq, hP.1, by injection hP.2⟩
          · cases hP
        obtain ⟨q, hq1, hq2, hq3⟩ := hq
        have hpe : rem = [] ↔ pos = bs.length - 2 := by
          rw [hrem, List.drop_eq_nil_iff, List.length_take]
          omega
        rw [r1, if_pos (show nI (if (some rem).isNone = true then 1 else 0) = nI 0 from rfl)]
        simp only [sMd_read_251, rMd_read_252, sMd_read_255, rMd_read_256, sMd_read_259, r2, r4, nI_eq (a := 1200 * t + pos) (b := 1200 * t + (bs.length - 2)) (by omega) (by omega)]
        by_cases hpos : pos = bs.length - 2
        · rw [if_pos (by omega)]
          simp only [sMd_read_262, sMd_read_263, sMd_read_264, sMd_read_265, sMd_read_266, rMd_read_267]
          rw [pk_sub (by omega), c_check hB4'.by (by omega)]
          have hl1 : bs.length - 2 < bs.length := by omega
          have hl2' : bs.length - 1 < bs.length := by omega
          have hA1 : A4 1 (1200 * t + (bs.length - 2)) = sb bs[bs.length - 2] := hB4'.1 _ _ (List.getElem?_eq_getElem hl1)
          have hA2 : A4 1 (1200 * t + (bs.length - 2) + 1) = sb bs[bs.length - 1] := by
            have := hB4'.1 (bs.length - 1) _ (List.getElem?_eq_getElem hl2')
            rw [show 1200 * t + (bs.length - 2) + 1 = 1200 * t + (bs.length - 1) by omega]
            exact this
          have hx1 := hB.2.1 _ (List.getElem_mem hl1)
          have hx2 := hB.2.1 _ (List.getElem_mem hl2')
          simp only [sMd_read_270, rMd_read_271, sMd_read_274, rMd_read_275, qMd_read_278 (k := 1200 * t + (bs.length - 2)) (by omega), sMd_read_279, sMd_read_282, sMd_read_283, sMd_read_285, sMd_read_286, rMd_read_287, sMd_read_290, rMd_read_291, sMd_read_294, sMd_read_295, qMd_read_296 (k := 1200 * t + (bs.length - 2) + 1) (by omega), sMd_read_297, sMd_read_300, sMd_read_301, sMd_read_302, xk_i, xk_l, xk_a, xk_n, xk_0, Option.toList_some, Option.toList_none, List.cons_append, List.nil_append, r2, nI_add, hA1, hA2, sb_and _ hx1, sb_and _ hx2]
          have hcr : crc (bs.take (bs.length - 2)) < 65536 := crcL_lt _ (by decide) (fun b q => hB.2.1 b (List.mem_of_mem_take q))
          have hor : bs[bs.length - 2] * 2 ^ 8 ||| bs[bs.length - 1] = bs[bs.length - 2] * 256 + bs[bs.length - 1] := by
            have := Nat.two_pow_add_eq_or_of_lt (i := 8) (b := bs[bs.length - 1]) hx2 bs[bs.length - 2]
            rw [Nat.mul_comm, ← this]
          rw [pk_shlN (n := bs[bs.length - 2]) (nI 8 &&& 31) 8 (by decide) (by omega), nx_or, hor]
          simp only [nI_eq (a := crc (bs.take (bs.length - 2))) (b := bs[bs.length - 2] * 256 + bs[bs.length - 1]) (by omega) (by omega)]
          have hck : crcK bs ↔ crc (bs.take (bs.length - 2)) = bs[bs.length - 2] * 256 + bs[bs.length - 1] := by
            unfold crcK
            rw [List.getD_eq_getElem?_getD, List.getD_eq_getElem?_getD, List.getElem?_eq_getElem hl1, List.getElem?_eq_getElem hl2']
            rfl
          by_cases hc : crc (bs.take (bs.length - 2)) = bs[bs.length - 2] * 256 + bs[bs.length - 1]
          · rw [if_pos hc]
            simp only [sMd_read_305, sMd_read_306, sMd_read_310 xb0, sMd_read_310 xb1]
            exact K1 q hq1 (by rw [← hq3]; exact hpe.mpr hpos) (hck.mpr hc) g4 A4 L4 hq2.1 hq2.2 hF
          · rw [if_neg hc]
            simp only [sMd_read_309, sMd_read_310 xb0, sMd_read_310 xb1]
            exact K0 (fun q' _ h => hc (hck.mp h.2)) g4 A4 L4 hF
        · rw [if_neg (by omega)]
          simp only [sMd_read_309, sMd_read_310 xb0, sMd_read_310 xb1]
          refine K0 (fun q' hq' h => hpos (hpe.mp ?_)) g4 A4 L4 hF
          rw [hq1] at hq'
          cases hq'
          rw [hq3]; exact h.1
  simp only [sMd_read_164, sMd_read_166, sMd_read_167, rMd_read_168, sMd_read_171, xk_i, xk_l, xk_a, xk_n, xk_0, Option.toList_some, Option.toList_none, List.cons_append, List.nil_append]
  cases ps2 with
  | none =>
    rw [hR2.n, if_neg (by decide)]
    simp only [sMd_read_181, sMd_read_182, sMd_read_185, rMd_read_186 xb0, rMd_read_186 xb1]
    exact hgo _ none hR2.bad (by split <;> rfl) Oa.u
  | some l =>
    rw [hR2.s, if_pos rfl]
    simp only [sMd_read_174, sMd_read_176, sMd_read_178, sMd_read_181, sMd_read_182, sMd_read_185, rMd_read_186 xb0, rMd_read_186 xb1, nI_leI (a := lg) (b := 40) (by omega) (by omega)]
    by_cases h40 : lg ≤ 40
    · rw [if_pos h40]
      exact hgo _ (some l) hR2.fine (by rw [if_pos h40]) Oa.u
    · rw [if_neg h40]
      exact hgo _ none hR2.bad (by rw [if_neg h40]) Oa.u
set_option maxHeartbeats 1000000 in
theorem c_read2 {t : Nat} (ht : t < 10) (hB : BA A (1200 * t) bs) (hs : A 2 t = nI bs.length) (h3 : 3 ≤ bs.length) (hN : NmA g A L N) (hE : EnA g A L E) (hl : N.length + 30 ≤ 260) (hl2 : E.length + 40 ≤ 340) (hNk : ∀ s ∈ N, s.1 < 2 ^ 60)
    (K0 : pT bs = none → ∀ g' A' L', Fr [9, 10, 11, 12, 13, 14, 19] [8, 9, 12, 13, 14, 15] [7, 10, 11] g g' A A' L L' → Q (some (.int (nI 0))) (MM (AR M m A' L') m g') z w)
    (K1 : ∀ T, pT bs = some T → ∀ g' A' L', NmA g' A' L' (ddf N T.2.2.1) → EnA g' A' L' (E ++ T.2.2.2.map (fun e => (e, t))) → g' 12 = nI T.1 → g' 13 = nI T.2.1 → Fr [9, 10, 11, 12, 13, 14, 19] [8, 9, 12, 13, 14, 15] [7, 10, 11] g g' A A' L L' → Q (some (.int (nI 1))) (MM (AR M m A' L') m g') z w) :
    WP (d + 4) mMd_read 0 [some (.ref m), some (.int (nI t)), none, none, none, none, none, none, none, none, none] [] (MM (AR M m A L) m g) z w Q := by
  have hb1 := hB.2.2.1
  simp only [sMd_read_0, rMd_read_1, sMd_read_4, qMd_read_5 (k := t) ht, sMd_read_6, sMd_read_7, sMd_read_8, sMd_read_11, sMd_read_12, rMd_read_13, sMd_read_16, sMd_read_17, rMd_read_18, sMd_read_21, sMd_read_22, sMd_read_23, sMd_read_24, rMd_read_25, sMd_read_28, sMd_read_29, sMd_read_30, sMd_read_31, sMd_read_34, sMd_read_35, sMd_read_38, rMd_read_39 xb0, rMd_read_39 xb1, xk_i, xk_l, xk_a, xk_n, xk_0, Option.toList_some, Option.toList_none, List.cons_append, List.nil_append, ug_ap, Nat.reduceEqDiff, reduceIte, hs, pk_mul, nI_add, nI_leI (a := 3) (b := bs.length) (by omega) (by omega)]
  rw [if_pos h3, pk_sub (by omega)]
  simp only [sMd_read_38, rMd_read_39 xb0, rMd_read_39 xb1, sMd_read_42, rMd_read_43, sMd_read_46, sMd_read_49, rMd_read_50, ug_ap, Nat.reduceEqDiff, reduceIte]
  generalize hg0 : ug (ug (ug g 9 (nI (1200 * t))) 10 (nI (1200 * t + bs.length - 2))) 11 (nI 0) = g0
  have hF0 : Fr [9, 10, 11, 12, 13, 14, 19] [8, 9, 12, 13, 14, 15] [7, 10, 11] g g0 A A L L := by
    rw [← hg0]
    exact ((Fr.ug (by decide)).trans (Fr.ug (by decide))).trans (Fr.ug (by decide))
  have hR0 : MrS g0 (1200 * t) bs (some (bs.take (bs.length - 2))) := by
    rw [← hg0]
    refine ⟨ug_s, ?_, 0, by omega, ?_, fun rem q => ?_⟩
    · rw [ug_e (by decide), ug_s]; congr 1; omega
    · rw [ug_e (by decide), ug_e (by decide), ug_s]; rfl
    · cases q; rw [List.drop_zero]
  have hNE : Fr [9, 10, 11] [] [] g g0 A A L L := by
    rw [← hg0]
    exact ((Fr.ug (by decide)).trans (Fr.ug (by decide))).trans (Fr.ug (by decide))
  have hN0 := hN.kept hNE (by decide) (by decide) (by decide) (by decide) (by decide)
  have hE0 := hE.kept hNE (by decide) (by decide) (by decide) (by decide) (by decide) (by decide)
  have hpn : hD (bs.take (bs.length - 2)) = none → pT bs = none := by
    intro h
    unfold pT
    rw [h]; rfl
  refine c_take hB.by hR0 (fun g1 b ps1 hb hR1 hP1 hO1 => ?_)
  simp only [sMd_read_53, sMd_read_55, sMd_read_58, sMd_read_59 xb0, sMd_read_59 xb1, xk_i, xk_l, xk_a, xk_n, xk_0, Option.toList_some, Option.toList_none, List.cons_append, List.nil_append, nI_eq (a := b) (b := 82) (by omega) (by omega)]
  rcases hP1.so with ⟨q1, a1, a2, a3⟩ | ⟨a1, a2⟩
  · subst a3
    subst a2
    by_cases h82 : q1.1 = 82
    · rw [if_pos h82]
      simp only [sMd_read_60, sMd_read_61, rMd_read_62]
      refine c_takeNumber hB.by hR1 (fun g2 lw ps2 hlw hR2 hP2 hO2 => ?_)
      simp only [rMd_read_65, sMd_read_68, sMd_read_69, rMd_read_70, xk_i, xk_l, xk_a, xk_n, xk_0, Option.toList_some, Option.toList_none, List.cons_append, List.nil_append]
      have hR2' : MrS (ug g2 12 (nI lw)) (1200 * t) bs ps2 := hR2.kept (ug_e (by decide)) (ug_e (by decide)) (ug_e (by decide))
      refine c_takeNumber hB.by hR2' (fun g3 hg ps3 hhg hR3 hP3 hO3 => ?_)
      simp only [rMd_read_73, sMd_read_76, rMd_read_77, xk_i, xk_l, xk_a, xk_n, xk_0, Option.toList_some, Option.toList_none, List.cons_append, List.nil_append]
      have hR3' : MrS (ug g3 13 (nI hg)) (1200 * t) bs ps3 := hR3.kept (ug_e (by decide)) (ug_e (by decide)) (ug_e (by decide))
      refine c_takeNumber hB.by hR3' (fun g4 cn ps4 hcn hR4 hP4 hO4 => ?_)
      have h12 : g4 12 = nI lw := by rw [hO4 12 (by decide) (by decide), ug_e (by decide), hO3 12 (by decide) (by decide), ug_s]
      have h13 : g4 13 = nI hg := by rw [hO4 13 (by decide) (by decide), ug_s]
      have hFa : Fr [9, 10, 11, 12, 13] [] [] g g4 A A L L := (((((hNE.sub (by decide) (by decide) (by decide)).trans (hO1.fr (by decide) (by decide))).trans (hO2.fr (by decide) (by decide))).trans (Fr.ug (by decide))).trans ((hO3.fr (by decide) (by decide)).trans (Fr.ug (by decide)))).trans (hO4.fr (by decide) (by decide))
      have hF4 : Fr [9, 10, 11, 12, 13, 14, 19] [8, 9, 12, 13, 14, 15] [7, 10, 11] g g4 A A L L := hFa.sub (by decide) (by decide) (by decide)
      have hfull : ∀ q, hD (bs.take (bs.length - 2)) = some q → (1 ≤ lw ∧ lw ≤ hg ∧ hg ≤ 2000 ∧ cn ≤ 30) ∧ ∃ q', ps4.bind (hB4 lw hg cn) = some q' ∧ q = ((lw, hg, q'.1.1, q'.1.2), q'.2) := by
        intro q hq
        rw [hD_4, show bD (bs.take (bs.length - 2)) = some q1 from a1, Option.bind_some, if_pos h82] at hq
        rcases hP2.so with ⟨q2, b1, b2, b3⟩ | ⟨b1, b2⟩
        · rw [b1, Option.bind_some] at hq
          subst b3; subst b2
          rcases hP3.so with ⟨q3, c1, c2, c3⟩ | ⟨c1, c2⟩
          · rw [c1, Option.bind_some] at hq
            subst c3; subst c2
            rcases hP4.so with ⟨q4, d1, d2, d3⟩ | ⟨d1, d2⟩
            · rw [d1, Option.bind_some] at hq
              subst d3; subst d2
              by_cases hc : 1 ≤ q2.1 ∧ q2.1 ≤ q3.1 ∧ q3.1 ≤ 2000 ∧ q4.1 ≤ 30
              · rw [if_pos hc] at hq
                refine ⟨hc, ?_⟩
                cases hh : hB4 q2.1 q3.1 q4.1 q4.2 with
                | none => rw [hh] at hq; cases hq
                | some q' =>
                  rw [hh, Option.bind_some] at hq
                  cases hq
                  exact ⟨q', by rw [Option.bind_some]; exact hh, rfl⟩
              · rw [if_neg hc] at hq; cases hq
            · rw [d1] at hq; cases hq
          · rw [c1] at hq; cases hq
        · rw [b1] at hq; cases hq
      have hback : (1 ≤ lw ∧ lw ≤ hg ∧ hg ≤ 2000 ∧ cn ≤ 30) → ∀ q', ps4.bind (hB4 lw hg cn) = some q' → hD (bs.take (bs.length - 2)) = some ((lw, hg, q'.1.1, q'.1.2), q'.2) := by
        intro hc q' hq'
        rw [hD_4, show bD (bs.take (bs.length - 2)) = some q1 from a1, Option.bind_some, if_pos h82]
        rcases hP2.so with ⟨q2, b1, b2, b3⟩ | ⟨b1, b2⟩
        · rw [b1, Option.bind_some]
          subst b3; subst b2
          rcases hP3.so with ⟨q3, c1, c2, c3⟩ | ⟨c1, c2⟩
          · rw [c1, Option.bind_some]
            subst c3; subst c2
            rcases hP4.so with ⟨q4, d1, d2, d3⟩ | ⟨d1, d2⟩
            · rw [d1, Option.bind_some]
              subst d3; subst d2
              rw [Option.bind_some] at hq'
              rw [if_pos hc, hq']
              rfl
            · subst d2; cases hq'
          · subst c2; rw [hP4.no] at hq'; cases hq'
        · subst b2; rw [hP3.no] at hP4; rw [hP4.no] at hq'; cases hq'
      have hbad : ¬ (1 ≤ lw ∧ lw ≤ hg ∧ hg ≤ 2000 ∧ cn ≤ 30) ∨ ps4 = none → WP (d + 4) mMd_read 123 [some (.ref m), some (.int (nI t)), some (.int (nI bs.length)), some (.int (nI cn)), none, none, none, none, none, none, none] [] (MM (AR M m A L) m g4) z w Q := by
        intro hno
        simp only [sMd_read_123, sMd_read_124 xb0, sMd_read_124 xb1]
        refine K0 (hpn ?_) g4 A L hF4
        cases hq : hD (bs.take (bs.length - 2)) with
        | none => rfl
        | some q =>
          obtain ⟨f1, q', f2, f3⟩ := hfull q hq
          rcases hno with hno | hno
          · exact absurd f1 hno
          · rw [hno] at f2; cases f2
      simp only [sMd_read_80, sMd_read_81, rMd_read_82, sMd_read_85, xk_i, xk_l, xk_a, xk_n, xk_0, Option.toList_some, Option.toList_none, List.cons_append, List.nil_append]
      cases hps : ps4 with
      | none =>
        rw [hps] at hR4
        rw [hR4.n, if_neg (by decide)]
        exact hbad (Or.inr hps)
      | some l =>
        have hR4' := hR4
        rw [hps] at hR4'
        rw [hR4'.s, if_pos rfl]
        simp only [sMd_read_88, rMd_read_89, sMd_read_92, sMd_read_93, sMd_read_96, rMd_read_97, sMd_read_100, rMd_read_101, sMd_read_104, sMd_read_107, rMd_read_108, sMd_read_111, sMd_read_114, sMd_read_117, sMd_read_118, sMd_read_120, h12, h13, nI_ltI (a := lw) (b := 1) (by omega) (by omega), nI_ltI (a := hg) (b := lw) (by omega) (by omega), nI_ltI (a := 2000) (b := hg) (by omega) (by omega), nI_leI (a := cn) (b := 30) (by omega) (by omega)]
        by_cases k1 : lw < 1
        · rw [if_pos k1]; exact hbad (Or.inl (by omega))
        · rw [if_neg k1]
          by_cases k2 : hg < lw
          · rw [if_pos k2]; exact hbad (Or.inl (by omega))
          · rw [if_neg k2]
            by_cases k3 : 2000 < hg
            · rw [if_pos k3]; exact hbad (Or.inl (by omega))
            · rw [if_neg k3]
              by_cases k4 : cn ≤ 30
              · rw [if_pos k4]
                have hN4 := hN.kept hFa (by decide) (by decide) (by decide) (by decide) (by decide)
                have hE4 := hE.kept hFa (by decide) (by decide) (by decide) (by decide) (by decide) (by decide)
                refine read_rest ht (by omega) (by omega) k4 h12 h13 hB h3 hR4 hN4 hE4 hl hl2 hNk (fun hno g' A' L' hF' => ?_) (fun q' hq' hq2 hq3 g' A' L' hN' hE' hF' => ?_)
                · refine K0 ?_ g' A' L' (hF4.trans (hF'.sub (by decide) (by decide) (by decide)))
                  unfold pT
                  cases hq : hD (bs.take (bs.length - 2)) with
                  | none => rfl
                  | some q =>
                    obtain ⟨f1, q', f2, f3⟩ := hfull q hq
                    rw [Option.bind_some, if_neg]
                    intro hh
                    rw [f3] at hh
                    exact hno q' f2 hh
                · refine K1 (lw, hg, q'.1.1, q'.1.2) ?_ g' A' L' hN' hE' ((hF'.1 12 (by decide)).trans h12) ((hF'.1 13 (by decide)).trans h13) (hF4.trans (hF'.sub (by decide) (by decide) (by decide)))
                  unfold pT
                  rw [hback (by omega) q' hq', Option.bind_some, if_pos ⟨hq2, hq3⟩]
              · rw [if_neg k4]; exact hbad (Or.inl (fun q => k4 q.2.2.2))
    · rw [if_neg h82]
      refine K0 (hpn ?_) g1 A L (hF0.trans (hO1.fr (by decide) (by decide)))
      rw [hD_4, show bD (bs.take (bs.length - 2)) = some q1 from a1, Option.bind_some, if_neg h82]
  · exfalso
    have hne : bs.take (bs.length - 2) ≠ [] := by
      intro h
      have := congrArg List.length h
      simp at this
      omega
    revert a1 hne
    cases bs.take (bs.length - 2) with
    | nil => intro _ h; exact h rfl
    | cons x l => intro h; cases h
end MV
