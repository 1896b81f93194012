/-! the reference: a table is written -/
theorem mG_len_eq {α : Type} {f : α → Nat} : ∀ {l : List α}, l.Pairwise (fun a b => f a ≠ f b) → (mG f l).length = l.length
  | [], _ => rfl
  | x :: l, h => by
    rw [List.pairwise_cons] at h
    have ih := mG_len_eq h.2
    rw [mG_cons]
    have : ∀ (s : List α), (∀ y ∈ s, f x ≠ f y) → (insR f x s).length = s.length + 1 := by
      intro s
      induction s with
      | nil => intro _; rfl
      | cons y s ihs =>
        intro hs
        unfold insR
        have hy := hs y (by simp)
        by_cases h1 : f x < f y
        · rw [if_pos h1]; rfl
        · rw [if_neg h1, if_neg (by omega)]
          simp only [List.length_cons]
          rw [ihs (fun z hz => hs z (by simp [hz]))]
    rw [this _ (fun y hy => h.1 y (mG_sub hy)), ih]
    rfl
abbrev FgW : List Nat := [27, 29]
section MW
variable {d m : Nat} {M : xM} {g : Nat → Int32} {A : Nat → Nat → Int32} {L : Nat → Nat → Int64} {N : List arec} {E : List (aent × Nat)} {D : List Nat} {z w : Nat} {Q : Option Value → xM → Nat → Nat → Prop}
theorem NmA.wk {g' : Nat → Int32} {A' : Nat → Nat → Int32} (h : NmA g A L N) (f : Fr FgW [16] [] g g' A A' L L) : NmA g' A' L N := h.kept f (by decide) (by decide) (by decide) (by decide) (by decide)
theorem EnA.wk {g' : Nat → Int32} {A' : Nat → Nat → Int32} (h : EnA g A L E) (f : Fr FgW [16] [] g g' A A' L L) : EnA g' A' L E := h.kept f (by decide) (by decide) (by decide) (by decide) (by decide) (by decide)
theorem shd12 (i p k : Nat) : shd i p k ≤ 12 := by
  have h1 := shd_le i p k
  have h2 := alk12 k
  omega
set_option maxHeartbeats 1000000 in
/-- the content of a record -/
theorem wr_cont {j le : Nat} {r : arec} {x1 x2 x3 x4 x6 x8 : Option Value} (hj : N[j]? = some r) (hl : N.length ≤ 260) (ho : okN N) (hN : NmA g A L N) (hD : DrA g A D)
    (K : ∀ g' A', DrA g' A' (D ++ contE r.2.2) → Fr FgW [16] [] g g' A A' L L → WP (d + 5) mMd_write 213 [some (.ref m), x1, x2, x3, x4, none, x6, some (.int (nI j)), x8] [] (MM (AR M m A' L) m g') z w Q) :
    WP (d + 5) mMd_write 153 [some (.ref m), x1, x2, x3, x4, none, x6, some (.int (nI j)), x8] [] (MM (AR M m A L) m g) z w Q := by
  have hj1 := (List.getElem?_eq_some_iff.mp hj).1
  obtain ⟨q1, q2, q3, q4⟩ := hN.2 j r hj
  obtain ⟨o1, o2, o3, o4⟩ := ho r (List.mem_of_getElem? hj)
  have hk2 := knd_2 r.2.2
  simp only [sMd_write_153, rMd_write_154, sMd_write_157, qMd_write_159 (k := j) (by omega), sMd_write_160, sMd_write_161, q2, nI_eq (a := knd r.2.2) (b := 1) (by omega) (by omega)]
  have h2nd : ∀ (g1 : Nat → Int32) (A1 : Nat → Nat → Int32) (D1 : List Nat), A1 8 = A 8 → knd r.2.2 ≠ 2 → DrA g1 A1 (D ++ contE r.2.2) → Fr FgW [16] [] g g1 A A1 L L → WP (d + 5) mMd_write 176 [some (.ref m), x1, x2, x3, x4, none, x6, some (.int (nI j)), x8] [] (MM (AR M m A1 L) m g1) z w Q := by
    intro g1 A1 D1 h8 hk hD1 hF1
    simp only [sMd_write_176, rMd_write_177, sMd_write_180, qMd_write_182 (k := j) (by omega), sMd_write_183, sMd_write_184, h8, q2, nI_eq (a := knd r.2.2) (b := 2) (by omega) (by omega)]
    rw [if_neg hk]
    exact K g1 A1 hD1 hF1
  by_cases h1 : knd r.2.2 = 1
  · rw [if_pos h1]
    have hc : 0 < r.2.2 := by
      unfold knd at h1
      split at h1
      · omega
      · split at h1
        · assumption
        · omega
    have hv : vN r.2.2 = r.2.2.toNat := by unfold vN; rw [if_pos (by omega)]
    have hc2 := o4.1
    simp only [sMd_write_164, sMd_write_165, rMd_write_166, sMd_write_169, qMd_write_171 (k := j) (by omega), sMd_write_172, rMd_write_173, q4, hv, lN_i]
    refine c_putNumber (by omega) hD (fun g1 A1 hD1 hF1 => ?_)
    simp only [xk_i, xk_l, xk_a, xk_n, xk_0, Option.toList_some, Option.toList_none, List.cons_append, List.nil_append]
    refine h2nd g1 A1 [] (hF1.2.1 8 (by decide)) (by omega) ?_ hF1
    unfold contE
    rw [if_neg (by omega), if_pos hc]
    exact hD1
  · rw [if_neg h1]
    by_cases h2 : knd r.2.2 = 2
    · have hc : r.2.2 < 0 := by
        unfold knd at h2
        split at h2
        · omega
        · split at h2
          · omega
          · omega
      have hv : vN r.2.2 = rv (-r.2.2).toNat := by unfold vN; rw [if_neg (by omega)]
      have hc2 := o4.2
      have hlt : (-r.2.2).toNat < 2 ^ 60 := by omega
      have hrv := rv_lt (-r.2.2).toNat
      have h12 := alk12 (-r.2.2).toNat
      simp only [sMd_write_176, rMd_write_177, sMd_write_180, qMd_write_182 (k := j) (by omega), sMd_write_183, sMd_write_184, sMd_write_187, sMd_write_188, rMd_write_189, sMd_write_192, qMd_write_194 (k := j) (by omega), q2, q4, hv, nI_eq (a := knd r.2.2) (b := 2) (by omega) (by omega)]
      rw [if_pos h2, sMd_write_195, c_length (by omega), nln_rv hlt]
      simp only [rMd_write_198, xk_i, xk_l, xk_a, xk_n, xk_0, Option.toList_some, Option.toList_none, List.cons_append, List.nil_append]
      refine c_putNumber (by omega) hD (fun g1 A1 hD1 hF1 => ?_)
      have e10 : L 10 j = lN (rv (-r.2.2).toNat) := by rw [q4, hv]
      simp only [sMd_write_201, sMd_write_202, rMd_write_203, sMd_write_206, qMd_write_208 (k := j) (by omega), sMd_write_209, rMd_write_210, xk_i, xk_l, xk_a, xk_n, xk_0, Option.toList_some, Option.toList_none, List.cons_append, List.nil_append, e10]
      refine c_putName hlt (by omega) hD1 (fun g2 A2 hD2 hF2 => ?_)
      simp only [xk_i, xk_l, xk_a, xk_n, xk_0, Option.toList_some, Option.toList_none, List.cons_append, List.nil_append]
      refine K g2 A2 ?_ (hF1.trans hF2)
      unfold contE
      rw [if_neg (by omega), if_neg (by omega)]
      rw [List.append_assoc, Nat.sub_zero] at hD2
      exact hD2
    · refine h2nd g A [] rfl h2 ?_ Fr.rf
      have : r.2.2 = 0 := by
        unfold knd at h1 h2
        by_cases hz : r.2.2 = 0
        · exact hz
        · rw [if_neg hz] at h1 h2
          by_cases hp : 0 < r.2.2
          · rw [if_pos hp] at h1; omega
          · rw [if_neg hp] at h2; omega
      unfold contE
      rw [if_pos this, List.append_nil]
      exact hD
set_option maxHeartbeats 2000000 in
theorem wr_rec_loop {fr le : Nat} {x2 : Option Value} {y3 : Int32} (hfr : fr ≤ 2) (hle : le ≤ 2001) (hl : N.length ≤ 260) (ho : okN N) (hlo : ∀ s ∈ N, le ≤ s.2.1) : ∀ (r n v : Nat) (b : Option Nat) (g : Nat → Int32) (A : Nat → Nat → Int32) (D : List Nat) (x8 : Option Value), (abv kR (N.filter (frK fr)) v).length = r → n + r < 2 ^ 20 → v < 2 ^ 60 → nxI N kR (frK fr) v N.length b → NmA g A L N → g 25 = nI le → DrA g A D →
    (∀ g' A' x4 x7 x8, DrA g' A' (D ++ recsE le n v (abv kR (N.filter (frK fr)) v)) → Fr FgW [16] [] g g' A A' L L → WP (d + 5) mMd_write 237 [some (.ref m), some (.int (nI fr)), x2, some (.int y3), some (.long x4), none, some (.int (nI (n + r))), some (.int x7), x8] [] (MM (AR M m A' L) m g') z w Q) →
    WP (d + 5) mMd_write 61 [some (.ref m), some (.int (nI fr)), x2, some (.int y3), some (.long (lN (rv v))), none, some (.int (nI n)), some (.int (oI b)), x8] [] (MM (AR M m A L) m g) z w Q := by
  intro r
  induction r with
  | zero =>
    intro n v b g A D x8 hr hn hv hb hN h25 hD K
    cases b with
    | some j =>
      obtain ⟨e, -, -, -, -, h⟩ := nxI_some hb
      rw [h] at hr
      cases hr
    | none =>
      rw [sMd_write_61]
      simp only [sMd_write_63]
      rw [if_pos (by decide)]
      refine K g A _ _ _ ?_ Fr.rf
      rw [nxI_none hb]
      simpa [recsE] using hD
  | succ r ih =>
    intro n v b g A D x8 hr hn hv hb hN h25 hD K
    cases b with
    | none =>
      rw [nxI_none hb] at hr
      cases hr
    | some j =>
      obtain ⟨e, h1, h2, h3, h4, h5⟩ := nxI_some hb
      rw [h5, List.length_cons] at hr
      rw [h5] at K
      obtain ⟨q1, q2, q3, q4⟩ := hN.2 j e h1
      obtain ⟨o1, o2, o3, o4⟩ := ho e (List.mem_of_getElem? h1)
      have hloe := hlo e (List.mem_of_getElem? h1)
      have hk2 := knd_2 e.2.2
      have hs1 := shd_le n v e.1
      have hs2 := alk12 e.1
      have hrv := rv_lt v
      have hre := rv_lt e.1
      rw [sMd_write_61]
      simp only [sMd_write_63, sMd_write_66, sMd_write_68, sMd_write_69 (y := nI 4) (by decide), sMd_write_70, sMd_write_73, sMd_write_74, nI_rem (a := n) (b := 4) (by omega) (by decide), nI_eq (a := n % 4) (b := 0) (by omega) (by omega)]
      rw [if_neg (show ¬ oI (some j) < nI 0 from nI_nlt (a := j) (b := 0) (by omega) (by omega))]
      have hgo : WP (d + 5) mMd_write 89 [some (.ref m), some (.int (nI fr)), x2, some (.int y3), some (.long (lN (rv v))), none, some (.int (nI n)), some (.int (nI j)), x8] [.int (nI (shd n v e.1))] (MM (AR M m A L) m g) z w Q := by
        simp only [sMd_write_89, sMd_write_91, sMd_write_92, rMd_write_94, xk_i, xk_l, xk_a, xk_n, xk_0, Option.toList_some, Option.toList_none, List.cons_append, List.nil_append]
        refine c_putNumber (by omega) hD (fun g1 A1 hD1 hF1 => ?_)
        have hN1 := hN.wk hF1
        obtain ⟨a1, a2, a3, a4⟩ := hN1.2 j e h1
        simp only [sMd_write_97, sMd_write_98, sMd_write_99, rMd_write_100, sMd_write_103, qMd_write_105 (k := j) (by omega), xk_i, xk_l, xk_a, xk_n, xk_0, Option.toList_some, Option.toList_none, List.cons_append, List.nil_append, a1]
        rw [sMd_write_106, c_length (by omega), nln_rv o2]
        simp only [sMd_write_109, sMd_write_111, sMd_write_112, sMd_write_113, rMd_write_114, sMd_write_117, qMd_write_119 (k := j) (by omega), sMd_write_120, rMd_write_121, xk_i, xk_l, xk_a, xk_n, xk_0, Option.toList_some, Option.toList_none, List.cons_append, List.nil_append, a2]
        rw [pk_sub hs1, pk_mul, nI_add]
        refine c_putNumber (by omega) hD1 (fun g2 A2 hD2 hF2 => ?_)
        have hN2 := hN1.wk hF2
        obtain ⟨b1, b2, b3, b4⟩ := hN2.2 j e h1
        simp only [sMd_write_124, sMd_write_125, rMd_write_126, sMd_write_129, qMd_write_131 (k := j) (by omega), sMd_write_132, rMd_write_134, xk_i, xk_l, xk_a, xk_n, xk_0, Option.toList_some, Option.toList_none, List.cons_append, List.nil_append, b1]
        refine c_putName o2 hs1 hD2 (fun g3 A3 hD3 hF3 => ?_)
        have hN3 := hN2.wk hF3
        obtain ⟨c1, c2, c3, c4⟩ := hN3.2 j e h1
        have k25 : g3 25 = nI le := by rw [hF3.1 25 (by decide), hF2.1 25 (by decide), hF1.1 25 (by decide)]; exact h25
        simp only [sMd_write_137, sMd_write_138, rMd_write_139, sMd_write_142, qMd_write_144 (k := j) (by omega), sMd_write_145, rMd_write_146, sMd_write_149, rMd_write_150, xk_i, xk_l, xk_a, xk_n, xk_0, Option.toList_some, Option.toList_none, List.cons_append, List.nil_append, c3, k25]
        rw [pk_sub hloe]
        refine c_putNumber (by omega) hD3 (fun g4 A4 hD4 hF4 => ?_)
        have hN4 := hN3.wk hF4
        simp only [xk_i, xk_l, xk_a, xk_n, xk_0, Option.toList_some, Option.toList_none, List.cons_append, List.nil_append]
        refine wr_cont (le := le) h1 hl ho hN4 hD4 (fun g5 A5 hD5 hF5 => ?_)
        have hN5 := hN4.wk hF5
        obtain ⟨d1, d2, d3, d4⟩ := hN5.2 j e h1
        simp only [sMd_write_213, rMd_write_214, sMd_write_217, qMd_write_219 (k := j) (by omega), sMd_write_220, sMd_write_222, sMd_write_225, sMd_write_226, sMd_write_228, rMd_write_229, xk_i, xk_l, xk_a, xk_n, xk_0, Option.toList_some, Option.toList_none, List.cons_append, List.nil_append, d1, nI_add]
        refine c_nextRecord o2 hfr hN5 hl ho (fun b' hb' => ?_)
        simp only [sMd_write_232, sMd_write_234, xk_i, xk_l, xk_a, xk_n, xk_0, Option.toList_some, Option.toList_none, List.cons_append, List.nil_append]
        have hF := (((hF1.trans hF2).trans hF3).trans hF4).trans hF5
        refine ih (n + 1) e.1 b' g5 A5 _ _ (Nat.succ.inj hr) (by omega) o2 hb' hN5 ((hF.1 25 (by decide)).trans h25) hD5 (fun g' A' x4 x7 x8 hD' hF' => ?_)
        have := K g' A' x4 x7 x8 ?_ (hF.trans hF')
        · rw [show n + 1 + r = n + (r + 1) by omega]; exact this
        · simp only [recsE, recE, List.append_assoc] at hD' ⊢
          exact hD'
      by_cases hn4 : n % 4 = 0
      · rw [if_pos hn4]
        have e0 : shd n v e.1 = 0 := if_pos hn4
        rw [e0] at hgo
        exact hgo
      · rw [if_neg hn4]
        have e0 : shd n v e.1 = alk v e.1 := if_neg hn4
        rw [e0] at hgo
        simp only [sMd_write_77, sMd_write_79, rMd_write_80, sMd_write_83, qMd_write_85 (k := j) (by omega), oI, q1]
        rw [sMd_write_86, c_alike2 (by omega) (by omega), rv_rv' hv, rv_rv' o2]
        simp only [xk_i, xk_l, xk_a, xk_n, xk_0, Option.toList_some, Option.toList_none, List.cons_append, List.nil_append]
        exact hgo
set_option maxHeartbeats 2000000 in
theorem wr_ent_loop {s : Int32} (hE0 : E.length ≤ 340) (ho : okEn E) : ∀ (r n v p : Nat) (b : Option Nat) (g : Nat → Int32) (A : Nat → Nat → Int32) (D : List Nat) (x6 : Option Value), (abv ekP (E.filter (sinP s)) v).length = r → n + r < 2 ^ 20 → p < 2 ^ 60 → nxI E ekP (sinP s) v E.length b → EnA g A L E → DrA g A D →
    (∀ g' A', DrA g' A' (D ++ entsE n p ((abv ekP (E.filter (sinP s)) v).map (fun e => e.1))) → Fr FgW [16] [] g g' A A' L L → Q none (MM (AR M m A' L) m g') z w) →
    WP (d + 4) mMd_writeEntries 13 [some (.ref m), some (.int s), some (.long (lN (rv p))), none, some (.int (nI n)), some (.int (oI b)), x6] [] (MM (AR M m A L) m g) z w Q := by
  intro r
  induction r with
  | zero =>
    intro n v p b g A D x6 hr hn hp hb hE hD K
    cases b with
    | some j =>
      obtain ⟨e, -, -, -, -, h⟩ := nxI_some hb
      rw [h] at hr
      cases hr
    | none =>
      rw [sMd_writeEntries_13]
      simp only [sMd_writeEntries_15, sMd_writeEntries_134]
      rw [if_pos (by decide)]
      refine K g A ?_ Fr.rf
      rw [nxI_none hb]
      simpa [entsE] using hD
  | succ r ih =>
    intro n v p b g A D x6 hr hn hp hb hE hD K
    cases b with
    | none =>
      rw [nxI_none hb] at hr
      cases hr
    | some j =>
      obtain ⟨e, h1, h2, h3, h4, h5⟩ := nxI_some hb
      rw [h5, List.length_cons] at hr
      rw [h5] at K
      obtain ⟨q1, q2, q3, q4, q5⟩ := hE.2 j e h1
      obtain ⟨o1, ⟨o2, o3, o4, o5⟩, o6⟩ := ho.1 e (List.mem_of_getElem? h1)
      have hs1 := shd_le n p e.1.1
      have hs2 := alk12 e.1.1
      have hrv := rv_lt p
      have hre := rv_lt e.1.1
      rw [sMd_writeEntries_13]
      simp only [sMd_writeEntries_15, sMd_writeEntries_18, sMd_writeEntries_20, sMd_writeEntries_21 (y := nI 4) (by decide), sMd_writeEntries_22, sMd_writeEntries_25, sMd_writeEntries_26, nI_rem (a := n) (b := 4) (by omega) (by decide), nI_eq (a := n % 4) (b := 0) (by omega) (by omega)]
      rw [if_neg (show ¬ oI (some j) < nI 0 from nI_nlt (a := j) (b := 0) (by omega) (by omega))]
      have hgo : WP (d + 4) mMd_writeEntries 40 [some (.ref m), some (.int s), some (.long (lN (rv p))), none, some (.int (nI n)), some (.int (nI j)), x6] [.int (nI (shd n p e.1.1))] (MM (AR M m A L) m g) z w Q := by
        simp only [sMd_writeEntries_40, sMd_writeEntries_42, sMd_writeEntries_43, rMd_writeEntries_45, xk_i, xk_l, xk_a, xk_n, xk_0, Option.toList_some, Option.toList_none, List.cons_append, List.nil_append]
        refine c_putNumber (by omega) hD (fun g1 A1 hD1 hF1 => ?_)
        have hE1 := hE.wk hF1
        obtain ⟨a1, a2, a3, a4, a5⟩ := hE1.2 j e h1
        simp only [sMd_writeEntries_48, sMd_writeEntries_49, rMd_writeEntries_50, sMd_writeEntries_53, qMd_writeEntries_55 (k := j) (by omega), xk_i, xk_l, xk_a, xk_n, xk_0, Option.toList_some, Option.toList_none, List.cons_append, List.nil_append, a1]
        rw [sMd_writeEntries_56, c_length (by omega), nln_rv o2]
        simp only [sMd_writeEntries_59, sMd_writeEntries_61, rMd_writeEntries_62, xk_i, xk_l, xk_a, xk_n, xk_0, Option.toList_some, Option.toList_none, List.cons_append, List.nil_append]
        rw [pk_sub hs1]
        refine c_putNumber (by omega) hD1 (fun g2 A2 hD2 hF2 => ?_)
        have hE2 := hE1.wk hF2
        obtain ⟨b1, b2, b3, b4, b5⟩ := hE2.2 j e h1
        simp only [sMd_writeEntries_65, sMd_writeEntries_66, rMd_writeEntries_67, sMd_writeEntries_70, qMd_writeEntries_72 (k := j) (by omega), sMd_writeEntries_73, rMd_writeEntries_75, xk_i, xk_l, xk_a, xk_n, xk_0, Option.toList_some, Option.toList_none, List.cons_append, List.nil_append, b1]
        refine c_putName o2 hs1 hD2 (fun g3 A3 hD3 hF3 => ?_)
        have hE3 := hE2.wk hF3
        obtain ⟨c1, c2, c3, c4, c5⟩ := hE3.2 j e h1
        simp only [sMd_writeEntries_78, sMd_writeEntries_79, rMd_writeEntries_80, sMd_writeEntries_83, qMd_writeEntries_85 (k := j) (by omega), rMd_writeEntries_86, xk_i, xk_l, xk_a, xk_n, xk_0, Option.toList_some, Option.toList_none, List.cons_append, List.nil_append, c2]
        refine c_putNumber (by omega) hD3 (fun g4 A4 hD4 hF4 => ?_)
        have hE4 := hE3.wk hF4
        obtain ⟨f1, f2, f3, f4, f5⟩ := hE4.2 j e h1
        simp only [sMd_writeEntries_89, sMd_writeEntries_90, rMd_writeEntries_91, sMd_writeEntries_94, qMd_writeEntries_96 (k := j) (by omega), rMd_writeEntries_97, xk_i, xk_l, xk_a, xk_n, xk_0, Option.toList_some, Option.toList_none, List.cons_append, List.nil_append, f3]
        refine c_putNumber (by omega) hD4 (fun g5 A5 hD5 hF5 => ?_)
        have hE5 := hE4.wk hF5
        obtain ⟨i1, i2, i3, i4, i5⟩ := hE5.2 j e h1
        simp only [sMd_writeEntries_100, sMd_writeEntries_101, rMd_writeEntries_102, sMd_writeEntries_105, qMd_writeEntries_107 (k := j) (by omega), rMd_writeEntries_108, xk_i, xk_l, xk_a, xk_n, xk_0, Option.toList_some, Option.toList_none, List.cons_append, List.nil_append, i4]
        refine c_putNumber (by omega) hD5 (fun g6 A6 hD6 hF6 => ?_)
        have hE6 := hE5.wk hF6
        obtain ⟨l1, l2, l3, l4, l5⟩ := hE6.2 j e h1
        simp only [sMd_writeEntries_111, rMd_writeEntries_112, sMd_writeEntries_115, qMd_writeEntries_117 (k := j) (by omega), sMd_writeEntries_118, sMd_writeEntries_119, sMd_writeEntries_122, sMd_writeEntries_123, sMd_writeEntries_125, rMd_writeEntries_126, xk_i, xk_l, xk_a, xk_n, xk_0, Option.toList_some, Option.toList_none, List.cons_append, List.nil_append, l1, nI_add]
        refine c_nextEntry (p := some j) (v := ekP e) ⟨e, h1, rfl⟩ hE6 hE0 ho (fun b' hb' => ?_)
        simp only [sMd_writeEntries_129, sMd_writeEntries_131, xk_i, xk_l, xk_a, xk_n, xk_0, Option.toList_some, Option.toList_none, List.cons_append, List.nil_append]
        have hF := ((((hF1.trans hF2).trans hF3).trans hF4).trans hF5).trans hF6
        refine ih (n + 1) (ekP e) e.1.1 b' g6 A6 _ _ (Nat.succ.inj hr) (by omega) o2 hb' hE6 hD6 (fun g' A' hD' hF' => K g' A' ?_ (hF.trans hF'))
        simp only [List.map_cons, entsE, entE, List.append_assoc] at hD' ⊢
        exact hD'
      by_cases hn4 : n % 4 = 0
      · rw [if_pos hn4]
        have e0 : shd n p e.1.1 = 0 := if_pos hn4
        rw [e0] at hgo
        exact hgo
      · rw [if_neg hn4]
        have e0 : shd n p e.1.1 = alk p e.1.1 := if_neg hn4
        rw [e0] at hgo
        simp only [sMd_writeEntries_29, sMd_writeEntries_30, rMd_writeEntries_31, sMd_writeEntries_34, qMd_writeEntries_36 (k := j) (by omega), oI, q1]
        rw [sMd_writeEntries_37, c_alike2 (by omega) (by omega), rv_rv' hp, rv_rv' o2]
        simp only [xk_i, xk_l, xk_a, xk_n, xk_0, Option.toList_some, Option.toList_none, List.cons_append, List.nil_append]
        exact hgo
theorem c_writeEntries {s : Int32} (hE : EnA g A L E) (hl : E.length ≤ 340) (ho : okEn E) (hD : DrA g A D) (K : ∀ g' A', DrA g' A' (D ++ entsE 0 0 ((mG ekP (E.filter (sinP s))).map (fun e => e.1))) → Fr FgW [16] [] g g' A A' L L → Q none (MM (AR M m A' L) m g') z w) :
    WP (d + 4) mMd_writeEntries 0 [some (.ref m), some (.int s), none, none, none, none, none] [] (MM (AR M m A L) m g) z w Q := by
  have h0 : abv ekP (E.filter (sinP s)) 0 = mG ekP (E.filter (sinP s)) := abv_0 (fun e he => ek_pos (ho.1 e ((List.mem_filter.mp he).1)).1)
  have hlen : (mG ekP (E.filter (sinP s))).length ≤ 340 := by
    have h1 := mG_len (f := ekP) (l := E.filter (sinP s))
    have h2 := List.length_filter_le (sinP s) E
    omega
  simp only [sMd_writeEntries_0, sMd_writeEntries_1, sMd_writeEntries_2, sMd_writeEntries_3, sMd_writeEntries_5, sMd_writeEntries_6, sMd_writeEntries_7, rMd_writeEntries_8, xk_i, xk_l, xk_a, xk_n, xk_0, Option.toList_some, Option.toList_none, List.cons_append, List.nil_append]
  refine c_nextEntry (p := none) (v := 0) rfl hE hl ho (fun b hb => ?_)
  simp only [sMd_writeEntries_11, xk_i, xk_l, xk_a, xk_n, xk_0, Option.toList_some, Option.toList_none, List.cons_append, List.nil_append]
  rw [← h0] at K
  exact wr_ent_loop hl ho _ 0 0 0 b g A D none rfl (by rw [h0]; omega) (by decide) hb hE hD K
theorem wr_crc_loop {x1 x2 x3 x4 : Option Value} {y6 : Int32} (hD : DrA g A D) : ∀ (r i : Nat), i + r = min D.length 1200 →
    (∀ x8, WP (d + 5) mMd_write 291 [some (.ref m), x1, x2, x3, x4, none, some (.int y6), some (.int (nI (crc (D.take 1200)))), x8] [] (MM (AR M m A L) m g) z w Q) → (WP (d + 5) mMd_write 254 [some (.ref m), x1, x2, x3, x4, none, some (.int y6), some (.int (nI (crc (D.take i)))), some (.int (nI i))] [] (MM (AR M m A L) m g) z w Q) := by
  obtain ⟨h1, h2, h0, h3⟩ := hD
  intro r
  induction r with
  | zero =>
    intro i hi K
    rw [sMd_write_254]
    simp only [sMd_write_256, rMd_write_257, sMd_write_260, h1]
    rw [if_pos (nI_le (by omega) (by omega))]
    have : D.take i = D.take 1200 := by
      by_cases hl : D.length ≤ 1200
      · rw [List.take_of_length_le (by omega), List.take_of_length_le hl]
      · rw [show i = 1200 by omega]
    rw [this]
    exact K _
  | succ r ih =>
    intro i hi K
    have hlt : i < D.length := by omega
    rw [sMd_write_254]
    have hv := h3 i D[i] (List.getElem?_eq_getElem hlt) (by omega)
    have hb256 := h0 _ (List.getElem_mem hlt)
    simp only [sMd_write_256, rMd_write_257, sMd_write_260, sMd_write_263, sMd_write_265, rMd_write_266, sMd_write_269, qMd_write_271 (k := i) (by omega), sMd_write_272, sMd_write_275, sMd_write_276, sMd_write_278, sMd_write_279, h1, hv, sb_and _ hb256]
    rw [if_neg (nI_ge (by omega) (by omega))]
    have hc : crc (D.take i) < 65536 := crcL_lt _ (by decide) (fun b q => h0 b (List.mem_of_mem_take q))
    rw [pk_shlN (n := D[i]) (nI 8 &&& 31) 8 (by decide) (by omega), nx_xor, show (2 : Nat) ^ 8 = 256 from rfl]
    have h16 : crc (D.take i) ^^^ D[i] * 256 < 65536 := Nat.xor_lt_two_pow (n := 16) hc (by omega)
    rw [sMd_write_280, c_shifted h16]
    simp only [sMd_write_283, sMd_write_285, sMd_write_288, xk_i, xk_l, xk_a, xk_n, xk_0, Option.toList_some, Option.toList_none, List.cons_append, List.nil_append, nI_add]
    have e : crcN (crc (D.take i) ^^^ D[i] * 256) 8 = crc (D.take (i + 1)) := by
      rw [List.take_succ_eq_append_getElem hlt]
      unfold crc crcL
      rw [List.foldl_append, List.foldl_cons, List.foldl_nil]
      unfold crcB
      with_reducible rfl
    rw [e]
    exact ih (i + 1) (by omega) K
/-- what is written -/
def wrT (fr : Nat) (s : Int32) (le gr : Nat) (N : List arec) (E : List (aent × Nat)) : atab := (le, gr, mG kR (N.filter (frK fr)), (mG ekP (E.filter (sinP s))).map (fun e => e.1))
set_option maxHeartbeats 2000000 in
theorem c_write2 {fr le gr : Nat} {s : Int32} (hfr : fr ≤ 2) (hle : le ≤ 2001) (hgr : gr ≤ 2001) (hN : NmA g A L N) (hE : EnA g A L E) (hl : N.length ≤ 260) (hl2 : E.length ≤ 340) (ho : okN N) (ho2 : okEn E) (hlo : ∀ s ∈ N, le ≤ s.2.1) (hdd : N.Pairwise (fun a b => kR a ≠ kR b)) (h25 : g 25 = nI le) (h26 : g 26 = nI gr)
    (K0 : ¬ fitT (wrT fr s le gr N E) → ∀ g' A', Fr FgW [16] [] g g' A A' L L → (∃ n, n ≤ 1200 ∧ g' 27 = nI n) → Q (some (.int (nI 0))) (MM (AR M m A' L) m g') z w)
    (K1 : fitT (wrT fr s le gr N E) → ∀ g' A', DrA g' A' (serT (wrT fr s le gr N E)) → Fr FgW [16] [] g g' A A' L L → Q (some (.int (nI 1))) (MM (AR M m A' L) m g') z w) :
    WP (d + 5) mMd_write 0 [some (.ref m), some (.int (nI fr)), some (.int s), none, none, none, none, none, none] [] (MM (AR M m A L) m g) z w Q := by
  have hRl : (mG kR (N.filter (frK fr))).length = (N.filter (frK fr)).length := mG_len_eq (hdd.sublist List.filter_sublist)
  have hRl2 := List.length_filter_le (frK fr) N
  have hEl : (mG ekP (E.filter (sinP s))).length ≤ 340 := by
    have h1 := mG_len (f := ekP) (l := E.filter (sinP s))
    have h2 := List.length_filter_le (sinP s) E
    omega
  have h0 : abv kR (N.filter (frK fr)) 0 = mG kR (N.filter (frK fr)) := abv_0 (fun e he => (ho e ((List.mem_filter.mp he).1)).1)
  simp only [sMd_write_0, sMd_write_1, rMd_write_2, sMd_write_5, sMd_write_6, rMd_write_7 xb0, rMd_write_7 xb1, sMd_write_10, sMd_write_11, rMd_write_12]
  generalize hg0 : ug (ug g 27 (nI 0)) 29 (nI 0) = g0
  have hF0 : Fr FgW [16] [] g g0 A A L L := by rw [← hg0]; exact (Fr.ug (by decide)).trans (Fr.ug (by decide))
  have hD0 : DrA g0 A [] := by
    rw [← hg0]
    refine ⟨?_, ?_, fun b hb => (by cases hb), fun i b hb => (by simp at hb)⟩
    · rw [ug_e (by decide), ug_s]; rfl
    · rw [ug_s]; rfl
  refine c_entriesSince (hE.wk hF0) hl2 ho2 ?_
  simp only [sMd_write_15, sMd_write_16, sMd_write_17, rMd_write_19, xk_i, xk_l, xk_a, xk_n, xk_0, Option.toList_some, Option.toList_none, List.cons_append, List.nil_append]
  refine c_put (by decide) hD0 (fun g1 A1 hD1 hF1 => ?_)
  have hFa := hF0.trans hF1
  simp only [sMd_write_22, sMd_write_23, rMd_write_24, rMd_write_27, xk_i, xk_l, xk_a, xk_n, xk_0, Option.toList_some, Option.toList_none, List.cons_append, List.nil_append, (hFa.1 25 (by decide)).trans h25]
  refine c_putNumber (by omega) hD1 (fun g2 A2 hD2 hF2 => ?_)
  have hFb := hFa.trans hF2
  simp only [sMd_write_30, sMd_write_31, rMd_write_32, rMd_write_35, xk_i, xk_l, xk_a, xk_n, xk_0, Option.toList_some, Option.toList_none, List.cons_append, List.nil_append, (hFb.1 26 (by decide)).trans h26]
  refine c_putNumber (by omega) hD2 (fun g3 A3 hD3 hF3 => ?_)
  have hFc := hFb.trans hF3
  simp only [sMd_write_38, sMd_write_39, sMd_write_40, rMd_write_41, xk_i, xk_l, xk_a, xk_n, xk_0, Option.toList_some, Option.toList_none, List.cons_append, List.nil_append]
  rw [c_recordsFrom hfr (hN.wk hFc) hl]
  simp only [rMd_write_44, xk_i, xk_l, xk_a, xk_n, xk_0, Option.toList_some, Option.toList_none, List.cons_append, List.nil_append]
  refine c_putNumber (by omega) hD3 (fun g4 A4 hD4 hF4 => ?_)
  have hFd := hFc.trans hF4
  simp only [sMd_write_47, sMd_write_48, sMd_write_50, sMd_write_51, sMd_write_53, sMd_write_54, sMd_write_55, rMd_write_56, xk_i, xk_l, xk_a, xk_n, xk_0, Option.toList_some, Option.toList_none, List.cons_append, List.nil_append]
  refine c_nextRecord (v := 0) (by decide) hfr (hN.wk hFd) hl ho (fun b hb => ?_)
  simp only [sMd_write_59, xk_i, xk_l, xk_a, xk_n, xk_0, Option.toList_some, Option.toList_none, List.cons_append, List.nil_append]
  refine wr_rec_loop hfr (by omega) hl ho hlo _ 0 0 b g4 A4 _ none rfl (by rw [h0]; omega) (by decide) hb (hN.wk hFd) ((hFd.1 25 (by decide)).trans h25) hD4 (fun g5 A5 x4 x7 x8 hD5 hF5 => ?_)
  rw [h0] at hD5 ⊢
  have hFe := hFd.trans hF5
  simp only [sMd_write_237, sMd_write_238, rMd_write_239]
  refine c_putNumber (by omega) hD5 (fun g6 A6 hD6 hF6 => ?_)
  have hFf := hFe.trans hF6
  simp only [sMd_write_242, sMd_write_243, rMd_write_244, xk_i, xk_l, xk_a, xk_n, xk_0, Option.toList_some, Option.toList_none, List.cons_append, List.nil_append]
  refine c_writeEntries (hE.wk hFf) hl2 ho2 hD6 (fun g7 A7 hD7 hF7 => ?_)
  have hFg := hFf.trans hF7
  simp only [sMd_write_247, sMd_write_249, sMd_write_251, sMd_write_252, xk_i, xk_l, xk_a, xk_n, xk_0, Option.toList_some, Option.toList_none, List.cons_append, List.nil_append]
  have hser : [] ++ [82] ++ vE le ++ vE gr ++ vE (N.filter (frK fr)).length ++ recsE le 0 0 (mG kR (N.filter (frK fr))) ++ vE (mG ekP (E.filter (sinP s))).length ++ entsE 0 0 ((mG ekP (E.filter (sinP s))).map (fun e => e.1)) = ser0 le gr (mG kR (N.filter (frK fr))) ((mG ekP (E.filter (sinP s))).map (fun e => e.1)) := by
    unfold ser0
    rw [hRl, List.length_map, List.nil_append]
  rw [hser] at hD7
  generalize hS : ser0 le gr (mG kR (N.filter (frK fr))) ((mG ekP (E.filter (sinP s))).map (fun e => e.1)) = S at hD7
  have hser2 : serT (wrT fr s le gr N E) = S ++ [crc S / 256, crc S % 256] := by
    unfold serT wrT ser
    rw [← hS]
  refine wr_crc_loop hD7 (min S.length 1200) 0 (by omega) (fun x8 => ?_)
  have hc : crc (S.take 1200) < 65536 := crcL_lt _ (by decide) (fun b q => hD7.2.2.1 b (List.mem_of_mem_take q))
  simp only [sMd_write_291, sMd_write_292, sMd_write_294, sMd_write_296, rMd_write_297]
  rw [pk_shrN (by omega) (nI 8 &&& 31) 8 (by decide)]
  refine c_put (by omega) hD7 (fun g8 A8 hD8 hF8 => ?_)
  simp only [sMd_write_300, sMd_write_301, sMd_write_303, sMd_write_306, rMd_write_307, xk_i, xk_l, xk_a, xk_n, xk_0, Option.toList_some, Option.toList_none, List.cons_append, List.nil_append]
  have hand : nI (crc (S.take 1200)) &&& nI 255 = nI (crc (S.take 1200) % 256) := by
    rw [pk_and (nI (crc (S.take 1200))) 8 (by decide), nI_mod (crc (S.take 1200)), pk_tn (Nat.mod_lt _ (by decide))]
    congr 1
    omega
  rw [hand]
  refine c_put (by omega) hD8 (fun g9 A9 hD9 hF9 => ?_)
  have hF := (hFg.trans hF8).trans hF9
  simp only [sMd_write_310, rMd_write_311, sMd_write_314, xk_i, xk_l, xk_a, xk_n, xk_0, Option.toList_some, Option.toList_none, List.cons_append, List.nil_append, hD9.2.1]
  have hlen : (S ++ [crc (S.take 1200) / 2 ^ 8] ++ [crc (S.take 1200) % 256]).length = S.length + 2 := by simp
  have hlen2 : (serT (wrT fr s le gr N E)).length = S.length + 2 := by rw [hser2]; simp
  have hsz : ∃ n, n ≤ 1200 ∧ g9 27 = nI n := ⟨_, Nat.min_le_right _ _, hD9.1⟩
  rw [hlen]
  by_cases hov : 1200 < S.length + 2
  · rw [if_neg (by rw [if_pos hov]; decide)]
    simp only [sMd_write_334, sMd_write_335 xb0, sMd_write_335 xb1]
    exact K0 (fun q => by have := q.2.2; omega) g9 A9 hF hsz
  · rw [if_pos (by rw [if_neg hov])]
    simp only [sMd_write_317, sMd_write_319, sMd_write_321, sMd_write_324, sMd_write_325, sMd_write_327, sMd_write_330, sMd_write_331, sMd_write_334, sMd_write_335 xb0, sMd_write_335 xb1, Nat.zero_add, nI_ltI (a := 30) (b := (mG kR (N.filter (frK fr))).length) (by omega) (by omega), nI_ltI (a := 40) (b := (mG ekP (E.filter (sinP s))).length) (by omega) (by omega)]
    by_cases h30 : 30 < (mG kR (N.filter (frK fr))).length
    · rw [if_pos h30]
      exact K0 (fun q => by have : (mG kR (N.filter (frK fr))).length ≤ 30 := q.1; omega) g9 A9 hF hsz
    · rw [if_neg h30]
      by_cases h40 : 40 < (mG ekP (E.filter (sinP s))).length
      · rw [if_pos h40]
        refine K0 (fun q => ?_) g9 A9 hF hsz
        have : ((mG ekP (E.filter (sinP s))).map (fun e => e.1)).length ≤ 40 := q.2.1
        rw [List.length_map] at this
        omega
      · rw [if_neg h40]
        refine K1 ⟨by show (mG kR (N.filter (frK fr))).length ≤ 30; omega, by show ((mG ekP (E.filter (sinP s))).map (fun e => e.1)).length ≤ 40; rw [List.length_map]; omega, by omega⟩ g9 A9 ?_ hF
        rw [hser2]
        rw [List.take_of_length_le (by omega), List.append_assoc] at hD9
        exact hD9
end MW
