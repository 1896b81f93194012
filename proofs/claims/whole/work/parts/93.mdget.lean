/-! the reference: what only reads -/
theorem rv_gkey {k n : Nat} (h : GK k) : rv k = n ↔ k = gkey n := by
  have hk := h.1
  constructor
  · intro e
    subst e
    unfold gkey
    rw [if_pos ((GN_GK hk).mpr h), rv_rv' hk]
  · intro e
    unfold gkey at e
    by_cases hg : GN n
    · rw [if_pos hg] at e
      rw [e, rv_rv' hg.lt]
    · rw [if_neg hg] at e
      have := h.pos
      omega
theorem fidx_congr {α : Type} {p q : α → Bool} : ∀ {l : List α}, (∀ x ∈ l, p x = q x) → l.findIdx? p = l.findIdx? q
  | [], _ => rfl
  | x :: l, h => by
    rw [List.findIdx?_cons, List.findIdx?_cons, h x (by simp), fidx_congr (fun y hy => h y (by simp [hy]))]
theorem fx_find {N : List arec} {n : Nat} (h : ∀ s ∈ N, GK s.1) : (fxI N n).bind (fun j => N[j]?) = N.find? (fun r => r.1 == gkey n) := by
  rw [List.find?_eq_bind_findIdx?_getElem?]
  unfold fxI
  rw [fidx_congr (q := fun r => r.1 == gkey n)]
  intro s hs
  have := rv_gkey (n := n) (h s hs)
  rw [Bool.eq_iff_iff, beq_iff_eq, beq_iff_eq]
  exact this
theorem ddi_find (N : List arec) (r : arec) (k : Nat) : (ddi N r).find? (fun s => s.1 == k) = (N ++ [r]).find? (fun s => s.1 == k) := by
  unfold ddi
  split
  · rename_i h
    rw [List.find?_append]
    cases hf : N.find? (fun s => s.1 == k) with
    | some x => rfl
    | none =>
      rw [List.find?_eq_none] at hf
      rw [List.any_eq_true] at h
      obtain ⟨s, hs, e⟩ := h
      have h1 := hf s hs
      rw [beq_iff_eq] at e
      have : ¬ r.1 = k := by rw [← e]; simpa using h1
      simp [this]
  · rfl
theorem ddf_find : ∀ (R N : List arec) (k : Nat), (ddf N R).find? (fun s => s.1 == k) = (N ++ R).find? (fun s => s.1 == k)
  | [], N, k => by simp [ddf]
  | r :: R, N, k => by
    show (ddf (ddi N r) R).find? _ = _
    rw [ddf_find R (ddi N r) k, List.find?_append, ddi_find, List.find?_append, List.find?_append, Option.or_assoc, ← List.find?_append]
    rfl
theorem ddf_lk (R : List arec) (k : Nat) : lkA (ddf [] R) k = lkA R k := by
  unfold lkA
  rw [ddf_find, List.nil_append]
theorem ddi_dd {N : List arec} {r : arec} (h : N.Pairwise (fun a b => kR a ≠ kR b)) : (ddi N r).Pairwise (fun a b => kR a ≠ kR b) := by
  unfold ddi
  split
  · exact h
  · rename_i hn
    rw [List.pairwise_append]
    refine ⟨h, by simp, fun a ha b hb => ?_⟩
    rw [List.mem_singleton] at hb
    subst hb
    intro e
    apply hn
    rw [List.any_eq_true]
    exact ⟨a, ha, by rw [beq_iff_eq]; exact e⟩
theorem ddf_dd : ∀ {R N : List arec}, N.Pairwise (fun a b => kR a ≠ kR b) → (ddf N R).Pairwise (fun a b => kR a ≠ kR b)
  | [], _, h => h
  | r :: R, N, h => by
    show (ddf (ddi N r) R).Pairwise _
    exact ddf_dd (ddi_dd h)
theorem ddf_id : ∀ {R N : List arec}, (∀ r ∈ R, ∀ s ∈ N, s.1 ≠ r.1) → R.Pairwise (fun a b => kR a ≠ kR b) → ddf N R = N ++ R
  | [], N, _, _ => by simp [ddf]
  | r :: R, N, h, h2 => by
    rw [List.pairwise_cons] at h2
    have e : ddi N r = N ++ [r] := by
      unfold ddi
      rw [if_neg]
      intro hh
      rw [List.any_eq_true] at hh
      obtain ⟨s, hs, e⟩ := hh
      exact h r (by simp) s hs (by simpa using e)
    show ddf (ddi N r) R = _
    rw [e, ddf_id (fun r' hr' s hs => ?_) h2.2, List.append_assoc]
    · rfl
    · rw [List.mem_append, List.mem_singleton] at hs
      rcases hs with hs | hs
      · exact h r' (by simp [hr']) s hs
      · rw [hs]; exact h2.1 r' hr'
theorem sT_dd {R : List arec} (h : sT kR R) : R.Pairwise (fun a b => kR a ≠ kR b) := List.Pairwise.imp (fun {a b} (q : kR a < kR b) => Nat.ne_of_lt q) h
theorem ddf_mG (R : List arec) : mG kR (ddf [] R) = mG kR R := mG_congr (fun v => by
  have := ddf_find R [] v
  rw [List.nil_append] at this
  exact this)
/-- what the view has -/
theorem view_ok {TT : List ptab} (hw : ∀ p ∈ TT, wT p.2) (h8 : TT.length ≤ 8) : (∀ s ∈ ddf [] (cR TT), GK s.1) ∧ okN (ddf [] (cR TT)) ∧ (ddf [] (cR TT)).length ≤ 240 := by
  have hm : ∀ s ∈ ddf [] (cR TT), ∃ p ∈ TT, s ∈ p.2.2.2.1 := by
    intro s hs
    rcases ddf_mem hs with h | h
    · cases h
    · exact mem_cR.mp h
  refine ⟨fun s hs => ?_, fun s hs => ?_, ?_⟩
  · obtain ⟨p, hp, hr⟩ := hm s hs
    exact ((hw p hp).1.2.2.2.2.2.1 s hr).1
  · obtain ⟨p, hp, hr⟩ := hm s hs
    have h1 := (hw p hp).1.2.2.2.2.2.1 s hr
    have h2 := (hw p hp).1.2.2.1
    have h3 := h1.2.2.1
    exact ⟨h1.1.pos, h1.1.1, by omega, h1.2.2.2.ok⟩
  · have h1 := ddf_len (cR TT) []
    have h2 := cR_len TT hw
    simp only [List.length_nil] at h1
    omega
theorem wi_iff {t : Int32} {n : Nat} (hn : n < 2 ^ 30) : (nI 0 ≤ t ∧ t ≤ nI n - nI 1) ↔ ∃ i, i < n ∧ t = nI i := by
  constructor
  · rintro ⟨h1, h2⟩
    have h0 : ¬ t < 0 := by
      rw [Int32.lt_iff_toInt_lt]
      rw [Int32.le_iff_toInt_le] at h1
      have : (nI 0).toInt = (0 : Int32).toInt := rfl
      omega
    obtain ⟨j, hj, rfl⟩ := nI_of h0
    by_cases hz : n = 0
    · subst hz
      exfalso
      rw [Int32.le_iff_toInt_le] at h1 h2
      have e1 : (nI 0 - nI 1).toInt = -1 := by decide
      have e2 : (nI 0).toInt = 0 := by decide
      omega
    · rw [pk_sub (by omega)] at h2
      have := (nI_leI (a := j) (b := n - 1) hj (by omega)).mp h2
      exact ⟨j, by omega, rfl⟩
  · rintro ⟨i, hi, rfl⟩
    rw [pk_sub (by omega)]
    exact ⟨nI_le (by omega) (by omega), nI_le (by omega) (by omega)⟩
theorem knd0 {c : Int} : knd c = 0 ↔ c = 0 := by
  unfold knd
  constructor
  · intro h
    by_cases h0 : c = 0
    · exact h0
    · rw [if_neg h0] at h; split at h <;> omega
  · intro h; rw [if_pos h]
theorem knd1 {c : Int} : knd c = 1 ↔ 0 < c := by
  unfold knd
  constructor
  · intro h
    by_cases h0 : c = 0
    · rw [if_pos h0] at h; omega
    · rw [if_neg h0] at h
      by_cases h1 : 0 < c
      · exact h1
      · rw [if_neg h1] at h; omega
  · intro h; rw [if_neg (by omega), if_pos h]
theorem knd2 {c : Int} : knd c = 2 ↔ c < 0 := by
  unfold knd
  constructor
  · intro h
    by_cases h0 : c = 0
    · rw [if_pos h0] at h; omega
    · rw [if_neg h0] at h
      by_cases h1 : 0 < c
      · rw [if_pos h1] at h; omega
      · omega
  · intro h; rw [if_neg (by omega), if_neg (by omega)]
section MQ
variable {d m : Nat} {B : List (List Nat)} {M : xM} {g : Nat → Int32} {A : Nat → Nat → Int32} {L : Nat → Nat → Int64} {N : List arec} {E : List (aent × Nat)} {z w : Nat} {Q : Option Value → xM → Nat → Nat → Prop}
/-- what find says about the content -/
theorem fx_cases {n : Nat} (hG : ∀ s ∈ N, GK s.1) : (fxI N n = none ∧ lkA N (gkey n) = 0) ∨ ∃ j r, fxI N n = some j ∧ N[j]? = some r ∧ j < N.length ∧ lkA N (gkey n) = r.2.2 := by
  have h := fx_find (n := n) hG
  cases hf : fxI N n with
  | none =>
    rw [hf] at h
    refine Or.inl ⟨rfl, ?_⟩
    unfold lkA
    rw [← h]; rfl
  | some j =>
    obtain ⟨r, h1, h2, h3⟩ := fxI_some hf
    rw [hf, Option.bind_some, h1] at h
    refine Or.inr ⟨j, r, rfl, h1, h3, ?_⟩
    unfold lkA
    rw [← h]; rfl
theorem c_Md_get {n : Nat} (hn : n < 2 ^ 64) (h8 : B.length ≤ 8) (hS : StA g A B) (K : ∀ g' A' L', Fr FgV FaR FlR g g' A A' L L' → Q (some (.int (gtS B n))) (MM (AR M m A' L') m g') z w) : WP (d + 7) mMd_get 0 [some (.ref m), some (.long (lN n)), none, none] [] (MM (AR M m A L) m g) z w Q := by
  simp only [sMd_get_0, rMd_get_1]
  refine c_view h8 hS (fun hv g1 A1 L1 hF => ?_) (fun TT hv g1 A1 L1 hN hE h25 h26 hF => ?_)
  · simp only [sMd_get_4, sMd_get_7, sMd_get_9, xk_i, xk_l, xk_a, xk_n, xk_0, Option.toList_some, Option.toList_none, List.cons_append, List.nil_append]
    rw [if_pos trivial]
    have := K g1 A1 L1 hF
    unfold gtS at this
    rw [hv] at this
    exact this
  · obtain ⟨v1, v2, v3⟩ := view_ok (vw_w hv).2.2 (by rw [vw_len hv]; exact h8)
    simp only [sMd_get_4, sMd_get_7, sMd_get_9, sMd_get_10, sMd_get_11, rMd_get_12, xk_i, xk_l, xk_a, xk_n, xk_0, Option.toList_some, Option.toList_none, List.cons_append, List.nil_append]
    rw [if_neg (by decide), c_find hn hN (by omega)]
    have hK := K g1 A1 L1 hF
    have e : gtS B n = nol (lkA (ddf [] (cR TT)) (gkey n)) := by
      unfold gtS
      rw [hv, ddf_lk]
    rw [e] at hK
    rcases fx_cases (n := n) v1 with ⟨f1, f2⟩ | ⟨j, r, f1, f2, f3, f4⟩
    · rw [f1]
      rw [f2] at hK
      simp only [sMd_get_15, sMd_get_16, sMd_get_17, sMd_get_20, rMd_get_21, sMd_get_24, sMd_get_26, sMd_get_29, sMd_get_30, sMd_get_55, xk_i, xk_l, xk_a, xk_n, xk_0, Option.toList_some, Option.toList_none, List.cons_append, List.nil_append]
      rw [if_pos (by decide)]
      exact hK
    · rw [f1]
      rw [f4] at hK
      obtain ⟨q1, q2, q3, q4⟩ := hN.2 j r f2
      have hk2 := knd_2 r.2.2
      obtain ⟨o1, o2, o3, o4⟩ := v2 r (List.mem_of_getElem? f2)
      simp only [sMd_get_15, sMd_get_16, sMd_get_17, sMd_get_20, rMd_get_21, sMd_get_24, qMd_get_25 (k := j) (by omega), sMd_get_26, sMd_get_29, sMd_get_30, sMd_get_33, rMd_get_34, sMd_get_37, qMd_get_38 (k := j) (by omega), sMd_get_39, sMd_get_40, sMd_get_43, rMd_get_44, sMd_get_47, qMd_get_48 (k := j) (by omega), sMd_get_49, sMd_get_50, sMd_get_53, sMd_get_55, xk_i, xk_l, xk_a, xk_n, xk_0, Option.toList_some, Option.toList_none, List.cons_append, List.nil_append, oI, q2, q4, nI_eq (a := knd r.2.2) (b := 0) (by omega) (by omega), nI_eq (a := knd r.2.2) (b := 1) (by omega) (by omega), knd0, knd1]
      rw [if_neg (nI_nlt (a := j) (b := 0) (by omega) (by omega))]
      by_cases h0 : r.2.2 = 0
      · rw [if_pos h0]
        rw [h0] at hK
        exact hK
      · rw [if_neg h0]
        by_cases h1 : 0 < r.2.2
        · rw [if_pos h1]
          unfold nol at hK
          rw [if_neg (by omega)] at hK
          unfold vN
          rw [if_pos (by omega), lN_i]
          exact hK
        · rw [if_neg h1]
          unfold nol at hK
          rw [if_pos (by omega)] at hK
          exact hK
theorem c_Md_target {n : Nat} (hn : n < 2 ^ 64) (h8 : B.length ≤ 8) (hS : StA g A B) (K : ∀ g' A' L', Fr FgV FaR FlR g g' A A' L L' → Q (some (.long (tgS B n))) (MM (AR M m A' L') m g') z w) : WP (d + 7) mMd_target 0 [some (.ref m), some (.long (lN n)), none, none] [] (MM (AR M m A L) m g) z w Q := by
  simp only [sMd_target_0, rMd_target_1]
  refine c_view h8 hS (fun hv g1 A1 L1 hF => ?_) (fun TT hv g1 A1 L1 hN hE h25 h26 hF => ?_)
  · simp only [sMd_target_4, sMd_target_7, sMd_target_10, xk_i, xk_l, xk_a, xk_n, xk_0, Option.toList_some, Option.toList_none, List.cons_append, List.nil_append]
    rw [if_pos trivial]
    have := K g1 A1 L1 hF
    unfold tgS at this
    rw [hv] at this
    exact this
  · obtain ⟨v1, v2, v3⟩ := view_ok (vw_w hv).2.2 (by rw [vw_len hv]; exact h8)
    simp only [sMd_target_4, sMd_target_7, sMd_target_10, sMd_target_11, sMd_target_12, rMd_target_13, xk_i, xk_l, xk_a, xk_n, xk_0, Option.toList_some, Option.toList_none, List.cons_append, List.nil_append]
    rw [if_neg (by decide), c_find hn hN (by omega)]
    have hK := K g1 A1 L1 hF
    have e : tgS B n = if lkA (ddf [] (cR TT)) (gkey n) < 0 then lN (rv (-(lkA (ddf [] (cR TT)) (gkey n))).toNat) else lN 0 := by
      unfold tgS
      rw [hv, ddf_lk]
    rw [e] at hK
    rcases fx_cases (n := n) v1 with ⟨f1, f2⟩ | ⟨j, r, f1, f2, f3, f4⟩
    · rw [f1]
      rw [f2] at hK
      simp only [sMd_target_16, sMd_target_17, sMd_target_18, sMd_target_40, sMd_target_41, xk_i, xk_l, xk_a, xk_n, xk_0, Option.toList_some, Option.toList_none, List.cons_append, List.nil_append]
      rw [if_pos (by decide)]
      exact hK
    · rw [f1]
      rw [f4] at hK
      obtain ⟨q1, q2, q3, q4⟩ := hN.2 j r f2
      have hk2 := knd_2 r.2.2
      simp only [sMd_target_16, sMd_target_17, sMd_target_18, sMd_target_21, rMd_target_22, sMd_target_25, qMd_target_26 (k := j) (by omega), sMd_target_27, sMd_target_28, sMd_target_31, rMd_target_32, sMd_target_35, qMd_target_36 (k := j) (by omega), sMd_target_37, sMd_target_40, sMd_target_41, xk_i, xk_l, xk_a, xk_n, xk_0, Option.toList_some, Option.toList_none, List.cons_append, List.nil_append, oI, q2, q4, nI_eq (a := knd r.2.2) (b := 2) (by omega) (by omega), knd2]
      rw [if_neg (nI_nlt (a := j) (b := 0) (by omega) (by omega))]
      by_cases h0 : r.2.2 < 0
      · rw [if_pos h0] at hK ⊢
        unfold vN
        rw [if_neg (by omega)]
        exact hK
      · rw [if_neg h0] at hK ⊢
        exact hK
set_option maxHeartbeats 1000000 in
theorem mresolve_loop {x1 : Option Value} (hN : NmA g A L N) (hl : N.length ≤ 260) (hG : ∀ s ∈ N, GK s.1) (ho : ∀ s ∈ N, wC s.2.2) : ∀ (r i : Nat) (b : Option Nat) (c : Int), i + r = 5 → ((b = none ∧ c = 0) ∨ ∃ j s, b = some j ∧ N[j]? = some s ∧ c = s.2.2) → Q (some (.int (nol (rsN N r c)))) (MM (AR M m A L) m g) z w →
    WP (d + 7) mMd_resolve 19 [some (.ref m), x1, none, some (.int (oI b)), some (.int (nI i))] [] (MM (AR M m A L) m g) z w Q := by
  have hend : ∀ (b : Option Nat) (c : Int) (i : Int32), ((b = none ∧ c = 0) ∨ ∃ j s, b = some j ∧ N[j]? = some s ∧ c = s.2.2) → Q (some (.int (nol c))) (MM (AR M m A L) m g) z w → WP (d + 7) mMd_resolve 56 [some (.ref m), x1, none, some (.int (oI b)), some (.int i)] [] (MM (AR M m A L) m g) z w Q := by
    intro b c i hb hK
    rcases hb with ⟨f1, f2⟩ | ⟨j, r, f1, f2, f4⟩
    · subst f1; subst f2
      simp only [sMd_resolve_56, sMd_resolve_57, sMd_resolve_69, sMd_resolve_70, sMd_resolve_95]
      rw [if_pos (by decide)]
      exact hK
    · subst f1; subst f4
      have f3 := (List.getElem?_eq_some_iff.mp f2).1
      obtain ⟨q1, q2, q3, q4⟩ := hN.2 j r f2
      have hk2 := knd_2 r.2.2
      simp only [sMd_resolve_56, sMd_resolve_57, sMd_resolve_60, rMd_resolve_61, sMd_resolve_64, qMd_resolve_65 (k := j) (by omega), sMd_resolve_66, sMd_resolve_69, sMd_resolve_70, sMd_resolve_73, rMd_resolve_74, sMd_resolve_77, qMd_resolve_78 (k := j) (by omega), sMd_resolve_79, sMd_resolve_80, sMd_resolve_83, rMd_resolve_84, sMd_resolve_87, qMd_resolve_88 (k := j) (by omega), sMd_resolve_89, sMd_resolve_90, sMd_resolve_93, sMd_resolve_95, oI, q2, q4, nI_eq (a := knd r.2.2) (b := 0) (by omega) (by omega), nI_eq (a := knd r.2.2) (b := 1) (by omega) (by omega), knd0, knd1]
      rw [if_neg (nI_nlt (a := j) (b := 0) (by omega) (by omega))]
      by_cases h0 : r.2.2 = 0
      · rw [if_pos h0]
        rw [h0] at hK
        exact hK
      · rw [if_neg h0]
        by_cases h1 : 0 < r.2.2
        · rw [if_pos h1]
          unfold nol at hK
          rw [if_neg (by omega)] at hK
          unfold vN
          rw [if_pos (by omega), lN_i]
          exact hK
        · rw [if_neg h1]
          unfold nol at hK
          rw [if_pos (by omega)] at hK
          exact hK
  intro r
  induction r with
  | zero =>
    intro i b c hi hb hK
    rw [sMd_resolve_19]
    simp only [sMd_resolve_21, sMd_resolve_22]
    rw [if_pos (nI_le (by omega) (by omega))]
    exact hend b c _ hb hK
  | succ r ih =>
    intro i b c hi hb hK
    rw [sMd_resolve_19]
    simp only [sMd_resolve_21, sMd_resolve_22, sMd_resolve_25, sMd_resolve_26]
    rw [if_neg (nI_ge (by omega) (by omega))]
    unfold rsN at hK
    rcases hb with ⟨f1, f2⟩ | ⟨j, s, f1, f2, f4⟩
    · subst f1; subst f2
      rw [if_pos (by decide)]
      rw [if_neg (by decide)] at hK
      exact hend none 0 _ (Or.inl ⟨rfl, rfl⟩) hK
    · have f3 := (List.getElem?_eq_some_iff.mp f2).1
      obtain ⟨q1, q2, q3, q4⟩ := hN.2 j s f2
      have hk2 := knd_2 s.2.2
      subst f1; subst f4
      rw [if_neg (show ¬ oI (some j) < nI 0 from nI_nlt (a := j) (b := 0) (by omega) (by omega))]
      simp only [sMd_resolve_29, rMd_resolve_30, sMd_resolve_33, qMd_resolve_34 (k := j) (by omega), sMd_resolve_35, sMd_resolve_36, sMd_resolve_39, sMd_resolve_40, rMd_resolve_41, sMd_resolve_44, qMd_resolve_45 (k := j) (by omega), oI, q2, q4, nI_eq (a := knd s.2.2) (b := 2) (by omega) (by omega), knd2]
      by_cases h0 : s.2.2 < 0
      · rw [if_pos h0] at hK ⊢
        have hgk : GK (-s.2.2).toNat := by
          rcases ho s (List.mem_of_getElem? f2) with h | h | h
          · omega
          · omega
          · exact h.2
        have hgk2 : gkey (rv (-s.2.2).toNat) = (-s.2.2).toNat := ((rv_gkey hgk).mp rfl).symm
        have hrv := rv_lt (-s.2.2).toNat
        have hvn : vN s.2.2 = rv (-s.2.2).toNat := by unfold vN; rw [if_neg (by omega)]
        rw [hvn, rMd_resolve_46, c_find (by omega) hN hl]
        simp only [sMd_resolve_49, sMd_resolve_50, sMd_resolve_53, xk_i, xk_l, xk_a, xk_n, xk_0, Option.toList_some, Option.toList_none, List.cons_append, List.nil_append, nI_add]
        refine ih (i + 1) _ (lkA N (-s.2.2).toNat) (by omega) ?_ hK
        have := fx_cases (n := rv (-s.2.2).toNat) hG
        rw [hgk2] at this
        rcases this with ⟨f1, f2⟩ | ⟨j, r, f1, f2, f3, f4⟩
        · exact Or.inl ⟨f1, f2⟩
        · exact Or.inr ⟨j, r, f1, f2, f4⟩
      · rw [if_neg h0] at hK ⊢
        exact hend (some j) s.2.2 _ (Or.inr ⟨j, s, rfl, f2, rfl⟩) hK
theorem rsN_lk {l l' : List arec} (h : ∀ k, lkA l k = lkA l' k) : ∀ (n : Nat) (c : Int), rsN l n c = rsN l' n c
  | 0, _ => rfl
  | n + 1, c => by
    unfold rsN
    rw [h, rsN_lk h n]
theorem c_Md_resolve {n : Nat} (hn : n < 2 ^ 64) (h8 : B.length ≤ 8) (hS : StA g A B) (K : ∀ g' A' L', Fr FgV FaR FlR g g' A A' L L' → Q (some (.int (rsS B n))) (MM (AR M m A' L') m g') z w) : WP (d + 7) mMd_resolve 0 [some (.ref m), some (.long (lN n)), none, none, none] [] (MM (AR M m A L) m g) z w Q := by
  simp only [sMd_resolve_0, rMd_resolve_1]
  refine c_view h8 hS (fun hv g1 A1 L1 hF => ?_) (fun TT hv g1 A1 L1 hN hE h25 h26 hF => ?_)
  · simp only [sMd_resolve_4, sMd_resolve_7, sMd_resolve_9, xk_i, xk_l, xk_a, xk_n, xk_0, Option.toList_some, Option.toList_none, List.cons_append, List.nil_append]
    rw [if_pos trivial]
    have := K g1 A1 L1 hF
    unfold rsS at this
    rw [hv] at this
    exact this
  · obtain ⟨v1, v2, v3⟩ := view_ok (vw_w hv).2.2 (by rw [vw_len hv]; exact h8)
    simp only [sMd_resolve_4, sMd_resolve_7, sMd_resolve_9, sMd_resolve_10, sMd_resolve_11, rMd_resolve_12, xk_i, xk_l, xk_a, xk_n, xk_0, Option.toList_some, Option.toList_none, List.cons_append, List.nil_append]
    rw [if_neg (by decide), c_find hn hN (by omega)]
    simp only [sMd_resolve_15, sMd_resolve_16, sMd_resolve_17, xk_i, xk_l, xk_a, xk_n, xk_0, Option.toList_some, Option.toList_none, List.cons_append, List.nil_append]
    have hK := K g1 A1 L1 hF
    have e : rsS B n = nol (rsN (ddf [] (cR TT)) 5 (lkA (ddf [] (cR TT)) (gkey n))) := by
      unfold rsS
      rw [hv, ddf_lk, rsN_lk (ddf_lk (cR TT))]
    rw [e] at hK
    refine mresolve_loop hN (by omega) v1 (fun s hs => ?_) 5 0 _ _ rfl ?_ hK
    · rcases ddf_mem hs with h | h
      · cases h
      · obtain ⟨p, hp, hr⟩ := mem_cR.mp h
        exact ((vw_w0 hv p hp).2.2.2.2.2.1 s hr).2.2.2
    · rcases fx_cases (n := n) v1 with ⟨f1, f2⟩ | ⟨j, r, f1, f2, f3, f4⟩
      · exact Or.inl ⟨f1, f2⟩
      · exact Or.inr ⟨j, r, f1, f2, f4⟩
theorem c_Md_tables (hS : StA g A B) : WP d mMd_tables 0 [some (.ref m)] [] (MM (AR M m A L) m g) z w Q ↔ Q (some (.int (nI B.length))) (MM (AR M m A L) m g) z w := by
  simp only [sMd_tables_0, rMd_tables_1, sMd_tables_4, hS.1]
theorem c_Md_size {t : Int32} (h8 : B.length ≤ 8) (hS : StA g A B) : WP (d + 1) mMd_size 0 [some (.ref m), some (.int t)] [] (MM (AR M m A L) m g) z w Q ↔ Q (some (.int (szS B t))) (MM (AR M m A L) m g) z w := by
  simp only [sMd_size_0, sMd_size_1, sMd_size_2, rMd_size_3, sMd_size_6, sMd_size_7, hS.1]
  rw [sMd_size_8, c_within]
  simp only [sMd_size_11, sMd_size_14, rMd_size_15, sMd_size_18, sMd_size_23, sMd_size_24, xk_i, xk_l, xk_a, xk_n, xk_0, Option.toList_some, Option.toList_none, List.cons_append, List.nil_append, wi_iff (t := t) (n := B.length) (by omega)]
  unfold szS
  by_cases h : ∃ i, i < B.length ∧ t = nI i
  · rw [if_neg (by rw [if_pos h]; decide)]
    obtain ⟨i, hi, rfl⟩ := h
    obtain ⟨s1, s2, s3⟩ := hS.2 i B[i] (List.getElem?_eq_getElem hi)
    rw [qMd_size_19 (by omega), ix_nI (by omega), List.getElem?_eq_getElem hi, s2]
    simp only [sMd_size_20, sMd_size_23, sMd_size_24]
  · rw [if_pos (by rw [if_neg h])]
    rw [ix_none (fun i hi e => h ⟨i, hi, e⟩)]
theorem c_Md_byteAt {t k : Int32} (h8 : B.length ≤ 8) (hS : StA g A B) : WP (d + 1) mMd_byteAt 0 [some (.ref m), some (.int t), some (.int k)] [] (MM (AR M m A L) m g) z w Q ↔ Q (some (.int (byS B t k))) (MM (AR M m A L) m g) z w := by
  simp only [sMd_byteAt_0, sMd_byteAt_1, sMd_byteAt_2, rMd_byteAt_3, sMd_byteAt_6, sMd_byteAt_7, hS.1]
  rw [sMd_byteAt_8, c_within]
  simp only [sMd_byteAt_11, sMd_byteAt_14, sMd_byteAt_15, sMd_byteAt_16, rMd_byteAt_17, sMd_byteAt_49, sMd_byteAt_50, xk_i, xk_l, xk_a, xk_n, xk_0, Option.toList_some, Option.toList_none, List.cons_append, List.nil_append, wi_iff (t := t) (n := B.length) (by omega)]
  unfold byS
  by_cases h : ∃ i, i < B.length ∧ t = nI i
  · rw [if_neg (by rw [if_pos h]; decide)]
    obtain ⟨i, hi, rfl⟩ := h
    obtain ⟨s1, s2, s3⟩ := hS.2 i B[i] (List.getElem?_eq_getElem hi)
    have s4 := s1.2.2.1
    have s5 := s1.2.2.2.2
    simp only [sMd_byteAt_20, qMd_byteAt_21 (k := i) (by omega), sMd_byteAt_22, sMd_byteAt_23, s2]
    rw [sMd_byteAt_24, c_within]
    simp only [sMd_byteAt_27, sMd_byteAt_30, rMd_byteAt_31, sMd_byteAt_34, sMd_byteAt_37, sMd_byteAt_38, sMd_byteAt_39, sMd_byteAt_40, sMd_byteAt_49, sMd_byteAt_50, xk_i, xk_l, xk_a, xk_n, xk_0, Option.toList_some, Option.toList_none, List.cons_append, List.nil_append, wi_iff (t := k) (n := B[i].length) (by omega), pk_mul]
    rw [ix_nI (by omega), List.getElem?_eq_getElem hi, Option.bind_some]
    by_cases h2 : ∃ j, j < B[i].length ∧ k = nI j
    · rw [if_neg (by rw [if_pos h2]; decide)]
      obtain ⟨j, hj, rfl⟩ := h2
      rw [nI_add, qMd_byteAt_41 (by omega), s1.1 j _ (List.getElem?_eq_getElem hj), ix_nI (by omega), List.getElem?_eq_getElem hj]
      simp only [sMd_byteAt_42, sMd_byteAt_45, sMd_byteAt_46, sMd_byteAt_49, sMd_byteAt_50, sb_and _ (s1.2.1 _ (List.getElem_mem hj))]
    · rw [if_pos (by rw [if_neg h2])]
      rw [ix_none (fun i hi e => h2 ⟨i, hi, e⟩)]
  · rw [if_pos (by rw [if_neg h])]
    rw [ix_none (fun i hi e => h ⟨i, hi, e⟩)]
    rfl
end MQ
