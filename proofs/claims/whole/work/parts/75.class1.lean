/-! RefStack: its memory, and what is small -/
def okS (b : tS) : Prop := b.2.2.2.1 = (pT b.1).isSome ∧ ∀ T, pT b.1 = some T → b = rawT b.1 T
def vw : List (List Nat) → Option (List ptab)
  | [] => some []
  | b :: t => (pT b).bind fun T => (vw t).bind fun l => some ((b, T) :: l)
def OnlyK (M M' : xM) (x : Nat) : Prop := ∀ q, (q < x ∨ (x + 15 ≤ q ∧ q < x + 32)) → M' q = M q
theorem OnlyK.trans {M M1 M2 : xM} {s : Nat} (h : OnlyK M M1 s) (h2 : OnlyK M1 M2 s) : OnlyK M M2 s := fun q hq => (h2 q hq).trans (h q hq)
theorem OnlyK.rf {M : xM} {s : Nat} : OnlyK M M s := fun _ _ => rfl
/-- the class: B the bytes of its tables from the bottom up, tx the changes of the transaction, if one is going on -/
def KAt (M : xM) (x z w wb : Nat) (B : List (List Nat)) (tx : Option (List achg)) : Prop := ∃ (L : List (Nat × tS)) (cs : List achg), M x = some (0, [.ref (x + 1), .ref (x + 10), .ref (x + 14)]) ∧ SkAt M (x + 1) B.length L z ∧ (TxAt M (x + 10) tx.isSome cs ∧ (∀ c ∈ cs, c.1 < 2 ^ 60) ∧ ∀ c, tx = some c → cs = c) ∧ (∃ (v : Value) (p e f : Int32), M (x + 14) = some (1, [v, .int p, .int e, .int f])) ∧ (L.take B.length).map (fun e => e.2.1) = B ∧ (∀ e ∈ L.take B.length, okS e.2) ∧ z = x + 32 + 10 * L.length ∧ w = wb + 1427 * L.length
theorem KAt.kept {M M' : xM} {x z w wb : Nat} {B : List (List Nat)} {tx : Option (List achg)} (h : KAt M x z w wb B tx) (hq : ∀ q, (x ≤ q ∧ q < x + 15) ∨ x + 32 ≤ q → M' q = M q) : KAt M' x z w wb B tx := by
  obtain ⟨L, cs, k1, k2, ⟨k3, k4, k5⟩, ⟨v, p, e, f, k6⟩, k7, k8, k9, k10⟩ := h
  exact ⟨L, cs, by rw [hq _ (by omega)]; exact k1, k2.kept (Nat.le_refl _) (fun q a b => hq q (by omega)) (fun q a b => hq q (by omega)), ⟨k3.kept (fun q a b => hq q (by omega)), k4, k5⟩, ⟨v, p, e, f, by rw [hq _ (by omega)]; exact k6⟩, k7, k8, k9, k10⟩
theorem vw_l : ∀ (l : List (Nat × tS)), (∀ e ∈ l, okS e.2) → (vw (l.map (fun e => e.2.1)) = none → l.any (fun e => !e.2.2.2.2.1) = true) ∧ ∀ TT, vw (l.map (fun e => e.2.1)) = some TT → l.any (fun e => !e.2.2.2.2.1) = false ∧ l.map (fun e => e.2) = TT.map rawP
  | [], _ => ⟨fun h => (by cases h), fun TT h => (by cases h; exact ⟨rfl, rfl⟩)⟩
  | e :: t, h => by
    obtain ⟨h1, h2⟩ := h e List.mem_cons_self
    obtain ⟨i1, i2⟩ := vw_l t (fun a ha => h a (List.mem_cons_of_mem _ ha))
    rw [List.map_cons]
    unfold vw
    cases hp : pT e.2.1 with
    | none =>
      rw [Option.bind_none, List.any_cons, h1, hp]
      exact ⟨fun _ => rfl, fun TT h => by cases h⟩
    | some T =>
      rw [Option.bind_some, List.any_cons, h1, hp]
      cases hv : vw (t.map (fun e => e.2.1)) with
      | none =>
        rw [Option.bind_none, i1 hv]
        exact ⟨fun _ => rfl, fun TT h => by cases h⟩
      | some l =>
        rw [Option.bind_some]
        obtain ⟨j1, j2⟩ := i2 l hv
        rw [j1]
        refine ⟨fun h => (by cases h), fun TT h => ?_⟩
        cases h
        refine ⟨rfl, ?_⟩
        rw [List.map_cons, List.map_cons, j2]
        congr 1
        exact h2 T hp
theorem vw_w : ∀ {B : List (List Nat)} {TT : List ptab}, vw B = some TT → TT.map (fun p => p.1) = B ∧ (∀ p ∈ TT, pT p.1 = some p.2) ∧ ∀ p ∈ TT, wT p.2
  | [], TT, h => by cases h; exact ⟨rfl, fun p hp => (by cases hp), fun p hp => by cases hp⟩
  | b :: B, TT, h => by
    unfold vw at h
    obtain ⟨T, h1, h⟩ := Option.bind_eq_some_iff.mp h
    obtain ⟨l, h2, h⟩ := Option.bind_eq_some_iff.mp h
    cases h
    obtain ⟨j1, j2, j3⟩ := vw_w h2
    refine ⟨by rw [List.map_cons, j1], fun p hp => ?_, fun p hp => ?_⟩
    · rcases List.mem_cons.mp hp with rfl | hp
      · exact h1
      · exact j2 p hp
    · rcases List.mem_cons.mp hp with rfl | hp
      · exact pT_w h1
      · exact j3 p hp
theorem vw_w0 {B : List (List Nat)} {TT : List ptab} (h : vw B = some TT) : ∀ p ∈ TT, wT0 p.2 := fun p hp => ((vw_w h).2.2 p hp).1
theorem vw_of : ∀ (TT : List ptab), (∀ p ∈ TT, pT p.1 = some p.2) → vw (TT.map (fun p => p.1)) = some TT
  | [], _ => rfl
  | p :: t, h => by
    rw [List.map_cons]
    unfold vw
    rw [h p List.mem_cons_self, Option.bind_some, vw_of t (fun q hq => h q (List.mem_cons_of_mem _ hq)), Option.bind_some]
section CL1
variable {d x wb : Nat} {B : List (List Nat)} {tx : Option (List achg)} {M : xM} {z w : Nat} {Q : Option Value → xM → Nat → Nat → Prop}
theorem c_isDam (hK : KAt M x z w wb B tx) : WP (d + 2) mTs_isDamaged 0 [some (.ref (x + 1)), none] [] M z w Q ↔ Q (some (.int (nI (if (vw B).isNone = true then 1 else 0)))) M z w := by
  obtain ⟨L, cs, k1, k2, k3, k6, k7, k8, k9, k10⟩ := hK
  rw [c_isDamaged k2]
  have h := vw_l _ k8
  rw [k7] at h
  unfold dmg
  cases hv : vw B with
  | none => rw [h.1 hv]; rfl
  | some TT => rw [(h.2 TT hv).1]; rfl
/-- what is known when no table is damaged -/
theorem KAt.opn (hK : KAt M x z w wb B tx) {TT : List ptab} (hv : vw B = some TT) : ∃ L, SkAt M (x + 1) B.length L z ∧ (L.take B.length).map (fun e => e.2) = TT.map rawP := by
  obtain ⟨L, cs, k1, k2, k3, k6, k7, k8, k9, k10⟩ := hK
  have h := vw_l _ k8
  rw [k7] at h
  exact ⟨L, k2, (h.2 TT hv).2⟩
theorem KAt.cell (hK : KAt M x z w wb B tx) : M x = some (0, [.ref (x + 1), .ref (x + 10), .ref (x + 14)]) := by
  obtain ⟨L, cs, k1, -⟩ := hK
  exact k1
theorem KAt.sk (hK : KAt M x z w wb B tx) : M (x + 1) = some (4, [.ref (x + 1 + 1), .ref (x + 1 + 2), .ref (x + 1 + 3), .ref (x + 1 + 6), .int (nI B.length)]) := by
  obtain ⟨L, cs, k1, k2, -⟩ := hK
  exact k2.1
theorem c_RS_begin (hK : KAt M x z w wb B tx) (K0 : tx.isSome = true → Q (some (.int (nI 0))) M z w) (K1 : tx = none → ∀ M', KAt M' x z w wb B (some []) → OnlyK M M' x → Q (some (.int (nI 1))) M' z w) : WP d mRS_begin 0 [some (.ref x)] [] M z w Q := by
  obtain ⟨L, cs, k1, k2, ⟨k3, k4, k5⟩, ⟨v, p, e, f, k6⟩, k7, k8, k9, k10⟩ := hK
  have t2 := k3.2.1
  simp only [sRS_begin_0, sRS_begin_1 k1 rfl, sRS_begin_4 t2 rfl, sRS_begin_7, sRS_begin_10, sRS_begin_11 xb0, sRS_begin_11 xb1, sRS_begin_12, sRS_begin_13 k1 rfl]
  cases tx with
  | some c =>
    rw [if_neg (show ¬ nI (if (some c).isSome = true then 1 else 0) = nI 0 from by show ¬ nI 1 = nI 0; decide)]
    exact K0 rfl
  | none =>
    rw [if_pos (show nI (if (none : Option (List achg)).isSome = true then 1 else 0) = nI 0 from rfl), sRS_begin_16, sRS_begin_17 t2 rfl xb1, sRS_begin_20, sRS_begin_21 ((xput_ne (by omega)).trans k1) rfl, sRS_begin_24, sRS_begin_25 xput_same rfl, sRS_begin_28, sRS_begin_29 xb1]
    generalize hM : xput (xput M (x + 10) _) (x + 10) _ = M'
    have o : ∀ q, q ≠ x + 10 → M' q = M q := fun q hq => by rw [← hM, xput_ne hq, xput_ne hq]
    obtain ⟨t1, -, kl, el, cl, t3, t4, t5, t6, t7, t8, t9⟩ := k3
    refine K1 rfl M' ⟨L, [], by rw [o _ (by omega)]; exact k1, k2.kept (Nat.le_refl _) (fun q a b => o q (by omega)) (fun q a b => o q (by omega)), ⟨⟨by simp, by rw [← hM, xput_same]; rfl, kl, el, cl, t3, t4, t5, by rw [o _ (by omega)]; exact t6, by rw [o _ (by omega)]; exact t7, by rw [o _ (by omega)]; exact t8, fun i c hc => by simp at hc⟩, fun c hc => (by cases hc), fun c hc => by cases hc; rfl⟩, ⟨v, p, e, f, by rw [o _ (by omega)]; exact k6⟩, k7, k8, k9, k10⟩ (fun q hq => o q (by omega))
def canA (tx : Option (List achg)) (k : Nat) : Prop := ∃ cs, tx = some cs ∧ k ≠ 0 ∧ cs.length < 6 ∧ ckeys cs k = false
def putA (tx : Option (List achg)) (k : Nat) (e : Int32) (c : Int) : Option (List achg) := tx.map (fun cs => cs ++ [(k, e, c)])
theorem c_addK {k : Nat} {e : Int32} {c : Int} (hK : KAt M x z w wb B tx) (hk : k < 2 ^ 60) (K0 : ¬ canA tx k → Q (some (.int (nI 0))) M z w) (K1 : canA tx k → ∀ M', KAt M' x z w wb B (putA tx k e c) → OnlyK M M' x → Q (some (.int (nI 1))) M' z w) :
    WP (d + 1) mTx_add 0 [some (.ref (x + 10)), some (.long (lN k)), none, some (.int e), some (.long (rawC c)), none] [] M z w Q := by
  obtain ⟨L, cs, k1, k2, ⟨k3, k4, k5⟩, ⟨v, p, e1, f, k6⟩, k7, k8, k9, k10⟩ := hK
  refine c_tx_add k3 hk k4 (fun hc => K0 ?_) (fun h1 h2 h3 h4 M' hX hO => ?_)
  · rintro ⟨cs', rfl, q1, q2, q3⟩
    have := k5 cs' rfl
    subst this
    rcases hc with q | q | q | q
    · cases q
    · exact q1 q
    · omega
    · rw [q3] at q; cases q
  · cases tx with
    | none => cases h1
    | some c0 =>
      have := k5 c0 rfl
      subst this
      refine K1 ⟨cs, rfl, h2, h3, h4⟩ M' ⟨L, cs ++ [(k, e, c)], by rw [hO _ (by omega)]; exact k1, k2.kept (Nat.le_refl _) (fun q a b => hO q (by omega)) (fun q a b => hO q (by omega)), ⟨hX, fun c' hc' => ?_, fun c' hc' => ?_⟩, ⟨v, p, e1, f, by rw [hO _ (by omega)]; exact k6⟩, k7, k8, k9, k10⟩ (fun q hq => hO q (by omega))
      · rcases List.mem_append.mp hc' with q | q
        · exact k4 c' q
        · rw [List.mem_singleton.mp q]; exact hk
      · unfold putA at hc'
        simp only [Option.map_some, Option.some.injEq] at hc'
        exact hc'
def updR (e v : Int32) : Prop := (-1 ≤ e ∧ e ≤ nI 65535) ∧ nI 0 ≤ v ∧ v ≤ nI 65535
theorem i_nlt {a b : Int32} : ¬ a < b ↔ b ≤ a := by rw [Int32.lt_iff_toInt_lt, Int32.le_iff_toInt_le]; omega
theorem gkey_lt (n : Nat) : gkey n < 2 ^ 60 := by
  unfold gkey
  by_cases h : GN n
  · rw [if_pos h]; exact rv_lt n
  · rw [if_neg h]; omega
theorem c_RS_update {n : Nat} {e v : Int32} (hn : n < 2 ^ 64) (hK : KAt M x z w wb B tx) (K0 : ¬ (updR e v ∧ canA tx (gkey n)) → Q (some (.int (nI 0))) M z w) (K1 : updR e v ∧ canA tx (gkey n) → ∀ M', KAt M' x z w wb B (putA tx (gkey n) e v.toInt) → OnlyK M M' x → Q (some (.int (nI 1))) M' z w) :
    WP (d + 3) mRS_update 0 [some (.ref x), some (.long (lN n)), none, some (.int e), some (.int v)] [] M z w Q := by
  have k1 := hK.cell
  simp only [sRS_update_0, sRS_update_1, sRS_update_2, sRS_update_5, sRS_update_6, sRS_update_8, sRS_update_11, sRS_update_12 xb0, sRS_update_12 xb1, sRS_update_13, sRS_update_15, sRS_update_18, sRS_update_20, sRS_update_22, sRS_update_25, sRS_update_26 xb0, sRS_update_26 xb1, sRS_update_27, sRS_update_28 k1 rfl, sRS_update_31]
  by_cases h1 : e < -1
  · rw [if_pos h1]; exact K0 (fun q => i_nlt.mpr q.1.1.1 h1)
  · rw [if_neg h1]
    by_cases h2 : e ≤ nI 65535
    · rw [if_pos h2]
      by_cases h3 : v < nI 0
      · rw [if_pos h3]; exact K0 (fun q => i_nlt.mpr q.1.2.1 h3)
      · rw [if_neg h3]
        by_cases h4 : v ≤ nI 65535
        · rw [if_pos h4, sRS_update_32, c_goodKey hn]
          have hu : updR e v := ⟨⟨i_nlt.mp h1, h2⟩, i_nlt.mp h3, h4⟩
          obtain ⟨j, hj, rfl⟩ := nI_of h3
          rw [nI_leI hj (by omega)] at h4
          have e1 : (nI j).toInt64 = rawC (nI j).toInt := by
            rw [nI_l hj, nI_toInt hj]
            unfold rawC
            rw [if_pos (by omega), Int.toNat_natCast]
          obtain ⟨L, cs, -, -, ⟨k3, -, -⟩, -⟩ := id hK
          simp only [sRS_update_35, sRS_update_36, sRS_update_38, xk_i, xk_l, xk_a, xk_n, xk_0, Option.toList_some, Option.toList_none, List.cons_append, List.nil_append]
          rw [e1, sRS_update_39 k3.2.1]
          refine c_addK hK (gkey_lt n) (fun hc => ?_) (fun hc M' hK' hO => ?_)
          · simp only [xk_i, xk_l, xk_a, xk_n, xk_0, Option.toList_some, Option.toList_none, List.cons_append, List.nil_append]
            rw [sRS_update_42 xb0]
            exact K0 (fun q => hc q.2)
          · simp only [xk_i, xk_l, xk_a, xk_n, xk_0, Option.toList_some, Option.toList_none, List.cons_append, List.nil_append]
            rw [sRS_update_42 xb1]
            exact K1 ⟨hu, hc⟩ M' hK' hO
        · rw [if_neg h4]; exact K0 (fun q => h4 q.1.2.2)
    · rw [if_neg h2]; exact K0 (fun q => h2 q.1.1.2)
theorem c_RS_link {n t : Nat} (hn : n < 2 ^ 64) (ht : t < 2 ^ 64) (hK : KAt M x z w wb B tx) (K0 : ¬ (gkey t ≠ 0 ∧ gkey t ≠ gkey n ∧ canA tx (gkey n)) → Q (some (.int (nI 0))) M z w) (K1 : gkey t ≠ 0 ∧ gkey t ≠ gkey n ∧ canA tx (gkey n) → ∀ M', KAt M' x z w wb B (putA tx (gkey n) (-1) (-(gkey t : Int))) → OnlyK M M' x → Q (some (.int (nI 1))) M' z w) :
    WP (d + 3) mRS_link 0 [some (.ref x), some (.long (lN n)), none, some (.long (lN t)), none, none, none, none, none] [] M z w Q := by
  have k1 := hK.cell
  have g1 := gkey_lt n
  have g2 := gkey_lt t
  simp only [sRS_link_0]
  rw [sRS_link_1, c_goodKey hn]
  simp only [sRS_link_4, sRS_link_6, xk_i, xk_l, xk_a, xk_n, xk_0, Option.toList_some, Option.toList_none, List.cons_append, List.nil_append]
  rw [sRS_link_7, c_goodKey ht]
  have q1 := lN_inj (a := gkey t) (b := 0) (by omega) (by omega)
  have q2 := lN_inj (a := gkey t) (b := gkey n) (by omega) (by omega)
  simp only [sRS_link_10, sRS_link_12, sRS_link_14, sRS_link_15, sRS_link_16, sRS_link_19, sRS_link_21, sRS_link_23, sRS_link_24, sRS_link_27, sRS_link_28 xb0, sRS_link_28 xb1, sRS_link_29, sRS_link_30 k1 rfl, sRS_link_33, sRS_link_35, sRS_link_36, sRS_link_38, xk_i, xk_l, xk_a, xk_n, xk_0, Option.toList_some, Option.toList_none, List.cons_append, List.nil_append, lcmp_eq, lcmp_lt, lcmp_ge, lcmp_gt, lcmp_le, q1, q2]
  by_cases h1 : gkey t = 0
  · rw [if_pos h1]; exact K0 (fun q => q.1 h1)
  · rw [if_neg h1]
    by_cases h2 : gkey t = gkey n
    · rw [if_pos h2]; exact K0 (fun q => q.2.1 h2)
    · rw [if_neg h2]
      obtain ⟨L, cs, -, -, ⟨k3, -, -⟩, -⟩ := id hK
      have e1 : -(lN (gkey t)) = rawC (-(gkey t : Int)) := by
        unfold rawC
        rw [if_neg (by omega), Int.neg_neg, Int.toNat_natCast]
      rw [e1, sRS_link_39 k3.2.1]
      refine c_addK hK g1 (fun hc => ?_) (fun hc M' hK' hO => ?_)
      · simp only [xk_i, xk_l, xk_a, xk_n, xk_0, Option.toList_some, Option.toList_none, List.cons_append, List.nil_append]
        rw [sRS_link_42 xb0]
        exact K0 (fun q => hc q.2.2)
      · simp only [xk_i, xk_l, xk_a, xk_n, xk_0, Option.toList_some, Option.toList_none, List.cons_append, List.nil_append]
        rw [sRS_link_42 xb1]
        exact K1 ⟨h1, h2, hc⟩ M' hK' hO
theorem KAt.close (hK : KAt M x z w wb B tx) : ∃ fs, M (x + 10) = some (5, fs) ∧ ∃ u, fs[4]? = some u ∧ KAt (xput M (x + 10) (5, fs.set 4 (.int (nI 0)))) x z w wb B none := by
  obtain ⟨L, cs, k1, k2, ⟨k3, k4, k5⟩, ⟨v, p, e, f, k6⟩, k7, k8, k9, k10⟩ := hK
  obtain ⟨t1, t2, kl, el, cl, t3, t4, t5, t6, t7, t8, t9⟩ := k3
  refine ⟨_, t2, _, rfl, L, cs, by rw [xput_ne (by omega)]; exact k1, k2.kept (Nat.le_refl _) (fun q a b => xput_ne (by omega)) (fun q a b => xput_ne (by omega)), ⟨⟨t1, by rw [xput_same]; rfl, kl, el, cl, t3, t4, t5, by rw [xput_ne (by omega)]; exact t6, by rw [xput_ne (by omega)]; exact t7, by rw [xput_ne (by omega)]; exact t8, t9⟩, k4, fun c hc => by cases hc⟩, ⟨v, p, e, f, by rw [xput_ne (by omega)]; exact k6⟩, k7, k8, k9, k10⟩
theorem c_RS_abort (hK : KAt M x z w wb B tx) (K0 : tx = none → Q (some (.int (-1))) M z w) (K1 : ∀ cs, tx = some cs → ∀ M', KAt M' x z w wb B none → OnlyK M M' x → Q (some (.int (nI cs.length))) M' z w) : WP d mRS_abort 0 [some (.ref x)] [] M z w Q := by
  have hK0 := hK
  obtain ⟨L, cs, k1, k2, ⟨k3, k4, k5⟩, -⟩ := hK0
  have t2 := k3.2.1
  simp only [sRS_abort_0, sRS_abort_1 k1 rfl, sRS_abort_4 t2 rfl, sRS_abort_7, sRS_abort_10, sRS_abort_11, sRS_abort_12, sRS_abort_13 k1 rfl]
  cases tx with
  | none => rw [if_pos (show nI (if (none : Option (List achg)).isSome = true then 1 else 0) = nI 0 from rfl)]; exact K0 rfl
  | some c =>
    have := k5 c rfl
    subst this
    obtain ⟨fs, h1, u, h2, h3⟩ := hK.close
    rw [t2] at h1
    cases h1
    have hO : OnlyK M (xput M (x + 10) (5, [.ref (x + 10 + 1), .ref (x + 10 + 2), .ref (x + 10 + 3), .int (nI cs.length), .int (nI (if (some cs).isSome = true then 1 else 0))].set 4 (.int (nI 0)))) x := fun q hq => xput_ne (by omega)
    rw [if_neg (show ¬ nI (if (some cs).isSome = true then 1 else 0) = nI 0 from by show ¬ nI 1 = nI 0; decide), sRS_abort_16, sRS_abort_17 t2 rfl xb0, sRS_abort_20, sRS_abort_21 ((xput_ne (by omega)).trans k1) rfl, sRS_abort_24 xput_same rfl, sRS_abort_27]
    exact K1 cs rfl _ h3 hO
end CL1
