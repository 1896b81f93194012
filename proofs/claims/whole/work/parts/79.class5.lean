/-! RefStack: compact, expire, commit -/
section CL5
variable {d x wb : Nat} {B : List (List Nat)} {tx : Option (List achg)} {M : xM} {z w : Nat} {Q : Option Value → xM → Nat → Nat → Prop}
theorem c_mergeFrom0 {s lo : Nat} {tm l1 : Int32} {L : List (Nat × tS)} (hS : SkAt M s 0 L z) : WP d mTs_mergeFrom 0 [some (.ref s), some (.int l1), some (.int tm), none] [] M z w Q ↔ Q (some (.int (nI 1))) M z w := by
  have k1 := hS.1
  simp only [sTs_mergeFrom_0, sTs_mergeFrom_1 k1 rfl, sTs_mergeFrom_4, sTs_mergeFrom_7, sTs_mergeFrom_8 xb0, sTs_mergeFrom_8 xb1]
  rw [if_pos trivial]
theorem vw_len {B : List (List Nat)} {TT : List ptab} (h : vw B = some TT) : TT.length = B.length := by
  have := congrArg List.length (vw_w h).1
  simpa using this
/-- all merged into one, if that can be held -/
def cmT (tm : Int32) (TT : List ptab) : atab := mT true tm TT
theorem c_mergeAll {tm : Int32} {TT : List ptab} {L : List (Nat × tS)} {cs : List achg} (hB : KB M x z w wb B tx L cs) (hv : vw B = some TT) (h7 : B.length ≤ 8)
    (Ke : B = [] → Q (some (.int (nI 1))) M z w)
    (K1 : B ≠ [] → fitT (cmT tm TT) → ∀ M' z' w', KAt M' x z' w' wb [serT (cmT tm TT)] tx → OnlyK M M' x → (∃ L', SkAt M' (x + 1) 1 L' z' ∧ (L'.take 1).map (fun e => e.2) = [(serT (cmT tm TT), cmT tm TT)].map rawP) → Q (some (.int (nI 1))) M' z' w')
    (K0 : B ≠ [] → ¬ fitT (cmT tm TT) → ∀ M' z' w', KAt M' x z' w' wb B tx → OnlyK M M' x → Q (some (.int (nI 0))) M' z' w') : WP (d + 4) mTs_mergeFrom 0 [some (.ref (x + 1)), some (.int (nI 0)), some (.int tm), none] [] M z w Q := by
  have hS := hB.2.1
  have hz := hB.2.2.2.2.2.2.1
  have hT := hB.raw hv
  by_cases hb : B = []
  · have hl : B.length = 0 := by rw [hb]; rfl
    rw [hl] at hS
    rw [c_mergeFrom0 (lo := 0) hS]
    exact Ke hb
  · have hl : 0 < B.length := List.length_pos_iff.mpr hb
    have hOK : ∀ {M' : xM}, OnlyS M M' (x + 1) → OnlyK M M' x := fun hO q hq => hO q (by omega)
    have hd : TT.drop 0 = TT := List.drop_zero
    have htk : TT.take 0 = [] := List.take_zero
    have hne : TT ≠ [] := by intro q; have := vw_len hv; rw [q] at this; simp at this; omega
    refine c_mergeFrom (d := d) (lo := 0) (tm := tm) (TT := TT) hS (by omega) (by omega) hl hT (vw_w0 hv) ?_ ?_
    · rw [hd, htk]
      intro a1 a2 a3 M' L' hS' hT' hl' hO'
      have hwT : wT (cmT tm TT) := ⟨mT_wT0 hne (vw_w0 hv), a1, a2⟩
      exact K1 hb ⟨a1, a2, a3⟩ M' _ _ (hB.remade (TT := [(serT (cmT tm TT), cmT tm TT)]) hS' rfl hT' (fun p hp => by rw [List.mem_singleton.mp hp]; exact pT_ser hwT) hl' hO') (hOK hO') ⟨L', hS', hT'⟩
    · rw [hd]
      intro hn M' L' hS' htk' hl' hO'
      refine K0 hb hn M' _ _ (hB.stack hS' ?_ ?_ rfl rfl hl' hO') (hOK hO')
      · rw [htk']; exact hB.2.2.2.2.1
      · rw [htk']; exact hB.2.2.2.2.2.1
theorem c_RS_compact (hK : KAt M x z w wb B tx) (h7 : B.length ≤ 8)
    (Kd : vw B = none → Q (some (.int (-2))) M z w)
    (Ke : B = [] → Q (some (.int (nI 0))) M z w)
    (K1 : ∀ TT, vw B = some TT → B ≠ [] → fitT (cmT (nI 0) TT) → ∀ M' z' w', KAt M' x z' w' wb [serT (cmT (nI 0) TT)] tx → OnlyK M M' x → Q (some (.int (nI B.length))) M' z' w')
    (K0 : ∀ TT, vw B = some TT → B ≠ [] → ¬ fitT (cmT (nI 0) TT) → ∀ M' z' w', KAt M' x z' w' wb B tx → OnlyK M M' x → Q (some (.int (-3))) M' z' w') : WP (d + 5) mRS_compact 0 [some (.ref x), none] [] M z w Q := by
  have k1 := hK.cell
  have k2 := hK.sk
  simp only [sRS_compact_0, sRS_compact_1 k1 rfl]
  rw [sRS_compact_4 k2, c_isDam hK]
  cases hv : vw B with
  | none =>
    simp only [sRS_compact_7, sRS_compact_10, sRS_compact_12, xk_i, xk_l, xk_a, xk_n, xk_0, Option.toList_some, Option.toList_none, List.cons_append, List.nil_append]
    rw [if_neg (show ¬ nI (if (none : Option (List ptab)).isNone = true then 1 else 0) = nI 0 by decide)]
    exact Kd hv
  | some TT =>
    obtain ⟨L, cs, hB⟩ := hK.b
    simp only [sRS_compact_7, sRS_compact_10, sRS_compact_12, sRS_compact_13, sRS_compact_14 k1 rfl, sRS_compact_17 k2 rfl, sRS_compact_20, sRS_compact_21, sRS_compact_22 k1 rfl, sRS_compact_25, sRS_compact_26, xk_i, xk_l, xk_a, xk_n, xk_0, Option.toList_some, Option.toList_none, List.cons_append, List.nil_append]
    rw [if_pos (show nI (if (some TT).isNone = true then 1 else 0) = nI 0 from rfl), sRS_compact_27 k2]
    refine c_mergeAll (d := d) hB hv h7 (fun hb => ?_) (fun hb hf M' z' w' hK' hO' _ => ?_) (fun hb hf M' z' w' hK' hO' => ?_)
    · simp only [sRS_compact_30, sRS_compact_33, sRS_compact_34, sRS_compact_39, xk_i, xk_l, xk_a, xk_n, xk_0, Option.toList_some, Option.toList_none, List.cons_append, List.nil_append]
      rw [if_neg (by decide)]
      have := Ke hb
      rw [hb]
      exact this
    · simp only [sRS_compact_30, sRS_compact_33, sRS_compact_34, sRS_compact_39, xk_i, xk_l, xk_a, xk_n, xk_0, Option.toList_some, Option.toList_none, List.cons_append, List.nil_append]
      rw [if_neg (by decide)]
      exact K1 TT hv hb hf M' z' w' hK' hO'
    · simp only [sRS_compact_30, sRS_compact_37, sRS_compact_39, xk_i, xk_l, xk_a, xk_n, xk_0, Option.toList_some, Option.toList_none, List.cons_append, List.nil_append]
      rw [if_pos (by decide)]
      exact K0 TT hv hb hf M' z' w' hK' hO'
theorem nE_len (TT : List ptab) : nE TT = (cE TT).length := by
  have h : ∀ (l : List ptab) (m : Nat), l.foldl (fun m p => m + p.2.2.2.2.length) m = m + (cE l).length := by
    intro l
    induction l with
    | nil => intro m; rfl
    | cons a t ih =>
      intro m
      rw [List.foldl_cons, ih]
      unfold cE
      rw [List.reverse_cons, List.flatMap_append, List.length_append]
      simp
      omega
  have := h TT 0
  rw [Nat.zero_add] at this
  exact this
theorem c_RS_expire {tm : Int32} (hK : KAt M x z w wb B tx) (h7 : B.length ≤ 8)
    (Kd : vw B = none → Q (some (.int (-2))) M z w)
    (Ke : B = [] → Q (some (.int (nI 0))) M z w)
    (K1 : ∀ TT, vw B = some TT → B ≠ [] → fitT (cmT tm TT) → ∀ M' z' w', KAt M' x z' w' wb [serT (cmT tm TT)] tx → OnlyK M M' x → Q (some (.int (nI ((cE TT).length - (cmT tm TT).2.2.2.length)))) M' z' w')
    (K0 : ∀ TT, vw B = some TT → B ≠ [] → ¬ fitT (cmT tm TT) → ∀ M' z' w', KAt M' x z' w' wb B tx → OnlyK M M' x → Q (some (.int (-3))) M' z' w') : WP (d + 5) mRS_expire 0 [some (.ref x), some (.int tm), none] [] M z w Q := by
  have k1 := hK.cell
  have k2 := hK.sk
  simp only [sRS_expire_0, sRS_expire_1 k1 rfl]
  rw [sRS_expire_4 k2, c_isDam hK]
  cases hv : vw B with
  | none =>
    simp only [sRS_expire_7, sRS_expire_10, sRS_expire_12, xk_i, xk_l, xk_a, xk_n, xk_0, Option.toList_some, Option.toList_none, List.cons_append, List.nil_append]
    rw [if_neg (show ¬ nI (if (none : Option (List ptab)).isNone = true then 1 else 0) = nI 0 by decide)]
    exact Kd hv
  | some TT =>
    obtain ⟨L, cs, hB⟩ := hK.b
    have hS := hB.2.1
    have hT := hB.raw hv
    simp only [sRS_expire_7, sRS_expire_10, sRS_expire_12, sRS_expire_13, sRS_expire_14 k1 rfl, sRS_expire_17, sRS_expire_18 k1 rfl, sRS_expire_21 k2 rfl, xk_i, xk_l, xk_a, xk_n, xk_0, Option.toList_some, Option.toList_none, List.cons_append, List.nil_append]
    rw [if_pos (show nI (if (some TT).isNone = true then 1 else 0) = nI 0 from rfl), sRS_expire_24 k2, c_entriesBelow hS hS.2.2.2.2.2.2.1, en_raw hT]
    rw [show TT.foldl (fun m p => m + p.2.2.2.2.length) 0 = nE TT from rfl, nE_len]
    simp only [sRS_expire_27, sRS_expire_28, sRS_expire_29 k1 rfl, sRS_expire_32, sRS_expire_33, xk_i, xk_l, xk_a, xk_n, xk_0, Option.toList_some, Option.toList_none, List.cons_append, List.nil_append]
    rw [sRS_expire_34 k2]
    refine c_mergeAll (d := d) hB hv h7 (fun hb => ?_) (fun hb hf M' z' w' hK' hO' hL => ?_) (fun hb hf M' z' w' hK' hO' => ?_)
    · simp only [sRS_expire_37, sRS_expire_40, sRS_expire_41, sRS_expire_42 k1 rfl, sRS_expire_45, sRS_expire_46 k1 rfl, sRS_expire_49 k2 rfl, xk_i, xk_l, xk_a, xk_n, xk_0, Option.toList_some, Option.toList_none, List.cons_append, List.nil_append]
      have hTT : TT = [] := by have := vw_len hv; rw [hb] at this; exact List.eq_nil_of_length_eq_zero this
      rw [if_neg (by decide), sRS_expire_52 k2, c_entriesBelow hS hS.2.2.2.2.2.2.1, en_raw hT]
      simp only [sRS_expire_55, sRS_expire_56, sRS_expire_61, xk_i, xk_l, xk_a, xk_n, xk_0, Option.toList_some, Option.toList_none, List.cons_append, List.nil_append]
      rw [hTT]
      exact Ke hb
    · have j1 := hK'.cell
      have j2 := hK'.sk
      obtain ⟨L', hS', hT'⟩ := hL
      simp only [sRS_expire_37, sRS_expire_40, sRS_expire_41, sRS_expire_42 j1 rfl, sRS_expire_45, sRS_expire_46 j1 rfl, sRS_expire_49 j2 rfl, xk_i, xk_l, xk_a, xk_n, xk_0, Option.toList_some, Option.toList_none, List.cons_append, List.nil_append]
      have hl1 : [serT (cmT tm TT)].length = 1 := rfl
      rw [if_neg (by decide), sRS_expire_52 j2, hl1, c_entriesBelow hS' hS'.2.2.2.2.2.2.1, en_raw hT']
      simp only [sRS_expire_55, sRS_expire_56, sRS_expire_61, xk_i, xk_l, xk_a, xk_n, xk_0, Option.toList_some, Option.toList_none, List.cons_append, List.nil_append]
      have hle : (cmT tm TT).2.2.2.length ≤ (cE TT).length := Nat.le_trans (List.length_filter_le _ _) mG_len
      rw [show [(serT (cmT tm TT), cmT tm TT)].foldl (fun m p => m + p.2.2.2.2.length) 0 = (cmT tm TT).2.2.2.length from Nat.zero_add _, pk_sub hle]
      exact K1 TT hv hb hf M' z' w' hK' hO'
    · simp only [sRS_expire_37, sRS_expire_59, sRS_expire_61, xk_i, xk_l, xk_a, xk_n, xk_0, Option.toList_some, Option.toList_none, List.cons_append, List.nil_append]
      rw [if_pos (by decide)]
      exact K0 TT hv hb hf M' z' w' hK' hO'
/-- the first change of which p holds -/
def fst1 (p : achg → Bool) : List achg → Option Nat
  | [] => none
  | c :: t => if p c = true then some 0 else (fst1 p t).map (· + 1)
def unx (l : List arec) (c : achg) : Bool := !decide (c.2.1 = -1) && !decide (c.2.1.toInt = lkA l c.1)
theorem fst1_lt {p : achg → Bool} : ∀ {cs : List achg} {j : Nat}, fst1 p cs = some j → j < cs.length
  | [], j, h => by cases h
  | c :: t, j, h => by
    unfold fst1 at h
    split at h
    · cases h; simp
    · cases hq : fst1 p t with
      | none => rw [hq] at h; cases h
      | some i => rw [hq] at h; cases h; have := fst1_lt hq; simp; omega
theorem drop_at {α : Type} {l : List α} {i : Nat} {c : α} (h : l[i]? = some c) : l.drop i = c :: l.drop (i + 1) := by
  obtain ⟨h1, h2⟩ := List.getElem?_eq_some_iff.mp h
  rw [List.drop_eq_getElem_cons h1, h2]
def oiA (i : Nat) (o : Option Nat) : Int32 := match o with
  | none => -1
  | some j => nI (i + j)
theorem i64_eq {e : Int32} {c : Int} (h : okC c) : e.toInt64 = rawC c ↔ e.toInt = c := by
  have h1 : (rawC c).toInt = c := by
    unfold okC at h
    unfold rawC
    split
    · show (Int64.ofNat _).toInt = _
      rw [Int64.toInt_ofNat_of_lt (by omega)]; omega
    · have h1 : (lN (-c).toNat).toInt = ((-c).toNat : Int) := by
        show (Int64.ofNat _).toInt = _
        rw [Int64.toInt_ofNat_of_lt (by omega)]
      rw [Int64.toInt_neg, h1, Int.bmod_eq_of_le_mul_two (by omega) (by omega)]
      omega
  rw [← Int64.toInt_inj, Int32.toInt_toInt64, h1]
theorem unexp_loop {s h : Nat} {L : List (Nat × tS)} {TT : List ptab} {cs : List achg} {op : Bool} {rd : Nat} (k1 : M x = some (0, [.ref s, .ref (x + 10), .ref rd])) (hS : SkAt M s h L z) (hX : TxAt M (x + 10) op cs) (hT : (L.take h).map (fun e => e.2) = TT.map rawP) (hw : ∀ p ∈ TT, wT0 p.2) (hcs : ∀ c ∈ cs, c.1 < 2 ^ 60) : ∀ (r i : Nat) (x2 : Option Value), i + r = cs.length → (x2 = none ∨ ∃ v, x2 = some (.int v)) →
    (WP (d + 3) mRS_firstUnexpected 2 [some (.ref x), some (.int (nI i)), x2] [] M z w Q ↔ Q (some (.int (oiA i (fst1 (unx (cR TT)) (cs.drop i))))) M z w) := by
  obtain ⟨t1, t2, kl, el, cl, t3, t4, t5, t6, t7, t8, t9⟩ := hX
  intro r
  induction r with
  | zero =>
    intro i x2 hi hx2
    rw [sRS_firstUnexpected_2]
    simp only [sRS_firstUnexpected_3, sRS_firstUnexpected_4 k1 rfl, sRS_firstUnexpected_7 t2 rfl, sRS_firstUnexpected_10, sRS_firstUnexpected_58, sRS_firstUnexpected_59]
    rw [if_pos (nI_le (by omega) (by omega)), List.drop_eq_nil_of_le (by omega)]
    rfl
  | succ r ih =>
    intro i x2 hi hx2
    have hc : cs[i]? = some cs[i] := List.getElem?_eq_getElem (by omega)
    have hm : cs[i] ∈ cs := List.getElem_mem _
    generalize cs[i] = c at hc hm
    obtain ⟨q1, q2, q3⟩ := t9 i c hc
    have ti := nI_toInt (n := i) (by omega)
    rw [drop_at hc, sRS_firstUnexpected_2]
    simp only [sRS_firstUnexpected_3, sRS_firstUnexpected_4 k1 rfl, sRS_firstUnexpected_7 t2 rfl, sRS_firstUnexpected_10, sRS_firstUnexpected_13, sRS_firstUnexpected_14 k1 rfl, sRS_firstUnexpected_17 t2 rfl, sRS_firstUnexpected_20]
    rw [if_neg (nI_ge (by omega) (by omega)), sRS_firstUnexpected_21 t7 ti (v := .int c.2.1) (by simp [q2])]
    simp only [sRS_firstUnexpected_22, sRS_firstUnexpected_23, sRS_firstUnexpected_24, sRS_firstUnexpected_25, sRS_firstUnexpected_28, sRS_firstUnexpected_29, sRS_firstUnexpected_30, sRS_firstUnexpected_31 k1 rfl, sRS_firstUnexpected_34, sRS_firstUnexpected_35 k1 rfl, sRS_firstUnexpected_38 t2 rfl, sRS_firstUnexpected_41, sRS_firstUnexpected_52, sRS_firstUnexpected_55, xk_i, xk_l, xk_a, xk_n, xk_0, Option.toList_some, Option.toList_none, List.cons_append, List.nil_append, nI_add]
    rw [ih (i + 1) _ (by omega) (Or.inr ⟨_, rfl⟩)]
    have hok := (lkA_w hw c.1).ok
    have hnx : unx (cR TT) c = false → oiA (i + 1) (fst1 (unx (cR TT)) (cs.drop (i + 1))) = oiA i (fst1 (unx (cR TT)) (c :: cs.drop (i + 1))) := by
      intro hu
      conv => rhs; unfold fst1
      rw [if_neg (by rw [hu]; decide)]
      cases fst1 (unx (cR TT)) (cs.drop (i + 1)) with
      | none => rfl
      | some j => show nI (i + 1 + j) = nI (i + (j + 1)); congr 1; omega
    by_cases he : c.2.1 = -1
    · rw [if_pos he, hnx (by unfold unx; simp [he])]
    · rw [if_neg he, sRS_firstUnexpected_42 t6 ti (v := .long (lN c.1)) (by simp [q1]), sRS_firstUnexpected_43 hS.1, c_cont hS hT hw (hcs c hm)]
      simp only [sRS_firstUnexpected_46, sRS_firstUnexpected_47, sRS_firstUnexpected_50, sRS_firstUnexpected_51, xk_i, xk_l, xk_a, xk_n, xk_0, Option.toList_some, Option.toList_none, List.cons_append, List.nil_append, lcmp_eq, lcmp_lt, lcmp_ge, lcmp_gt, lcmp_le, i64_eq hok]
      by_cases hq : c.2.1.toInt = lkA (cR TT) c.1
      · rw [if_pos hq]
        simp only [sRS_firstUnexpected_52, sRS_firstUnexpected_55, xk_i, xk_l, xk_a, xk_n, xk_0, Option.toList_some, Option.toList_none, List.cons_append, List.nil_append, nI_add]
        rw [ih (i + 1) _ (by omega) (Or.inr ⟨_, rfl⟩), hnx (by unfold unx; simp [hq])]
      · rw [if_neg hq]
        have hu : unx (cR TT) c = true := by unfold unx; simp [he, hq]
        unfold fst1
        rw [if_pos hu]
        rfl
end CL5
