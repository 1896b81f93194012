/-! RefStack$TableStack: mergeDown, draft -/
/-- the merging of the two highest as long as that is due: p is on top, the others below it from the top down -/
def mg2 (q p : ptab) (b : Bool) : ptab := (serT (mT b (nI 0) [q, p]), mT b (nI 0) [q, p])
def mdR : ptab → List ptab → List ptab
  | p, [] => [p]
  | p, q :: r => if q.1.length < 2 * p.1.length then mdR (mg2 q p r.isEmpty) r else p :: q :: r
def fitT (T : atab) : Prop := T.2.2.1.length ≤ 30 ∧ T.2.2.2.length ≤ 40 ∧ (serT T).length ≤ 1200
def mdOk : ptab → List ptab → Prop
  | _, [] => True
  | p, q :: r => q.1.length < 2 * p.1.length → fitT (mg2 q p r.isEmpty).2 ∧ mdOk (mg2 q p r.isEmpty) r
section DRF
variable {d s h : Nat} {L : List (Nat × tS)} {M : xM} {z w : Nat} {Q : Option Value → xM → Nat → Nat → Prop}
theorem raw_at {TT : List ptab} (hT : (L.take h).map (fun e => e.2) = TT.map rawP) {i : Nat} {p : ptab} (hp : TT[i]? = some p) : ∃ e : Nat × tS, L[i]? = some e ∧ e.2 = rawP p := by
  have := congrArg (fun l => l[i]?) hT
  simp only [List.getElem?_map, hp, Option.map_some, List.getElem?_take] at this
  split at this
  · cases hL : L[i]? with
    | none => rw [hL] at this; cases this
    | some e => rw [hL] at this; exact ⟨e, rfl, by simpa using this⟩
  · cases this
theorem c_mergeDown_loop {M0 : xM} {z0 w0 l0 : Nat} {R : List ptab}
    (K : ∀ M' L', SkAt M' s R.length L' (z0 + 10 * (L'.length - l0)) → (L'.take R.length).map (fun e => e.2) = R.reverse.map rawP → l0 ≤ L'.length → OnlyS M0 M' s → Q none M' (z0 + 10 * (L'.length - l0)) (w0 + 1427 * (L'.length - l0))) :
    ∀ (r : List ptab) (p : ptab) (i h : Nat) (M : xM) (L : List (Nat × tS)), i + r.length ≤ 7 → h = r.length + 1 → R = mdR p r → mdOk p r → SkAt M s h L (z0 + 10 * (L.length - l0)) → s + 31 ≤ z0 → (L.take h).map (fun e => e.2) = ((p :: r).reverse).map rawP → (∀ x ∈ p :: r, wT0 x.2 ∧ x.1.length ≤ 1200) → l0 ≤ L.length → OnlyS M0 M s →
    WP (d + 5) mTs_mergeDown 2 [some (.ref s), some (.int (nI i))] [] M (z0 + 10 * (L.length - l0)) (w0 + 1427 * (L.length - l0)) Q := by
  intro r
  induction r with
  | nil =>
    intro p i h M L hi hh hR hok hS hz hT hw hl hO
    subst hh
    have k1 := hS.1
    rw [sTs_mergeDown_2]
    simp only [sTs_mergeDown_3, sTs_mergeDown_5, sTs_mergeDown_8, sTs_mergeDown_9 k1 rfl, sTs_mergeDown_12, sTs_mergeDown_13, sTs_mergeDown_69]
    rw [if_neg (nI_ge (by omega) (by omega)), if_pos (nI_lt (by simp) (by omega))]
    subst hR
    exact K M L hS hT hl hO
  | cons q r ih =>
    intro p i h M L hi hh hR hok hS hz hT hw hl hO
    have hh2 : h = r.length + 2 := by simp at hh; omega
    subst hh2
    simp only [List.length_cons] at hi
    have k1 := hS.1
    have hTl : ((p :: q :: r).reverse).length = r.length + 2 := by simp
    have ep : ((p :: q :: r).reverse)[r.length + 1]? = some p := by
      rw [List.getElem?_reverse (by simp)]; simp
    have eq : ((p :: q :: r).reverse)[r.length]? = some q := by
      rw [List.getElem?_reverse (by simp; omega)]
      simp
    obtain ⟨e1, he1, hr1⟩ := raw_at hT ep
    obtain ⟨e2, he2, hr2⟩ := raw_at hT eq
    have c1 := (hS.tab he1).cell
    have c2 := (hS.tab he2).cell
    rw [hr1] at c1
    rw [hr2] at c2
    have w1 := (hw p (by simp)).2
    have w2 := (hw q (by simp)).2
    rw [sTs_mergeDown_2]
    simp only [sTs_mergeDown_3, sTs_mergeDown_5, sTs_mergeDown_8, sTs_mergeDown_9 k1 rfl, sTs_mergeDown_12, sTs_mergeDown_13, sTs_mergeDown_16, sTs_mergeDown_17, sTs_mergeDown_18 k1 rfl, sTs_mergeDown_21, sTs_mergeDown_22, pk_sub (show 2 ≤ r.length + 2 by omega), Nat.add_sub_cancel]
    rw [if_neg (nI_ge (by omega) (by omega)), if_neg (nI_nlt (by omega) (by omega)), sTs_mergeDown_23 k1, c_tableIn hS he2]
    simp only [sTs_mergeDown_26 c2 rfl, sTs_mergeDown_29, sTs_mergeDown_30, sTs_mergeDown_31, sTs_mergeDown_32 k1 rfl, sTs_mergeDown_35, sTs_mergeDown_36, xk_i, xk_l, xk_a, xk_n, xk_0, Option.toList_some, Option.toList_none, List.cons_append, List.nil_append, pk_sub (show 1 ≤ r.length + 2 by omega), show r.length + 2 - 1 = r.length + 1 by omega]
    rw [sTs_mergeDown_37 k1, c_tableIn hS he1]
    simp only [sTs_mergeDown_40 c1 rfl, sTs_mergeDown_43, sTs_mergeDown_44, sTs_mergeDown_47, xk_i, xk_l, xk_a, xk_n, xk_0, Option.toList_some, Option.toList_none, List.cons_append, List.nil_append, pk_mul]
    have q1 : (rawP q).1 = q.1 := rfl
    have q2 : (rawP p).1 = p.1 := rfl
    rw [q1, q2]
    by_cases hlt : q.1.length < 2 * p.1.length
    · rw [if_pos (nI_lt hlt (by omega))]
      obtain ⟨hfit, hok2⟩ := hok hlt
      have hRn : R = mdR (mg2 q p r.isEmpty) r := by rw [hR]; conv => lhs; unfold mdR; rw [if_pos hlt]
      simp only [sTs_mergeDown_48, sTs_mergeDown_49, sTs_mergeDown_50 k1 rfl, sTs_mergeDown_53, sTs_mergeDown_54, sTs_mergeDown_55, pk_sub (show 2 ≤ r.length + 2 by omega), Nat.add_sub_cancel]
      rw [sTs_mergeDown_56 k1]
      have hdr : ((p :: q :: r).reverse).drop r.length = [q, p] := by
        simp only [List.reverse_cons, List.append_assoc, List.singleton_append]
        rw [List.drop_left' (by simp)]
      have htk : ((p :: q :: r).reverse).take r.length = r.reverse := by
        simp only [List.reverse_cons, List.append_assoc, List.singleton_append]
        rw [List.take_left' (by simp)]
      have hb : decide (r.length = 0) = r.isEmpty := by cases r <;> simp
      refine c_mergeFrom (d := d) (TT := (p :: q :: r).reverse) hS (by omega) (by omega) (by omega) hT (fun x hx => (hw x (List.mem_reverse.mp hx)).1) ?_ ?_
      · rw [hdr, htk, hb]
        intro _ _ h12 M' L' hS' hT' hl' hO'
        have e10 : z0 + 10 * (L.length - l0) + 10 * (L'.length - L.length) = z0 + 10 * (L'.length - l0) := by omega
        have e14 : w0 + 1427 * (L.length - l0) + 1427 * (L'.length - L.length) = w0 + 1427 * (L'.length - l0) := by omega
        rw [e10] at hS' ⊢
        rw [e14]
        simp only [sTs_mergeDown_59, sTs_mergeDown_62, sTs_mergeDown_63, sTs_mergeDown_66, xk_i, xk_l, xk_a, xk_n, xk_0, Option.toList_some, Option.toList_none, List.cons_append, List.nil_append, nI_add]
        rw [if_neg (by decide)]
        refine ih (mg2 q p r.isEmpty) (i + 1) (r.length + 1) M' L' (by omega) rfl hRn hok2 hS' hz ?_ ?_ (by omega) (hO.trans hO')
        · rw [hT', List.reverse_cons]; rfl
        · intro x hx
          rcases List.mem_cons.mp hx with rfl | hx
          · exact ⟨mT_wT0 (by simp) (fun y hy => by
              simp only [List.mem_cons, List.not_mem_nil, or_false] at hy
              rcases hy with rfl | rfl
              · exact (hw _ (by simp)).1
              · exact (hw _ (by simp)).1), h12⟩
          · exact hw x (List.mem_cons_of_mem _ (List.mem_cons_of_mem _ hx))
      · rw [hdr, hb]
        intro hn
        exact absurd hfit hn
    · rw [if_neg (nI_nlt (by omega) (by omega))]
      have hRn : R = p :: q :: r := by rw [hR]; conv => lhs; unfold mdR; rw [if_neg hlt]
      subst hRn
      exact K M L hS hT hl hO
theorem c_mergeDown {p : ptab} {r : List ptab} (hS : SkAt M s h L z) (hz : s + 31 ≤ z) (hh : h = r.length + 1) (h8 : r.length ≤ 7) (hok : mdOk p r) (hT : (L.take h).map (fun e => e.2) = ((p :: r).reverse).map rawP) (hw : ∀ x ∈ p :: r, wT0 x.2 ∧ x.1.length ≤ 1200)
    (K : ∀ M' L', SkAt M' s (mdR p r).length L' (z + 10 * (L'.length - L.length)) → (L'.take (mdR p r).length).map (fun e => e.2) = (mdR p r).reverse.map rawP → L.length ≤ L'.length → OnlyS M M' s → Q none M' (z + 10 * (L'.length - L.length)) (w + 1427 * (L'.length - L.length))) :
    WP (d + 5) mTs_mergeDown 0 [some (.ref s), none] [] M z w Q := by
  simp only [sTs_mergeDown_0, sTs_mergeDown_1, xk_i, xk_l, xk_a, xk_n, xk_0, Option.toList_some, Option.toList_none, List.cons_append, List.nil_append]
  have := c_mergeDown_loop (d := d) (M0 := M) (z0 := z) (w0 := w) (l0 := L.length) (R := mdR p r) K r p 0 h M L (by omega) hh rfl hok
  rw [Nat.sub_self, Nat.mul_zero, Nat.add_zero] at this
  exact this hS hz hT hw (Nat.le_refl _) OnlyS.rf
/-- the content of a key -/
def lkA (l : List arec) (k : Nat) : Int := ((l.find? (fun r => r.1 == k)).map (fun r => r.2.2)).getD 0
theorem lk_raw {l : List arec} {k : Nat} (hk : k < 2 ^ 60) (h : ∀ r ∈ l, r.1 < 2 ^ 60) : lkX (l.map rawR) (lN k) = rawC (lkA l k) := by
  unfold lkX lkA
  rw [List.find?_map]
  have : l.find? ((fun r : xrow => r.1 == lN k) ∘ rawR) = l.find? (fun r => r.1 == k) := by
    induction l with
    | nil => rfl
    | cons a t ih =>
      have e : ((fun r : xrow => r.1 == lN k) ∘ rawR) a = (a.1 == k) := by
        show (lN a.1 == lN k) = _
        rw [Bool.eq_iff_iff]
        simp only [beq_iff_eq]
        exact lN_inj (by have := h a List.mem_cons_self; omega) (by omega)
      rw [List.find?_cons, List.find?_cons, e, ih (fun r hr => h r (List.mem_cons_of_mem _ hr))]
  rw [this]
  cases l.find? (fun r => r.1 == k) <;> rfl
def crec (now : Nat) (c : achg) : arec := (c.1, now, c.2.2)
/-- the records and the entries of a draft -/
def dRc (now : Nat) (cs : List achg) : List arec := mG kR (cs.map (crec now))
def dEn (now : Nat) (l : List arec) (R : List arec) : List aent := (R.filter (fun r => decide (0 ≤ r.2.2))).map (fun r => (r.1, now, (lkA l r.1).toNat, r.2.2.toNat))
theorem fab_abv {now v : Nat} {cs : List achg} {b : Option Nat} (h : fabI cs v cs.length b) : (b = none ∧ abv kR (cs.map (crec now)) v = []) ∨ ∃ (j : Nat) (c : achg), b = some j ∧ j < cs.length ∧ cs[j]? = some c ∧ abv kR (cs.map (crec now)) v = crec now c :: abv kR (cs.map (crec now)) c.1 := by
  cases b with
  | none =>
    refine Or.inl ⟨rfl, abv_nil (fun y hy => ?_)⟩
    obtain ⟨c, hc, rfl⟩ := List.mem_map.mp hy
    obtain ⟨q, hq⟩ := List.mem_iff_getElem?.mp hc
    exact h q c (List.getElem?_eq_some_iff.mp hq).1 hq
  | some j =>
    obtain ⟨h1, c, h2, h3, h4⟩ := h
    refine Or.inr ⟨j, c, rfl, h1, h2, ?_⟩
    refine abv_cons (x := crec now c) ?_ h3 (fun y hy hv => ?_)
    · rw [List.find?_map]
      have : cs.find? ((fun y => kR y == kR (crec now c)) ∘ crec now) = some c := by
        rw [List.find?_eq_some_iff_getElem]
        refine ⟨by show (c.1 == c.1) = true; simp, j, h1, (List.getElem?_eq_some_iff.mp h2).2, fun q hq => ?_⟩
        have hq2 : cs[q]? = some cs[q] := List.getElem?_eq_getElem (by omega)
        show (!(cs[q].1 == c.1)) = true
        by_cases hv : v < cs[q].1
        · have := (h4 q _ (by omega) hq2 hv).2 hq
          simp only [Bool.not_eq_true', beq_eq_false_iff_ne]
          exact fun z => this z.symm
        · simp only [Bool.not_eq_true', beq_eq_false_iff_ne]
          omega
      rw [this]
      rfl
    · obtain ⟨c', hc, rfl⟩ := List.mem_map.mp hy
      obtain ⟨q, hq⟩ := List.mem_iff_getElem?.mp hc
      exact (h4 q c' (List.getElem?_eq_some_iff.mp hq).1 hq hv).1
theorem rawC_lt0 {c : Int} (h : okC c) : rawC c < lN 0 ↔ c < 0 := by
  unfold okC at h
  unfold rawC
  split
  · rw [pk_lLT (by omega) (by omega)]; omega
  · have e : (-(lN (-c).toNat)).toInt = c := by
      have h1 : (lN (-c).toNat).toInt = ((-c).toNat : Int) := by
        show (Int64.ofNat _).toInt = _
        rw [Int64.toInt_ofNat_of_lt (by omega)]
      rw [Int64.toInt_neg, h1]
      rw [Int.bmod_eq_of_le_mul_two (by omega) (by omega)]
      omega
    rw [Int64.lt_iff_toInt_lt, e]
    show c < 0 ↔ c < 0
    exact Iff.rfl
theorem rawC_max {c : Int} (h : okC c) : (if lN 0 < rawC c then rawC c else lN 0) = lN c.toNat := by
  have hn := rawC_lt0 h
  by_cases h0 : 0 ≤ c
  · have e : rawC c = lN c.toNat := by unfold rawC; rw [if_pos h0]
    rw [e]
    unfold okC at h
    by_cases h1 : c = 0
    · subst h1; rfl
    · rw [if_pos ((pk_lLT (by omega) (by omega)).mpr (by omega))]
  · rw [if_neg]
    · rw [show c.toNat = 0 by omega]
    · have := hn.mpr (by omega)
      intro q
      have a1 := Int64.lt_iff_toInt_lt.mp this
      have a2 := Int64.lt_iff_toInt_lt.mp q
      omega
end DRF
