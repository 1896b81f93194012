/-! what holds between two calls -/
def hvL : List Nat → Prop
  | [] => True
  | [a] => 7 ≤ a ∧ a ≤ 1200
  | a :: b :: r => 11 ≤ a ∧ 2 * a ≤ b ∧ hvL (b :: r)
theorem hvL_pow : ∀ (r : List Nat) (a : Nat), hvL (a :: r) → a * 2 ^ r.length ≤ 1200
  | [], a, h => by
    have := h.2
    simp only [List.length_nil, Nat.pow_zero, Nat.mul_one]
    exact this
  | b :: r, a, h => by
    have h1 := hvL_pow r b h.2.2
    have h2 := h.2.1
    rw [List.length_cons, Nat.pow_succ, Nat.mul_comm (2 ^ r.length) 2, ← Nat.mul_assoc]
    exact Nat.le_trans (Nat.mul_le_mul_right _ (by omega)) h1
theorem hvL_len : ∀ {l : List Nat}, hvL l → l.length ≤ 7
  | [], _ => by simp
  | [a], _ => by simp
  | a :: b :: r, h => by
    have h1 := hvL_pow (b :: r) a h
    have h2 := h.1
    apply Classical.byContradiction
    intro hn
    simp only [List.length_cons] at hn h1
    have h3 : 2 ^ 7 ≤ 2 ^ (r.length + 1) := Nat.pow_le_pow_right (by decide) (by omega)
    have h4 : 11 * 2 ^ 7 ≤ a * 2 ^ (r.length + 1) := Nat.mul_le_mul h2 h3
    omega
theorem hvL_all : ∀ {l : List Nat}, hvL l → ∀ a ∈ l, 7 ≤ a ∧ a ≤ 1200
  | [], _, a, ha => by cases ha
  | [b], h, a, ha => by
    rw [List.mem_singleton] at ha
    subst ha
    exact h
  | c :: b :: r, h, a, ha => by
    rw [List.mem_cons] at ha
    rcases ha with e | ha
    · subst e
      have h1 := hvL_pow (b :: r) a h
      have h2 := h.1
      have h3 : 1 ≤ 2 ^ (b :: r).length := Nat.one_le_two_pow
      have h4 : a * 1 ≤ a * 2 ^ (b :: r).length := Nat.mul_le_mul_left _ h3
      omega
    · exact hvL_all h.2.2 a ha
def Inv (B : List (List Nat)) : Prop := hvL (B.map List.length).reverse
theorem Inv.len {B : List (List Nat)} (h : Inv B) : B.length ≤ 7 := by
  have := hvL_len h
  simpa using this
theorem Inv.all {B : List (List Nat)} (h : Inv B) : ∀ l ∈ B, 7 ≤ l.length ∧ l.length ≤ 1200 := fun l hl => hvL_all h l.length (by
  rw [List.mem_reverse]
  exact List.mem_map.mpr ⟨l, hl, rfl⟩)
theorem Inv.one {l : List Nat} (h1 : 7 ≤ l.length) (h2 : l.length ≤ 1200) : Inv [l] := ⟨h1, h2⟩
theorem Inv.dm {B : List (List Nat)} (h : Inv B) {t k b : Int32} (hd : dmC B t k b) : Inv (dmB B t k b) := by
  have e : (dmB B t k b).map List.length = B.map List.length := by
    unfold dmB
    rw [List.map_set]
    cases hx : ix B t with
    | none =>
      have := hd.1
      rw [hx] at this
      cases this
    | some l =>
      unfold ix at hx
      split at hx
      · cases hx
      · show (B.map List.length).set t.toNatClampNeg (l.set k.toNatClampNeg b.toNatClampNeg).length = _
        rw [List.length_set]
        apply List.ext_getElem?
        intro i
        rw [List.getElem?_set]
        split
        · rename_i hi
          subst hi
          rw [List.getElem?_map, hx]
          have := (List.getElem?_eq_some_iff.mp hx).1
          rw [List.length_map, if_pos this]
          rfl
        · rfl
  unfold Inv
  rw [e]
  exact h
theorem hvR : ∀ (r : List ptab) (p : ptab), (∀ y ∈ p :: r, wT0 y.2) → (r ≠ [] → p.2.2.2.1 ≠ []) → p.1 = serT p.2 → p.1.length ≤ 1200 → mdOk p r → hvL (r.map (fun y => y.1.length)) → hvL ((mdR p r).map (fun y => y.1.length))
  | [], p, _, _, hp, h12, _, _ => by
    refine ⟨?_, h12⟩
    show 7 ≤ p.1.length
    rw [hp]
    exact ser_3 p.2
  | q :: r, p, hw, hne, hp, h12, hok, hv => by
    have hpr := hne (by simp)
    unfold mdR
    by_cases hc : q.1.length < 2 * p.1.length
    · rw [if_pos hc]
      obtain ⟨h1, h2⟩ := hok hc
      have w0 : wT0 (mg2 q p r.isEmpty).2 := mT_wT0 (by simp) (fun y hy => by
        simp only [List.mem_cons, List.not_mem_nil, or_false] at hy
        rcases hy with rfl | rfl
        · exact hw _ (by simp)
        · exact hw _ (by simp))
      refine hvR r _ (fun y hy => ?_) (fun hr => ?_) rfl h1.2.2 h2 ?_
      · rcases List.mem_cons.mp hy with rfl | hy
        · exact w0
        · exact hw y (List.mem_cons_of_mem _ (List.mem_cons_of_mem _ hy))
      · have he : r.isEmpty = false := by
          cases r with
          | nil => exact absurd rfl hr
          | cons a t => rfl
        rw [he]
        show (mG kR (cR [q, p])).filter (ndl false) ≠ []
        obtain ⟨a, ha⟩ : ∃ a, a ∈ p.2.2.2.1 := by
          cases hq : p.2.2.2.1 with
          | nil => exact absurd hq hpr
          | cons a t => exact ⟨a, by simp⟩
        obtain ⟨y, hy, -⟩ := mG_has.mpr ⟨a, show a ∈ cR [q, p] from by simp [cR, ha], rfl⟩
        intro hn
        have : y ∈ (mG kR (cR [q, p])).filter (ndl false) := List.mem_filter.mpr ⟨hy, by simp [ndl]⟩
        rw [hn] at this
        cases this
      · cases r with
        | nil => exact trivial
        | cons a t => exact hv.2.2
    · rw [if_neg hc]
      refine ⟨?_, by show 2 * p.1.length ≤ q.1.length; omega, hv⟩
      show 11 ≤ p.1.length
      rw [hp]
      exact ser_least (hw p (by simp)) hpr
theorem cm_facts {B : List (List Nat)} {TT : List ptab} {cs : List achg} (hv : vw B = some TT) (ho : okX cs) (hnt : ¬ tooM (hgM TT + 1) TT cs) : wT0 (cmD TT cs) ∧ fitT (cmD TT cs) ∧ mdOk (serT (cmD TT cs), cmD TT cs) TT.reverse := by
  have hw := (vw_w hv).2.2
  have ho1 := ho.1
  have h20 : hgM TT + 1 ≤ 2000 := Nat.le_of_not_lt (fun q => hnt (Or.inl q))
  have h16 : (mG kR (dRc (hgM TT + 1) cs ++ cR TT)).length ≤ 16 := Nat.le_of_not_lt (fun q => hnt (Or.inr (Or.inl q)))
  have h24 : nE TT + (drT (hgM TT + 1) (cR TT) cs).2.2.2.length ≤ 24 := Nat.le_of_not_lt (fun q => hnt (Or.inr (Or.inr q)))
  have hlk : ∀ r ∈ cR TT, r.2.2 ≤ 65535 := by
    intro r hr
    obtain ⟨p, hp, hm⟩ := mem_cR.mp hr
    have := ((hw p hp).1.2.2.2.2.2.1 r hm).2.2.2.ok.1
    omega
  have hw0 : wT0 (cmD TT cs) := drT_w (by omega) h20 (fun c hc => (ho.2.1 c hc).1) hlk
  have hRl : (cmD TT cs).2.2.1.length ≤ 6 := by
    show (mG kR (cs.map (crec (hgM TT + 1)))).length ≤ 6
    have := mG_len (f := kR) (l := cs.map (crec (hgM TT + 1)))
    rw [List.length_map] at this
    omega
  have hEl2 : (cmD TT cs).2.2.2.length ≤ 24 := by
    show (drT (hgM TT + 1) (cR TT) cs).2.2.2.length ≤ 24
    omega
  refine ⟨hw0, ⟨by omega, by omega, ser_fits hw0 (by omega) (by omega)⟩, mdOk_of _ _ (fun y hy => ?_) ?_ ?_⟩
  · rw [List.mem_cons, List.mem_reverse] at hy
    rcases hy with e | hy
    · rw [e]; exact hw0
    · exact (hw y hy).1
  · have e : pR ((serT (cmD TT cs), cmD TT cs) :: TT.reverse) = dRc (hgM TT + 1) cs ++ cR TT := by
      unfold pR cR
      rw [List.flatMap_cons]
      rfl
    rw [e]
    exact h16
  · have e : pE ((serT (cmD TT cs), cmD TT cs) :: TT.reverse) = (cmD TT cs).2.2.2 ++ cE TT := by
      unfold pE cE
      rw [List.flatMap_cons]
    rw [e, List.length_append, ← nE_len]
    have e2 : (cmD TT cs).2.2.2.length = (drT (hgM TT + 1) (cR TT) cs).2.2.2.length := rfl
    omega
theorem Inv.cm {B : List (List Nat)} {TT : List ptab} {cs : List achg} (h : Inv B) (hv : vw B = some TT) (ho : okX cs) (hcs : cs ≠ []) (hnt : ¬ tooM (hgM TT + 1) TT cs) : Inv ((cmB TT cs).map (fun p => p.1)) := by
  obtain ⟨hw0, hf, hmd⟩ := cm_facts hv ho hnt
  have hw := (vw_w hv).2.2
  have hTB := (vw_w hv).1
  unfold Inv cmB
  rw [List.map_map, ← List.map_reverse, List.reverse_reverse]
  refine hvR TT.reverse (serT (cmD TT cs), cmD TT cs) (fun y hy => ?_) (fun _ => ?_) rfl hf.2.2 hmd ?_
  · rw [List.mem_cons, List.mem_reverse] at hy
    rcases hy with e | hy
    · rw [e]; exact hw0
    · exact (hw y hy).1
  · show mG kR (cs.map (crec (hgM TT + 1))) ≠ []
    intro hn
    cases cs with
    | nil => exact hcs rfl
    | cons c t =>
      obtain ⟨y, hy, -⟩ := mG_has (f := kR).mpr ⟨crec (hgM TT + 1) c, show crec (hgM TT + 1) c ∈ (c :: t).map (crec (hgM TT + 1)) from by simp, rfl⟩
      rw [hn] at hy
      cases hy
  · have h' := h
    unfold Inv at h'
    rw [← hTB, List.map_map, ← List.map_reverse] at h'
    exact h'
theorem okX.put {cs : List achg} {k : Nat} {e : Int32} {c : Int} (h : okX cs) (hl : cs.length < 6) (hk : ckeys cs k = false) (hG : GK k) (hc : wC c) (he : -1 ≤ e.toInt) : okX (cs ++ [(k, e, c)]) := by
  obtain ⟨o1, o2, o3⟩ := h
  refine ⟨by simp; omega, fun x hx => ?_, ?_⟩
  · rw [List.mem_append, List.mem_singleton] at hx
    rcases hx with hx | hx
    · exact o2 x hx
    · rw [hx]; exact ⟨⟨hG, hc⟩, he⟩
  · rw [List.pairwise_append]
    refine ⟨o3, by simp, fun a ha b hb => ?_⟩
    rw [List.mem_singleton] at hb
    subst hb
    intro q
    unfold ckeys at hk
    rw [List.any_eq_false] at hk
    exact hk a ha (by rw [beq_iff_eq]; exact q)
