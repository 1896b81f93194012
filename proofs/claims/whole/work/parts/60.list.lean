/-! sorting and merging, as mathematics -/
section LST
variable {α : Type} (f : α → Nat)
def insS (x : α) : List α → List α
  | [] => [x]
  | y :: t => if f x ≤ f y then x :: y :: t else y :: insS x t
/-- the stable sort by f -/
def sS (l : List α) : List α := l.foldr (insS f) []
/-- of each run of equal ones the first, none that is v -/
def dda : Nat → List α → List α
  | _, [] => []
  | v, x :: t => if f x = v then dda v t else x :: dda (f x) t
def insR (x : α) : List α → List α
  | [] => [x]
  | y :: t => if f x < f y then x :: y :: t else if f x = f y then x :: t else y :: insR x t
/-- sorted, the first of equal ones wins -/
def mG (l : List α) : List α := l.foldr (insR f) []
def sW (l : List α) : Prop := l.Pairwise (fun x y => f x ≤ f y)
def sT (l : List α) : Prop := l.Pairwise (fun x y => f x < f y)
variable {f}
theorem mem_insS {x y : α} : ∀ {l : List α}, y ∈ insS f x l ↔ y = x ∨ y ∈ l
  | [] => by simp [insS]
  | a :: t => by
    unfold insS
    split
    · simp
    · rw [List.mem_cons, mem_insS, List.mem_cons]
      constructor
      · rintro (h | h | h)
        · exact Or.inr (Or.inl h)
        · exact Or.inl h
        · exact Or.inr (Or.inr h)
      · rintro (h | h | h)
        · exact Or.inr (Or.inl h)
        · exact Or.inl h
        · exact Or.inr (Or.inr h)
theorem mem_sS {y : α} : ∀ {l : List α}, y ∈ sS f l ↔ y ∈ l
  | [] => by simp [sS]
  | a :: t => by
    show y ∈ insS f a (sS f t) ↔ _
    rw [mem_insS, mem_sS, List.mem_cons]
theorem insS_len {x : α} : ∀ {l : List α}, (insS f x l).length = l.length + 1
  | [] => rfl
  | a :: t => by
    unfold insS
    split
    · rfl
    · rw [List.length_cons, insS_len, List.length_cons]
theorem sS_len : ∀ {l : List α}, (sS f l).length = l.length
  | [] => rfl
  | a :: t => by
    show (insS f a (sS f t)).length = _
    rw [insS_len, sS_len, List.length_cons]
theorem insS_head {x : α} {l : List α} (h : ∀ y ∈ l, f x ≤ f y) : insS f x l = x :: l := by
  cases l with
  | nil => rfl
  | cons y t => unfold insS; rw [if_pos (h y List.mem_cons_self)]
theorem sS_min {r : α} {B : List α} (hB : ∀ b ∈ B, f r ≤ f b) : ∀ {A : List α}, (∀ a ∈ A, f r < f a) → sS f (A ++ r :: B) = r :: sS f (A ++ B)
  | [], _ => insS_head (fun y hy => hB y (mem_sS.mp hy))
  | a :: A, h => by
    show insS f a (sS f (A ++ r :: B)) = r :: insS f a (sS f (A ++ B))
    rw [sS_min hB (fun x hx => h x (List.mem_cons_of_mem _ hx))]
    conv => lhs; unfold insS
    rw [if_neg (by have := h a List.mem_cons_self; omega)]
theorem insS_sW {x : α} : ∀ {l : List α}, sW f l → sW f (insS f x l)
  | [], _ => by unfold insS sW; exact List.pairwise_singleton _ _
  | y :: t, h => by
    unfold insS
    split
    · rename_i hc
      refine List.pairwise_cons.mpr ⟨fun a ha => ?_, h⟩
      rcases List.mem_cons.mp ha with rfl | ha
      · exact hc
      · exact Nat.le_trans hc ((List.pairwise_cons.mp h).1 a ha)
    · rename_i hc
      refine List.pairwise_cons.mpr ⟨fun a ha => ?_, insS_sW (List.pairwise_cons.mp h).2⟩
      rcases mem_insS.mp ha with rfl | ha
      · omega
      · exact (List.pairwise_cons.mp h).1 a ha
theorem sS_sW : ∀ (l : List α), sW f (sS f l)
  | [] => List.Pairwise.nil
  | a :: t => insS_sW (sS_sW t)
theorem mem_insR {x y : α} : ∀ {l : List α}, y ∈ insR f x l → y = x ∨ (y ∈ l ∧ True)
  | [], h => by simp [insR] at h; exact Or.inl h
  | a :: t, h => by
    unfold insR at h
    split at h
    · rcases List.mem_cons.mp h with h | h
      · exact Or.inl h
      · exact Or.inr ⟨h, trivial⟩
    · split at h
      · rcases List.mem_cons.mp h with h | h
        · exact Or.inl h
        · exact Or.inr ⟨List.mem_cons_of_mem _ h, trivial⟩
      · rcases List.mem_cons.mp h with h | h
        · exact Or.inr ⟨by rw [h]; exact List.mem_cons_self, trivial⟩
        · rcases mem_insR h with h | h
          · exact Or.inl h
          · exact Or.inr ⟨List.mem_cons_of_mem _ h.1, trivial⟩
theorem insR_sT {x : α} : ∀ {l : List α}, sT f l → sT f (insR f x l)
  | [], _ => by unfold insR sT; exact List.pairwise_singleton _ _
  | y :: t, h => by
    have h1 := (List.pairwise_cons.mp h).1
    have h2 := (List.pairwise_cons.mp h).2
    unfold insR
    split
    · rename_i hc
      refine List.pairwise_cons.mpr ⟨fun a ha => ?_, h⟩
      rcases List.mem_cons.mp ha with rfl | ha
      · exact hc
      · exact Nat.lt_trans hc (h1 a ha)
    · split
      · rename_i hc
        refine List.pairwise_cons.mpr ⟨fun a ha => ?_, h2⟩
        have := h1 a ha
        omega
      · refine List.pairwise_cons.mpr ⟨fun a ha => ?_, insR_sT h2⟩
        rcases mem_insR ha with rfl | ha
        · omega
        · exact h1 a ha.1
theorem mG_sT : ∀ (l : List α), sT f (mG f l)
  | [] => List.Pairwise.nil
  | a :: t => insR_sT (mG_sT t)
theorem mG_nil : mG f ([] : List α) = [] := rfl
theorem mG_cons {x : α} {l : List α} : mG f (x :: l) = insR f x (mG f l) := rfl
theorem insR_mem {x y : α} : ∀ {l : List α}, sT f l → (y ∈ insR f x l ↔ y = x ∨ (y ∈ l ∧ f y ≠ f x))
  | [], _ => by simp [insR]
  | a :: t, h => by
    have h1 := (List.pairwise_cons.mp h).1
    have h2 := (List.pairwise_cons.mp h).2
    unfold insR
    split
    · rename_i hc
      rw [List.mem_cons]
      constructor
      · rintro (q | q)
        · exact Or.inl q
        · refine Or.inr ⟨q, ?_⟩
          rcases List.mem_cons.mp q with rfl | q
          · omega
          · have := h1 y q; omega
      · rintro (q | q)
        · exact Or.inl q
        · exact Or.inr q.1
    · split
      · rename_i hc
        rw [List.mem_cons]
        constructor
        · rintro (q | q)
          · exact Or.inl q
          · exact Or.inr ⟨List.mem_cons_of_mem _ q, by have := h1 y q; omega⟩
        · rintro (q | ⟨q, q2⟩)
          · exact Or.inl q
          · rcases List.mem_cons.mp q with rfl | q
            · exact absurd hc.symm q2
            · exact Or.inr q
      · rename_i hn hc
        rw [List.mem_cons, insR_mem h2]
        constructor
        · rintro (q | q | q)
          · exact Or.inr ⟨by rw [q]; exact List.mem_cons_self, by rw [q]; omega⟩
          · exact Or.inl q
          · exact Or.inr ⟨List.mem_cons_of_mem _ q.1, q.2⟩
        · rintro (q | ⟨q, q2⟩)
          · exact Or.inr (Or.inl q)
          · rcases List.mem_cons.mp q with q | q
            · exact Or.inl q
            · exact Or.inr (Or.inr ⟨q, q2⟩)
theorem mem_mG {x : α} : ∀ {l : List α}, x ∈ mG f l ↔ l.find? (fun y => f y == f x) = some x
  | [] => by simp [mG]
  | a :: t => by
    rw [mG_cons, insR_mem (mG_sT t), mem_mG]
    by_cases h : f a = f x
    · rw [List.find?_cons_of_pos (by simp [h])]
      constructor
      · rintro (q | q)
        · rw [q]
        · exact absurd h.symm q.2
      · intro q
        cases q
        exact Or.inl rfl
    · rw [List.find?_cons_of_neg (by simp [h])]
      constructor
      · rintro (q | q)
        · exact absurd (by rw [q]) h
        · exact q.1
      · intro q
        exact Or.inr ⟨q, fun z => h z.symm⟩
theorem mG_sub {x : α} {l : List α} (h : x ∈ mG f l) : x ∈ l := List.mem_of_find?_eq_some (mem_mG.mp h)
/-- whose f is there at all -/
theorem mG_has {l : List α} {v : Nat} : (∃ x ∈ mG f l, f x = v) ↔ ∃ x ∈ l, f x = v := by
  constructor
  · rintro ⟨x, h1, h2⟩; exact ⟨x, mG_sub h1, h2⟩
  · rintro ⟨x, h1, h2⟩
    cases hq : l.find? (fun y => f y == v) with
    | none =>
      rw [List.find?_eq_none] at hq
      exact absurd (by simp [h2]) (hq x h1)
    | some y =>
      have h3 := List.find?_some hq
      have h4 : f y = v := by simpa using h3
      exact ⟨y, mem_mG.mpr (by rw [h4]; exact hq), h4⟩
theorem sT_ext : ∀ {A B : List α}, sT f A → sT f B → (∀ x, x ∈ A ↔ x ∈ B) → A = B
  | [], [], _, _, _ => rfl
  | [], b :: B, _, _, h => by have := (h b).mpr List.mem_cons_self; cases this
  | a :: A, [], _, _, h => by have := (h a).mp List.mem_cons_self; cases this
  | a :: A, b :: B, hA, hB, h => by
    have a1 := (List.pairwise_cons.mp hA).1
    have b1 := (List.pairwise_cons.mp hB).1
    have e : a = b := by
      rcases List.mem_cons.mp ((h a).mp List.mem_cons_self) with q | q
      · exact q
      · rcases List.mem_cons.mp ((h b).mpr List.mem_cons_self) with q2 | q2
        · exact q2.symm
        · have := b1 a q; have := a1 b q2; omega
    subst e
    rw [sT_ext (List.pairwise_cons.mp hA).2 (List.pairwise_cons.mp hB).2 (fun x => ?_)]
    constructor
    · intro hx
      rcases List.mem_cons.mp ((h x).mp (List.mem_cons_of_mem _ hx)) with q | q
      · have := a1 x hx; rw [q] at this; omega
      · exact q
    · intro hx
      rcases List.mem_cons.mp ((h x).mpr (List.mem_cons_of_mem _ hx)) with q | q
      · have := b1 x hx; rw [q] at this; omega
      · exact q
theorem dda_insS {x : α} : ∀ {s : List α} {v : Nat}, sW f s → (∀ y ∈ s, v ≤ f y) → v < f x → dda f v (insS f x s) = insR f x (dda f v s)
  | [], v, _, _, hx => by
    unfold insS dda
    rw [if_neg (by omega)]
    rfl
  | y :: t, v, hs, hv, hx => by
    have h1 := (List.pairwise_cons.mp hs).1
    have h2 := (List.pairwise_cons.mp hs).2
    have hy := hv y List.mem_cons_self
    by_cases hyv : f y = v
    · have e : insS f x (y :: t) = y :: insS f x t := by conv => lhs; unfold insS; rw [if_neg (by omega)]
      rw [e]
      conv => lhs; unfold dda
      conv => rhs; unfold dda
      rw [if_pos hyv, if_pos hyv, dda_insS h2 (fun z hz => hv z (List.mem_cons_of_mem _ hz)) hx]
    · by_cases hxy : f x ≤ f y
      · have e : insS f x (y :: t) = x :: y :: t := by conv => lhs; unfold insS; rw [if_pos hxy]
        have e1 : dda f v (x :: y :: t) = x :: dda f (f x) (y :: t) := by conv => lhs; unfold dda; rw [if_neg (by omega)]
        have e2 : dda f v (y :: t) = y :: dda f (f y) t := by conv => lhs; unfold dda; rw [if_neg hyv]
        rw [e, e1, e2]
        by_cases hq : f x = f y
        · have e3 : dda f (f x) (y :: t) = dda f (f y) t := by rw [hq]; conv => lhs; unfold dda; rw [if_pos rfl]
          rw [e3]
          unfold insR
          rw [if_neg (by omega), if_pos hq]
        · have e3 : dda f (f x) (y :: t) = y :: dda f (f y) t := by conv => lhs; unfold dda; rw [if_neg (fun z => hq z.symm)]
          rw [e3]
          unfold insR
          rw [if_pos (by omega)]
      · have e : insS f x (y :: t) = y :: insS f x t := by conv => lhs; unfold insS; rw [if_neg hxy]
        have e1 : dda f v (y :: insS f x t) = y :: dda f (f y) (insS f x t) := by conv => lhs; unfold dda; rw [if_neg hyv]
        have e2 : dda f v (y :: t) = y :: dda f (f y) t := by conv => lhs; unfold dda; rw [if_neg hyv]
        rw [e, e1, e2, dda_insS h2 h1 (by omega)]
        conv => rhs; unfold insR
        rw [if_neg (by omega), if_neg (by omega)]
theorem dda_sS : ∀ {l : List α}, (∀ x ∈ l, 0 < f x) → dda f 0 (sS f l) = mG f l
  | [], _ => rfl
  | a :: t, h => by
    show dda f 0 (insS f a (sS f t)) = insR f a (mG f t)
    rw [dda_insS (sS_sW t) (fun _ _ => Nat.zero_le _) (h a List.mem_cons_self), dda_sS (fun x hx => h x (List.mem_cons_of_mem _ hx))]
theorem dda_len : ∀ {l : List α} {v : Nat}, (dda f v l).length ≤ l.length
  | [], _ => Nat.le_refl _
  | a :: t, v => by
    unfold dda
    split
    · exact Nat.le_trans dda_len (by simp)
    · rw [List.length_cons, List.length_cons]; exact Nat.succ_le_succ dda_len
theorem find_flt {p q : α → Bool} (h : ∀ y, q y = true → p y = true) : ∀ (l : List α), (l.filter p).find? q = l.find? q
  | [] => rfl
  | a :: t => by
    by_cases hp : p a = true
    · rw [List.filter_cons_of_pos hp]
      by_cases hq : q a = true
      · rw [List.find?_cons_of_pos hq, List.find?_cons_of_pos hq]
      · rw [List.find?_cons_of_neg hq, List.find?_cons_of_neg hq, find_flt h t]
    · rw [List.filter_cons_of_neg hp, List.find?_cons_of_neg (fun hq => hp (h a hq)), find_flt h t]
theorem mG_filter {p : α → Bool} (hp : ∀ x y, f x = f y → p x = p y) (l : List α) : (mG f l).filter p = mG f (l.filter p) := by
  refine sT_ext (List.Pairwise.filter _ (mG_sT l)) (mG_sT _) (fun x => ?_)
  rw [List.mem_filter, mem_mG, mem_mG]
  constructor
  · rintro ⟨h1, h2⟩
    rw [find_flt (fun y hy => by rw [hp y x (by simpa using hy)]; exact h2)]
    exact h1
  · intro h
    have h2 := (List.mem_filter.mp (List.mem_of_find?_eq_some h)).2
    rw [find_flt (fun y hy => by rw [hp y x (by simpa using hy)]; exact h2)] at h
    exact ⟨h, h2⟩
theorem find_append {p : α → Bool} (a b : List α) : (a ++ b).find? p = (a.find? p).or (b.find? p) := List.find?_append
theorem find_mG (l : List α) (v : Nat) : (mG f l).find? (fun y => f y == v) = l.find? (fun y => f y == v) := by
  cases hq : l.find? (fun y => f y == v) with
  | none =>
    rw [List.find?_eq_none] at hq ⊢
    exact fun x hx => hq x (mG_sub hx)
  | some x =>
    have hx : f x = v := by simpa using List.find?_some hq
    have hm : x ∈ mG f l := mem_mG.mpr (by rw [hx]; exact hq)
    cases hq2 : (mG f l).find? (fun y => f y == v) with
    | none =>
      rw [List.find?_eq_none] at hq2
      exact absurd (by simp [hx]) (hq2 x hm)
    | some y =>
      have hy : f y = v := by simpa using List.find?_some hq2
      have hm2 := mem_mG.mp (List.mem_of_find?_eq_some hq2)
      rw [hy, hq] at hm2
      exact hm2.symm
theorem mG_congr {a b : List α} (h : ∀ v, a.find? (fun y => f y == v) = b.find? (fun y => f y == v)) : mG f a = mG f b :=
  sT_ext (mG_sT a) (mG_sT b) (fun x => by rw [mem_mG, mem_mG, h])
theorem mG_idem (a b : List α) : mG f (mG f a ++ b) = mG f (a ++ b) := mG_congr (fun v => by rw [find_append, find_append, find_mG])
theorem mG_idem2 (a b : List α) : mG f (a ++ mG f b) = mG f (a ++ b) := mG_congr (fun v => by rw [find_append, find_append, find_mG])
theorem sT_mG {l : List α} (h : sT f l) : mG f l = l := by
  induction l with
  | nil => rfl
  | cons a t ih =>
    rw [mG_cons, ih (List.pairwise_cons.mp h).2]
    cases t with
    | nil => rfl
    | cons b t => unfold insR; rw [if_pos ((List.pairwise_cons.mp h).1 b List.mem_cons_self)]
/-- what is left above v -/
def abv (f : α → Nat) (l : List α) (v : Nat) : List α := (mG f l).filter (fun x => decide (v < f x))
theorem abv_nil {l : List α} {v : Nat} (h : ∀ y ∈ l, ¬ v < f y) : abv f l v = [] := by
  unfold abv
  rw [List.filter_eq_nil_iff]
  intro x hx
  simp only [decide_eq_true_eq]
  exact h x (mG_sub hx)
theorem abv_cons {l : List α} {v : Nat} {x : α} (hx : l.find? (fun y => f y == f x) = some x) (hv : v < f x) (hm : ∀ y ∈ l, v < f y → f x ≤ f y) : abv f l v = x :: abv f l (f x) := by
  refine sT_ext (f := f) (List.Pairwise.filter _ (mG_sT l)) ?_ (fun y => ?_)
  · refine List.pairwise_cons.mpr ⟨fun a ha => ?_, List.Pairwise.filter _ (mG_sT l)⟩
    have := (List.mem_filter.mp ha).2
    simpa using this
  · unfold abv
    rw [List.mem_cons, List.mem_filter, List.mem_filter]
    simp only [decide_eq_true_eq]
    constructor
    · rintro ⟨h1, h2⟩
      have := hm y (mG_sub h1) h2
      rcases Nat.lt_or_eq_of_le this with q | q
      · exact Or.inr ⟨h1, q⟩
      · have h3 := mem_mG.mp h1
        rw [← q, hx] at h3
        cases h3
        exact Or.inl rfl
    · rintro (rfl | ⟨h1, h2⟩)
      · exact ⟨mem_mG.mpr hx, hv⟩
      · exact ⟨h1, by omega⟩
theorem abv_0 {l : List α} (h : ∀ x ∈ l, 0 < f x) : abv f l 0 = mG f l := by
  unfold abv
  rw [List.filter_eq_self]
  intro x hx
  simp only [decide_eq_true_eq]
  exact h x (mG_sub hx)
end LST
