/-! tables as mathematics, and as rows -/
/-- a good key with nothing behind its end -/
def GK (k : Nat) : Prop := k < 2 ^ 60 ∧ gk k = true ∧ ∀ i, alk k k ≤ i → i < 12 → sy k i = 0
def wC (c : Int) : Prop := c = 0 ∨ (1 ≤ c ∧ c ≤ 65535) ∨ (c < 0 ∧ GK (-c).toNat)
def wR (lw hg : Nat) (r : arec) : Prop := GK r.1 ∧ lw ≤ r.2.1 ∧ r.2.1 ≤ hg ∧ wC r.2.2
def wE (lw hg : Nat) (e : aent) : Prop := GK e.1 ∧ lw ≤ e.2.1 ∧ e.2.1 ≤ hg ∧ e.2.2.1 ≤ 65535 ∧ e.2.2.2 ≤ 65535
def kR (r : arec) : Nat := r.1
def ek (e : aent) : Nat := e.1 * 2 ^ 32 + (2 ^ 32 - 1 - e.2.1)
/-- a table, but for how long it may be -/
def wT0 (T : atab) : Prop := 1 ≤ T.1 ∧ T.1 ≤ T.2.1 ∧ T.2.1 ≤ 2000 ∧ sT kR T.2.2.1 ∧ sT ek T.2.2.2 ∧ (∀ r ∈ T.2.2.1, wR T.1 T.2.1 r) ∧ ∀ e ∈ T.2.2.2, wE T.1 T.2.1 e
def wT (T : atab) : Prop := wT0 T ∧ T.2.2.1.length ≤ 30 ∧ T.2.2.2.length ≤ 40
theorem gk_0 : gk 0 = false := by decide
theorem GK.pos {k : Nat} (h : GK k) : 0 < k := by
  rcases Nat.eq_zero_or_pos k with q | q
  · have := h.2.1; rw [q, gk_0] at this; cases this
  · exact q
def rawT (bs : List Nat) (T : atab) : tS := (bs, nI T.1, nI T.2.1, true, T.2.2.1.map rawR, T.2.2.2.map rawE)
def rawP (p : List Nat × atab) : tS := rawT p.1 p.2
section ABS
variable {α β : Type} {f : β → Nat} {g : α → Nat}
theorem insR_map {φ : α → β} {x : α} : ∀ {l : List α}, insR f (φ x) (l.map φ) = (insR (fun a => f (φ a)) x l).map φ
  | [] => rfl
  | y :: t => by
    rw [List.map_cons]
    unfold insR
    split
    · rfl
    · split
      · rfl
      · rw [insR_map]; rfl
theorem mG_map {φ : α → β} : ∀ {l : List α}, mG f (l.map φ) = (mG (fun a => f (φ a)) l).map φ
  | [] => rfl
  | y :: t => by
    rw [List.map_cons, mG_cons, mG_cons, mG_map, insR_map]
theorem insR_fc {f g : α → Nat} {x : α} : ∀ {l : List α}, f x = g x → (∀ y ∈ l, f y = g y) → insR f x l = insR g x l
  | [], _, _ => rfl
  | y :: t, hx, h => by
    have hy := h y List.mem_cons_self
    unfold insR
    rw [hx, hy, insR_fc hx (fun z hz => h z (List.mem_cons_of_mem _ hz))]
theorem mG_fc {f g : α → Nat} : ∀ {l : List α}, (∀ y ∈ l, f y = g y) → mG f l = mG g l
  | [], _ => rfl
  | y :: t, h => by
    have ht : ∀ z ∈ t, f z = g z := fun z hz => h z (List.mem_cons_of_mem _ hz)
    rw [mG_cons, mG_cons, mG_fc ht, insR_fc (h y List.mem_cons_self) (fun z hz => ht z (mG_sub hz))]
theorem insS_map {φ : α → β} {x : α} : ∀ {l : List α}, insS f (φ x) (l.map φ) = (insS (fun a => f (φ a)) x l).map φ
  | [] => rfl
  | y :: t => by
    rw [List.map_cons]
    unfold insS
    split
    · rfl
    · rw [insS_map]; rfl
theorem sS_map {φ : α → β} : ∀ {l : List α}, sS f (l.map φ) = (sS (fun a => f (φ a)) l).map φ
  | [] => rfl
  | y :: t => by
    show insS f (φ y) (sS f (t.map φ)) = (insS (fun a => f (φ a)) y (sS (fun a => f (φ a)) t)).map φ
    rw [sS_map, insS_map]
theorem insS_fc {f g : α → Nat} {x : α} : ∀ {l : List α}, f x = g x → (∀ y ∈ l, f y = g y) → insS f x l = insS g x l
  | [], _, _ => rfl
  | y :: t, hx, h => by
    have hy := h y List.mem_cons_self
    unfold insS
    rw [hx, hy, insS_fc hx (fun z hz => h z (List.mem_cons_of_mem _ hz))]
theorem sS_fc {f g : α → Nat} : ∀ {l : List α}, (∀ y ∈ l, f y = g y) → sS f l = sS g l
  | [], _ => rfl
  | y :: t, h => by
    have ht : ∀ z ∈ t, f z = g z := fun z hz => h z (List.mem_cons_of_mem _ hz)
    show insS f y (sS f t) = insS g y (sS g t)
    rw [sS_fc ht, insS_fc (h y List.mem_cons_self) (fun z hz => ht z (mem_sS.mp hz))]
end ABS
theorem fW_R {r : arec} (h : r.1 < 2 ^ 60) : fW false (rawR r) = kR r := by
  show kN (lN r.1) = r.1
  exact kN_lN (by omega)
theorem fW_E {e : aent} (h : e.1 < 2 ^ 60) (h2 : e.2.1 < 2 ^ 31) : fW true (rawE e) = ek e := by
  show kN (lN e.1) * 2 ^ 32 + (2 ^ 32 - 1 - tN (nI e.2.1)) = _
  rw [kN_lN (by omega), tN_nI (by omega)]
  rfl
theorem rok_R {r : arec} (h : GK r.1) (h2 : r.2.1 < 2 ^ 31) : rok (rawR r) := by
  have h1 := h.1
  have h0 := h.pos
  refine ⟨?_, ?_, ?_⟩
  · show 0 < kN (lN r.1); rw [kN_lN (by omega)]; exact h0
  · show kN (lN r.1) < _; rw [kN_lN (by omega)]; exact h1
  · show tN (nI r.2.1) < _; rw [tN_nI (by omega)]; exact h2
theorem rok_E {r : aent} (h : GK r.1) (h2 : r.2.1 < 2 ^ 31) : rok (rawE r) := by
  have h1 := h.1
  have h0 := h.pos
  refine ⟨?_, ?_, ?_⟩
  · show 0 < kN (lN r.1); rw [kN_lN (by omega)]; exact h0
  · show kN (lN r.1) < _; rw [kN_lN (by omega)]; exact h1
  · show tN (nI r.2.1) < _; rw [tN_nI (by omega)]; exact h2
theorem sT_mapR {R : List arec} (h : sT kR R) (hk : ∀ r ∈ R, r.1 < 2 ^ 60) : sT (fW false) (R.map rawR) := by
  refine List.pairwise_map.mpr (List.Pairwise.imp_of_mem (fun {a b} ha hb hab => ?_) h)
  rw [fW_R (hk a ha), fW_R (hk b hb)]
  exact hab
theorem sT_mapE {E : List aent} (h : sT ek E) (hk : ∀ r ∈ E, r.1 < 2 ^ 60 ∧ r.2.1 < 2 ^ 31) : sT (fW true) (E.map rawE) := by
  refine List.pairwise_map.mpr (List.Pairwise.imp_of_mem (fun {a b} ha hb hab => ?_) h)
  rw [fW_E (hk a ha).1 (hk a ha).2, fW_E (hk b hb).1 (hk b hb).2]
  exact hab
theorem mG_R {R : List arec} (hk : ∀ r ∈ R, r.1 < 2 ^ 60) : mG (fW false) (R.map rawR) = (mG kR R).map rawR := by
  rw [mG_map, mG_fc (fun r hr => fW_R (hk r hr))]
theorem mG_E {E : List aent} (hk : ∀ r ∈ E, r.1 < 2 ^ 60 ∧ r.2.1 < 2 ^ 31) : mG (fW true) (E.map rawE) = (mG ek E).map rawE := by
  rw [mG_map, mG_fc (fun r hr => fW_E (hk r hr).1 (hk r hr).2)]
theorem sS_E {E : List aent} (hk : ∀ r ∈ E, r.1 < 2 ^ 60 ∧ r.2.1 < 2 ^ 31) : sS (fW true) (E.map rawE) = (sS ek E).map rawE := by
  rw [sS_map, sS_fc (fun r hr => fW_E (hk r hr).1 (hk r hr).2)]
theorem wC.ok {c : Int} (h : wC c) : okC c := by
  unfold okC
  rcases h with h | h | h
  · omega
  · omega
  · have := h.2.1; omega
theorem rawC_eq0 {c : Int} (h : okC c) : rawC c = lN 0 ↔ c = 0 := by
  unfold rawC okC at *
  split
  · rw [lN_inj (by omega) (by omega)]; omega
  · constructor
    · intro q
      have e : lN (-c).toNat = lN 0 := by
        have := congrArg (fun x => - x) q
        simp only [Int64.neg_neg] at this
        rw [this]; decide
      rw [lN_inj (by omega) (by omega)] at e
      omega
    · intro q; omega
theorem wR.ok {lw hg : Nat} {r : arec} (h : wR lw hg r) (hh : hg ≤ 2000) : okR lw r := ⟨h.1.1, h.2.1, by have := h.2.2.1; omega, h.2.2.2.ok⟩
theorem wE.ok {lw hg : Nat} {e : aent} (h : wE lw hg e) (hh : hg ≤ 2000) : okE e := ⟨h.1.1, by have := h.2.2.1; omega, by have := h.2.2.2.1; omega, by have := h.2.2.2.2; omega⟩
/-- the records, the entries of tables, the highest table first; TT is from the bottom up -/
def cR (TT : List (List Nat × atab)) : List arec := TT.reverse.flatMap (fun p => p.2.2.2.1)
def cE (TT : List (List Nat × atab)) : List aent := TT.reverse.flatMap (fun p => p.2.2.2.2)
def lwM (TT : List (List Nat × atab)) : Nat := TT.foldl (fun m p => min m p.2.1) 2000
def hgM (TT : List (List Nat × atab)) : Nat := TT.foldl (fun m p => max m p.2.2.1) 0
def ndl (b : Bool) (r : arec) : Bool := !(b && r.2.2 == 0)
def sin (t : Int32) (e : aent) : Bool := !decide (nI e.2.1 < t)
/-- a merged table -/
def mT (b : Bool) (t : Int32) (TT : List (List Nat × atab)) : atab := (lwM TT, hgM TT, (mG kR (cR TT)).filter (ndl b), (mG ek (cE TT)).filter (sin t))
theorem fold_min {l : List (List Nat × atab)} : ∀ {m : Nat}, l.foldl (fun m p => min m p.2.1) m ≤ m ∧ (∀ p ∈ l, l.foldl (fun m p => min m p.2.1) m ≤ p.2.1) ∧ (∀ k, k ≤ m → (∀ p ∈ l, k ≤ p.2.1) → k ≤ l.foldl (fun m p => min m p.2.1) m) := by
  induction l with
  | nil => intro m; exact ⟨Nat.le_refl _, fun p h => (by cases h), fun k h _ => h⟩
  | cons a t ih =>
    intro m
    obtain ⟨h1, h2, h3⟩ := ih (m := min m a.2.1)
    rw [List.foldl_cons]
    refine ⟨by omega, fun p hp => ?_, fun k hk hp => h3 k (by have := hp a List.mem_cons_self; omega) (fun p q => hp p (List.mem_cons_of_mem _ q))⟩
    rcases List.mem_cons.mp hp with rfl | hp
    · omega
    · exact h2 p hp
theorem fold_max {l : List (List Nat × atab)} : ∀ {m : Nat}, m ≤ l.foldl (fun m p => max m p.2.2.1) m ∧ (∀ p ∈ l, p.2.2.1 ≤ l.foldl (fun m p => max m p.2.2.1) m) ∧ (∀ k, m ≤ k → (∀ p ∈ l, p.2.2.1 ≤ k) → l.foldl (fun m p => max m p.2.2.1) m ≤ k) := by
  induction l with
  | nil => intro m; exact ⟨Nat.le_refl _, fun p h => (by cases h), fun k h _ => h⟩
  | cons a t ih =>
    intro m
    obtain ⟨h1, h2, h3⟩ := ih (m := max m a.2.2.1)
    rw [List.foldl_cons]
    refine ⟨by omega, fun p hp => ?_, fun k hk hp => h3 k (by have := hp a List.mem_cons_self; omega) (fun p q => hp p (List.mem_cons_of_mem _ q))⟩
    rcases List.mem_cons.mp hp with rfl | hp
    · omega
    · exact h2 p hp
theorem mem_cR {TT : List (List Nat × atab)} {r : arec} : r ∈ cR TT ↔ ∃ p ∈ TT, r ∈ p.2.2.2.1 := by
  unfold cR
  rw [List.mem_flatMap]
  simp only [List.mem_reverse]
theorem mem_cE {TT : List (List Nat × atab)} {r : aent} : r ∈ cE TT ↔ ∃ p ∈ TT, r ∈ p.2.2.2.2 := by
  unfold cE
  rw [List.mem_flatMap]
  simp only [List.mem_reverse]
/-- what is merged of tables is one, but for how long it may be -/
theorem mT_wT0 {b : Bool} {t : Int32} {TT : List (List Nat × atab)} (h0 : TT ≠ []) (h : ∀ p ∈ TT, wT0 p.2) : wT0 (mT b t TT) := by
  obtain ⟨p0, hp0⟩ := List.exists_mem_of_ne_nil _ h0
  have w0 := h p0 hp0
  obtain ⟨l1, l2, l3⟩ := fold_min (l := TT) (m := 2000)
  obtain ⟨g1, g2, g3⟩ := fold_max (l := TT) (m := 0)
  have a1 := l2 p0 hp0
  have a2 := g2 p0 hp0
  have a3 := w0.2.1
  refine ⟨l3 1 (by omega) (fun p hp => (h p hp).1), ?_, g3 2000 (by omega) (fun p hp => (h p hp).2.2.1), List.Pairwise.filter _ (mG_sT _), List.Pairwise.filter _ (mG_sT _), fun r hr => ?_, fun e he => ?_⟩
  · show lwM TT ≤ hgM TT
    unfold lwM hgM
    omega
  · obtain ⟨p, hp, hm⟩ := mem_cR.mp (mG_sub (List.mem_filter.mp hr).1)
    obtain ⟨q1, q2, q3, q4⟩ := (h p hp).2.2.2.2.2.1 r hm
    exact ⟨q1, Nat.le_trans (l2 p hp) q2, Nat.le_trans q3 (g2 p hp), q4⟩
  · obtain ⟨p, hp, hm⟩ := mem_cE.mp (mG_sub (List.mem_filter.mp he).1)
    obtain ⟨q1, q2, q3, q4⟩ := (h p hp).2.2.2.2.2.2 e hm
    exact ⟨q1, Nat.le_trans (l2 p hp) q2, Nat.le_trans q3 (g2 p hp), q4⟩
