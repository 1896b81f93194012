/-! the reference: the log -/
section RK
variable {α : Type} {f : α → Nat} {P : α → Bool}
/-- the place of the k-th one in the stable order of those that fit -/
def rkP (f : α → Nat) (P : α → Bool) : List α → Nat → Nat
  | [], _ => 0
  | x :: l, 0 => ((l.filter P).filter (fun y => decide (f y < f x))).length
  | x :: l, k + 1 => rkP f P l k + (match l[k]? with
    | some y => if P x = true ∧ f x ≤ f y then 1 else 0
    | none => 0)
theorem insS_pl {x : α} : ∀ {s : List α}, sW f s → (insS f x s)[(s.filter (fun y => decide (f y < f x))).length]? = some x ∧ (∀ i y, s[i]? = some y → (insS f x s)[i + (if f x ≤ f y then 1 else 0)]? = some y) ∧ (∀ p y, (insS f x s)[p]? = some y → (p = (s.filter (fun y => decide (f y < f x))).length ∧ y = x) ∨ ∃ i, s[i]? = some y ∧ p = i + (if f x ≤ f y then 1 else 0))
  | [], _ => by
    refine ⟨rfl, fun i y h => (by simp at h), fun p y h => ?_⟩
    cases p with
    | zero => left; exact ⟨rfl, by simp [insS] at h; exact h.symm⟩
    | succ p => simp [insS] at h
  | a :: s, hw => by
    have hw0 := hw
    rw [sW, List.pairwise_cons] at hw
    have ih := insS_pl (x := x) (s := s) hw.2
    unfold insS
    by_cases h : f x ≤ f a
    · rw [if_pos h]
      have hf : (a :: s).filter (fun y => decide (f y < f x)) = [] := by
        rw [List.filter_eq_nil_iff]
        intro y hy
        rw [decide_eq_true_eq]
        rw [List.mem_cons] at hy
        rcases hy with e | hy
        · subst e; omega
        · have := hw.1 y hy; omega
      have hall : ∀ y ∈ a :: s, f x ≤ f y := by
        intro y hy
        rw [List.mem_cons] at hy
        rcases hy with e | hy
        · subst e; exact h
        · have := hw.1 y hy; omega
      rw [hf]
      refine ⟨rfl, fun i y hi => ?_, fun p y hp => ?_⟩
      · rw [if_pos (hall y (List.mem_of_getElem? hi)), List.getElem?_cons_succ]; exact hi
      · cases p with
        | zero => left; exact ⟨rfl, by simpa using hp.symm⟩
        | succ p =>
          right
          rw [List.getElem?_cons_succ] at hp
          exact ⟨p, hp, by rw [if_pos (hall y (List.mem_of_getElem? hp))]⟩
    · rw [if_neg h, List.filter_cons_of_pos (by rw [decide_eq_true_eq]; omega), List.length_cons]
      refine ⟨by rw [List.getElem?_cons_succ]; exact ih.1, fun i y hi => ?_, fun p y hp => ?_⟩
      · cases i with
        | zero =>
          rw [List.getElem?_cons_zero] at hi
          cases hi
          rw [if_neg h]; rfl
        | succ i =>
          rw [List.getElem?_cons_succ] at hi
          rw [show i + 1 + (if f x ≤ f y then 1 else 0) = (i + (if f x ≤ f y then 1 else 0)) + 1 by omega, List.getElem?_cons_succ]
          exact ih.2.1 i y hi
      · cases p with
        | zero =>
          rw [List.getElem?_cons_zero] at hp
          cases hp
          right
          exact ⟨0, rfl, by rw [if_neg h]⟩
        | succ p =>
          rw [List.getElem?_cons_succ] at hp
          rcases ih.2.2 p y hp with ⟨e1, e2⟩ | ⟨i, e1, e2⟩
          · left; exact ⟨by rw [e1], e2⟩
          · right; exact ⟨i + 1, by rw [List.getElem?_cons_succ]; exact e1, by omega⟩
theorem rk_at : ∀ {l : List α} {k : Nat} {e : α}, l[k]? = some e → P e = true → (sS f (l.filter P))[rkP f P l k]? = some e
  | [], k, e, h, _ => by simp at h
  | x :: l, 0, e, h, hP => by
    rw [List.getElem?_cons_zero] at h
    cases h
    rw [List.filter_cons_of_pos hP]
    have h1 := (insS_pl (f := f) (x := x) (s := sS f (l.filter P)) (sS_sW _)).1
    have e1 : ((sS f (l.filter P)).filter (fun y => decide (f y < f x))).length = ((l.filter P).filter (fun y => decide (f y < f x))).length := by
      have : ∀ (s : List α), ((sS f s).filter (fun y => decide (f y < f x))).length = (s.filter (fun y => decide (f y < f x))).length := by
        intro s
        induction s with
        | nil => rfl
        | cons a s ih =>
          have : ∀ (t : List α), ((insS f a t).filter (fun y => decide (f y < f x))).length = ((a :: t).filter (fun y => decide (f y < f x))).length := by
            intro t
            induction t with
            | nil => rfl
            | cons b t iht =>
              unfold insS
              by_cases hab : f a ≤ f b
              · rw [if_pos hab]
              · rw [if_neg hab]
                simp only [List.filter_cons] at iht ⊢
                by_cases h1 : f b < f x
                · by_cases h2 : f a < f x
                  · simp only [h1, h2, decide_true, if_true, List.length_cons] at iht ⊢
                    omega
                  · simp only [h1, h2, decide_true, decide_false, if_true, List.length_cons] at iht ⊢
                    simp only [Bool.false_eq_true, if_false] at iht ⊢
                    rw [iht] <;> rfl
                · by_cases h2 : f a < f x
                  · simp only [h1, h2, decide_true, decide_false, if_true, List.length_cons] at iht ⊢
                    simp only [Bool.false_eq_true, if_false] at iht ⊢
                    rw [iht] <;> rfl
                  · simp only [h1, h2, decide_false] at iht ⊢
                    simp only [Bool.false_eq_true, if_false] at iht ⊢
                    exact iht
          show ((insS f a (sS f s)).filter (fun y => decide (f y < f x))).length = _
          rw [this, List.filter_cons, List.filter_cons]
          split
          · rw [List.length_cons, List.length_cons, ih]
          · exact ih
      exact this _
    rw [e1] at h1
    exact h1
  | x :: l, k + 1, e, h, hP => by
    rw [List.getElem?_cons_succ] at h
    have ih := rk_at h hP
    unfold rkP
    rw [h]
    dsimp only
    by_cases hx : P x = true
    · rw [List.filter_cons_of_pos hx]
      have h1 := (insS_pl (f := f) (x := x) (s := sS f (l.filter P)) (sS_sW _)).2.1 _ e ih
      by_cases h2 : f x ≤ f e
      · rw [if_pos h2] at h1
        rw [if_pos ⟨hx, h2⟩]
        exact h1
      · rw [if_neg h2] at h1
        rw [if_neg (fun q => h2 q.2)]
        exact h1
    · rw [List.filter_cons_of_neg hx, if_neg (fun q => hx q.1)]
      exact ih
theorem rk_of : ∀ {l : List α} {p : Nat} {e : α}, (sS f (l.filter P))[p]? = some e → ∃ k, l[k]? = some e ∧ P e = true ∧ rkP f P l k = p
  | [], p, e, h => by simp [sS] at h
  | x :: l, p, e, h => by
    by_cases hx : P x = true
    · have h0 := h
      rw [List.filter_cons_of_pos hx] at h
      have h' : (insS f x (sS f (l.filter P)))[p]? = some e := h
      rcases (insS_pl (f := f) (x := x) (s := sS f (l.filter P)) (sS_sW _)).2.2 p e h' with ⟨e1, e2⟩ | ⟨i, e1, e2⟩
      · subst e2
        refine ⟨0, rfl, hx, ?_⟩
        have h1 := rk_at (f := f) (P := P) (l := e :: l) (k := 0) rfl hx
        have h3 := (insS_pl (f := f) (x := e) (s := sS f (l.filter P)) (sS_sW _)).1
        rw [e1]
        have : ∀ (s : List α), ((sS f s).filter (fun y => decide (f y < f e))).length = (s.filter (fun y => decide (f y < f e))).length := by
          intro s
          induction s with
          | nil => rfl
          | cons a s ih =>
            have : ∀ (t : List α), ((insS f a t).filter (fun y => decide (f y < f e))).length = ((a :: t).filter (fun y => decide (f y < f e))).length := by
              intro t
              induction t with
              | nil => rfl
              | cons b t iht =>
                unfold insS
                by_cases hab : f a ≤ f b
                · rw [if_pos hab]
                · rw [if_neg hab]
                  simp only [List.filter_cons] at iht ⊢
                  by_cases h1 : f b < f e
                  · by_cases h2 : f a < f e
                    · simp only [h1, h2, decide_true, if_true, List.length_cons] at iht ⊢
                      omega
                    · simp only [h1, h2, decide_true, decide_false, if_true, List.length_cons] at iht ⊢
                      simp only [Bool.false_eq_true, if_false] at iht ⊢
                      rw [iht] <;> rfl
                  · by_cases h2 : f a < f e
                    · simp only [h1, h2, decide_true, decide_false, if_true, List.length_cons] at iht ⊢
                      simp only [Bool.false_eq_true, if_false] at iht ⊢
                      rw [iht] <;> rfl
                    · simp only [h1, h2, decide_false] at iht ⊢
                      simp only [Bool.false_eq_true, if_false] at iht ⊢
                      exact iht
            show ((insS f a (sS f s)).filter (fun y => decide (f y < f e))).length = _
            rw [this, List.filter_cons, List.filter_cons]
            split
            · rw [List.length_cons, List.length_cons, ih]
            · exact ih
        rw [this]; rfl
      · obtain ⟨k, k1, k2, k3⟩ := rk_of e1
        refine ⟨k + 1, by rw [List.getElem?_cons_succ]; exact k1, k2, ?_⟩
        unfold rkP
        rw [k1]
        dsimp only
        rw [k3, e2]
        by_cases h2 : f x ≤ f e
        · rw [if_pos h2, if_pos ⟨hx, h2⟩]
        · rw [if_neg h2, if_neg (fun q => h2 q.2)]
    · rw [List.filter_cons_of_neg hx] at h
      obtain ⟨k, k1, k2, k3⟩ := rk_of h
      refine ⟨k + 1, by rw [List.getElem?_cons_succ]; exact k1, k2, ?_⟩
      unfold rkP
      rw [k1]
      dsimp only
      rw [k3, if_neg (fun q => hx q.1)]
      rfl
end RK
/-- two entries in the order of reading -/
def ordE (a b : aent × Nat) : Prop := b.2 ≤ a.2 ∧ (ekP a = ekP b → b.2 < a.2)
section RL
variable {P : aent × Nat → Bool}
noncomputable def soB (a b : aent × Nat) : Bool := @decide (so a b) (Classical.propDecidable _)
theorem soB_iff {a b : aent × Nat} : soB a b = true ↔ so a b := by unfold soB; exact @decide_eq_true_iff _ (Classical.propDecidable _)
theorem rk_so : ∀ {E : List (aent × Nat)} {k : Nat} {e : aent × Nat}, E.Pairwise ordE → E[k]? = some e → (E.filter (fun y => P y && soB y e)).length = rkP ekP P E k
  | [], k, e, _, h => by simp at h
  | x :: l, 0, e, ho, h => by
    rw [List.pairwise_cons] at ho
    rw [List.getElem?_cons_zero] at h
    cases h
    rw [List.filter_cons_of_neg]
    · unfold rkP
      rw [List.filter_filter]
      congr 1
      refine List.filter_congr (fun y hy => ?_)
      rw [Bool.and_comm]
      congr 1
      rw [Bool.eq_iff_iff, soB_iff, decide_eq_true_eq]
      have := ho.1 y hy
      unfold so
      constructor
      · rintro (q | ⟨q, r⟩)
        · exact q
        · have := this.1; omega
      · exact Or.inl
    · rw [Bool.and_eq_true, soB_iff]
      rintro ⟨-, q | ⟨-, q⟩⟩ <;> omega
  | x :: l, k + 1, e, ho, h => by
    rw [List.pairwise_cons] at ho
    rw [List.getElem?_cons_succ] at h
    have ih := rk_so ho.2 h
    have hx := ho.1 e (List.mem_of_getElem? h)
    unfold rkP
    rw [h]
    dsimp only
    rw [← ih, List.filter_cons]
    have hc : (P x && soB x e) = true ↔ (P x = true ∧ ekP x ≤ ekP e) := by
      rw [Bool.and_eq_true, soB_iff]
      unfold so
      constructor
      · rintro ⟨q, r | ⟨r, -⟩⟩
        · exact ⟨q, Nat.le_of_lt r⟩
        · exact ⟨q, Nat.le_of_eq r⟩
      · rintro ⟨q, r⟩
        refine ⟨q, ?_⟩
        rcases Nat.lt_or_eq_of_le r with r | r
        · exact Or.inl r
        · exact Or.inr ⟨r, hx.2 r⟩
    by_cases hq : (P x && soB x e) = true
    · rw [if_pos hq, if_pos (hc.mp hq), List.length_cons]
    · rw [if_neg hq, if_neg (fun q => hq (hc.mpr q))]
      rfl
end RL
theorem enT_fst : ∀ (TT : List ptab) (t : Nat), (enT t TT).map (fun e => e.1) = cE TT
  | [], _ => rfl
  | p :: TT, t => by
    have ih := enT_fst TT (t + 1)
    simp only [enT, List.map_append, List.map_map]
    rw [ih]
    simp only [cE, List.reverse_cons, List.flatMap_append, List.flatMap_cons, List.flatMap_nil, List.append_nil]
    congr 1
    exact List.map_id _
theorem enT_tb : ∀ (TT : List ptab) (t : Nat), ∀ e ∈ enT t TT, t ≤ e.2 ∧ e.2 < t + TT.length
  | [], _, e, h => by cases h
  | p :: TT, t, e, h => by
    simp only [enT, List.mem_append, List.mem_map] at h
    simp only [List.length_cons]
    rcases h with h | ⟨a, ha, rfl⟩
    · have := enT_tb TT (t + 1) e h
      omega
    · exact ⟨Nat.le_refl _, by dsimp only; omega⟩
theorem enT_mem {TT : List ptab} {t : Nat} {e : aent × Nat} (h : e ∈ enT t TT) : ∃ p ∈ TT, e.1 ∈ p.2.2.2.2 := by
  have : e.1 ∈ (enT t TT).map (fun e => e.1) := List.mem_map.mpr ⟨e, h, rfl⟩
  rw [enT_fst] at this
  exact mem_cE.mp this
theorem enT_ord : ∀ (TT : List ptab) (t : Nat), (∀ p ∈ TT, wT p.2) → (enT t TT).Pairwise ordE
  | [], _, _ => List.Pairwise.nil
  | p :: TT, t, h => by
    simp only [enT]
    rw [List.pairwise_append]
    refine ⟨enT_ord TT (t + 1) (fun q hq => h q (by simp [hq])), ?_, fun a ha b hb => ?_⟩
    · rw [List.pairwise_map]
      have hs := (h p (by simp)).1.2.2.2.2.1
      exact List.Pairwise.imp (fun {a b} (q : ek a < ek b) => ⟨Nat.le_refl _, fun e => by simp only [ekP] at e; omega⟩) hs
    · have h1 := enT_tb TT (t + 1) a ha
      rw [List.mem_map] at hb
      obtain ⟨c, hc, rfl⟩ := hb
      exact ⟨by dsimp only; omega, fun _ => by dsimp only; omega⟩
theorem pw_get {α : Type} {R : α → α → Prop} {l : List α} (h : l.Pairwise R) {i j : Nat} {a b : α} (hij : i < j) (ha : l[i]? = some a) (hb : l[j]? = some b) : R a b := by
  obtain ⟨h1, h2⟩ := List.getElem?_eq_some_iff.mp ha
  obtain ⟨h3, h4⟩ := List.getElem?_eq_some_iff.mp hb
  rw [← h2, ← h4]
  exact List.pairwise_iff_getElem.mp h i j h1 h3 hij
theorem enT_ok {TT : List ptab} {t : Nat} (hw : ∀ p ∈ TT, wT p.2) (ht : t + TT.length ≤ 100) : okEn (enT t TT) := by
  refine ⟨fun e he => ?_, fun i j a b hij ha hb => (pw_get (enT_ord TT t hw) hij ha hb).1⟩
  obtain ⟨p, hp, hm⟩ := enT_mem he
  have h1 := (hw p hp).1.2.2.2.2.2.2 e.1 hm
  have h2 := enT_tb TT t e he
  exact ⟨h1.1.pos, h1.ok (hw p hp).1.2.2.1, by omega⟩
section ML
variable {d m : Nat} {B : List (List Nat)} {M : xM} {g : Nat → Int32} {A : Nat → Nat → Int32} {L : Nat → Nat → Int64} {N : List arec} {E : List (aent × Nat)} {z w : Nat} {Q : Option Value → xM → Nat → Nat → Prop}
noncomputable def kyP (n : Nat) (e : aent × Nat) : Bool := decide (e.1.1 = gkey n)
set_option maxHeartbeats 1000000 in
theorem rank_loop {n k : Nat} {e : aent × Nat} (hn : n < 2 ^ 64) (hE : EnA g A L E) (hl : E.length ≤ 340) (ho : okEn E) (hG : ∀ e ∈ E, GK e.1.1) (hk : E[k]? = some e) : ∀ (r i c : Nat), i + r = E.length → c + r < 2 ^ 30 →
    (WP (d + 3) mMd_rank 6 [some (.ref m), some (.int (nI k)), some (.long (lN n)), none, some (.int (nI c)), some (.int (nI i))] [] (MM (AR M m A L) m g) z w Q ↔ Q (some (.int (nI (c + ((E.drop i).filter (fun y => kyP n y && soB y e)).length)))) (MM (AR M m A L) m g) z w) := by
  classical
  intro r
  induction r with
  | zero =>
    intro i c hi hc
    rw [sMd_rank_6]
    simp only [sMd_rank_8, rMd_rank_9, sMd_rank_12, sMd_rank_54, sMd_rank_56, hE.1]
    rw [if_pos (nI_le (by omega) (by omega)), List.drop_eq_nil_of_le (by omega)]
    rfl
  | succ r ih =>
    intro i c hi hc
    have hlt : i < E.length := by omega
    have hgi : E[i]? = some E[i] := List.getElem?_eq_getElem hlt
    obtain ⟨q1, q2, q3, q4, q5⟩ := hE.2 i E[i] hgi
    have hre := rv_lt E[i].1.1
    have hg := rv_gkey (n := n) (hG E[i] (List.getElem_mem hlt))
    rw [sMd_rank_6]
    simp only [sMd_rank_8, rMd_rank_9, sMd_rank_12, sMd_rank_15, rMd_rank_16, sMd_rank_19, qMd_rank_21 (k := i) (by omega), sMd_rank_22, sMd_rank_23, sMd_rank_24, lcmp_eq, lcmp_lt, lcmp_ge, lcmp_gt, lcmp_le, hE.1, q1, lN_inj (a := rv E[i].1.1) (b := n) (by omega) hn, hg]
    rw [if_neg (nI_ge (by omega) (by omega)), List.drop_eq_getElem_cons hlt, List.filter_cons]
    have hno : ¬ (kyP n E[i] && soB E[i] e) = true → (WP (d + 3) mMd_rank 44 [some (.ref m), some (.int (nI k)), some (.long (lN n)), none, some (.int (nI c)), some (.int (nI i))] [] (MM (AR M m A L) m g) z w Q ↔ Q (some (.int (nI (c + (if (kyP n E[i] && soB E[i] e) = true then E[i] :: (E.drop (i + 1)).filter (fun y => kyP n y && soB y e) else (E.drop (i + 1)).filter (fun y => kyP n y && soB y e)).length)))) (MM (AR M m A L) m g) z w) := by
      intro h
      simp only [sMd_rank_44, sMd_rank_46, sMd_rank_48, sMd_rank_51, xk_i, xk_l, xk_a, xk_n, xk_0, Option.toList_some, Option.toList_none, List.cons_append, List.nil_append, nI_add]
      rw [if_neg h, ih (i + 1) c (by omega) (by omega)]
    by_cases h1 : E[i].1.1 = gkey n
    · rw [if_pos h1]
      simp only [sMd_rank_27, sMd_rank_28, sMd_rank_30, rMd_rank_31]
      rw [c_sooner hE hl ho hgi hk]
      simp only [sMd_rank_34, xk_i, xk_l, xk_a, xk_n, xk_0, Option.toList_some, Option.toList_none, List.cons_append, List.nil_append]
      have hky : kyP n E[i] = true := decide_eq_true h1
      by_cases hc2 : so E[i] e
      · rw [if_neg (by rw [if_pos hc2]; decide)]
        simp only [sMd_rank_37, sMd_rank_39, sMd_rank_40, sMd_rank_41, sMd_rank_46, sMd_rank_48, sMd_rank_51, xk_i, xk_l, xk_a, xk_n, xk_0, Option.toList_some, Option.toList_none, List.cons_append, List.nil_append, nI_add]
        rw [if_pos (by rw [hky, soB_iff.mpr hc2]; rfl), ih (i + 1) (c + 1) (by omega) (by omega), List.length_cons, Nat.add_assoc, Nat.add_comm 1]
      · rw [if_pos (by rw [if_neg hc2])]
        exact hno (by rw [Bool.and_eq_true, soB_iff]; exact fun q => hc2 q.2)
    · rw [if_neg h1]
      exact hno (by rw [Bool.and_eq_true]; exact fun q => h1 (of_decide_eq_true q.1))
theorem c_rank {n k : Nat} {e : aent × Nat} (hn : n < 2 ^ 64) (hE : EnA g A L E) (hl : E.length ≤ 340) (ho : okEn E) (hG : ∀ e ∈ E, GK e.1.1) (hp : E.Pairwise ordE) (hk : E[k]? = some e) :
    WP (d + 3) mMd_rank 0 [some (.ref m), some (.int (nI k)), some (.long (lN n)), none, none, none] [] (MM (AR M m A L) m g) z w Q ↔ Q (some (.int (nI (rkP ekP (kyP n) E k)))) (MM (AR M m A L) m g) z w := by
  simp only [sMd_rank_0, sMd_rank_1, sMd_rank_3, sMd_rank_4, xk_i, xk_l, xk_a, xk_n, xk_0, Option.toList_some, Option.toList_none, List.cons_append, List.nil_append]
  rw [rank_loop hn hE hl ho hG hk E.length 0 0 (by omega) (by omega), List.drop_zero, Nat.zero_add, rk_so hp hk]
theorem rkP_le {α : Type} {f : α → Nat} {P : α → Bool} : ∀ {l : List α} {k : Nat}, rkP f P l k ≤ l.length
  | [], _ => Nat.le_refl _
  | x :: l, 0 => by
    unfold rkP
    have h1 := List.length_filter_le (fun y => decide (f y < f x)) (l.filter P)
    have h2 := List.length_filter_le P l
    simp only [List.length_cons]
    omega
  | x :: l, k + 1 => by
    unfold rkP
    have h1 := rkP_le (f := f) (P := P) (l := l) (k := k)
    simp only [List.length_cons]
    split
    · split <;> omega
    · omega
set_option maxHeartbeats 1000000 in
theorem log_loop2 {n : Nat} {k what V : Int32} (hn : n < 2 ^ 64) (hE : EnA g A L E) (hl : E.length ≤ 340) (ho : okEn E) (hG : ∀ e ∈ E, GK e.1.1) (hp : E.Pairwise ordE)
    (h1 : ∀ i e, E[i]? = some e → kyP n e = true → nI (rkP ekP (kyP n) E i) = k → (nI 0 ≤ what ∧ what ≤ nI 2) → V = prt e.1 what)
    (h0 : (∀ i e, E[i]? = some e → ¬ (kyP n e = true ∧ nI (rkP ekP (kyP n) E i) = k ∧ (nI 0 ≤ what ∧ what ≤ nI 2))) → V = -1) (K : Q (some (.int V)) (MM (AR M m A L) m g) z w) : ∀ (r i : Nat), i + r = E.length → (∀ q e, q < i → E[q]? = some e → ¬ (kyP n e = true ∧ nI (rkP ekP (kyP n) E q) = k ∧ (nI 0 ≤ what ∧ what ≤ nI 2))) →
    WP (d + 4) mMd_log 13 [some (.ref m), some (.long (lN n)), none, some (.int k), some (.int what), some (.int (nI i))] [] (MM (AR M m A L) m g) z w Q := by
  intro r
  induction r with
  | zero =>
    intro i hi hno
    rw [sMd_log_13]
    simp only [sMd_log_15, rMd_log_16, sMd_log_19, sMd_log_100, sMd_log_101, hE.1]
    rw [if_pos (nI_le (by omega) (by omega))]
    rw [h0 (fun q e hq => hno q e (by have := (List.getElem?_eq_some_iff.mp hq).1; omega) hq)] at K
    exact K
  | succ r ih =>
    intro i hi hno
    have hlt : i < E.length := by omega
    have hgi : E[i]? = some E[i] := List.getElem?_eq_getElem hlt
    obtain ⟨q1, q2, q3, q4, q5⟩ := hE.2 i E[i] hgi
    have hre := rv_lt E[i].1.1
    have hg := rv_gkey (n := n) (hG E[i] (List.getElem_mem hlt))
    have hrk := rkP_le (f := ekP) (P := kyP n) (l := E) (k := i)
    have hnext : ¬ (kyP n E[i] = true ∧ nI (rkP ekP (kyP n) E i) = k ∧ (nI 0 ≤ what ∧ what ≤ nI 2)) → WP (d + 4) mMd_log 94 [some (.ref m), some (.long (lN n)), none, some (.int k), some (.int what), some (.int (nI i))] [] (MM (AR M m A L) m g) z w Q := by
      intro h
      simp only [sMd_log_94, sMd_log_97, xk_i, xk_l, xk_a, xk_n, xk_0, Option.toList_some, Option.toList_none, List.cons_append, List.nil_append, nI_add]
      refine ih (i + 1) (by omega) (fun q e hq he => ?_)
      by_cases hqi : q = i
      · subst hqi
        rw [hgi] at he
        cases he
        exact h
      · exact hno q e (by omega) he
    rw [sMd_log_13]
    simp only [sMd_log_15, rMd_log_16, sMd_log_19, sMd_log_22, rMd_log_23, sMd_log_26, qMd_log_28 (k := i) (by omega), sMd_log_29, sMd_log_30, sMd_log_31, lcmp_eq, lcmp_lt, lcmp_ge, lcmp_gt, lcmp_le, hE.1, q1, lN_inj (a := rv E[i].1.1) (b := n) (by omega) hn, hg]
    rw [if_neg (nI_ge (by omega) (by omega))]
    by_cases hk1 : E[i].1.1 = gkey n
    · have hky : kyP n E[i] = true := decide_eq_true hk1
      rw [if_pos hk1]
      simp only [sMd_log_34, sMd_log_35, sMd_log_37, rMd_log_38]
      rw [c_rank hn hE hl ho hG hp hgi]
      simp only [sMd_log_41, sMd_log_42, sMd_log_45, sMd_log_47, sMd_log_48, xk_i, xk_l, xk_a, xk_n, xk_0, Option.toList_some, Option.toList_none, List.cons_append, List.nil_append]
      by_cases hk2 : nI (rkP ekP (kyP n) E i) = k
      · rw [if_pos hk2, sMd_log_49, c_within]
        simp only [sMd_log_52, sMd_log_55, sMd_log_57, sMd_log_60, rMd_log_61, sMd_log_64, qMd_log_66 (k := i) (by omega), sMd_log_67, sMd_log_70, sMd_log_72, sMd_log_73, sMd_log_76, rMd_log_77, sMd_log_80, qMd_log_82 (k := i) (by omega), sMd_log_83, sMd_log_86, rMd_log_87, sMd_log_90, qMd_log_92 (k := i) (by omega), sMd_log_93, xk_i, xk_l, xk_a, xk_n, xk_0, Option.toList_some, Option.toList_none, List.cons_append, List.nil_append, q2, q3, q4]
        by_cases hw : nI 0 ≤ what ∧ what ≤ nI 2
        · rw [if_neg (by rw [if_pos hw]; decide)]
          have hV := h1 i E[i] hgi hky hk2 hw
          unfold prt at hV
          by_cases w0 : what = nI 0
          · rw [if_pos w0]
            rw [if_pos w0] at hV
            rw [hV] at K; exact K
          · rw [if_neg w0]
            rw [if_neg w0] at hV
            by_cases w1 : what = nI 1
            · rw [if_pos w1]
              rw [if_pos w1] at hV
              rw [hV] at K; exact K
            · rw [if_neg w1]
              rw [if_neg w1] at hV
              have w2 : what = nI 2 := by
                have n0 : ¬ what < 0 := by
                  have := hw.1
                  rw [Int32.lt_iff_toInt_lt]
                  rw [Int32.le_iff_toInt_le] at this
                  have e : (nI 0).toInt = (0 : Int32).toInt := rfl
                  omega
                obtain ⟨j, hj, rfl⟩ := nI_of n0
                have := (nI_leI (a := j) (b := 2) hj (by decide)).mp hw.2
                have j0 : j ≠ 0 := fun q => w0 (by rw [q])
                have j1 : j ≠ 1 := fun q => w1 (by rw [q])
                rw [show j = 2 by omega]
              rw [if_pos w2] at hV
              rw [hV] at K; exact K
        · rw [if_pos (by rw [if_neg hw])]
          exact hnext (fun q => hw q.2.2)
      · rw [if_neg hk2]
        exact hnext (fun q => hk2 q.2.1)
    · rw [if_neg hk1]
      exact hnext (fun q => hk1 (of_decide_eq_true q.1))
theorem prt_out {e : aent} {what : Int32} (h : ¬ (nI 0 ≤ what ∧ what ≤ nI 2)) : prt e what = -1 := by
  unfold prt
  rw [if_neg (fun q => h (by rw [q]; decide)), if_neg (fun q => h (by rw [q]; decide)), if_neg (fun q => h (by rw [q]; decide))]
theorem c_Md_log {n : Nat} {k what : Int32} (hn : n < 2 ^ 64) (h8 : B.length ≤ 8) (hS : StA g A B) (K : ∀ g' A' L', Fr FgV FaR FlR g g' A A' L L' → Q (some (.int (lgS B n k what))) (MM (AR M m A' L') m g') z w) : WP (d + 7) mMd_log 0 [some (.ref m), some (.long (lN n)), none, some (.int k), some (.int what), none] [] (MM (AR M m A L) m g) z w Q := by
  simp only [sMd_log_0, rMd_log_1]
  refine c_view h8 hS (fun hv g1 A1 L1 hF => ?_) (fun TT hv g1 A1 L1 hN hE h25 h26 hF => ?_)
  · simp only [sMd_log_4, sMd_log_7, sMd_log_9, xk_i, xk_l, xk_a, xk_n, xk_0, Option.toList_some, Option.toList_none, List.cons_append, List.nil_append]
    rw [if_pos trivial]
    have := K g1 A1 L1 hF
    unfold lgS at this
    rw [hv] at this
    exact this
  · have hw := (vw_w hv).2.2
    have hTl := vw_len hv
    have hEl := enT_len TT 0 hw
    simp only [sMd_log_4, sMd_log_7, sMd_log_9, sMd_log_10, sMd_log_11, xk_i, xk_l, xk_a, xk_n, xk_0, Option.toList_some, Option.toList_none, List.cons_append, List.nil_append]
    rw [if_neg (by decide)]
    have hsort : (sS ek (cE TT)).filter (fun e => decide (e.1 = gkey n)) = (sS ekP ((enT 0 TT).filter (kyP n))).map (fun e => e.1) := by
      have h2 : ∀ (l : List (aent × Nat)), (sS ekP l).filter (kyP n) = sS ekP (l.filter (kyP n)) := by
        intro l
        induction l with
        | nil => rfl
        | cons a l ih =>
          have hi : ∀ (s : List (aent × Nat)), sW ekP s → (insS ekP a s).filter (kyP n) = if kyP n a = true then insS ekP a (s.filter (kyP n)) else s.filter (kyP n) := by
            intro s
            induction s with
            | nil =>
              intro _
              by_cases h : kyP n a = true
              · simp [insS, h]
              · simp [insS, h]
            | cons b s ihs =>
              intro hs
              have hs2 := hs
              rw [sW, List.pairwise_cons] at hs2
              rw [show insS ekP a (b :: s) = if ekP a ≤ ekP b then a :: b :: s else b :: insS ekP a s from rfl]
              by_cases hab : ekP a ≤ ekP b
              · rw [if_pos hab, List.filter_cons]
                by_cases h : kyP n a = true
                · rw [if_pos h, if_pos h]
                  symm
                  apply insS_head
                  intro y hy
                  have hy2 := (List.mem_filter.mp hy).1
                  rw [List.mem_cons] at hy2
                  rcases hy2 with e | hy2
                  · rw [e]; exact hab
                  · exact Nat.le_trans hab (hs2.1 y hy2)
                · rw [if_neg h, if_neg h]
              · rw [if_neg hab, List.filter_cons, ihs hs2.2, List.filter_cons]
                by_cases hb : kyP n b = true
                · rw [if_pos hb, if_pos hb]
                  by_cases h : kyP n a = true
                  · rw [if_pos h, if_pos h]
                    show _ = (if ekP a ≤ ekP b then _ else _)
                    rw [if_neg hab]
                  · rw [if_neg h, if_neg h]
                · rw [if_neg hb, if_neg hb]
          show (insS ekP a (sS ekP l)).filter (kyP n) = _
          rw [hi _ (sS_sW l), ih, List.filter_cons]
          by_cases h : kyP n a = true
          · rw [if_pos h, if_pos h]; rfl
          · rw [if_neg h, if_neg h]
      rw [← enT_fst TT 0, sS_map, List.filter_map, ← h2]
      rfl
    have hlg : lgS B n k what = lgR (nth ((sS ekP ((enT 0 TT).filter (kyP n))).map (fun e => e.1)) k 0) what := by
      unfold lgS
      rw [hv]
      dsimp only
      rw [hsort]
    refine log_loop2 (d := d + 3) (V := lgS B n k what) hn hE (by omega) (enT_ok hw (by omega)) (fun e he => ?_) (enT_ord TT 0 hw) (fun i e hi hky hrk hwh => ?_) (fun hno => ?_) (K g1 A1 L1 hF) (enT 0 TT).length 0 (by omega) (fun q e hq => by omega)
    · obtain ⟨p, hp, hm⟩ := enT_mem he
      exact ((hw p hp).1.2.2.2.2.2.2 e.1 hm).1
    · have hrl := rkP_le (f := ekP) (P := kyP n) (l := enT 0 TT) (k := i)
      have hat := rk_at (f := ekP) (P := kyP n) hi hky
      rw [hlg, ← hrk]
      unfold nth
      rw [if_neg (nI_pos (by omega)), nI_clamp (by omega), Nat.sub_zero, List.getElem?_map, hat]
      rfl
    · rw [hlg]
      by_cases hwh : nI 0 ≤ what ∧ what ≤ nI 2
      · unfold nth
        by_cases hk : k < 0
        · rw [if_pos hk]; rfl
        · rw [if_neg hk]
          obtain ⟨j, hj, rfl⟩ := nI_of hk
          rw [nI_clamp hj, Nat.sub_zero, List.getElem?_map]
          cases hs : (sS ekP ((enT 0 TT).filter (kyP n)))[j]? with
          | none => rfl
          | some e =>
            obtain ⟨i, i1, i2, i3⟩ := rk_of hs
            exact absurd ⟨i2, by rw [i3], hwh⟩ (hno i e i1)
      · cases nth ((sS ekP ((enT 0 TT).filter (kyP n))).map (fun e => e.1)) k 0 with
        | none => rfl
        | some e => exact prt_out hwh
end ML
