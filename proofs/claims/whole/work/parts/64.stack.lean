/-! RefStack$TableStack: its memory, and the methods that only look -/
abbrev tS : Type := List Nat × Int32 × Int32 × Bool × List xrow × List xrow
def TbAt (M : xM) (e : Nat × tS) : Prop := TableAt M e.1 e.2.1 e.2.2.1 e.2.2.2.1 e.2.2.2.2.1 e.2.2.2.2.2.1 e.2.2.2.2.2.2
def slv (L : List (Nat × tS)) : List Value := L.map (fun e => Value.ref e.1) ++ List.replicate (9 - L.length) .null
def SkAt (M : xM) (s h : Nat) (L : List (Nat × tS)) (z : Nat) : Prop :=
  M s = some (4, [.ref (s + 1), .ref (s + 2), .ref (s + 3), .ref (s + 6), .int (nI h)]) ∧ M (s + 1) = some (23, slv L) ∧ (∃ v f, M (s + 2) = some (7, [v, .int f])) ∧ WkI M (s + 3) false ∧ WkI M (s + 6) true ∧ L.length ≤ 9 ∧ h ≤ L.length ∧
  (∀ (i : Nat) (e : Nat × tS), L[i]? = some e → s + 31 ≤ e.1 ∧ e.1 + 10 ≤ z ∧ TbAt M e) ∧
  (∀ (i j : Nat) (e e' : Nat × tS), i < j → L[i]? = some e → L[j]? = some e' → e.1 + 10 ≤ e'.1 ∨ e'.1 + 10 ≤ e.1)
theorem slv_len {L : List (Nat × tS)} (h : L.length ≤ 9) : (slv L).length = 9 := by simp [slv]; omega
theorem slv_at {L : List (Nat × tS)} {i : Nat} {e : Nat × tS} (h : L[i]? = some e) : (slv L)[i]? = some (.ref e.1) := by
  have hl := (List.getElem?_eq_some_iff.mp h).1
  unfold slv
  rw [List.getElem?_append_left (by simpa using hl), List.getElem?_map, h]
  rfl
theorem slv_nil {L : List (Nat × tS)} (h : L.length < 9) : (slv L)[L.length]? = some .null := by
  unfold slv
  rw [List.getElem?_append_right (by simp), List.length_map, Nat.sub_self, List.getElem?_replicate, if_pos (by omega)]
theorem set_mid {α : Type} (l : List α) (x y : α) (r : List α) : (l ++ x :: r).set l.length y = l ++ y :: r := by
  induction l with
  | nil => rfl
  | cons a t ih => simp [ih]
theorem slv_add {L : List (Nat × tS)} (h : L.length < 9) (e : Nat × tS) : (slv L).set L.length (.ref e.1) = slv (L ++ [e]) := by
  unfold slv
  obtain ⟨k, hk⟩ : ∃ k, 9 - L.length = k + 1 := ⟨8 - L.length, by omega⟩
  have hm := set_mid (L.map (fun e => Value.ref e.1)) Value.null (Value.ref e.1) (List.replicate k Value.null)
  rw [List.length_map] at hm
  rw [hk, List.replicate_succ, hm, List.map_append, List.length_append, List.length_singleton, show 9 - (L.length + 1) = k by omega]
  simp
section STK
variable {d s h : Nat} {L : List (Nat × tS)} {M : xM} {z w : Nat} {Q : Option Value → xM → Nat → Nat → Prop}
theorem SkAt.cell (hS : SkAt M s h L z) : M s = some (4, [.ref (s + 1), .ref (s + 2), .ref (s + 3), .ref (s + 6), .int (nI h)]) := hS.1
theorem SkAt.tab {i : Nat} {e : Nat × tS} (hS : SkAt M s h L z) (hi : L[i]? = some e) : TbAt M e := (hS.2.2.2.2.2.2.2.1 i e hi).2.2
theorem TbAt.cell {e : Nat × tS} (h : TbAt M e) : M e.1 = some (3, [.ref (e.1 + 1), .ref (e.1 + 2), .ref (e.1 + 6), .int (nI e.2.1.length), .int e.2.2.1, .int e.2.2.2.1, .int (nI (if e.2.2.2.2.1 = true then 1 else 0))]) := h.2.2.2.1
theorem TbAt.recs {e : Nat × tS} (h : TbAt M e) : RowsAt M (e.1 + 2) 30 e.2.2.2.2.2.1 := h.2.2.2.2.1
theorem TbAt.ents {e : Nat × tS} (h : TbAt M e) : RowsAt M (e.1 + 6) 40 e.2.2.2.2.2.2 := h.2.2.2.2.2
theorem TbAt.kept {M' : xM} {e : Nat × tS} (h : TbAt M e) (hq : ∀ q, e.1 ≤ q → q < e.1 + 10 → M' q = M q) : TbAt M' e := TableAt.kept h hq
/-- what a change elsewhere leaves -/
theorem SkAt.kept {M' : xM} {z' : Nat} (hS : SkAt M s h L z) (hz : z ≤ z') (hq : ∀ q, s ≤ q → q < s + 9 → M' q = M q) (hq2 : ∀ q, s + 31 ≤ q → q < z → M' q = M q) : SkAt M' s h L z' := by
  obtain ⟨k1, k2, ⟨v, f, k3⟩, k4, k5, k6, k7, k8, k9⟩ := hS
  exact ⟨by rw [hq _ (by omega) (by omega)]; exact k1, by rw [hq _ (by omega) (by omega)]; exact k2, ⟨v, f, by rw [hq _ (by omega) (by omega)]; exact k3⟩, k4.kept (fun q a b => hq q (by omega) (by omega)), k5.kept (fun q a b => hq q (by omega) (by omega)), k6, k7, fun i e he => ⟨(k8 i e he).1, Nat.le_trans (k8 i e he).2.1 hz, (k8 i e he).2.2.kept (fun q a b => hq2 q (by have := (k8 i e he).1; omega) (by have := (k8 i e he).2.1; omega))⟩, k9⟩
/-- the index of a slot, looked at -/
theorem slot_in {i : Nat} (h : i < 9) : (if nI 0 < (if nI 8 < nI i then nI 8 else nI i) then (if nI 8 < nI i then nI 8 else nI i) else nI 0) = nI i := by
  have q : ∀ j : Fin 9, (if nI 0 < (if nI 8 < nI j.1 then nI 8 else nI j.1) then (if nI 8 < nI j.1 then nI 8 else nI j.1) else nI 0) = nI j.1 := by decide +kernel
  exact q ⟨i, h⟩
theorem c_tableIn {i : Nat} {e : Nat × tS} (hS : SkAt M s h L z) (hi : L[i]? = some e) : WP (d + 1) mTs_tableIn 0 [some (.ref s), some (.int (nI i)), none] [] M z w Q ↔ Q (some (.ref e.1)) M z w := by
  obtain ⟨k1, k2, -, -, -, k6, -, -, -⟩ := hS
  have hl := (List.getElem?_eq_some_iff.mp hi).1
  have ti := nI_toInt (n := i) (by omega)
  simp only [sTs_tableIn_0, sTs_tableIn_1, sTs_tableIn_2, sTs_tableIn_4, sTs_tableIn_7, sTs_tableIn_10, sTs_tableIn_11, sTs_tableIn_12 k1 rfl, sTs_tableIn_15, slot_in (show i < 9 by omega)]
  rw [sTs_tableIn_16 k2 ti (slv_at hi), sTs_tableIn_17]
  simp only [sTs_tableIn_33, sTs_tableIn_34 k1 rfl, sTs_tableIn_37]
  rw [sTs_tableIn_38 k2 ti (slv_at hi), sTs_tableIn_39]
def newT (a : Nat) : Nat × tS := (a, [], nI 0, nI 0, false, [], [])
theorem c_tableIn_new (hS : SkAt M s h L z) (hl : L.length < 9) (hz : s + 31 ≤ z) (K : ∀ M', SkAt M' s h (L ++ [newT z]) (z + 10) → (∀ q, q < z → q ≠ s + 1 → M' q = M q) → Q (some (.ref z)) M' (z + 10) (w + 1427)) : WP (d + 3) mTs_tableIn 0 [some (.ref s), some (.int (nI L.length)), none] [] M z w Q := by
  have hS0 := hS
  obtain ⟨k1, k2, ⟨v, f, k3⟩, k4, k5, k6, k7, k8, k9⟩ := hS0
  have ti := nI_toInt (n := L.length) (by omega)
  simp only [sTs_tableIn_0, sTs_tableIn_1, sTs_tableIn_2, sTs_tableIn_4, sTs_tableIn_7, sTs_tableIn_10, sTs_tableIn_11, sTs_tableIn_12 k1 rfl, sTs_tableIn_15, slot_in hl]
  rw [sTs_tableIn_16 k2 ti (slv_nil hl), sTs_tableIn_17n]
  simp only [sTs_tableIn_20, sTs_tableIn_21 k1 rfl, sTs_tableIn_24, sTs_tableIn_25, sTs_tableIn_28]
  rw [sTs_tableIn_29]
  refine c_table_init (d := d) (t := z) xput_same rfl (fun M1 hT hO => ?_)
  simp only [xk_i, xk_l, xk_a, xk_n, xk_0, Option.toList_some, Option.toList_none, List.cons_append, List.nil_append]
  have o1 : ∀ q, q < z → M1 q = M q := fun q hq => by rw [hO q (by omega), xput_ne (by omega)]
  have hc : M1 z = some (3, _) := hT.2.2.2.1
  rw [sTs_tableIn_32 ((o1 _ (by omega)).trans k2) hc ti (by rw [slv_len (by omega)]; omega), show (slv L).set L.length (.ref z) = slv (L ++ [newT z]) from slv_add hl (newT z)]
  generalize hM : xput M1 (s + 1) (23, slv (L ++ [newT z])) = M2
  have o2 : ∀ q, q ≠ s + 1 → M2 q = M1 q := fun q hq => by rw [← hM, xput_ne hq]
  have g1 : M2 s = _ := (o2 _ (by omega)).trans ((o1 _ (by omega)).trans k1)
  have g2 : M2 (s + 1) = some (23, slv (L ++ [newT z])) := by rw [← hM, xput_same]
  have hnew : (L ++ [newT z])[L.length]? = some (newT z) := by simp
  simp only [sTs_tableIn_33, sTs_tableIn_34 g1 rfl, sTs_tableIn_37]
  rw [sTs_tableIn_38 g2 ti (slv_at hnew), sTs_tableIn_39]
  have hK := K M2 ⟨g1, g2, ⟨v, f, (o2 _ (by omega)).trans ((o1 _ (by omega)).trans k3)⟩, k4.kept (fun q a b => (o2 _ (by omega)).trans (o1 _ (by omega))), k5.kept (fun q a b => (o2 _ (by omega)).trans (o1 _ (by omega))), by simp; omega, by simp; omega, fun i e he => ?_, fun i j e e' hij he he' => ?_⟩ (fun q hq hne => (o2 q hne).trans (o1 q hq))
  · rw [show z + 1 + 9 = z + 10 by omega, show w + 7 + 1420 = w + 1427 by omega]; exact hK
  · by_cases hi : i < L.length
    · rw [List.getElem?_append_left hi] at he
      obtain ⟨e1, e2, e3⟩ := k8 i e he
      exact ⟨e1, by omega, e3.kept (fun q a b => (o2 _ (by omega)).trans (o1 _ (by omega)))⟩
    · have hi2 := (List.getElem?_eq_some_iff.mp he).1
      simp only [List.length_append, List.length_singleton] at hi2
      have : i = L.length := by omega
      subst this
      rw [hnew] at he
      cases he
      exact ⟨hz, Nat.le_refl _, hT.kept (fun q a b => o2 q (by have : newT z = (z, _) := rfl; omega))⟩
  · have hj2 := (List.getElem?_eq_some_iff.mp he').1
    simp only [List.length_append, List.length_singleton] at hj2
    rw [List.getElem?_append_left (by omega)] at he
    by_cases hj : j < L.length
    · rw [List.getElem?_append_left hj] at he'
      exact k9 i j e e' hij he he'
    · have : j = L.length := by omega
      subst this
      rw [hnew] at he'
      cases he'
      exact Or.inl (k8 i e he).2.1
theorem take_at {h i : Nat} {e : Nat × tS} (hi : i < h) (he : L[i]? = some e) : (L.take h).drop i = e :: (L.take h).drop (i + 1) := by
  obtain ⟨h1, h2⟩ := List.getElem?_eq_some_iff.mp he
  rw [List.drop_eq_getElem_cons (by simp; omega), List.getElem_take, h2]
theorem isDamaged_loop (hS : SkAt M s h L z) : ∀ (r i : Nat), i + r = h →
    (WP (d + 2) mTs_isDamaged 2 [some (.ref s), some (.int (nI i))] [] M z w Q ↔ Q (some (.int (nI (if ((L.take h).drop i).any (fun e => !e.2.2.2.2.1) = true then 1 else 0)))) M z w) := by
  have k1 := hS.1
  have hh := hS.2.2.2.2.2.2.1
  have h9 := hS.2.2.2.2.2.1
  intro r
  induction r with
  | zero =>
    intro i hi
    rw [sTs_isDamaged_2]
    simp only [sTs_isDamaged_3, sTs_isDamaged_4 k1 rfl, sTs_isDamaged_7, sTs_isDamaged_29, sTs_isDamaged_30 xb0, sTs_isDamaged_30 xb1]
    rw [if_pos (nI_le (by omega) (by omega)), List.drop_eq_nil_of_le (by simp; omega)]
    rfl
  | succ r ih =>
    intro i hi
    have he : L[i]? = some L[i] := List.getElem?_eq_getElem (by omega)
    generalize L[i] = e at he
    rw [take_at (by omega) he, sTs_isDamaged_2]
    simp only [sTs_isDamaged_3, sTs_isDamaged_4 k1 rfl, sTs_isDamaged_7, sTs_isDamaged_10, sTs_isDamaged_11]
    rw [if_neg (nI_ge (by omega) (by omega)), sTs_isDamaged_12 k1, c_tableIn hS he]
    have hc := (hS.tab he).cell
    simp only [sTs_isDamaged_15 hc rfl, sTs_isDamaged_18, sTs_isDamaged_21, sTs_isDamaged_22 xb0, sTs_isDamaged_22 xb1, sTs_isDamaged_23, sTs_isDamaged_26, xk_i, xk_l, xk_a, xk_n, xk_0, Option.toList_some, Option.toList_none, List.cons_append, List.nil_append, nI_add]
    rw [ih (i + 1) (by omega), List.any_cons]
    cases e.2.2.2.2.1 with
    | true => rw [if_neg (by decide), Bool.not_true, Bool.false_or]
    | false => rw [if_pos (show nI (if false = true then 1 else 0) = nI 0 from rfl)]; rfl
def dmg (h : Nat) (L : List (Nat × tS)) : Bool := (L.take h).any (fun e => !e.2.2.2.2.1)
theorem c_isDamaged (hS : SkAt M s h L z) : WP (d + 2) mTs_isDamaged 0 [some (.ref s), none] [] M z w Q ↔ Q (some (.int (nI (if dmg h L = true then 1 else 0)))) M z w := by
  simp only [sTs_isDamaged_0, sTs_isDamaged_1, xk_i, xk_l, xk_a, xk_n, xk_0, Option.toList_some, Option.toList_none, List.cons_append, List.nil_append]
  rw [isDamaged_loop hS h 0 (by omega), List.drop_zero]
  rfl
/-- the value of the first row with a key -/
def lkX (l : List xrow) (k : Int64) : Int64 := ((l.find? (fun r => r.1 == k)).map (fun r => r.2.2)).getD (lN 0)
theorem cont_in {t r room : Nat} {x3 k : Int64} {i3 : Int32} {rows : List xrow} (hr : RowsAt M r room rows) (h40 : room ≤ 40) (Kn : WP d mTs_contentOf 62 [some (.ref t), some (.long k), none, some (.int i3), some (.ref r), some (.int (nI rows.length))] [] M z w Q ↔ Q (some (.long x3)) M z w) : ∀ (n i : Nat), i + n = rows.length →
    (WP d mTs_contentOf 24 [some (.ref t), some (.long k), none, some (.int i3), some (.ref r), some (.int (nI i))] [] M z w Q ↔ Q (some (.long (((((rows.drop i).find? (fun r => r.1 == k)).map (fun r => r.2.2)).getD x3)))) M z w) := by
  have hc := hr.cell
  intro n
  induction n with
  | zero =>
    intro i hi
    have : i = rows.length := by omega
    subst this
    have : rows.length ≤ room := by obtain ⟨_, _, _, _, _, _, q, _⟩ := hr; exact q
    rw [sTs_contentOf_24]
    simp only [sTs_contentOf_26, sTs_contentOf_28 hc rfl, sTs_contentOf_31]
    rw [if_pos (nI_le (by omega) (by omega)), Kn, List.drop_length]
    rfl
  | succ n ih =>
    intro i hi
    have he : rows[i]? = some rows[i] := List.getElem?_eq_getElem (by omega)
    rw [List.drop_eq_getElem_cons (by omega)]
    generalize rows[i] = e at he
    obtain ⟨kl, tl, vs, p1, p2, p3, p4, p5, p6, p7, p8⟩ := hr.at he
    have ti := nI_toInt (n := i) (by omega)
    rw [sTs_contentOf_24]
    simp only [sTs_contentOf_26, sTs_contentOf_28 hc rfl, sTs_contentOf_31, sTs_contentOf_34, sTs_contentOf_36 hc rfl, sTs_contentOf_39]
    rw [if_neg (nI_ge (by omega) (by omega)), sTs_contentOf_41 p1 ti p2]
    simp only [sTs_contentOf_42, sTs_contentOf_43, sTs_contentOf_44, sTs_contentOf_47, sTs_contentOf_49 hc rfl, sTs_contentOf_52, sTs_contentOf_56, sTs_contentOf_59, xk_i, xk_l, xk_a, xk_n, xk_0, Option.toList_some, Option.toList_none, List.cons_append, List.nil_append, lcmp_eq, lcmp_lt, lcmp_ge, lcmp_gt, lcmp_le, nI_add]
    rw [ih (i + 1) (by omega)]
    by_cases hk : e.1 = k
    · rw [if_pos hk, sTs_contentOf_54 p5 ti p6, sTs_contentOf_55, List.find?_cons_of_pos (by simp [hk])]
      rfl
    · rw [if_neg hk, List.find?_cons_of_neg (by simp [hk])]
theorem cont_loop {k : Int64} (hS : SkAt M s h L z) : ∀ (i : Nat) (i3 : Int32) (x4 x5 : Option Value), i ≤ h → i3 = nI i - nI 1 →
    (WP (d + 2) mTs_contentOf 7 [some (.ref s), some (.long k), none, some (.int i3), x4, x5] [] M z w Q ↔ Q (some (.long (lkX ((L.take i).reverse.flatMap (fun e => e.2.2.2.2.2.1)) k))) M z w) := by
  have k1 := hS.1
  have hh := hS.2.2.2.2.2.2.1
  have h9 := hS.2.2.2.2.2.1
  intro i
  induction i with
  | zero =>
    intro i3 x4 x5 hi h3
    subst h3
    rw [sTs_contentOf_7]
    simp only [sTs_contentOf_8, sTs_contentOf_68, sTs_contentOf_69]
    rw [if_pos (by decide)]
    rfl
  | succ i ih =>
    intro i3 x4 x5 hi h3
    rw [pk_sub (by omega), Nat.add_sub_cancel] at h3
    subst h3
    have he : L[i]? = some L[i] := List.getElem?_eq_getElem (by omega)
    have e1 : (L.take (i + 1)).reverse = L[i] :: (L.take i).reverse := by rw [List.take_succ_eq_append_getElem (by omega), List.reverse_append]; rfl
    rw [e1]
    generalize L[i] = e at he
    rw [sTs_contentOf_7]
    simp only [sTs_contentOf_8, sTs_contentOf_11, sTs_contentOf_12]
    rw [if_neg (nI_nlt (by omega) (by omega)), sTs_contentOf_13 k1, c_tableIn hS he]
    have hc := (hS.tab he).cell
    simp only [sTs_contentOf_16 hc rfl, sTs_contentOf_19, sTs_contentOf_21, sTs_contentOf_22, xk_i, xk_l, xk_a, xk_n, xk_0, Option.toList_some, Option.toList_none, List.cons_append, List.nil_append]
    rw [cont_in (hS.tab he).recs (by omega) (x3 := lkX ((L.take i).reverse.flatMap (fun e => e.2.2.2.2.2.1)) k) ?_ e.2.2.2.2.2.1.length 0 (by omega)]
    · rw [List.drop_zero, List.flatMap_cons]
      unfold lkX
      rw [List.find?_append]
      cases e.2.2.2.2.2.1.find? (fun r => r.1 == k) <;> rfl
    · simp only [sTs_contentOf_62, sTs_contentOf_65, xk_i, xk_l, xk_a, xk_n, xk_0, Option.toList_some, Option.toList_none, List.cons_append, List.nil_append]
      exact ih _ _ _ (by omega) (Int32.sub_eq_add_neg ..).symm
theorem c_contentOf {k : Int64} (hS : SkAt M s h L z) : WP (d + 2) mTs_contentOf 0 [some (.ref s), some (.long k), none, none, none, none] [] M z w Q ↔ Q (some (.long (lkX ((L.take h).reverse.flatMap (fun e => e.2.2.2.2.2.1)) k))) M z w := by
  have k1 := hS.1
  simp only [sTs_contentOf_0, sTs_contentOf_1 k1 rfl, sTs_contentOf_4, sTs_contentOf_5, sTs_contentOf_6, xk_i, xk_l, xk_a, xk_n, xk_0, Option.toList_some, Option.toList_none, List.cons_append, List.nil_append]
  exact cont_loop hS h _ none none (Nat.le_refl _) rfl
def mx32 (m x : Int32) : Int32 := if m < x then x else m
def mn32 (m x : Int32) : Int32 := if x < m then x else m
theorem latest_loop (hS : SkAt M s h L z) : ∀ (r i : Nat) (m : Int32), i + r = h →
    (WP (d + 2) mTs_latestTime 4 [some (.ref s), some (.int m), some (.int (nI i))] [] M z w Q ↔ Q (some (.int (((L.take h).drop i).foldl (fun m e => mx32 m e.2.2.2.1) m))) M z w) := by
  have k1 := hS.1
  have hh := hS.2.2.2.2.2.2.1
  have h9 := hS.2.2.2.2.2.1
  intro r
  induction r with
  | zero =>
    intro i m hi
    rw [sTs_latestTime_4]
    simp only [sTs_latestTime_5, sTs_latestTime_6 k1 rfl, sTs_latestTime_9, sTs_latestTime_31, sTs_latestTime_32]
    rw [if_pos (nI_le (by omega) (by omega)), List.drop_eq_nil_of_le (by simp; omega)]
    rfl
  | succ r ih =>
    intro i m hi
    have he : L[i]? = some L[i] := List.getElem?_eq_getElem (by omega)
    generalize L[i] = e at he
    rw [take_at (by omega) he, sTs_latestTime_4]
    simp only [sTs_latestTime_5, sTs_latestTime_6 k1 rfl, sTs_latestTime_9, sTs_latestTime_12, sTs_latestTime_13, sTs_latestTime_14]
    rw [if_neg (nI_ge (by omega) (by omega)), sTs_latestTime_15 k1, c_tableIn hS he]
    have hc := (hS.tab he).cell
    simp only [sTs_latestTime_18 hc rfl, sTs_latestTime_21, sTs_latestTime_24, sTs_latestTime_25, sTs_latestTime_28, xk_i, xk_l, xk_a, xk_n, xk_0, Option.toList_some, Option.toList_none, List.cons_append, List.nil_append, nI_add]
    rw [ih (i + 1) _ (by omega)]
    rfl
theorem c_latestTime (hS : SkAt M s h L z) : WP (d + 2) mTs_latestTime 0 [some (.ref s), none, none] [] M z w Q ↔ Q (some (.int ((L.take h).foldl (fun m e => mx32 m e.2.2.2.1) (nI 0)))) M z w := by
  simp only [sTs_latestTime_0, sTs_latestTime_1, sTs_latestTime_2, sTs_latestTime_3, xk_i, xk_l, xk_a, xk_n, xk_0, Option.toList_some, Option.toList_none, List.cons_append, List.nil_append]
  rw [latest_loop hS h 0 _ (by omega), List.drop_zero]
theorem below_loop {ab : Nat} (hS : SkAt M s h L z) (hab : ab ≤ L.length) : ∀ (r i m : Nat), i + r = ab →
    (WP (d + 2) mTs_entriesBelow 4 [some (.ref s), some (.int (nI ab)), some (.int (nI m)), some (.int (nI i))] [] M z w Q ↔ Q (some (.int (nI (((L.take ab).drop i).foldl (fun m e => m + e.2.2.2.2.2.2.length) m)))) M z w) := by
  have k1 := hS.1
  have h9 := hS.2.2.2.2.2.1
  intro r
  induction r with
  | zero =>
    intro i m hi
    rw [sTs_entriesBelow_4]
    simp only [sTs_entriesBelow_5, sTs_entriesBelow_6, sTs_entriesBelow_29, sTs_entriesBelow_30]
    rw [if_pos (nI_le (by omega) (by omega)), List.drop_eq_nil_of_le (by simp; omega)]
    rfl
  | succ r ih =>
    intro i m hi
    have he : L[i]? = some L[i] := List.getElem?_eq_getElem (by omega)
    generalize L[i] = e at he
    rw [take_at (by omega) he, sTs_entriesBelow_4]
    simp only [sTs_entriesBelow_5, sTs_entriesBelow_6, sTs_entriesBelow_9, sTs_entriesBelow_10, sTs_entriesBelow_11]
    rw [if_neg (nI_ge (by omega) (by omega)), sTs_entriesBelow_12 k1, c_tableIn hS he]
    have hc := (hS.tab he).cell
    have hr := (hS.tab he).ents.cell
    simp only [sTs_entriesBelow_15 hc rfl, sTs_entriesBelow_18 hr rfl, sTs_entriesBelow_21, sTs_entriesBelow_22, sTs_entriesBelow_23, sTs_entriesBelow_26, xk_i, xk_l, xk_a, xk_n, xk_0, Option.toList_some, Option.toList_none, List.cons_append, List.nil_append, nI_add]
    rw [ih (i + 1) _ (by omega)]
    rfl
theorem c_entriesBelow {ab : Nat} (hS : SkAt M s h L z) (hab : ab ≤ L.length) : WP (d + 2) mTs_entriesBelow 0 [some (.ref s), some (.int (nI ab)), none, none] [] M z w Q ↔ Q (some (.int (nI ((L.take ab).foldl (fun m e => m + e.2.2.2.2.2.2.length) 0)))) M z w := by
  simp only [sTs_entriesBelow_0, sTs_entriesBelow_1, sTs_entriesBelow_2, sTs_entriesBelow_3, xk_i, xk_l, xk_a, xk_n, xk_0, Option.toList_some, Option.toList_none, List.cons_append, List.nil_append]
  rw [below_loop hS hab ab 0 0 (by omega), List.drop_zero]
theorem c_tableOrNull (hS : SkAt M s h L z) {x : Int32} (Kn : (∀ i, i < h → x ≠ nI i) → Q (some .null) M z w) (Ks : ∀ i e, i < h → x = nI i → L[i]? = some e → Q (some (.ref e.1)) M z w) : WP d mTs_tableOrNull 0 [some (.ref s), some (.int x)] [] M z w Q := by
  have k1 := hS.1
  have k2 := hS.2.1
  have hh := hS.2.2.2.2.2.2.1
  have h9 := hS.2.2.2.2.2.1
  simp only [sTs_tableOrNull_0, sTs_tableOrNull_1, sTs_tableOrNull_4, sTs_tableOrNull_5, sTs_tableOrNull_6 k1 rfl, sTs_tableOrNull_9, sTs_tableOrNull_12, sTs_tableOrNull_13 k1 rfl, sTs_tableOrNull_16]
  by_cases h0 : x < nI 0
  · rw [if_pos h0, sTs_tableOrNull_21, sTs_tableOrNull_22n]
    refine Kn (fun i hi hx => ?_)
    rw [hx] at h0
    exact nI_pos (by omega) h0
  · rw [if_neg h0]
    obtain ⟨j, hj, rfl⟩ := nI_of h0
    by_cases hl : j < h
    · have he : L[j]? = some L[j] := List.getElem?_eq_getElem (by omega)
      generalize L[j] = e at he
      rw [if_neg (nI_ge hl (by omega)), sTs_tableOrNull_17 k2 (nI_toInt (n := j) (by omega)) (slv_at he), sTs_tableOrNull_18, sTs_tableOrNull_22]
      exact Ks j e hl rfl he
    · rw [if_pos (nI_le (by omega) hj), sTs_tableOrNull_21, sTs_tableOrNull_22n]
      refine Kn (fun i hi hx => ?_)
      rw [nI_eq hj (by omega)] at hx
      omega
end STK
