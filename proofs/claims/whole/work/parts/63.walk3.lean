/-! RefStack$Walk: restart, add, a new one; RefStack$Transaction -/
section WL3
variable {d a : Nat} {tm : Bool} {D : Nat → Prop} {srcs : List wsrc} {cur : xrow} {M : xM} {z w : Nat} {Q : Option Value → xM → Nat → Nat → Prop}
/-- a walk in any state -/
def WkI (M : xM) (a : Nat) (tm : Bool) : Prop := ∃ (n : Int32) (k : Int64) (t : Int32) (v : Int64) (arr : List Value) (nx : List Int32), M a = some (6, [.int (nI (if tm = true then 1 else 0)), .ref (a + 1), .ref (a + 2), .int n, .long k, .int t, .long v]) ∧ tN t < 2 ^ 31 ∧ arr.length = 9 ∧ nx.length = 9 ∧ M (a + 1) = some (24, arr) ∧ M (a + 2) = some (20, vi nx)
theorem WkI.kept {M M' : xM} (h : WkI M a tm) (h1 : ∀ q, a ≤ q → q < a + 3 → M' q = M q) : WkI M' a tm := by
  obtain ⟨n, k, t, v, arr, nx, k1, k2, k3, k4, k5, k6⟩ := h
  exact ⟨n, k, t, v, arr, nx, by rw [h1 _ (by omega) (by omega)]; exact k1, k2, k3, k4, by rw [h1 _ (by omega) (by omega)]; exact k5, by rw [h1 _ (by omega) (by omega)]; exact k6⟩
theorem WkAt.idle (h : WkAt M a tm D srcs cur) (hc : tN cur.2.1 < 2 ^ 31) : WkI M a tm := by
  obtain ⟨k1, k2, arr, nx, k3, k4, k5, k6, k7⟩ := h
  exact ⟨_, _, _, _, arr, nx, k1, hc, k3, k4, k5, k6⟩
theorem WkS.idle {S : List xrow} (h : WkS M a tm D cur S) : WkI M a tm := by
  obtain ⟨srcs, k1, k2, k3, k4⟩ := h
  exact k1.idle k4
theorem WkP.idle {P : List xrow} (h : WkP M a tm D cur P) : WkI M a tm := by
  obtain ⟨S, k1, k2⟩ := h
  exact k1.idle
theorem c_restart (h : WkI M a tm) (K : ∀ M' cur', WkAt M' a tm D [] cur' → cur'.1 = lN 0 → tN cur'.2.1 < 2 ^ 31 → Only M M' a 1 → Q none M' z w) : WP d mWk_restart 0 [some (.ref a)] [] M z w Q := by
  obtain ⟨n, k, t, v, arr, nx, k1, k2, k3, k4, k5, k6⟩ := h
  rw [sWk_restart_0, sWk_restart_1, sWk_restart_2 k1 rfl, sWk_restart_5, sWk_restart_6, sWk_restart_7 xput_same rfl, sWk_restart_10]
  refine K _ (lN 0, t, v) ⟨by rw [xput_same]; rfl, by simp, arr, nx, k3, k4, by rw [xput_ne (by omega), xput_ne (by omega)]; exact k5, by rw [xput_ne (by omega), xput_ne (by omega)]; exact k6, fun i s hs => by simp at hs⟩ rfl k2 (fun q hq => by rw [xput_ne (by omega), xput_ne (by omega)])
theorem c_walk_add {r room : Nat} {rows : List xrow} (h : WkAt M a tm D srcs cur) (hl : srcs.length < 9) (hr : RowsAt M r room rows) (h40 : room ≤ 40) (hd : r + 4 ≤ a ∨ a + 3 ≤ r) (hs : sT (fW tm) rows) (ho : ∀ x ∈ rows, rok x) (hD : ∀ q, r ≤ q → q < r + 4 → D q)
    (K : ∀ M', WkAt M' a tm D (srcs ++ [(r, room, rows, 0)]) cur → Only M M' a 3 → Q none M' z w) : WP d mWk_add 0 [some (.ref a), some (.ref r)] [] M z w Q := by
  obtain ⟨k1, k2, arr, nx, k3, k4, k5, k6, k7⟩ := h
  have hc := hr.cell
  have ti := nI_toInt (n := srcs.length) (by omega)
  simp only [sWk_add_0, sWk_add_1 k1 rfl, sWk_add_4, sWk_add_6, sWk_add_9, sWk_add_10 k1 rfl, sWk_add_13, sWk_add_14 k1 rfl, sWk_add_17]
  rw [if_neg (nI_ge (by omega) (by omega)), sWk_add_18r k5 hc ti (by omega)]
  have g1 : xput M (a + 1) (24, arr.set srcs.length (.ref r)) a = _ := (xput_ne (by omega)).trans k1
  have g6 : xput M (a + 1) (24, arr.set srcs.length (.ref r)) (a + 2) = _ := (xput_ne (by omega)).trans k6
  simp only [sWk_add_19, sWk_add_20 g1 rfl, sWk_add_23, sWk_add_24 g1 rfl, sWk_add_27]
  rw [sWk_add_28 g6 ti (by simp; omega), vi_set]
  have f1 : xput (xput M (a + 1) (24, arr.set srcs.length (.ref r))) (a + 2) (20, vi (nx.set srcs.length (nI 0))) a = _ := (xput_ne (by omega)).trans g1
  simp only [sWk_add_29, sWk_add_30, sWk_add_31 f1 rfl, sWk_add_34, sWk_add_35, nI_add]
  rw [sWk_add_36 f1 rfl, sWk_add_39]
  generalize hM : xput (xput (xput M (a + 1) _) (a + 2) _) a _ = M'
  have o : ∀ q, q ≠ a → q ≠ a + 1 → q ≠ a + 2 → M' q = M q := fun q q1 q2 q3 => by rw [← hM, xput_ne q1, xput_ne q3, xput_ne q2]
  refine K M' ⟨by rw [← hM, xput_same, List.length_append]; rfl, by simp; omega, arr.set srcs.length (.ref r), nx.set srcs.length (nI 0), by simp [k3], by simp [k4], ?_, ?_, fun i s hs' => ?_⟩ (fun q hq => o q (by omega) (by omega) (by omega))
  · rw [← hM, xput_ne (by omega), xput_ne (by omega), xput_same]
  · rw [← hM, xput_ne (by omega), xput_same]
  · by_cases hi : i < srcs.length
    · rw [List.getElem?_append_left hi] at hs'
      obtain ⟨i1, i2, i3, i4, i5, i6, i7, i8, i9⟩ := k7 i s hs'
      exact ⟨by rw [List.getElem?_set_ne (by omega)]; exact i1, by rw [List.getElem?_set_ne (by omega)]; exact i2, i3.kept (fun q q1 q2 => o q (by omega) (by omega) (by omega)), i4, i5, i6, i7, i8, i9⟩
    · have hi2 := (List.getElem?_eq_some_iff.mp hs').1
      simp only [List.length_append, List.length_singleton] at hi2
      have : i = srcs.length := by omega
      subst this
      rw [List.getElem?_append_right (Nat.le_refl _), Nat.sub_self] at hs'
      cases hs'
      exact ⟨by rw [List.getElem?_set_self (by omega)], by rw [List.getElem?_set_self (by omega)], hr.kept (fun q q1 q2 => o q (by omega) (by omega) (by omega)), Nat.zero_le _, h40, hd, hs, ho, hD⟩
theorem tmb (tm : Bool) : nI (if tm = true then 1 else 0) = 0 ∨ nI (if tm = true then 1 else 0) = 1 := by cases tm; exact Or.inl rfl; exact Or.inr rfl
theorem c_walk_init (h : M a = some (6, xDef 6)) (ha : z = a + 1) (K : ∀ M', WkI M' a tm → Only M M' a 3 → Q none M' (z + 2) (w + 18)) : WP (d + 1) mWk_init 0 [some (.ref a), some (.int (nI (if tm = true then 1 else 0)))] [] M z w Q := by
  subst ha
  simp only [sWk_init_0, sWk_init_1, sWk_init_4, sWk_init_5]
  rw [sWk_init_7 (nI_toInt (n := 9) (by omega)) (by omega), sWk_init_10 ((xput_ne (by omega)).trans h) rfl]
  simp only [sWk_init_13, sWk_init_14]
  rw [sWk_init_16 (nI_toInt (n := 9) (by omega)) (by omega), sWk_init_18 ((xput_ne (by omega)).trans xput_same) rfl, sWk_init_21, sWk_init_22, sWk_init_23 xput_same rfl (tmb tm), sWk_init_26]
  generalize hM : xput (xput (xput (xput (xput M (a + 1) _) a _) (a + 1 + 1) _) a _) a _ = M'
  have K' := K M' ⟨0, 0, 0, 0, List.replicate 9 .null, List.replicate 9 0, by rw [← hM, xput_same]; rfl, by decide, by simp, by simp, ?_, ?_⟩ (fun q hq => ?_)
  · rw [show a + 1 + 2 = a + 1 + 1 + 1 by omega, show w + 18 = w + 9 + 9 by omega]; exact K'
  · rw [← hM, xput_ne (by omega), xput_ne (by omega), xput_ne (by omega), xput_ne (by omega), xput_same]
  · rw [← hM, xput_ne (by omega), xput_ne (by omega), xput_same]; rfl
  · rw [← hM, xput_ne (by omega), xput_ne (by omega), xput_ne (by omega), xput_ne (by omega), xput_ne (by omega)]
/-- a change: key, expected, content -/
abbrev achg : Type := Nat × Int32 × Int
def TxAt (M : xM) (t : Nat) (op : Bool) (cs : List achg) : Prop := cs.length ≤ 6 ∧ M t = some (5, [.ref (t + 1), .ref (t + 2), .ref (t + 3), .int (nI cs.length), .int (nI (if op = true then 1 else 0))]) ∧ ∃ (kl : List Int64) (el : List Int32) (cl : List Int64), kl.length = 6 ∧ el.length = 6 ∧ cl.length = 6 ∧ M (t + 1) = some (21, vl kl) ∧ M (t + 2) = some (20, vi el) ∧ M (t + 3) = some (21, vl cl) ∧
  ∀ (i : Nat) (c : achg), cs[i]? = some c → kl[i]? = some (lN c.1) ∧ el[i]? = some c.2.1 ∧ cl[i]? = some (rawC c.2.2)
theorem TxAt.kept {M M' : xM} {t : Nat} {op : Bool} {cs : List achg} (h : TxAt M t op cs) (hq : ∀ q, t ≤ q → q < t + 4 → M' q = M q) : TxAt M' t op cs := by
  obtain ⟨h1, h2, kl, el, cl, h3, h4, h5, h6, h7, h8, h9⟩ := h
  exact ⟨h1, by rw [hq _ (by omega) (by omega)]; exact h2, kl, el, cl, h3, h4, h5, by rw [hq _ (by omega) (by omega)]; exact h6, by rw [hq _ (by omega) (by omega)]; exact h7, by rw [hq _ (by omega) (by omega)]; exact h8, h9⟩
theorem c_tx_init {t : Nat} (h : M t = some (5, xDef 5)) (ha : z = t + 1) (K : ∀ M', TxAt M' t false [] → Only M M' t 4 → Q none M' (z + 3) (w + 18)) : WP (d + 1) mTx_init 0 [some (.ref t)] [] M z w Q := by
  subst ha
  simp only [sTx_init_0, sTx_init_1, sTx_init_4, sTx_init_5]
  have t6 := nI_toInt (n := 6) (by omega)
  rw [sTx_init_7 t6 (by omega), sTx_init_9 ((xput_ne (by omega)).trans h) rfl, sTx_init_12, sTx_init_13, sTx_init_15 t6 (by omega), sTx_init_17 ((xput_ne (by omega)).trans xput_same) rfl, sTx_init_20, sTx_init_21, sTx_init_23 t6 (by omega), sTx_init_25 ((xput_ne (by omega)).trans xput_same) rfl, sTx_init_28]
  generalize hM : xput (xput (xput (xput (xput (xput M (t + 1) _) t _) (t + 1 + 1) _) t _) (t + 1 + 1 + 1) _) t _ = M'
  have K' := K M' ⟨by simp, by rw [← hM, xput_same]; rfl, List.replicate 6 0, List.replicate 6 0, List.replicate 6 0, by simp, by simp, by simp, ?_, ?_, ?_, fun i c hc => by simp at hc⟩ (fun q hq => ?_)
  · rw [show t + 1 + 3 = t + 1 + 1 + 1 + 1 by omega, show w + 18 = w + 6 + 6 + 6 by omega]; exact K'
  · rw [← hM, xput_ne (by omega), xput_ne (by omega), xput_ne (by omega), xput_ne (by omega), xput_ne (by omega), xput_same]; rfl
  · rw [← hM, xput_ne (by omega), xput_ne (by omega), xput_ne (by omega), show t + 2 = t + 1 + 1 by omega, xput_same]; rfl
  · rw [← hM, xput_ne (by omega), show t + 3 = t + 1 + 1 + 1 by omega, xput_same]; rfl
  · rw [← hM, xput_ne (by omega), xput_ne (by omega), xput_ne (by omega), xput_ne (by omega), xput_ne (by omega), xput_ne (by omega)]
def ckeys (cs : List achg) (k : Nat) : Bool := cs.any (fun c => c.1 == k)
theorem changes_loop {t k : Nat} {op : Bool} {cs : List achg} (h : TxAt M t op cs) (hk : k < 2 ^ 60) (hcs : ∀ c ∈ cs, c.1 < 2 ^ 60) : ∀ (r i : Nat), i + r = cs.length →
    (WP d mTx_changes 2 [some (.ref t), some (.long (lN k)), none, some (.int (nI i))] [] M z w Q ↔ Q (some (.int (nI (if ckeys (cs.drop i) k = true then 1 else 0)))) M z w) := by
  obtain ⟨h1, h2, kl, el, cl, h3, h4, h5, h6, h7, h8, h9⟩ := h
  intro r
  induction r with
  | zero =>
    intro i hi
    rw [sTx_changes_2]
    simp only [sTx_changes_3, sTx_changes_4 h2 rfl, sTx_changes_7, sTx_changes_29, sTx_changes_30 xb0, sTx_changes_30 xb1]
    rw [if_pos (nI_le (by omega) (by omega)), List.drop_eq_nil_of_le (by omega)]
    rfl
  | succ r ih =>
    intro i hi
    have hc : cs[i]? = some cs[i] := List.getElem?_eq_getElem (by omega)
    have hm : cs[i] ∈ cs := List.getElem_mem _
    rw [List.drop_eq_getElem_cons (by omega)]
    generalize cs[i] = c at hc hm
    obtain ⟨q1, q2, q3⟩ := h9 i c hc
    rw [sTx_changes_2]
    simp only [sTx_changes_3, sTx_changes_4 h2 rfl, sTx_changes_7, sTx_changes_10, sTx_changes_11 h2 rfl, sTx_changes_14]
    rw [if_neg (nI_ge (by omega) (by omega)), sTx_changes_15 h6 (nI_toInt (n := i) (by omega)) (v := .long (lN c.1)) (by simp [q1])]
    have e := lN_inj (a := c.1) (b := k) (by have := hcs c hm; omega) (by omega)
    simp only [sTx_changes_16, sTx_changes_17, sTx_changes_18, sTx_changes_21, sTx_changes_22 xb0, sTx_changes_22 xb1, sTx_changes_23, sTx_changes_26, lcmp_eq, lcmp_lt, lcmp_ge, lcmp_gt, lcmp_le, xk_i, xk_l, xk_a, xk_n, xk_0, Option.toList_some, Option.toList_none, List.cons_append, List.nil_append, e, nI_add]
    rw [ih (i + 1) (by omega)]
    by_cases hq : c.1 = k
    · rw [if_pos hq]; simp [ckeys, hq]
    · have e3 : ckeys (c :: List.drop (i + 1) cs) k = ckeys (List.drop (i + 1) cs) k := by simp [ckeys, hq]
      rw [if_neg hq, e3]
theorem c_changes {t k : Nat} {op : Bool} {cs : List achg} (h : TxAt M t op cs) (hk : k < 2 ^ 60) (hcs : ∀ c ∈ cs, c.1 < 2 ^ 60) : WP d mTx_changes 0 [some (.ref t), some (.long (lN k)), none, none] [] M z w Q ↔ Q (some (.int (nI (if ckeys cs k = true then 1 else 0)))) M z w := by
  simp only [sTx_changes_0, sTx_changes_1, xk_i, xk_l, xk_a, xk_n, xk_0, Option.toList_some, Option.toList_none, List.cons_append, List.nil_append]
  rw [changes_loop h hk hcs cs.length 0 (by omega), List.drop_zero]
set_option maxHeartbeats 1000000 in
theorem c_tx_add {t k : Nat} {op : Bool} {cs : List achg} {e : Int32} {c : Int} (h : TxAt M t op cs) (hk : k < 2 ^ 60) (hcs : ∀ c ∈ cs, c.1 < 2 ^ 60)
    (K0 : (op = false ∨ k = 0 ∨ cs.length = 6 ∨ ckeys cs k = true) → Q (some (.int (nI 0))) M z w)
    (K1 : op = true → k ≠ 0 → cs.length < 6 → ckeys cs k = false → ∀ M', TxAt M' t op (cs ++ [(k, e, c)]) → Only M M' t 4 → Q (some (.int (nI 1))) M' z w) :
    WP (d + 1) mTx_add 0 [some (.ref t), some (.long (lN k)), none, some (.int e), some (.long (rawC c)), none] [] M z w Q := by
  have h0 := h
  obtain ⟨h1, h2, kl, el, cl, h3, h4, h5, h6, h7, h8, h9⟩ := h0
  have q0 := lN_inj (a := k) (b := 0) (by omega) (by omega)
  simp only [sTx_add_0, sTx_add_1 h2 rfl, sTx_add_4, sTx_add_7, sTx_add_8, sTx_add_9, sTx_add_10, sTx_add_13, sTx_add_14 h2 rfl, sTx_add_17, sTx_add_19, sTx_add_22, sTx_add_23, sTx_add_30, sTx_add_31 xb0, sTx_add_31 xb1, lcmp_eq, lcmp_lt, lcmp_ge, lcmp_gt, lcmp_le, q0]
  cases op with
  | false => rw [if_pos (show nI (if false = true then 1 else 0) = nI 0 from rfl)]; exact K0 (Or.inl rfl)
  | true =>
    rw [if_neg (by decide)]
    by_cases hz : k = 0
    · rw [if_pos hz]; exact K0 (Or.inr (Or.inl hz))
    · rw [if_neg hz]
      by_cases hl : 6 ≤ cs.length
      · rw [if_pos (nI_le hl (by omega))]; exact K0 (Or.inr (Or.inr (Or.inl (by omega))))
      · rw [if_neg (nI_ge (by omega) (by omega)), sTx_add_24 h2, c_changes h hk hcs]
        simp only [sTx_add_27, sTx_add_30, sTx_add_31 xb0, sTx_add_31 xb1, xk_i, xk_l, xk_a, xk_n, xk_0, Option.toList_some, Option.toList_none, List.cons_append, List.nil_append]
        cases hq : ckeys cs k with
        | true => rw [if_neg (by decide)]; exact K0 (Or.inr (Or.inr (Or.inr hq)))
        | false =>
          rw [if_pos (show nI (if false = true then 1 else 0) = nI 0 from rfl)]
          have ti := nI_toInt (n := cs.length) (by omega)
          simp only [sTx_add_32, sTx_add_33 h2 rfl, sTx_add_36, sTx_add_37 h2 rfl, sTx_add_40]
          rw [sTx_add_41 h6 ti (by simp; omega), vl_set]
          have g2 : xput M (t + 1) (21, vl (kl.set cs.length (lN k))) t = _ := (xput_ne (by omega)).trans h2
          simp only [sTx_add_42, sTx_add_43 g2 rfl, sTx_add_46, sTx_add_47 g2 rfl, sTx_add_50]
          rw [sTx_add_51 ((xput_ne (by omega)).trans h7) ti (by simp; omega), vi_set]
          have f2 : xput (xput M (t + 1) (21, vl (kl.set cs.length (lN k)))) (t + 2) (20, vi (el.set cs.length e)) t = _ := (xput_ne (by omega)).trans g2
          simp only [sTx_add_52, sTx_add_53 f2 rfl, sTx_add_56, sTx_add_57 f2 rfl, sTx_add_60]
          rw [sTx_add_62 ((xput_ne (by omega)).trans ((xput_ne (by omega)).trans h8)) ti (by simp; omega), vl_set]
          have e2 : xput (xput (xput M (t + 1) (21, vl (kl.set cs.length (lN k)))) (t + 2) (20, vi (el.set cs.length e))) (t + 3) (21, vl (cl.set cs.length (rawC c))) t = _ := (xput_ne (by omega)).trans f2
          simp only [sTx_add_63, sTx_add_64, sTx_add_65 e2 rfl, sTx_add_68, sTx_add_69, nI_add]
          rw [sTx_add_70 e2 rfl, sTx_add_73, sTx_add_74 xb1]
          generalize hM : xput (xput (xput (xput M (t + 1) _) (t + 2) _) (t + 3) _) t _ = M'
          refine K1 rfl hz (by omega) hq M' ⟨by simp; omega, by rw [← hM, xput_same, List.length_append]; rfl, kl.set cs.length (lN k), el.set cs.length e, cl.set cs.length (rawC c), by simp [h3], by simp [h4], by simp [h5], ?_, ?_, ?_, fun i c' hc' => ?_⟩ (fun q hq => by rw [← hM, xput_ne (by omega), xput_ne (by omega), xput_ne (by omega), xput_ne (by omega)])
          · rw [← hM, xput_ne (by omega), xput_ne (by omega), xput_ne (by omega), xput_same]
          · rw [← hM, xput_ne (by omega), xput_ne (by omega), xput_same]
          · rw [← hM, xput_ne (by omega), xput_same]
          · by_cases hi : i < cs.length
            · rw [List.getElem?_append_left hi] at hc'
              rw [List.getElem?_set_ne (by omega), List.getElem?_set_ne (by omega), List.getElem?_set_ne (by omega)]
              exact h9 i c' hc'
            · have hi2 := (List.getElem?_eq_some_iff.mp hc').1
              simp only [List.length_append, List.length_singleton] at hi2
              have : i = cs.length := by omega
              subst this
              rw [List.getElem?_append_right (Nat.le_refl _), Nat.sub_self] at hc'
              cases hc'
              rw [List.getElem?_set_self (by omega), List.getElem?_set_self (by omega), List.getElem?_set_self (by omega)]
              exact ⟨rfl, rfl, rfl⟩
/-- the change with the least key above v: among the first i -/
def fabI (cs : List achg) (v i : Nat) : Option Nat → Prop
  | none => ∀ q c, q < i → cs[q]? = some c → ¬ v < c.1
  | some j => j < i ∧ ∃ c, cs[j]? = some c ∧ v < c.1 ∧ ∀ q c', q < i → cs[q]? = some c' → v < c'.1 → c.1 ≤ c'.1 ∧ (q < j → c.1 ≠ c'.1)
def oI : Option Nat → Int32
  | none => -1
  | some j => nI j
theorem oI_neg {b : Option Nat} (h : ∀ j, b = some j → j < 2 ^ 31) : oI b < nI 0 ↔ b = none := by
  cases b with
  | none => simp only [oI, iff_true]; decide
  | some j => simp only [oI, reduceCtorEq, iff_false]; exact nI_pos (h j rfl)
theorem nIm1 : nI 0 - nI 1 = -1 := by decide
set_option maxHeartbeats 1000000 in
theorem fab_loop {t v : Nat} {op : Bool} {cs : List achg} (h : TxAt M t op cs) (hv : v < 2 ^ 60) (hcs : ∀ c ∈ cs, c.1 < 2 ^ 60) (K : ∀ b, fabI cs v cs.length b → Q (some (.int (oI b))) M z w) : ∀ (r i : Nat) (b : Option Nat), i + r = cs.length → fabI cs v i b →
    WP d mTx_firstAbove 5 [some (.ref t), some (.long (lN v)), none, some (.int (oI b)), some (.int (nI i))] [] M z w Q := by
  obtain ⟨h1, h2, kl, el, cl, h3, h4, h5, h6, h7, h8, h9⟩ := h
  intro r
  induction r with
  | zero =>
    intro i b hi hb
    have : i = cs.length := by omega
    subst this
    rw [sTx_firstAbove_5]
    simp only [sTx_firstAbove_7, sTx_firstAbove_8 h2 rfl, sTx_firstAbove_11, sTx_firstAbove_56, sTx_firstAbove_57]
    rw [if_pos (nI_le (by omega) (by omega))]
    exact K b hb
  | succ r ih =>
    intro i b hi hb
    have hc : cs[i]? = some cs[i] := List.getElem?_eq_getElem (by omega)
    have hm : cs[i] ∈ cs := List.getElem_mem _
    generalize cs[i] = c at hc hm
    obtain ⟨q1, q2, q3⟩ := h9 i c hc
    have hck := hcs c hm
    have ti := nI_toInt (n := i) (by omega)
    have hkl : (vl kl)[i]? = some (.long (lN c.1)) := by simp [q1]
    have e := pk_lLE (a := c.1) (b := v) (by omega) (by omega)
    have hbj : ∀ j, b = some j → j < i := fun j hj => by subst hj; exact hb.1
    have hneg := oI_neg (b := b) (fun j hj => by have := hbj j hj; omega)
    rw [sTx_firstAbove_5]
    simp only [sTx_firstAbove_7, sTx_firstAbove_8 h2 rfl, sTx_firstAbove_11, sTx_firstAbove_14, sTx_firstAbove_15 h2 rfl, sTx_firstAbove_18]
    rw [if_neg (nI_ge (by omega) (by omega)), sTx_firstAbove_20 h6 ti hkl]
    simp only [sTx_firstAbove_21, sTx_firstAbove_22, sTx_firstAbove_23, sTx_firstAbove_26, sTx_firstAbove_27, sTx_firstAbove_30, sTx_firstAbove_31 h2 rfl, sTx_firstAbove_34, sTx_firstAbove_47, sTx_firstAbove_49, sTx_firstAbove_50, sTx_firstAbove_53, lcmp_eq, lcmp_lt, lcmp_ge, lcmp_gt, lcmp_le, xk_i, xk_l, xk_a, xk_n, xk_0, Option.toList_some, Option.toList_none, List.cons_append, List.nil_append, e, hneg, nI_add]
    by_cases hle : c.1 ≤ v
    · rw [if_pos hle]
      refine ih (i + 1) b (by omega) ?_
      cases b with
      | none =>
        intro q c' hq hc'
        by_cases hqi : q = i
        · subst hqi; rw [hc] at hc'; cases hc'; omega
        · exact hb q c' (by omega) hc'
      | some j =>
        obtain ⟨k1, cj, k2, k3, k4⟩ := hb
        refine ⟨by omega, cj, k2, k3, fun q c' hq hc' hl => ?_⟩
        by_cases hqi : q = i
        · subst hqi; rw [hc] at hc'; cases hc'; omega
        · exact k4 q c' (by omega) hc' hl
    · rw [if_neg hle]
      cases b with
      | none =>
        rw [if_pos rfl]
        refine ih (i + 1) (some i) (by omega) ⟨by omega, c, hc, by omega, fun q c' hq hc' hl => ?_⟩
        by_cases hqi : q = i
        · subst hqi; rw [hc] at hc'; cases hc'; exact ⟨Nat.le_refl _, fun z => absurd z (Nat.lt_irrefl _)⟩
        · exact absurd hl (hb q c' (by omega) hc')
      | some j =>
        obtain ⟨k1, cj, k2, k3, k4⟩ := hb
        obtain ⟨p1, p2, p3⟩ := h9 j cj k2
        have hcj := hcs cj (List.mem_of_getElem? k2)
        rw [if_neg (by intro z; cases z), sTx_firstAbove_36 h6 ti hkl]
        simp only [oI, sTx_firstAbove_37, sTx_firstAbove_38 h2 rfl, sTx_firstAbove_41]
        rw [sTx_firstAbove_42 h6 (nI_toInt (n := j) (by omega)) (v := .long (lN cj.1)) (by simp [p1])]
        have e2 := pk_lLE (a := cj.1) (b := c.1) (by omega) (by omega)
        simp only [sTx_firstAbove_43, sTx_firstAbove_44, sTx_firstAbove_47, sTx_firstAbove_49, sTx_firstAbove_50, sTx_firstAbove_53, lcmp_eq, lcmp_lt, lcmp_ge, lcmp_gt, lcmp_le, xk_i, xk_l, xk_a, xk_n, xk_0, Option.toList_some, Option.toList_none, List.cons_append, List.nil_append, e2, nI_add]
        by_cases hcc : cj.1 ≤ c.1
        · rw [if_pos hcc]
          refine ih (i + 1) (some j) (by omega) ⟨by omega, cj, k2, k3, fun q c' hq hc' hl => ?_⟩
          by_cases hqi : q = i
          · subst hqi; rw [hc] at hc'; cases hc'; exact ⟨hcc, fun z => by omega⟩
          · exact k4 q c' (by omega) hc' hl
        · rw [if_neg hcc]
          refine ih (i + 1) (some i) (by omega) ⟨by omega, c, hc, by omega, fun q c' hq hc' hl => ?_⟩
          by_cases hqi : q = i
          · subst hqi; rw [hc] at hc'; cases hc'; exact ⟨Nat.le_refl _, fun z => absurd z (Nat.lt_irrefl _)⟩
          · have := (k4 q c' (by omega) hc' hl).1
            exact ⟨by omega, fun _ => by omega⟩
theorem c_firstAbove {t v : Nat} {op : Bool} {cs : List achg} (h : TxAt M t op cs) (hv : v < 2 ^ 60) (hcs : ∀ c ∈ cs, c.1 < 2 ^ 60) (K : ∀ b, fabI cs v cs.length b → Q (some (.int (oI b))) M z w) : WP d mTx_firstAbove 0 [some (.ref t), some (.long (lN v)), none, none, none] [] M z w Q := by
  simp only [sTx_firstAbove_0, sTx_firstAbove_1, sTx_firstAbove_2, sTx_firstAbove_3, xk_i, xk_l, xk_a, xk_n, xk_0, Option.toList_some, Option.toList_none, List.cons_append, List.nil_append]
  exact fab_loop h hv hcs K cs.length 0 none (by omega) (fun q c hq => absurd hq (by omega))
end WL3
