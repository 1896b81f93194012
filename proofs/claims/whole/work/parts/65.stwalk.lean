/-! RefStack$TableStack: walks -/
theorem wrem_len {M : xM} {a : Nat} {tm : Bool} {D : Nat → Prop} {cur : xrow} {srcs : List wsrc} (h : WkAt M a tm D srcs cur) : (wrem srcs).length ≤ 40 * srcs.length := by
  have hb : ∀ s ∈ srcs, (srm s).length ≤ 40 := by
    intro s hs
    obtain ⟨q, hq⟩ := List.mem_iff_getElem?.mp hs
    obtain ⟨-, -, arr, nx, -, -, -, -, k7⟩ := h
    obtain ⟨-, -, j3, -, j5, -⟩ := k7 q s hq
    obtain ⟨_, _, _, _, _, _, q4, _⟩ := j3
    unfold srm
    rw [List.length_drop]
    omega
  clear h
  induction srcs with
  | nil => simp [wrem]
  | cons s t ih =>
    have e : wrem (s :: t) = srm s ++ wrem t := by unfold wrem; rw [List.flatMap_cons]
    have h1 := ih (fun x hx => hb x (List.mem_cons_of_mem _ hx))
    have h2 := hb s List.mem_cons_self
    rw [e, List.length_append, List.length_cons]
    omega
section STW
variable {d s h : Nat} {L : List (Nat × tS)} {M : xM} {z w : Nat} {Q : Option Value → xM → Nat → Nat → Prop}
theorem SkAt.walkfalse {M' : xM} (hS : SkAt M s h L z) (hO : Only M M' (s + 3) 3) (hI : WkI M' (s + 3) false) : SkAt M' s h L z := by
  obtain ⟨k1, k2, ⟨v, f, k3⟩, k4, k5, k6, k7, k8, k9⟩ := hS
  exact ⟨by rw [hO _ (by omega)]; exact k1, by rw [hO _ (by omega)]; exact k2, ⟨v, f, by rw [hO _ (by omega)]; exact k3⟩, hI, k5.kept (fun q a b => hO q (by omega)), k6, k7, fun i e he => ⟨(k8 i e he).1, (k8 i e he).2.1, (k8 i e he).2.2.kept (fun q a b => hO q (by have := (k8 i e he).1; omega))⟩, k9⟩
theorem SkAt.walktrue {M' : xM} (hS : SkAt M s h L z) (hO : Only M M' (s + 6) 3) (hI : WkI M' (s + 6) true) : SkAt M' s h L z := by
  obtain ⟨k1, k2, ⟨v, f, k3⟩, k4, k5, k6, k7, k8, k9⟩ := hS
  exact ⟨by rw [hO _ (by omega)]; exact k1, by rw [hO _ (by omega)]; exact k2, ⟨v, f, by rw [hO _ (by omega)]; exact k3⟩, k4.kept (fun q a b => hO q (by omega)), hI, k6, k7, fun i e he => ⟨(k8 i e he).1, (k8 i e he).2.1, (k8 i e he).2.2.kept (fun q a b => hO q (by have := (k8 i e he).1; omega))⟩, k9⟩
theorem wkr_loop {D : Nat → Prop} {ab lo : Nat} {M0 : xM} (hab : ab ≤ L.length) (h9 : L.length ≤ 9) (hok : ∀ e ∈ (L.take ab).drop lo, sT (fW false) e.2.2.2.2.2.1 ∧ ∀ r ∈ e.2.2.2.2.2.1, rok r) (hD : ∀ e ∈ (L.take ab).drop lo, ∀ q, e.1 ≤ q → q < e.1 + 10 → D q)
    (K : ∀ M' cur, WkS M' (s + 3) false D cur (sS (fW false) (((L.take ab).drop lo).reverse.flatMap (fun e => e.2.2.2.2.2.1))) → cur.1 = lN 0 → Only M0 M' (s + 3) 3 → Q (some (.ref (s + 3))) M' z w) :
    ∀ (r n : Nat) (M : xM) (srcs : List wsrc) (cur : xrow) (i3 : Int32), n = lo + r → n ≤ ab → i3 = nI n - nI 1 → SkAt M s h L z → WkAt M (s + 3) false D srcs cur → cur.1 = lN 0 → tN cur.2.1 < 2 ^ 31 → srcs.length = ab - n → wrem srcs = (((L.take ab).drop n).reverse.flatMap (fun e => e.2.2.2.2.2.1)) → Only M0 M (s + 3) 3 →
    WP (d + 2) mTs_walkRecords 11 [some (.ref s), some (.int (nI lo)), some (.int (nI ab)), some (.int i3)] [] M z w Q := by
  intro r
  induction r with
  | zero =>
    intro n M srcs cur i3 hn hnab h3 hS hW hc0 hc hsl hwr hO
    have : n = lo := by omega
    subst this
    have k1 := hS.1
    rw [sTs_walkRecords_11]
    have hlt : i3 < nI n := by
      rw [h3]
      cases n with
      | zero => decide
      | succ n => rw [pk_sub (by omega), Nat.add_sub_cancel]; exact nI_lt (by omega) (by omega)
    simp only [sTs_walkRecords_12, sTs_walkRecords_13, sTs_walkRecords_37, sTs_walkRecords_38 k1 rfl, sTs_walkRecords_41]
    rw [if_pos hlt]
    refine K M cur ⟨srcs, hW, by rw [hwr], ?_, hc⟩ hc0 hO
    rw [sS_len, ← hwr]
    have := wrem_len (srcs := srcs) hW
    have := hW.2.1
    omega
  | succ r ih =>
    intro n M srcs cur i3 hn hnab h3 hS hW hc0 hc hsl hwr hO
    obtain ⟨n, rfl⟩ : ∃ k, n = k + 1 := ⟨lo + r, by omega⟩
    have k1 := hS.1
    rw [pk_sub (by omega), Nat.add_sub_cancel] at h3
    subst h3
    have he : L[n]? = some L[n] := List.getElem?_eq_getElem (by omega)
    have hmem : L[n] ∈ (L.take ab).drop lo := by
      rw [List.mem_iff_getElem?]
      exact ⟨n - lo, by rw [List.getElem?_drop, List.getElem?_take, if_pos (by omega), show lo + (n - lo) = n by omega]; exact he⟩
    generalize L[n] = e at he hmem
    have hdr : (L.take ab).drop n = e :: (L.take ab).drop (n + 1) := take_at (by omega) he
    rw [sTs_walkRecords_11]
    simp only [sTs_walkRecords_12, sTs_walkRecords_13, sTs_walkRecords_16, sTs_walkRecords_17 k1 rfl, sTs_walkRecords_20, sTs_walkRecords_21]
    rw [if_neg (nI_nlt (by omega) (by omega)), sTs_walkRecords_22 k1, c_tableIn hS he]
    have hT := hS.tab he
    have hcl := hT.cell
    have hloc := hS.2.2.2.2.2.2.2.1 n e he
    simp only [sTs_walkRecords_25 hcl rfl, xk_i, xk_l, xk_a, xk_n, xk_0, Option.toList_some, Option.toList_none, List.cons_append, List.nil_append]
    rw [sTs_walkRecords_28 hW.1]
    refine c_walk_add hW (by omega) hT.recs (by omega) (by omega) (hok e hmem).1 (hok e hmem).2 (fun q q1 q2 => hD e hmem q (by omega) (by omega)) (fun M1 hW1 hO1 => ?_)
    simp only [sTs_walkRecords_31, sTs_walkRecords_34, xk_i, xk_l, xk_a, xk_n, xk_0, Option.toList_some, Option.toList_none, List.cons_append, List.nil_append]
    refine ih n M1 _ cur _ (by omega) (by omega) (Int32.sub_eq_add_neg ..).symm (hS.walkfalse hO1 (hW1.idle hc)) hW1 hc0 hc (by simp; omega) ?_ (hO.trans hO1)
    rw [hdr, List.reverse_cons, List.flatMap_append, ← hwr]
    unfold wrem
    rw [List.flatMap_append]
    simp [srm]
theorem c_walkRecords {D : Nat → Prop} {ab lo : Nat} (hS : SkAt M s h L z) (hab : ab ≤ L.length) (hlo : lo ≤ ab) (hok : ∀ e ∈ (L.take ab).drop lo, sT (fW false) e.2.2.2.2.2.1 ∧ ∀ r ∈ e.2.2.2.2.2.1, rok r) (hD : ∀ e ∈ (L.take ab).drop lo, ∀ q, e.1 ≤ q → q < e.1 + 10 → D q)
    (K : ∀ M' cur, WkS M' (s + 3) false D cur (sS (fW false) (((L.take ab).drop lo).reverse.flatMap (fun e => e.2.2.2.2.2.1))) → cur.1 = lN 0 → Only M M' (s + 3) 3 → Q (some (.ref (s + 3))) M' z w) :
    WP (d + 2) mTs_walkRecords 0 [some (.ref s), some (.int (nI lo)), some (.int (nI ab)), none] [] M z w Q := by
  have k1 := hS.1
  have hI := hS.2.2.2.1
  have hI0 := hI
  obtain ⟨_, _, _, _, _, _, hcw, _⟩ := hI0
  simp only [sTs_walkRecords_0, sTs_walkRecords_1 k1 rfl]
  rw [sTs_walkRecords_4 hcw]
  refine c_restart (D := D) hI (fun M1 cur hW hc0 hc hO => ?_)
  have hO3 : Only M M1 (s + 3) 3 := fun q hq => hO q (by omega)
  simp only [sTs_walkRecords_7, sTs_walkRecords_8, sTs_walkRecords_9, sTs_walkRecords_10, xk_i, xk_l, xk_a, xk_n, xk_0, Option.toList_some, Option.toList_none, List.cons_append, List.nil_append]
  have h9 := hS.2.2.2.2.2.1
  refine wkr_loop hab h9 hok hD K (ab - lo) ab M1 [] cur _ (by omega) (Nat.le_refl _) rfl (hS.walkfalse hO3 (hW.idle hc)) hW hc0 hc (by simp) ?_ hO3
  rw [List.drop_eq_nil_of_le (by simp; omega)]
  rfl
theorem wke_loop {D : Nat → Prop} {ab lo : Nat} {M0 : xM} (hab : ab ≤ L.length) (h9 : L.length ≤ 9) (hok : ∀ e ∈ (L.take ab).drop lo, sT (fW true) e.2.2.2.2.2.2 ∧ ∀ r ∈ e.2.2.2.2.2.2, rok r) (hD : ∀ e ∈ (L.take ab).drop lo, ∀ q, e.1 ≤ q → q < e.1 + 10 → D q)
    (K : ∀ M' cur, WkS M' (s + 6) true D cur (sS (fW true) (((L.take ab).drop lo).reverse.flatMap (fun e => e.2.2.2.2.2.2))) → cur.1 = lN 0 → Only M0 M' (s + 6) 3 → Q (some (.ref (s + 6))) M' z w) :
    ∀ (r n : Nat) (M : xM) (srcs : List wsrc) (cur : xrow) (i3 : Int32), n = lo + r → n ≤ ab → i3 = nI n - nI 1 → SkAt M s h L z → WkAt M (s + 6) true D srcs cur → cur.1 = lN 0 → tN cur.2.1 < 2 ^ 31 → srcs.length = ab - n → wrem srcs = (((L.take ab).drop n).reverse.flatMap (fun e => e.2.2.2.2.2.2)) → Only M0 M (s + 6) 3 →
    WP (d + 2) mTs_walkEntries 11 [some (.ref s), some (.int (nI lo)), some (.int (nI ab)), some (.int i3)] [] M z w Q := by
  intro r
  induction r with
  | zero =>
    intro n M srcs cur i3 hn hnab h3 hS hW hc0 hc hsl hwr hO
    have : n = lo := by omega
    subst this
    have k1 := hS.1
    rw [sTs_walkEntries_11]
    have hlt : i3 < nI n := by
      rw [h3]
      cases n with
      | zero => decide
      | succ n => rw [pk_sub (by omega), Nat.add_sub_cancel]; exact nI_lt (by omega) (by omega)
    simp only [sTs_walkEntries_12, sTs_walkEntries_13, sTs_walkEntries_37, sTs_walkEntries_38 k1 rfl, sTs_walkEntries_41]
    rw [if_pos hlt]
    refine K M cur ⟨srcs, hW, by rw [hwr], ?_, hc⟩ hc0 hO
    rw [sS_len, ← hwr]
    have := wrem_len (srcs := srcs) hW
    have := hW.2.1
    omega
  | succ r ih =>
    intro n M srcs cur i3 hn hnab h3 hS hW hc0 hc hsl hwr hO
    obtain ⟨n, rfl⟩ : ∃ k, n = k + 1 := ⟨lo + r, by omega⟩
    have k1 := hS.1
    rw [pk_sub (by omega), Nat.add_sub_cancel] at h3
    subst h3
    have he : L[n]? = some L[n] := List.getElem?_eq_getElem (by omega)
    have hmem : L[n] ∈ (L.take ab).drop lo := by
      rw [List.mem_iff_getElem?]
      exact ⟨n - lo, by rw [List.getElem?_drop, List.getElem?_take, if_pos (by omega), show lo + (n - lo) = n by omega]; exact he⟩
    generalize L[n] = e at he hmem
    have hdr : (L.take ab).drop n = e :: (L.take ab).drop (n + 1) := take_at (by omega) he
    rw [sTs_walkEntries_11]
    simp only [sTs_walkEntries_12, sTs_walkEntries_13, sTs_walkEntries_16, sTs_walkEntries_17 k1 rfl, sTs_walkEntries_20, sTs_walkEntries_21]
    rw [if_neg (nI_nlt (by omega) (by omega)), sTs_walkEntries_22 k1, c_tableIn hS he]
    have hT := hS.tab he
    have hcl := hT.cell
    have hloc := hS.2.2.2.2.2.2.2.1 n e he
    simp only [sTs_walkEntries_25 hcl rfl, xk_i, xk_l, xk_a, xk_n, xk_0, Option.toList_some, Option.toList_none, List.cons_append, List.nil_append]
    rw [sTs_walkEntries_28 hW.1]
    refine c_walk_add hW (by omega) hT.ents (by omega) (by omega) (hok e hmem).1 (hok e hmem).2 (fun q q1 q2 => hD e hmem q (by omega) (by omega)) (fun M1 hW1 hO1 => ?_)
    simp only [sTs_walkEntries_31, sTs_walkEntries_34, xk_i, xk_l, xk_a, xk_n, xk_0, Option.toList_some, Option.toList_none, List.cons_append, List.nil_append]
    refine ih n M1 _ cur _ (by omega) (by omega) (Int32.sub_eq_add_neg ..).symm (hS.walktrue hO1 (hW1.idle hc)) hW1 hc0 hc (by simp; omega) ?_ (hO.trans hO1)
    rw [hdr, List.reverse_cons, List.flatMap_append, ← hwr]
    unfold wrem
    rw [List.flatMap_append]
    simp [srm]
theorem c_walkEntries {D : Nat → Prop} {ab lo : Nat} (hS : SkAt M s h L z) (hab : ab ≤ L.length) (hlo : lo ≤ ab) (hok : ∀ e ∈ (L.take ab).drop lo, sT (fW true) e.2.2.2.2.2.2 ∧ ∀ r ∈ e.2.2.2.2.2.2, rok r) (hD : ∀ e ∈ (L.take ab).drop lo, ∀ q, e.1 ≤ q → q < e.1 + 10 → D q)
    (K : ∀ M' cur, WkS M' (s + 6) true D cur (sS (fW true) (((L.take ab).drop lo).reverse.flatMap (fun e => e.2.2.2.2.2.2))) → cur.1 = lN 0 → Only M M' (s + 6) 3 → Q (some (.ref (s + 6))) M' z w) :
    WP (d + 2) mTs_walkEntries 0 [some (.ref s), some (.int (nI lo)), some (.int (nI ab)), none] [] M z w Q := by
  have k1 := hS.1
  have hI := hS.2.2.2.2.1
  have hI0 := hI
  obtain ⟨_, _, _, _, _, _, hcw, _⟩ := hI0
  simp only [sTs_walkEntries_0, sTs_walkEntries_1 k1 rfl]
  rw [sTs_walkEntries_4 hcw]
  refine c_restart (D := D) hI (fun M1 cur hW hc0 hc hO => ?_)
  have hO3 : Only M M1 (s + 6) 3 := fun q hq => hO q (by omega)
  simp only [sTs_walkEntries_7, sTs_walkEntries_8, sTs_walkEntries_9, sTs_walkEntries_10, xk_i, xk_l, xk_a, xk_n, xk_0, Option.toList_some, Option.toList_none, List.cons_append, List.nil_append]
  have h9 := hS.2.2.2.2.2.1
  refine wke_loop hab h9 hok hD K (ab - lo) ab M1 [] cur _ (by omega) (Nat.le_refl _) rfl (hS.walktrue hO3 (hW.idle hc)) hW hc0 hc (by simp) ?_ hO3
  rw [List.drop_eq_nil_of_le (by simp; omega)]
  rfl
theorem dda_any {α : Type} {f : α → Nat} {v v' : Nat} : ∀ {l : List α}, (∀ x ∈ l, f x ≠ v ∧ f x ≠ v') → dda f v l = dda f v' l
  | [], _ => rfl
  | x :: t, h => by
    have := h x List.mem_cons_self
    unfold dda
    rw [if_neg this.1, if_neg this.2]
theorem WkS.start {M : xM} {a : Nat} {tm : Bool} {D : Nat → Prop} {cur : xrow} {l : List xrow} (h : WkS M a tm D cur (sS (fW tm) l)) (hc : cur.1 = lN 0) (hl : ∀ r ∈ l, rok r) : WkP M a tm D cur (mG (fW tm) l) := by
  refine ⟨_, h, ?_⟩
  have hp : ∀ r : xrow, rok r → 0 < fW tm r := fun r ho => by
    have := ho.1
    unfold fW
    split <;> omega
  rw [← dda_sS (fun x hx => hp x (hl x hx))]
  refine dda_any (fun x hx => ?_)
  have ho := hl x (mem_sS.mp hx)
  refine ⟨Nat.ne_of_gt (hp x ho), ?_⟩
  have h0 : kN cur.1 = 0 := by rw [hc]; rfl
  have := ho.1
  unfold fW
  rw [h0]
  split <;> omega
end STW
