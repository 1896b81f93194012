/-! RefStack: reading -/
def nol (c : Int) : Int32 := if c < 0 then -4 else nI c.toNat
def ix {α : Type} (l : List α) (t : Int32) : Option α := if t < 0 then none else l[t.toNatClampNeg]?
theorem ix_nI {α : Type} {l : List α} {j : Nat} (hj : j < 2 ^ 31) : ix l (nI j) = l[j]? := by
  unfold ix
  rw [if_neg (nI_pos hj), nI_clamp hj]
theorem ix_neg {α : Type} {l : List α} {t : Int32} (h : t < 0) : ix l t = none := if_pos h
theorem ix_none {α : Type} {l : List α} {t : Int32} (h : ∀ i, i < l.length → t ≠ nI i) : ix l t = none := by
  unfold ix
  split
  · rfl
  · rename_i h0
    obtain ⟨j, hj, rfl⟩ := nI_of h0
    rw [nI_clamp hj]
    rw [List.getElem?_eq_none_iff]
    exact Nat.le_of_not_lt (fun q => h j q rfl)
noncomputable def gtS (B : List (List Nat)) (n : Nat) : Int32 := match vw B with
  | none => -2
  | some TT => nol (lkA (cR TT) (gkey n))
noncomputable def tgS (B : List (List Nat)) (n : Nat) : Int64 := match vw B with
  | none => -2
  | some TT => if lkA (cR TT) (gkey n) < 0 then lN (rv (-(lkA (cR TT) (gkey n))).toNat) else lN 0
def rsN (l : List arec) : Nat → Int → Int
  | 0, c => c
  | k + 1, c => if c < 0 then rsN l k (lkA l (-c).toNat) else c
noncomputable def rsS (B : List (List Nat)) (n : Nat) : Int32 := match vw B with
  | none => -2
  | some TT => nol (rsN (cR TT) 5 (lkA (cR TT) (gkey n)))
section CL2
variable {d x wb : Nat} {B : List (List Nat)} {tx : Option (List achg)} {M : xM} {z w : Nat} {Q : Option Value → xM → Nat → Nat → Prop}
theorem lkA_w {TT : List ptab} (hw : ∀ p ∈ TT, wT0 p.2) (k : Nat) : wC (lkA (cR TT) k) := by
  unfold lkA
  cases hf : (cR TT).find? (fun r => r.1 == k) with
  | none => exact Or.inl rfl
  | some r =>
    obtain ⟨p, hp, hm⟩ := mem_cR.mp (List.mem_of_find?_eq_some hf)
    exact ((hw p hp).2.2.2.2.2.1 r hm).2.2.2
theorem c_cont {s h k : Nat} {L : List (Nat × tS)} {TT : List ptab} (hS : SkAt M s h L z) (hT : (L.take h).map (fun e => e.2) = TT.map rawP) (hw : ∀ p ∈ TT, wT0 p.2) (hk : k < 2 ^ 60) : WP (d + 2) mTs_contentOf 0 [some (.ref s), some (.long (lN k)), none, none, none, none] [] M z w Q ↔ Q (some (.long (rawC (lkA (cR TT) k)))) M z w := by
  rw [c_contentOf hS, show (L.take h).reverse.flatMap (fun e => e.2.2.2.2.2.1) = yR (L.take h) from rfl, yR_raw hT, lk_raw hk (cR_lt hw)]
theorem c_nol {c : Int} (h : okC c) : WP d mRS_numberOrLinked 0 [some (.long (rawC c)), none] [] M z w Q ↔ Q (some (.int (nol c))) M z w := by
  have h1 := rawC_lt0 h
  have h2 : lN 0 ≤ rawC c ↔ ¬ c < 0 := by
    rw [← h1]
    rw [Int64.lt_iff_toInt_lt, Int64.le_iff_toInt_le]; omega
  simp only [sRS_numberOrLinked_0, sRS_numberOrLinked_1, sRS_numberOrLinked_2, sRS_numberOrLinked_3, sRS_numberOrLinked_6, sRS_numberOrLinked_8, sRS_numberOrLinked_11, sRS_numberOrLinked_12, sRS_numberOrLinked_13, lcmp_eq, lcmp_lt, lcmp_ge, lcmp_gt, lcmp_le, h2]
  unfold nol
  by_cases hc : c < 0
  · rw [if_neg (fun q => q hc), if_pos hc]
  · rw [if_pos hc, if_neg hc]
    unfold rawC
    rw [if_pos (by omega), lN_i]
theorem ige {c : Int} (h : okC c) : lN 0 ≤ rawC c ↔ ¬ c < 0 := by
  rw [← rawC_lt0 h, Int64.lt_iff_toInt_lt, Int64.le_iff_toInt_le]; omega
theorem rawC_ng {c : Int} (h : c < 0) : -(rawC c) = lN (-c).toNat := by
  unfold rawC
  rw [if_neg (by omega), Int64.neg_neg]
theorem c_RS_get {n : Nat} (hn : n < 2 ^ 64) (hK : KAt M x z w wb B tx) : WP (d + 3) mRS_get 0 [some (.ref x), some (.long (lN n)), none] [] M z w Q ↔ Q (some (.int (gtS B n))) M z w := by
  have k1 := hK.cell
  have k2 := hK.sk
  simp only [sRS_get_0, sRS_get_1 k1 rfl]
  rw [sRS_get_4 k2, c_isDam hK]
  unfold gtS
  cases hv : vw B with
  | none =>
    simp only [sRS_get_7, sRS_get_10, sRS_get_12, xk_i, xk_l, xk_a, xk_n, xk_0, Option.toList_some, Option.toList_none, List.cons_append, List.nil_append]
    rw [if_neg (show ¬ nI (if (none : Option (List ptab)).isNone = true then 1 else 0) = nI 0 by decide)]
  | some TT =>
    obtain ⟨L, hS, hT⟩ := hK.opn hv
    simp only [sRS_get_7, sRS_get_10, sRS_get_12, sRS_get_13, sRS_get_14 k1 rfl, sRS_get_17, xk_i, xk_l, xk_a, xk_n, xk_0, Option.toList_some, Option.toList_none, List.cons_append, List.nil_append]
    rw [if_pos (show nI (if (some TT).isNone = true then 1 else 0) = nI 0 from rfl), sRS_get_18, c_goodKey hn]
    simp only [xk_i, xk_l, xk_a, xk_n, xk_0, Option.toList_some, Option.toList_none, List.cons_append, List.nil_append]
    rw [sRS_get_21 k2, c_cont hS hT (vw_w0 hv) (gkey_lt n)]
    simp only [xk_i, xk_l, xk_a, xk_n, xk_0, Option.toList_some, Option.toList_none, List.cons_append, List.nil_append]
    rw [sRS_get_24, c_nol (lkA_w (vw_w0 hv) _).ok]
    simp only [sRS_get_27, xk_i, xk_l, xk_a, xk_n, xk_0, Option.toList_some, Option.toList_none, List.cons_append, List.nil_append]
theorem c_RS_target {n : Nat} (hn : n < 2 ^ 64) (hK : KAt M x z w wb B tx) : WP (d + 3) mRS_target 0 [some (.ref x), some (.long (lN n)), none, none, none] [] M z w Q ↔ Q (some (.long (tgS B n))) M z w := by
  have k1 := hK.cell
  have k2 := hK.sk
  simp only [sRS_target_0, sRS_target_1 k1 rfl]
  rw [sRS_target_4 k2, c_isDam hK]
  unfold tgS
  cases hv : vw B with
  | none =>
    simp only [sRS_target_7, sRS_target_10, sRS_target_13, xk_i, xk_l, xk_a, xk_n, xk_0, Option.toList_some, Option.toList_none, List.cons_append, List.nil_append]
    rw [if_neg (show ¬ nI (if (none : Option (List ptab)).isNone = true then 1 else 0) = nI 0 by decide)]
  | some TT =>
    obtain ⟨L, hS, hT⟩ := hK.opn hv
    have hok := (lkA_w (vw_w0 hv) (gkey n)).ok
    simp only [sRS_target_7, sRS_target_10, sRS_target_13, sRS_target_14, sRS_target_15 k1 rfl, sRS_target_18, xk_i, xk_l, xk_a, xk_n, xk_0, Option.toList_some, Option.toList_none, List.cons_append, List.nil_append]
    rw [if_pos (show nI (if (some TT).isNone = true then 1 else 0) = nI 0 from rfl), sRS_target_19, c_goodKey hn]
    simp only [xk_i, xk_l, xk_a, xk_n, xk_0, Option.toList_some, Option.toList_none, List.cons_append, List.nil_append]
    rw [sRS_target_22 k2, c_cont hS hT (vw_w0 hv) (gkey_lt n)]
    generalize lkA (cR TT) (gkey n) = c at hok
    simp only [sRS_target_25, sRS_target_26, sRS_target_27, sRS_target_28, sRS_target_29, sRS_target_32, sRS_target_33, sRS_target_40, sRS_target_41, xk_i, xk_l, xk_a, xk_n, xk_0, Option.toList_some, Option.toList_none, List.cons_append, List.nil_append, lcmp_eq, lcmp_lt, lcmp_ge, lcmp_gt, lcmp_le, ige hok]
    by_cases hc : c < 0
    · rw [if_neg (fun q => q hc), if_pos hc, rawC_ng hc, sRS_target_34, c_nameOf (by unfold okC at hok; omega)]
      simp only [sRS_target_37, sRS_target_40, sRS_target_41, xk_i, xk_l, xk_a, xk_n, xk_0, Option.toList_some, Option.toList_none, List.cons_append, List.nil_append]
    · rw [if_pos hc, if_neg hc]
theorem resolve_loop {s h n : Nat} {L : List (Nat × tS)} {TT : List ptab} (k1 : M x = some (0, [.ref s, .ref (x + 10), .ref (x + 14)])) (hS : SkAt M s h L z) (hT : (L.take h).map (fun e => e.2) = TT.map rawP) (hw : ∀ p ∈ TT, wT0 p.2) : ∀ (k : Nat) (c : Int), k ≤ 5 → wC c →
    (WP (d + 3) mRS_resolve 28 [some (.ref x), some (.long (lN n)), none, some (.long (rawC c)), none, some (.int (nI (5 - k)))] [] M z w Q ↔ Q (some (.int (nol (rsN (cR TT) k c)))) M z w) := by
  intro k
  induction k with
  | zero =>
    intro c hk hc
    rw [sRS_resolve_28]
    simp only [sRS_resolve_30, sRS_resolve_31, sRS_resolve_56]
    rw [if_pos (nI_le (by omega) (by omega)), sRS_resolve_57, c_nol hc.ok]
    simp only [sRS_resolve_60, xk_i, xk_l, xk_a, xk_n, xk_0, Option.toList_some, Option.toList_none, List.cons_append, List.nil_append]
    rfl
  | succ k ih =>
    intro c hk hc
    have h2 := hS.1
    rw [sRS_resolve_28]
    simp only [sRS_resolve_30, sRS_resolve_31, sRS_resolve_34, sRS_resolve_35, sRS_resolve_36, sRS_resolve_37, sRS_resolve_40, sRS_resolve_41 k1 rfl, sRS_resolve_44, sRS_resolve_45, sRS_resolve_56, lcmp_eq, lcmp_lt, lcmp_ge, lcmp_gt, lcmp_le, ige hc.ok]
    rw [if_neg (nI_ge (by omega) (by omega))]
    unfold rsN
    by_cases h0 : c < 0
    · rw [if_neg (fun q => q h0), if_pos h0, rawC_ng h0, sRS_resolve_46 h2, c_cont hS hT hw (by rcases hc with q | q | q; omega; omega; exact q.2.1)]
      simp only [sRS_resolve_49, sRS_resolve_50, sRS_resolve_53, xk_i, xk_l, xk_a, xk_n, xk_0, Option.toList_some, Option.toList_none, List.cons_append, List.nil_append, nI_add]
      rw [show 5 - (k + 1) + 1 = 5 - k by omega, ih _ (by omega) (lkA_w hw _)]
    · rw [if_pos h0, if_neg h0, sRS_resolve_57, c_nol hc.ok]
      simp only [sRS_resolve_60, xk_i, xk_l, xk_a, xk_n, xk_0, Option.toList_some, Option.toList_none, List.cons_append, List.nil_append]
theorem c_RS_resolve {n : Nat} (hn : n < 2 ^ 64) (hK : KAt M x z w wb B tx) : WP (d + 3) mRS_resolve 0 [some (.ref x), some (.long (lN n)), none, none, none, none] [] M z w Q ↔ Q (some (.int (rsS B n))) M z w := by
  have k1 := hK.cell
  have k2 := hK.sk
  simp only [sRS_resolve_0, sRS_resolve_1 k1 rfl]
  rw [sRS_resolve_4 k2, c_isDam hK]
  unfold rsS
  cases hv : vw B with
  | none =>
    simp only [sRS_resolve_7, sRS_resolve_10, sRS_resolve_12, xk_i, xk_l, xk_a, xk_n, xk_0, Option.toList_some, Option.toList_none, List.cons_append, List.nil_append]
    rw [if_neg (show ¬ nI (if (none : Option (List ptab)).isNone = true then 1 else 0) = nI 0 by decide)]
  | some TT =>
    obtain ⟨L, hS, hT⟩ := hK.opn hv
    simp only [sRS_resolve_7, sRS_resolve_10, sRS_resolve_12, sRS_resolve_13, sRS_resolve_14 k1 rfl, sRS_resolve_17, xk_i, xk_l, xk_a, xk_n, xk_0, Option.toList_some, Option.toList_none, List.cons_append, List.nil_append]
    rw [if_pos (show nI (if (some TT).isNone = true then 1 else 0) = nI 0 from rfl), sRS_resolve_18, c_goodKey hn]
    simp only [xk_i, xk_l, xk_a, xk_n, xk_0, Option.toList_some, Option.toList_none, List.cons_append, List.nil_append]
    rw [sRS_resolve_21 k2, c_cont hS hT (vw_w0 hv) (gkey_lt n)]
    simp only [sRS_resolve_24, sRS_resolve_25, sRS_resolve_26, xk_i, xk_l, xk_a, xk_n, xk_0, Option.toList_some, Option.toList_none, List.cons_append, List.nil_append]
    exact resolve_loop (d := d) k1 hS hT (vw_w0 hv) 5 _ (Nat.le_refl _) (lkA_w (vw_w0 hv) _)
theorem c_RS_tables (hK : KAt M x z w wb B tx) : WP d mRS_tables 0 [some (.ref x)] [] M z w Q ↔ Q (some (.int (nI B.length))) M z w := by
  have k1 := hK.cell
  have k2 := hK.sk
  simp only [sRS_tables_0, sRS_tables_1 k1 rfl, sRS_tables_4 k2 rfl, sRS_tables_7]
def KB (M : xM) (x z w wb : Nat) (B : List (List Nat)) (tx : Option (List achg)) (L : List (Nat × tS)) (cs : List achg) : Prop := M x = some (0, [.ref (x + 1), .ref (x + 10), .ref (x + 14)]) ∧ SkAt M (x + 1) B.length L z ∧ (TxAt M (x + 10) tx.isSome cs ∧ (∀ c ∈ cs, c.1 < 2 ^ 60) ∧ ∀ c, tx = some c → cs = c) ∧ (∃ (v : Value) (p e f : Int32), M (x + 14) = some (1, [v, .int p, .int e, .int f])) ∧ (L.take B.length).map (fun e => e.2.1) = B ∧ (∀ e ∈ L.take B.length, okS e.2) ∧ z = x + 32 + 10 * L.length ∧ w = wb + 1427 * L.length
/-- a table of the class by its number -/
theorem c_found {t : Int32} (hK : KAt M x z w wb B tx) (Kn : ix B t = none → Q (some .null) M z w)
    (Ks : ∀ i b e, t = nI i → i < B.length → B[i]? = some b → ix B t = some b → (∃ L cs, KB M x z w wb B tx L cs ∧ L[i]? = some e) → TbAt M e → e.2.1 = b → okS e.2 → Q (some (.ref e.1)) M z w) : WP d mTs_tableOrNull 0 [some (.ref (x + 1)), some (.int t)] [] M z w Q := by
  obtain ⟨L, cs, k1, k2, k3, k6, k7, k8, k9, k10⟩ := hK
  have h9 := k2.2.2.2.2.2.1
  have hh := k2.2.2.2.2.2.2.1
  refine c_tableOrNull k2 (fun h => Kn (ix_none h)) (fun i e hi ht he => ?_)
  have hb : B[i]? = some e.2.1 := by
    have := congrArg (fun l => l[i]?) k7
    simp only [List.getElem?_map, List.getElem?_take, if_pos hi, he, Option.map_some] at this
    exact this.symm
  have hm : e ∈ L.take B.length := by
    rw [List.mem_iff_getElem?]
    exact ⟨i, by rw [List.getElem?_take, if_pos hi]; exact he⟩
  exact Ks i e.2.1 e ht hi hb (by rw [ht, ix_nI (by omega)]; exact hb) ⟨L, cs, ⟨k1, k2, k3, k6, k7, k8, k9, k10⟩, he⟩ (k2.tab he) rfl (k8 e hm)
def szS (B : List (List Nat)) (t : Int32) : Int32 := match ix B t with
  | none => -1
  | some b => nI b.length
theorem c_RS_size {t : Int32} (hK : KAt M x z w wb B tx) (K : Q (some (.int (szS B t))) M z w) : WP (d + 1) mRS_size 0 [some (.ref x), some (.int t), none] [] M z w Q := by
  have k1 := hK.cell
  have k2 := hK.sk
  simp only [sRS_size_0, sRS_size_1 k1 rfl, sRS_size_4]
  rw [sRS_size_5 k2]
  unfold szS at K
  refine c_found hK (fun hn => ?_) (fun i b e ht hi hb hx hL hT he ho => ?_)
  · simp only [xk_i, xk_l, xk_a, xk_n, xk_0, Option.toList_some, Option.toList_none, List.cons_append, List.nil_append]
    rw [sRS_size_8n]
    simp only [xk_i, xk_l, xk_a, xk_n, xk_0, Option.toList_some, Option.toList_none, List.cons_append, List.nil_append]
    rw [sRS_size_9n, sRS_size_10n]
    simp only [sRS_size_13, sRS_size_14, sRS_size_21]
    rw [hn] at K
    exact K
  · have hc := hT.cell
    rw [hx] at K
    rw [he] at hc
    simp only [sRS_size_8, sRS_size_9, sRS_size_10, sRS_size_13, sRS_size_14, sRS_size_17, sRS_size_18 hc rfl, sRS_size_21, xk_i, xk_l, xk_a, xk_n, xk_0, Option.toList_some, Option.toList_none, List.cons_append, List.nil_append]
    exact K
def byS (B : List (List Nat)) (t k : Int32) : Int32 := match (ix B t).bind (fun b => ix b k) with
  | none => -1
  | some v => nI v
theorem c_RS_byteAt {t k : Int32} (hK : KAt M x z w wb B tx) (K : Q (some (.int (byS B t k))) M z w) : WP (d + 1) mRS_byteAt 0 [some (.ref x), some (.int t), some (.int k), none] [] M z w Q := by
  have k1 := hK.cell
  have k2 := hK.sk
  simp only [sRS_byteAt_0, sRS_byteAt_1 k1 rfl, sRS_byteAt_4]
  rw [sRS_byteAt_5 k2]
  unfold byS at K
  refine c_found hK (fun hn => ?_) (fun i b e ht hi hb hx hL hT he ho => ?_)
  · simp only [xk_i, xk_l, xk_a, xk_n, xk_0, Option.toList_some, Option.toList_none, List.cons_append, List.nil_append]
    rw [sRS_byteAt_8n]
    simp only [xk_i, xk_l, xk_a, xk_n, xk_0, Option.toList_some, Option.toList_none, List.cons_append, List.nil_append]
    rw [sRS_byteAt_9n, sRS_byteAt_10n]
    simp only [sRS_byteAt_25, sRS_byteAt_26]
    rw [hn] at K
    exact K
  · have hc := hT.cell
    rw [hx] at K
    rw [he] at hc
    obtain ⟨b1, b2, ⟨bl, b3, b4, b5⟩, -⟩ := hT
    rw [he] at b1 b5
    simp only [sRS_byteAt_8, sRS_byteAt_9, sRS_byteAt_10, sRS_byteAt_13, sRS_byteAt_14, sRS_byteAt_17, sRS_byteAt_18, sRS_byteAt_19 hc rfl, sRS_byteAt_22, sRS_byteAt_25, sRS_byteAt_26, sRS_byteAt_27, sRS_byteAt_28 hc rfl, sRS_byteAt_31, xk_i, xk_l, xk_a, xk_n, xk_0, Option.toList_some, Option.toList_none, List.cons_append, List.nil_append]
    by_cases h0 : k < nI 0
    · rw [if_pos h0]
      rw [Option.bind_some, ix_neg h0] at K
      exact K
    · rw [if_neg h0]
      obtain ⟨j, hj, rfl⟩ := nI_of h0
      rw [Option.bind_some, ix_nI hj] at K
      by_cases hl : j < b.length
      · have hv : b[j]? = some b[j] := List.getElem?_eq_getElem hl
        rw [hv] at K
        rw [if_pos (nI_lt hl (by omega)), sRS_byteAt_32 b4 (nI_toInt hj) (v := .int (nI b[j])) (by simp [b5 j hl, hv]), sRS_byteAt_33]
        exact K
      · rw [if_neg (nI_nlt (by omega) hj)]
        rw [List.getElem?_eq_none_iff.mpr (by omega)] at K
        exact K
def soS (B : List (List Nat)) (t : Int32) : Bool := ((ix B t).bind pT).isSome
theorem c_RS_sound {t : Int32} (hK : KAt M x z w wb B tx) (K : Q (some (.int (nI (if soS B t = true then 1 else 0)))) M z w) : WP (d + 1) mRS_sound 0 [some (.ref x), some (.int t), none] [] M z w Q := by
  have k1 := hK.cell
  have k2 := hK.sk
  simp only [sRS_sound_0, sRS_sound_1 k1 rfl, sRS_sound_4]
  rw [sRS_sound_5 k2]
  unfold soS at K
  refine c_found hK (fun hn => ?_) (fun i b e ht hi hb hx hL hT he ho => ?_)
  · simp only [xk_i, xk_l, xk_a, xk_n, xk_0, Option.toList_some, Option.toList_none, List.cons_append, List.nil_append]
    rw [sRS_sound_8n]
    simp only [xk_i, xk_l, xk_a, xk_n, xk_0, Option.toList_some, Option.toList_none, List.cons_append, List.nil_append]
    rw [sRS_sound_9n, sRS_sound_10n]
    simp only [sRS_sound_24, sRS_sound_25 xb0, sRS_sound_25 xb1]
    rw [hn] at K
    exact K
  · have hc := hT.cell
    rw [hx, Option.bind_some] at K
    rw [ho.1, he] at hc
    simp only [sRS_sound_8, sRS_sound_9, sRS_sound_10, sRS_sound_13, sRS_sound_14 hc rfl, sRS_sound_17, sRS_sound_20, sRS_sound_21, sRS_sound_24, sRS_sound_25 xb0, sRS_sound_25 xb1, xk_i, xk_l, xk_a, xk_n, xk_0, Option.toList_some, Option.toList_none, List.cons_append, List.nil_append]
    cases hp : (pT b).isSome with
    | false => rw [if_pos (show nI (if false = true then 1 else 0) = nI 0 from rfl)]; rw [hp] at K; exact K
    | true => rw [if_neg (by decide)]; rw [hp] at K; exact K
def rcS (B : List (List Nat)) (t : Int32) : Int32 := match (ix B t).bind pT with
  | none => -1
  | some T => nI T.2.2.1.length
theorem c_RS_records {t : Int32} (hK : KAt M x z w wb B tx) (K : Q (some (.int (rcS B t))) M z w) : WP (d + 1) mRS_records 0 [some (.ref x), some (.int t), none] [] M z w Q := by
  have k1 := hK.cell
  have k2 := hK.sk
  simp only [sRS_records_0, sRS_records_1 k1 rfl, sRS_records_4]
  rw [sRS_records_5 k2]
  unfold rcS at K
  refine c_found hK (fun hn => ?_) (fun i b e ht hi hb hx hL hT he ho => ?_)
  · simp only [xk_i, xk_l, xk_a, xk_n, xk_0, Option.toList_some, Option.toList_none, List.cons_append, List.nil_append]
    rw [sRS_records_8n]
    simp only [xk_i, xk_l, xk_a, xk_n, xk_0, Option.toList_some, Option.toList_none, List.cons_append, List.nil_append]
    rw [sRS_records_9n, sRS_records_10n]
    simp only [sRS_records_30, sRS_records_31]
    rw [hn] at K
    exact K
  · have hc := hT.cell
    have hr := hT.recs.cell
    rw [hx, Option.bind_some] at K
    have ho1 := ho.1
    rw [he] at ho1
    rw [ho1, he] at hc
    cases hp : pT b with
    | none =>
      rw [hp] at K hc
      simp only [sRS_records_8, sRS_records_9, sRS_records_10, sRS_records_13, sRS_records_14 hc rfl, sRS_records_17, sRS_records_30, sRS_records_31, xk_i, xk_l, xk_a, xk_n, xk_0, Option.toList_some, Option.toList_none, List.cons_append, List.nil_append]
      rw [if_pos (show nI (if (none : Option atab).isSome = true then 1 else 0) = nI 0 from rfl)]
      exact K
    | some T =>
      rw [hp] at K hc
      have hb2 := ho.2 T (by rw [he]; exact hp)
      have e2 : e.2.2.2.2.2.1 = T.2.2.1.map rawR := by rw [hb2]; rfl
      rw [e2, List.length_map] at hr
      simp only [sRS_records_8, sRS_records_9, sRS_records_10, sRS_records_13, sRS_records_14 hc rfl, sRS_records_17, sRS_records_20, sRS_records_21 hc rfl, sRS_records_24 hr rfl, sRS_records_27, sRS_records_30, sRS_records_31, xk_i, xk_l, xk_a, xk_n, xk_0, Option.toList_some, Option.toList_none, List.cons_append, List.nil_append]
      rw [if_neg (show ¬ nI (if (some T).isSome = true then 1 else 0) = nI 0 from by show ¬ nI 1 = nI 0; decide)]
      exact K
end CL2
