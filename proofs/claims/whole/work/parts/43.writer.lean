/-! RefStack$Writer -/
def WrAt (M : xM) (wr t : Nat) (out : List Nat) (low high : Int32) (wf : Bool) (recs ents : List xrow) : Prop := (wr < t ∨ t + 10 ≤ wr) ∧ M wr = some (7, [.ref t, .int (nI (if out.length ≤ 1200 then 1 else 0))]) ∧ TableAt M t (out.take 1200) low high wf recs ents
def OnlyW (M M' : xM) (wr t : Nat) : Prop := ∀ q, q ≠ wr → (q < t ∨ t + 10 ≤ q) → M' q = M q
theorem OnlyW.trans {M M' M2 : xM} {wr t : Nat} (h : OnlyW M M' wr t) (h2 : OnlyW M' M2 wr t) : OnlyW M M2 wr t := fun q a b => (h2 q a b).trans (h q a b)
theorem OnlyW.rf {M : xM} {wr t : Nat} : OnlyW M M wr t := fun _ _ _ => rfl
section WRS
variable {d wr t : Nat} {out : List Nat} {low high : Int32} {wf : Bool} {recs ents : List xrow} {M : xM} {z w : Nat} {Q : Option Value → xM → Nat → Nat → Prop}
theorem c_putByte {b : Nat} (h : WrAt M wr t out low high wf recs ents) (hb : b < 256) (K : ∀ M', WrAt M' wr t (out ++ [b]) low high wf recs ents → OnlyW M M' wr t → Q none M' z w) : WP d mWr_putByte 0 [some (.ref wr), some (.int (nI b))] [] M z w Q := by
  obtain ⟨hd, h7, hT⟩ := h
  obtain ⟨k1, k2, ⟨bl, k3, k4, k5⟩, k6, k7, k8⟩ := hT
  simp only [sWr_putByte_0, sWr_putByte_1 h7 rfl, sWr_putByte_4 k6 rfl, sWr_putByte_7, sWr_putByte_10, sWr_putByte_13, sWr_putByte_14, sWr_putByte_19, sWr_putByte_20 h7 rfl, sWr_putByte_23 k6 rfl, sWr_putByte_26, sWr_putByte_27 h7 rfl, sWr_putByte_30 k6 rfl, sWr_putByte_33]
  by_cases hl : out.length < 1200
  · have ht : out.take 1200 = out := List.take_of_length_le (by omega)
    rw [ht] at k1 k2 k5 k6 ⊢
    rw [if_pos (nI_lt hl (by omega)), sWr_putByte_34 (k := out.length) k4 (nI_toInt (by omega)) (by simp; omega), vi_set]
    have e7 : xput M (t + 1) (20, vi (bl.set out.length (nI b))) wr = _ := (xput_ne (by omega)).trans h7
    have e6 : xput M (t + 1) (20, vi (bl.set out.length (nI b))) t = _ := (xput_ne (by omega)).trans k6
    simp only [sWr_putByte_35, sWr_putByte_36 e7 rfl, sWr_putByte_39, sWr_putByte_40 e6 rfl, sWr_putByte_43, sWr_putByte_44]
    rw [sWr_putByte_45 e6 rfl, sWr_putByte_48]
    refine K _ ⟨hd, ?_, ?_⟩ (fun q q1 q2 => by rw [xput_ne (by omega), xput_ne (by omega)])
    · rw [xput_ne (by omega), e7, if_pos (by omega), if_pos (by simp; omega)]
    · rw [List.take_of_length_le (by simp; omega)]
      refine ⟨by simp; omega, fun x hx => ?_, ⟨bl.set out.length (nI b), by simp [k3], by rw [xput_ne (by omega), xput_same], fun i hi => ?_⟩, ?_, ?_, ?_⟩
      · rcases List.mem_append.mp hx with hx | hx
        · exact k2 x hx
        · simp at hx; omega
      · simp only [List.length_append, List.length_singleton] at hi
        by_cases hc : i = out.length
        · subst hc
          simp [List.getElem?_set, k3]; omega
        · rw [List.getElem?_set_ne (by omega), List.getElem?_append_left (by omega)]
          exact k5 i (by omega)
      · rw [xput_same, nI_add]; simp
      · exact k7.kept (fun q a b => by rw [xput_ne (by omega), xput_ne (by omega)])
      · exact k8.kept (fun q a b => by rw [xput_ne (by omega), xput_ne (by omega)])
  · have hl2 : (out.take 1200).length = 1200 := by simp; omega
    rw [if_neg (by rw [hl2]; exact nI_nlt (by omega) (by omega)), sWr_putByte_15 h7 rfl xb0, sWr_putByte_18]
    refine K _ ⟨hd, ?_, ?_⟩ (fun q q1 q2 => xput_ne q1)
    · have hl3 : ¬ (out ++ [b]).length ≤ 1200 := by simp; omega
      rw [xput_same, if_neg hl3]; rfl
    · rw [List.take_append_of_le_length (by omega)]
      exact TableAt.kept ⟨k1, k2, ⟨bl, k3, k4, k5⟩, k6, k7, k8⟩ (fun q a b => xput_ne (by omega))
theorem c_putVarint {n : Nat} (h : WrAt M wr t out low high wf recs ents) (hn : n < 2097152) (K : ∀ M', WrAt M' wr t (out ++ vE n) low high wf recs ents → OnlyW M M' wr t → Q none M' z w) : WP (d + 1) mWr_putVarint 0 [some (.ref wr), some (.int (nI n)), none, none] [] M z w Q := by
  simp only [sWr_putVarint_0, sWr_putVarint_1, sWr_putVarint_2, sWr_putVarint_3, xk_i, xk_l, xk_a, xk_n, xk_0, Option.toList_some, Option.toList_none, List.cons_append, List.nil_append]
  rw [sWr_putVarint_4]
  simp only [sWr_putVarint_5, sWr_putVarint_6, sWr_putVarint_9, sWr_putVarint_10, sWr_putVarint_12, sWr_putVarint_15, sWr_putVarint_16, sWr_putVarint_17, sWr_putVarint_19, sWr_putVarint_20, sWr_putVarint_23, sWr_putVarint_38, sWr_putVarint_39, xk_i, xk_l, xk_a, xk_n, xk_0, Option.toList_some, Option.toList_none, List.cons_append, List.nil_append]
  rw [if_neg (nI_ge (by omega) (by omega)), sWr_putVarint_24 h.2.1, sWr_putVarint_40 h.2.1]
  unfold vE at K
  by_cases h1 : n < 128
  · rw [if_pos h1] at K
    rw [if_pos (nI_le (by omega) (by omega))]
    refine c_putByte h (by omega) (fun M' hW hO => ?_)
    simp only [sWr_putVarint_43, xk_i, xk_l, xk_a, xk_n, xk_0, Option.toList_some, Option.toList_none, List.cons_append, List.nil_append]
    exact K M' hW hO
  · rw [if_neg h1] at K
    rw [if_neg (nI_ge (by omega) (by omega)), vbyte]
    refine c_putByte h (by omega) (fun M1 hW1 hO1 => ?_)
    simp only [sWr_putVarint_27, sWr_putVarint_28, sWr_putVarint_30, sWr_putVarint_31, sWr_putVarint_32, sWr_putVarint_35, xk_i, xk_l, xk_a, xk_n, xk_0, Option.toList_some, Option.toList_none, List.cons_append, List.nil_append]
    rw [vshr (by omega), nI_add, sWr_putVarint_4]
    simp only [sWr_putVarint_5, sWr_putVarint_6, sWr_putVarint_9, sWr_putVarint_10, sWr_putVarint_12, sWr_putVarint_15, sWr_putVarint_16, sWr_putVarint_17, sWr_putVarint_19, sWr_putVarint_20, sWr_putVarint_23, sWr_putVarint_38, sWr_putVarint_39, xk_i, xk_l, xk_a, xk_n, xk_0, Option.toList_some, Option.toList_none, List.cons_append, List.nil_append]
    rw [if_neg (nI_ge (by omega) (by omega)), sWr_putVarint_24 hW1.2.1, sWr_putVarint_40 hW1.2.1]
    by_cases h2 : n < 16384
    · rw [if_pos h2] at K
      rw [if_pos (nI_le (by omega) (by omega))]
      refine c_putByte hW1 (by omega) (fun M' hW hO => ?_)
      simp only [sWr_putVarint_43, xk_i, xk_l, xk_a, xk_n, xk_0, Option.toList_some, Option.toList_none, List.cons_append, List.nil_append]
      rw [List.append_assoc] at hW
      exact K M' hW (hO1.trans hO)
    · rw [if_neg h2] at K
      rw [if_neg (nI_ge (by omega) (by omega)), vbyte]
      refine c_putByte hW1 (by omega) (fun M2 hW2 hO2 => ?_)
      simp only [sWr_putVarint_27, sWr_putVarint_28, sWr_putVarint_30, sWr_putVarint_31, sWr_putVarint_32, sWr_putVarint_35, xk_i, xk_l, xk_a, xk_n, xk_0, Option.toList_some, Option.toList_none, List.cons_append, List.nil_append]
      rw [vshr (by omega), nI_add, sWr_putVarint_4]
      simp only [sWr_putVarint_5, sWr_putVarint_6, sWr_putVarint_38, sWr_putVarint_39, xk_i, xk_l, xk_a, xk_n, xk_0, Option.toList_some, Option.toList_none, List.cons_append, List.nil_append]
      rw [if_pos (nI_le (by omega) (by omega)), sWr_putVarint_40 hW2.2.1, Nat.div_div_eq_div_mul]
      refine c_putByte hW2 (by omega) (fun M' hW hO => ?_)
      simp only [sWr_putVarint_43, xk_i, xk_l, xk_a, xk_n, xk_0, Option.toList_some, Option.toList_none, List.cons_append, List.nil_append]
      rw [List.append_assoc, List.append_assoc] at hW
      exact K M' hW ((hO1.trans hO2).trans hO)
theorem putSymbols_loop {k to : Nat} (hk : k < 2 ^ 64) (hto : to ≤ 12) : ∀ (r : Nat) (M : xM) (out : List Nat), r ≤ to → WrAt M wr t out low high wf recs ents → ∀ x3 : Int32, (∀ M', WrAt M' wr t (out ++ syms k (to - r) r) low high wf recs ents → OnlyW M M' wr t → Q none M' z w) →
    WP (d + 1) mWr_putSymbols 3 [some (.ref wr), some (.long (lN k)), none, some (.int x3), some (.int (nI to)), some (.int (nI (to - r)))] [] M z w Q := by
  intro r
  induction r with
  | zero =>
    intro M out hr h x3 K
    simp only [sWr_putSymbols_3, sWr_putSymbols_5, sWr_putSymbols_7, sWr_putSymbols_26]
    rw [if_pos (nI_le (by omega) (by omega))]
    have := K M (by simpa [syms] using h) OnlyW.rf
    exact this
  | succ r ih =>
    intro M out hr h x3 K
    rw [sWr_putSymbols_3]
    simp only [sWr_putSymbols_5, sWr_putSymbols_7, sWr_putSymbols_10, sWr_putSymbols_11, sWr_putSymbols_12, sWr_putSymbols_14]
    rw [if_neg (nI_ge (by omega) (by omega)), c_symbolOf hk (by omega)]
    simp only [xk_i, xk_l, xk_a, xk_n, xk_0, Option.toList_some, Option.toList_none, List.cons_append, List.nil_append]
    rw [sWr_putSymbols_17 h.2.1]
    refine c_putByte h (by have := sy_lt k (to - (r + 1)); omega) (fun M1 hW1 hO1 => ?_)
    simp only [sWr_putSymbols_20, sWr_putSymbols_23, xk_i, xk_l, xk_a, xk_n, xk_0, Option.toList_some, Option.toList_none, List.cons_append, List.nil_append]
    rw [nI_add, show to - (r + 1) + 1 = to - r by omega]
    refine ih M1 _ (by omega) hW1 x3 (fun M2 hW2 hO2 => K M2 ?_ (hO1.trans hO2))
    rw [List.append_assoc, List.singleton_append] at hW2
    have e : syms k (to - (r + 1)) (r + 1) = sy k (to - (r + 1)) :: syms k (to - r) r := by
      rw [show to - r = to - (r + 1) + 1 by omega]; rfl
    rw [e]
    exact hW2
theorem c_putSymbols {k fr to : Nat} (h : WrAt M wr t out low high wf recs ents) (hk : k < 2 ^ 64) (hto : to ≤ 12) (hf : fr ≤ to) (K : ∀ M', WrAt M' wr t (out ++ syms k fr (to - fr)) low high wf recs ents → OnlyW M M' wr t → Q none M' z w) : WP (d + 1) mWr_putSymbols 0 [some (.ref wr), some (.long (lN k)), none, some (.int (nI fr)), some (.int (nI to)), none] [] M z w Q := by
  simp only [sWr_putSymbols_0, sWr_putSymbols_1, xk_i, xk_l, xk_a, xk_n, xk_0, Option.toList_some, Option.toList_none, List.cons_append, List.nil_append]
  have := putSymbols_loop (d := d) (z := z) (w := w) (Q := Q) hk hto (to - fr) M out (by omega) h (nI fr) (by rw [show to - (to - fr) = fr by omega]; exact K)
  rw [show to - (to - fr) = fr by omega] at this
  exact this
end WRS
