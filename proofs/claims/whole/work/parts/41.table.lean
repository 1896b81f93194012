/-! ===== nI under and, xor, >>>, one bit, 65535 ===== -/
theorem nx_and (a b : Nat) : nI a &&& nI b = nI (a &&& b) := by
  apply Int32.toBitVec_inj.1
  show BitVec.ofNat 32 a &&& BitVec.ofNat 32 b = BitVec.ofNat 32 (a &&& b)
  apply BitVec.eq_of_getLsbD_eq
  intro i hi
  simp [hi]
theorem nx_xor (a b : Nat) : nI a ^^^ nI b = nI (a ^^^ b) := by
  apply Int32.toBitVec_inj.1
  show BitVec.ofNat 32 a ^^^ BitVec.ofNat 32 b = BitVec.ofNat 32 (a ^^^ b)
  apply BitVec.eq_of_getLsbD_eq
  intro i hi
  simp [hi]
/-! RefStack$Table -/
/-- the CHECK: one bit, one byte, a row of bytes -/
def crc1 (c : Nat) : Nat := if 65535 < c * 2 then (c * 2 % 65536) ^^^ 4129 else c * 2
def crcN (c : Nat) : Nat → Nat
  | 0 => c
  | j + 1 => crcN (crc1 c) j
def crcB (c b : Nat) : Nat := crcN (c ^^^ (b * 256)) 8
def crcL (c : Nat) (bs : List Nat) : Nat := bs.foldl crcB c
def crc (bs : List Nat) : Nat := crcL 65535 bs
theorem crc1_lt {c : Nat} (h : c < 65536) : crc1 c < 65536 := by
  unfold crc1
  split
  · exact Nat.xor_lt_two_pow (n := 16) (Nat.mod_lt _ (by decide)) (by decide)
  · omega
theorem crcN_lt : ∀ (j : Nat) {c : Nat}, c < 65536 → crcN c j < 65536
  | 0, _, h => h
  | j + 1, _, h => crcN_lt j (crc1_lt h)
theorem crcB_lt {c b : Nat} (hc : c < 65536) (hb : b < 256) : crcB c b < 65536 := crcN_lt 8 (Nat.xor_lt_two_pow (n := 16) hc (by omega))
theorem crcL_lt : ∀ (bs : List Nat) {c : Nat}, c < 65536 → (∀ b ∈ bs, b < 256) → crcL c bs < 65536
  | [], _, h, _ => h
  | b :: bs, c, h, hb => by
    have e : crcL c (b :: bs) = crcL (crcB c b) bs := by unfold crcL; rw [List.foldl_cons]
    rw [e]
    exact crcL_lt bs (crcB_lt h (hb b List.mem_cons_self)) (fun x hx => hb x (List.mem_cons_of_mem _ hx))
def TableAt (M : xM) (t : Nat) (bs : List Nat) (low high : Int32) (wf : Bool) (recs ents : List xrow) : Prop := bs.length ≤ 1200 ∧ (∀ b ∈ bs, b < 256) ∧ (∃ bl : List Int32, bl.length = 1200 ∧ M (t + 1) = some (20, vi bl) ∧ ∀ i, i < bs.length → bl[i]? = (bs[i]?).map nI) ∧
  M t = some (3, [.ref (t + 1), .ref (t + 2), .ref (t + 6), .int (nI bs.length), .int low, .int high, .int (nI (if wf = true then 1 else 0))]) ∧ RowsAt M (t + 2) 30 recs ∧ RowsAt M (t + 6) 40 ents
theorem TableAt.kept {M M' : xM} {t : Nat} {bs : List Nat} {low high : Int32} {wf : Bool} {recs ents : List xrow} (h : TableAt M t bs low high wf recs ents) (hq : ∀ q, t ≤ q → q < t + 10 → M' q = M q) : TableAt M' t bs low high wf recs ents := by
  obtain ⟨h1, h2, ⟨bl, h3, h4, h5⟩, h6, h7, h8⟩ := h
  exact ⟨h1, h2, ⟨bl, h3, by rw [hq _ (by omega) (by omega)]; exact h4, h5⟩, by rw [hq _ (by omega) (by omega)]; exact h6, h7.kept (fun q a b => hq q (by omega) (by omega)), h8.kept (fun q a b => hq q (by omega) (by omega))⟩
theorem RowsAt.cell {M : xM} {a room : Nat} {rs : List xrow} (h : RowsAt M a room rs) : M a = some (2, [.int (nI room), .ref (a + 1), .ref (a + 2), .ref (a + 3), .int (nI rs.length)]) := by
  obtain ⟨kl, tl, vs, h1, h2, h3, h4, h5, h6, h7, h8, h9⟩ := h
  exact h5
theorem RowsAt.clear {M : xM} {a room : Nat} {rs : List xrow} (h : RowsAt M a room rs) : RowsAt (xput M a (2, [.int (nI room), .ref (a + 1), .ref (a + 2), .ref (a + 3), .int (nI 0)])) a room [] := by
  obtain ⟨kl, tl, vs, h1, h2, h3, h4, h5, h6, h7, h8, h9⟩ := h
  exact ⟨kl, tl, vs, h1, h2, h3, by simp, by rw [xput_same]; rfl, by rw [xput_ne (by omega)]; exact h6, by rw [xput_ne (by omega)]; exact h7, by rw [xput_ne (by omega)]; exact h8, fun i hi => absurd hi (by simp)⟩
theorem c_clearRows {d t : Nat} {bs : List Nat} {low high l2 h2 : Int32} {wf : Bool} {recs ents : List xrow} {M : xM} {z w : Nat} {Q : Option Value → xM → Nat → Nat → Prop} (h : TableAt M t bs low high wf recs ents)
    (K : ∀ M', TableAt M' t bs l2 h2 wf [] [] → Only M M' t 10 → Q none M' z w) : WP d mTb_clearRows 0 [some (.ref t), some (.int l2), some (.int h2)] [] M z w Q := by
  obtain ⟨k1, k2, ⟨bl, k3, k4, k5⟩, k6, k7, k8⟩ := h
  simp only [sTb_clearRows_0, sTb_clearRows_1]
  rw [sTb_clearRows_2 k6 rfl]
  simp only [sTb_clearRows_5, sTb_clearRows_6]
  rw [sTb_clearRows_7 xput_same rfl]
  simp only [sTb_clearRows_10]
  rw [sTb_clearRows_11 xput_same rfl]
  simp only [sTb_clearRows_14]
  have r1 := k7.cell
  have r2 := k8.cell
  generalize hM1 : xput (xput M t _) t _ = M1
  have o1 : ∀ q, q ≠ t → M1 q = M q := fun q hq => by rw [← hM1, xput_ne hq, xput_ne hq]
  have e1 : M1 t = some (3, [.ref (t + 1), .ref (t + 2), .ref (t + 6), .int (nI bs.length), .int l2, .int h2, .int (nI (if wf = true then 1 else 0))]) := by rw [← hM1, xput_same]; rfl
  rw [sTb_clearRows_15 ((o1 _ (by omega)).trans r1) rfl]
  simp only [sTb_clearRows_18]
  rw [sTb_clearRows_19 ((xput_ne (by omega)).trans e1) rfl]
  simp only [sTb_clearRows_22]
  rw [sTb_clearRows_23 ((xput_ne (by omega)).trans ((o1 _ (by omega)).trans r2)) rfl, sTb_clearRows_26]
  have m7 : RowsAt M1 (t + 2) 30 recs := k7.kept (fun q a b => o1 q (by omega))
  have m8 : RowsAt M1 (t + 6) 40 ents := k8.kept (fun q a b => o1 q (by omega))
  refine K _ ⟨k1, k2, ⟨bl, k3, by rw [xput_ne (by omega), xput_ne (by omega), o1 _ (by omega)]; exact k4, k5⟩, by rw [xput_ne (by omega), xput_ne (by omega)]; exact e1, ?_, ?_⟩ (fun q hq => by rw [xput_ne (by omega), xput_ne (by omega)]; exact o1 q (by omega))
  · exact m7.clear.kept (fun q a b => xput_ne (by omega))
  · exact (m8.kept (M' := xput M1 (t + 2) _) (fun q a b => xput_ne (by omega))).clear
theorem crc_in {d : Nat} {x1 x3 : Int32} {t : Nat} {M : xM} {z w : Nat} {Q : Option Value → xM → Nat → Nat → Prop} : ∀ (j c : Nat), c < 65536 → j ≤ 8 →
    (WP d mTb_checkOf 32 [some (.ref t), some (.int x1), some (.int (nI c)), some (.int x3), some (.int (nI (8 - j)))] [] M z w Q ↔ WP d mTb_checkOf 64 [some (.ref t), some (.int x1), some (.int (nI (crcN c j))), some (.int x3), some (.int (nI 8))] [] M z w Q) := by
  intro j
  induction j with
  | zero =>
    intro c hc hj
    simp only [sTb_checkOf_32, sTb_checkOf_34, sTb_checkOf_36]
    rw [if_pos (nI_le (by omega) (by omega))]
    rfl
  | succ j ih =>
    intro c hc hj
    rw [sTb_checkOf_32]
    simp only [sTb_checkOf_34, sTb_checkOf_36, sTb_checkOf_39, sTb_checkOf_40, sTb_checkOf_41, sTb_checkOf_42, sTb_checkOf_43, sTb_checkOf_44, sTb_checkOf_46, sTb_checkOf_49, sTb_checkOf_50, sTb_checkOf_52, sTb_checkOf_53, sTb_checkOf_56, sTb_checkOf_57, sTb_checkOf_58, sTb_checkOf_61, xk_i, xk_l, xk_a, xk_n, xk_0, Option.toList_some, Option.toList_none, List.cons_append, List.nil_append]
    rw [if_neg (nI_ge (by omega) (by omega)), pk_shlN (n := c) (nI 1 &&& 31) 1 (by decide) (by omega)]
    have hl := crc1_lt hc
    have ih' := ih (crc1 c) hl (by omega)
    have e : crcN c (j + 1) = crcN (crc1 c) j := rfl
    rw [e, ← ih']
    unfold crc1
    by_cases h : 65535 < c * 2
    · rw [if_neg (nI_ge (by omega) (by omega)), if_pos h, nI_and16, nx_xor, nI_add, show 8 - (j + 1) + 1 = 8 - j by omega]
    · rw [if_pos (nI_le (by omega) (by omega)), if_neg h, nI_add, show 8 - (j + 1) + 1 = 8 - j by omega]
theorem checkOf_loop {d n t : Nat} {bs : List Nat} {bl : List Int32} {fs : List Value} {M : xM} {z w : Nat} {Q : Option Value → xM → Nat → Nat → Prop} (hn : n ≤ bs.length) (h12 : bs.length ≤ 1200) (hb : ∀ b ∈ bs, b < 256) (h3 : bl.length = 1200) (h4 : M (t + 1) = some (20, vi bl)) (h5 : ∀ i, i < bs.length → bl[i]? = (bs[i]?).map nI) (h6 : M t = some (3, .ref (t + 1) :: fs)) : ∀ (k i : Nat) (x4 : Option Value), i + k = n →
    (WP d mTb_checkOf 5 [some (.ref t), some (.int (nI n)), some (.int (nI (crc (bs.take i)))), some (.int (nI i)), x4] [] M z w Q ↔ Q (some (.int (nI (crc (bs.take n))))) M z w) := by
  intro k
  induction k with
  | zero =>
    intro i x4 hi
    have : i = n := by omega
    subst this
    simp only [sTb_checkOf_5, sTb_checkOf_6, sTb_checkOf_7, sTb_checkOf_70, sTb_checkOf_71]
    rw [if_pos (nI_le (by omega) (by omega))]
  | succ k ih =>
    intro i x4 hi
    rw [sTb_checkOf_5]
    simp only [sTb_checkOf_6, sTb_checkOf_7, sTb_checkOf_10, sTb_checkOf_11, sTb_checkOf_14, sTb_checkOf_17, sTb_checkOf_18, sTb_checkOf_19 h6 rfl, sTb_checkOf_22]
    rw [if_neg (nI_ge (by omega) (by omega)), if_neg (nI_ge (by omega) (by omega))]
    have hlt : i < bs.length := by omega
    have hv : bl[i]? = some (nI bs[i]) := by rw [h5 i hlt, List.getElem?_eq_getElem hlt]; rfl
    rw [sTb_checkOf_23 h4 (nI_toInt (n := i) (by omega)) (v := .int (nI bs[i])) (by simp [hv])]
    simp only [sTb_checkOf_24, sTb_checkOf_26, sTb_checkOf_27, sTb_checkOf_28, sTb_checkOf_29, sTb_checkOf_30, xk_i, xk_l, xk_a, xk_n, xk_0, Option.toList_some, Option.toList_none, List.cons_append, List.nil_append]
    have hb256 := hb bs[i] (List.getElem_mem hlt)
    have hc : crc (bs.take i) < 65536 := crcL_lt _ (by decide) (fun b q => hb b (List.mem_of_mem_take q))
    rw [pk_shlN (n := bs[i]) (nI 8 &&& 31) 8 (by decide) (by omega), nx_xor, show (2 : Nat) ^ 8 = 256 from rfl]
    have h16 : crc (bs.take i) ^^^ bs[i] * 256 < 65536 := Nat.xor_lt_two_pow (n := 16) hc (by omega)
    rw [crc_in 8 _ h16 (by omega)]
    simp only [sTb_checkOf_64, sTb_checkOf_67, xk_i, xk_l, xk_a, xk_n, xk_0, Option.toList_some, Option.toList_none, List.cons_append, List.nil_append]
    have e : crcN (crc (bs.take i) ^^^ bs[i] * 256) 8 = crc (bs.take (i + 1)) := by
      rw [List.take_succ_eq_append_getElem hlt]
      unfold crc crcL
      rw [List.foldl_append, List.foldl_cons, List.foldl_nil]
      unfold crcB
      with_reducible rfl
    rw [e, nI_add, ih (i + 1) _ (by omega)]
theorem c_checkOf {d n t : Nat} {bs : List Nat} {low high : Int32} {wf : Bool} {recs ents : List xrow} {M : xM} {z w : Nat} {Q : Option Value → xM → Nat → Nat → Prop} (h : TableAt M t bs low high wf recs ents) (hn : n ≤ bs.length) : WP d mTb_checkOf 0 [some (.ref t), some (.int (nI n)), none, none, none] [] M z w Q ↔ Q (some (.int (nI (crc (bs.take n))))) M z w := by
  obtain ⟨k1, k2, ⟨bl, k3, k4, k5⟩, k6, k7, k8⟩ := h
  simp only [sTb_checkOf_0, sTb_checkOf_2, sTb_checkOf_3, sTb_checkOf_4, xk_i, xk_l, xk_a, xk_n, xk_0, Option.toList_some, Option.toList_none, List.cons_append, List.nil_append]
  exact checkOf_loop hn k1 k2 k3 k4 k5 k6 n 0 none (by omega)
/-- Table(): nine cells behind it -/
theorem c_table_init {d t : Nat} {M : xM} {z w : Nat} {Q : Option Value → xM → Nat → Nat → Prop} (h : M t = some (3, xDef 3)) (ht : z = t + 1)
    (K : ∀ M', TableAt M' t [] (nI 0) (nI 0) false [] [] → Only M M' t 10 → Q none M' (z + 9) (w + 1420)) : WP (d + 2) mTb_init 0 [some (.ref t)] [] M z w Q := by
  subst ht
  simp only [sTb_init_0, sTb_init_1, sTb_init_4, sTb_init_5]
  rw [sTb_init_8 (nI_toInt (n := 1200) (by omega)) (by omega), sTb_init_10 ((xput_ne (by omega)).trans h) rfl]
  simp only [sTb_init_13, sTb_init_14, sTb_init_17, sTb_init_18]
  generalize hM1 : xput (xput M (t + 1) _) t _ = M1
  have a1 : M1 t = some (3, (xDef 3).set 0 (.ref (t + 1))) := by rw [← hM1, xput_same]
  have a2 : M1 (t + 1) = some (20, List.replicate 1200 (.int 0)) := by rw [← hM1, xput_ne (by omega), xput_same]
  have a3 : ∀ q, q ≠ t → q ≠ t + 1 → M1 q = M q := fun q h1 h2 => by rw [← hM1, xput_ne h1, xput_ne h2]
  rw [sTb_init_20]
  refine c_rows_init (a := t + 1 + 1) (by omega) xput_same rfl (fun M2 hR hO => ?_)
  simp only [xk_i, xk_l, xk_a, xk_n, xk_0, Option.toList_some, Option.toList_none, List.cons_append, List.nil_append]
  have b1 : M2 t = some (3, (xDef 3).set 0 (.ref (t + 1))) := by rw [hO t (by omega), xput_ne (by omega)]; exact a1
  rw [sTb_init_23 b1 rfl]
  simp only [sTb_init_26, sTb_init_27, sTb_init_30, sTb_init_31]
  rw [sTb_init_33]
  refine c_rows_init (a := t + 1 + 1 + 1 + 3) (by omega) xput_same rfl (fun M3 hR3 hO3 => ?_)
  simp only [xk_i, xk_l, xk_a, xk_n, xk_0, Option.toList_some, Option.toList_none, List.cons_append, List.nil_append]
  have c1 : M3 t = some (3, ((xDef 3).set 0 (.ref (t + 1))).set 1 (.ref (t + 1 + 1))) := by rw [hO3 t (by omega), xput_ne (by omega), xput_same]
  rw [sTb_init_36 c1 rfl, sTb_init_39]
  have K' := K (xput M3 t (3, (((xDef 3).set 0 (.ref (t + 1))).set 1 (.ref (t + 1 + 1))).set 2 (.ref (t + 1 + 1 + 1 + 3)))) ?_ ?_
  · rw [show t + 1 + 9 = t + 1 + 1 + 1 + 3 + 1 + 3 by omega, show w + 1420 = w + 1200 + 5 + 3 * 30 + 5 + 3 * 40 by omega]
    exact K'
  · refine ⟨by simp, by simp, ⟨List.replicate 1200 0, List.length_replicate .., ?_, fun i hi => absurd hi (by simp)⟩, ?_, ?_, ?_⟩
    · rw [xput_ne (by omega), hO3 _ (by omega), xput_ne (by omega), xput_ne (by omega), hO _ (by omega), xput_ne (by omega), a2]; show _ = some (20, List.map Value.int (List.replicate 1200 0)); rw [List.map_replicate]
    · rw [xput_same]; rfl
    · refine hR.kept (fun q h1 h2 => ?_)
      rw [xput_ne (by omega), hO3 q (by omega), xput_ne (by omega), xput_ne (by omega)]
    · exact hR3.kept (fun q h1 h2 => xput_ne (by omega))
  · intro q hq
    rw [xput_ne (by omega), hO3 q (by omega), xput_ne (by omega), xput_ne (by omega), hO q (by omega), xput_ne (by omega)]
    exact a3 q (by omega) (by omega)
