/-! RefStack$Rows: rows of a table, in memory -/
abbrev xrow : Type := Int64 × Int32 × Int64
abbrev vl (l : List Int64) : List Value := l.map .long
abbrev vi (l : List Int32) : List Value := l.map .int
/-- nothing but n cells from a on differs -/
def Only (M M' : xM) (a n : Nat) : Prop := ∀ q, (q < a ∨ a + n ≤ q) → M' q = M q
def RowsAt (M : xM) (a room : Nat) (rs : List xrow) : Prop := ∃ (kl : List Int64) (tl : List Int32) (vs : List Int64), kl.length = room ∧ tl.length = room ∧ vs.length = room ∧ rs.length ≤ room ∧
  M a = some (2, [.int (nI room), .ref (a + 1), .ref (a + 2), .ref (a + 3), .int (nI rs.length)]) ∧ M (a + 1) = some (21, vl kl) ∧ M (a + 2) = some (20, vi tl) ∧ M (a + 3) = some (21, vl vs) ∧
  ∀ i, i < rs.length → kl[i]? = (rs[i]?).map (fun r => r.1) ∧ tl[i]? = (rs[i]?).map (fun r => r.2.1) ∧ vs[i]? = (rs[i]?).map (fun r => r.2.2)
theorem RowsAt.kept {M M' : xM} {a room : Nat} {rs : List xrow} (h : RowsAt M a room rs) (hq : ∀ q, a ≤ q → q < a + 4 → M' q = M q) : RowsAt M' a room rs := by
  obtain ⟨kl, tl, vs, h1, h2, h3, h4, h5, h6, h7, h8, h9⟩ := h
  exact ⟨kl, tl, vs, h1, h2, h3, h4, by rw [hq a (by omega) (by omega)]; exact h5, by rw [hq _ (by omega) (by omega)]; exact h6, by rw [hq _ (by omega) (by omega)]; exact h7, by rw [hq _ (by omega) (by omega)]; exact h8, h9⟩
/-- an Int64 as a number -/
def kN (x : Int64) : Nat := x.toBitVec.toNat
theorem kN_lt (x : Int64) : kN x < 2 ^ 64 := x.toBitVec.isLt
theorem lN_kN (x : Int64) : lN (kN x) = x := wb_inj (by rw [wb_tb]; unfold kN; simp)
theorem kN_lN {n : Nat} (h : n < 2 ^ 64) : kN (lN n) = n := wb_tn h
def valOf (o n : Int32) : Int64 := (o.toInt64 <<< ((nI 16).toInt64 &&& 63)) ||| n.toInt64
def oldV (v : Int64) : Int32 := ((v.toUInt64 >>> ((nI 16).toInt64.toUInt64 &&& Int64.toUInt64 63)).toInt64).toInt32 &&& nI 65535
def newV (v : Int64) : Int32 := v.toInt32 &&& nI 65535
theorem c_valueOf {d : Nat} {o n : Int32} {M : xM} {z w : Nat} {Q : Option Value → xM → Nat → Nat → Prop} : WP d mRw_valueOf 0 [some (.int o), some (.int n)] [] M z w Q ↔ Q (some (.long (valOf o n))) M z w := by
  simp only [sRw_valueOf_0, sRw_valueOf_1, sRw_valueOf_2, sRw_valueOf_4, sRw_valueOf_5, sRw_valueOf_6, sRw_valueOf_7, sRw_valueOf_8, xk_i, xk_l, xk_a, xk_n, xk_0, Option.toList_some, Option.toList_none, List.cons_append, List.nil_append]; rfl
theorem c_oldOf {d : Nat} {v : Int64} {M : xM} {z w : Nat} {Q : Option Value → xM → Nat → Nat → Prop} : WP d mRw_oldOf 0 [some (.long v), none] [] M z w Q ↔ Q (some (.int (oldV v))) M z w := by
  simp only [sRw_oldOf_0, sRw_oldOf_1, sRw_oldOf_3, sRw_oldOf_4, sRw_oldOf_5, sRw_oldOf_7, sRw_oldOf_8, xk_i, xk_l, xk_a, xk_n, xk_0, Option.toList_some, Option.toList_none, List.cons_append, List.nil_append]; rfl
theorem c_newOf {d : Nat} {v : Int64} {M : xM} {z w : Nat} {Q : Option Value → xM → Nat → Nat → Prop} : WP d mRw_newOf 0 [some (.long v), none] [] M z w Q ↔ Q (some (.int (newV v))) M z w := by
  simp only [sRw_newOf_0, sRw_newOf_1, sRw_newOf_2, sRw_newOf_4, sRw_newOf_5, xk_i, xk_l, xk_a, xk_n, xk_0, Option.toList_some, Option.toList_none, List.cons_append, List.nil_append]; rfl
theorem valOf_nI {a b : Nat} (ha : a < 65536) (hb : b < 65536) : valOf (nI a) (nI b) = lN (a * 65536 + b) := by
  unfold valOf
  rw [nI_l (n := a) (by omega), nI_l (n := b) (by omega), wb_shl _ (by decide)]
  exact g_or (k := 16) rfl hb (by omega)
theorem nI_and16 (n : Nat) : nI n &&& nI 65535 = nI (n % 65536) := by
  rw [pk_and (nI n) 16 (by decide), nI_mod n, pk_tn (Nat.mod_lt _ (by decide))]
  congr 1
  omega
theorem oldV_nI {a b : Nat} (ha : a < 65536) (hb : b < 65536) : oldV (lN (a * 65536 + b)) = nI a := by
  unfold oldV
  rw [wb_shr (by omega) (by decide), lN_i, nI_and16]
  congr 1
  omega
theorem newV_nI {a b : Nat} (ha : a < 65536) (hb : b < 65536) : newV (lN (a * 65536 + b)) = nI b := by
  unfold newV
  rw [lN_i, nI_and16]
  congr 1
  omega
theorem vl_set (l : List Int64) (k : Nat) (x : Int64) : (vl l).set k (.long x) = vl (l.set k x) := by simp [List.map_set]
theorem vi_set (l : List Int32) (k : Nat) (x : Int32) : (vi l).set k (.int x) = vi (l.set k x) := by simp [List.map_set]
theorem xput_get {M : xM} {a b : Nat} {c : xC} : xput M a c b = if b = a then some c else M b := rfl
set_option maxHeartbeats 1000000 in
/-- Rows.add when there is room -/
theorem c_rows_add {d a room : Nat} {rs : List xrow} {k v : Int64} {t : Int32} {M : xM} {z w : Nat} {Q : Option Value → xM → Nat → Nat → Prop} (h : RowsAt M a room rs) (hr : room < 2 ^ 30) (hl : rs.length < room)
    (K : ∀ M', RowsAt M' a room (rs ++ [(k, t, v)]) → Only M M' a 4 → Q (some (.int (nI 1))) M' z w) : WP d mRw_add 0 [some (.ref a), some (.long k), none, some (.int t), some (.long v), none] [] M z w Q := by
  obtain ⟨kl, tl, vs, h1, h2, h3, h4, h5, h6, h7, h8, h9⟩ := h
  have hi := nI_toInt (n := rs.length) (by omega)
  simp only [sRw_add_0, sRw_add_1 h5 rfl, sRw_add_4, sRw_add_5 h5 rfl, sRw_add_8, sRw_add_11, sRw_add_12 xb0, sRw_add_12 xb1, sRw_add_13, sRw_add_14 h5 rfl, sRw_add_17, sRw_add_18 h5 rfl]
  rw [if_pos (nI_lt hl (by omega))]
  rw [sRw_add_21, sRw_add_22 h6 hi (by simp; omega), vl_set]
  have g5 : xput M (a + 1) (21, vl (kl.set rs.length k)) a = some (2, [.int (nI room), .ref (a + 1), .ref (a + 2), .ref (a + 3), .int (nI rs.length)]) := by rw [xput_ne (by omega)]; exact h5
  have g7 : xput M (a + 1) (21, vl (kl.set rs.length k)) (a + 2) = some (20, vi tl) := by rw [xput_ne (by omega)]; exact h7
  have g8 : xput M (a + 1) (21, vl (kl.set rs.length k)) (a + 3) = some (21, vl vs) := by rw [xput_ne (by omega)]; exact h8
  have g6 : xput M (a + 1) (21, vl (kl.set rs.length k)) (a + 1) = some (21, vl (kl.set rs.length k)) := xput_same
  have o1 : Only M (xput M (a + 1) (21, vl (kl.set rs.length k))) a 4 := fun q hq => xput_ne (by omega)
  generalize xput M (a + 1) (21, vl (kl.set rs.length k)) = M1 at g5 g6 g7 g8 o1 ⊢
  simp only [sRw_add_23, sRw_add_24 g5 rfl, sRw_add_27, sRw_add_28 g5 rfl, sRw_add_31]
  rw [sRw_add_32 g7 hi (by simp; omega), vi_set]
  have f5 : xput M1 (a + 2) (20, vi (tl.set rs.length t)) a = some (2, [.int (nI room), .ref (a + 1), .ref (a + 2), .ref (a + 3), .int (nI rs.length)]) := by rw [xput_ne (by omega)]; exact g5
  have f6 : xput M1 (a + 2) (20, vi (tl.set rs.length t)) (a + 1) = some (21, vl (kl.set rs.length k)) := by rw [xput_ne (by omega)]; exact g6
  have f8 : xput M1 (a + 2) (20, vi (tl.set rs.length t)) (a + 3) = some (21, vl vs) := by rw [xput_ne (by omega)]; exact g8
  have f7 : xput M1 (a + 2) (20, vi (tl.set rs.length t)) (a + 2) = some (20, vi (tl.set rs.length t)) := xput_same
  have o2 : Only M (xput M1 (a + 2) (20, vi (tl.set rs.length t))) a 4 := fun q hq => by rw [xput_ne (by omega)]; exact o1 q hq
  generalize xput M1 (a + 2) (20, vi (tl.set rs.length t)) = M2 at f5 f6 f7 f8 o2 ⊢
  simp only [sRw_add_33, sRw_add_34 f5 rfl, sRw_add_37, sRw_add_38 f5 rfl, sRw_add_41]
  rw [sRw_add_43 f8 hi (by simp; omega), vl_set]
  have e5 : xput M2 (a + 3) (21, vl (vs.set rs.length v)) a = some (2, [.int (nI room), .ref (a + 1), .ref (a + 2), .ref (a + 3), .int (nI rs.length)]) := by rw [xput_ne (by omega)]; exact f5
  have e6 : xput M2 (a + 3) (21, vl (vs.set rs.length v)) (a + 1) = some (21, vl (kl.set rs.length k)) := by rw [xput_ne (by omega)]; exact f6
  have e7 : xput M2 (a + 3) (21, vl (vs.set rs.length v)) (a + 2) = some (20, vi (tl.set rs.length t)) := by rw [xput_ne (by omega)]; exact f7
  have e8 : xput M2 (a + 3) (21, vl (vs.set rs.length v)) (a + 3) = some (21, vl (vs.set rs.length v)) := xput_same
  have o3 : Only M (xput M2 (a + 3) (21, vl (vs.set rs.length v))) a 4 := fun q hq => by rw [xput_ne (by omega)]; exact o2 q hq
  generalize xput M2 (a + 3) (21, vl (vs.set rs.length v)) = M3 at e5 e6 e7 e8 o3 ⊢
  simp only [sRw_add_44, sRw_add_45, sRw_add_46 e5 rfl, sRw_add_49, sRw_add_50, sRw_add_51 e5 rfl, sRw_add_54]
  rw [sRw_add_55 xb1, nI_add]
  refine K _ ⟨kl.set rs.length k, tl.set rs.length t, vs.set rs.length v, by simp [h1], by simp [h2], by simp [h3], by simp; omega, ?_, ?_, ?_, ?_, fun i hi' => ?_⟩ (fun q hq => by rw [xput_ne (by omega)]; exact o3 q hq)
  · rw [xput_same]
    simp
  · rw [xput_ne (by omega)]; exact e6
  · rw [xput_ne (by omega)]; exact e7
  · rw [xput_ne (by omega)]; exact e8
  · simp only [List.length_append, List.length_singleton] at hi'
    by_cases hc : i = rs.length
    · subst hc
      simp [List.getElem?_set, h1, h2, h3, hl]
    · have := h9 i (by omega)
      rw [List.getElem?_set_ne (by omega), List.getElem?_set_ne (by omega), List.getElem?_set_ne (by omega), List.getElem?_append_left (by omega)]
      exact this
theorem c_rows_full {d a room : Nat} {rs : List xrow} {k v : Int64} {t : Int32} {M : xM} {z w : Nat} {Q : Option Value → xM → Nat → Nat → Prop} (h : RowsAt M a room rs) (hr : room < 2 ^ 30) (hl : rs.length = room) : WP d mRw_add 0 [some (.ref a), some (.long k), none, some (.int t), some (.long v), none] [] M z w Q ↔ Q (some (.int (nI 0))) M z w := by
  obtain ⟨kl, tl, vs, h1, h2, h3, h4, h5, h6, h7, h8, h9⟩ := h
  simp only [sRw_add_0, sRw_add_1 h5 rfl, sRw_add_4, sRw_add_5 h5 rfl, sRw_add_8, sRw_add_11, sRw_add_12 xb0, sRw_add_12 xb1]
  rw [if_neg (nI_nlt (by omega) (by omega))]
/-- the key of the row before -/
def kbf (rs : List xrow) (i : Nat) : Int64 := if i = 0 then lN 0 else ((rs[i - 1]?).map (fun r => r.1)).getD (lN 0)
theorem c_keyBefore {d a room i : Nat} {rs : List xrow} {M : xM} {z w : Nat} {Q : Option Value → xM → Nat → Nat → Prop} (h : RowsAt M a room rs) (hr : room < 2 ^ 30) (hi : i ≤ rs.length) : WP d mRw_keyBefore 0 [some (.ref a), some (.int (nI i))] [] M z w Q ↔ Q (some (.long (kbf rs i))) M z w := by
  obtain ⟨kl, tl, vs, h1, h2, h3, h4, h5, h6, h7, h8, h9⟩ := h
  simp only [sRw_keyBefore_0, sRw_keyBefore_1, sRw_keyBefore_4, sRw_keyBefore_5, sRw_keyBefore_6 h5 rfl, sRw_keyBefore_9, sRw_keyBefore_12, sRw_keyBefore_13 h5 rfl, sRw_keyBefore_16, sRw_keyBefore_17, sRw_keyBefore_18, sRw_keyBefore_23, sRw_keyBefore_24]
  unfold kbf
  by_cases h0 : i = 0
  · rw [if_pos (by rw [h0]; decide), if_pos h0]
  · rw [if_neg (nI_ge (a := 0) (by omega) (by omega)), if_neg (nI_nlt (by omega) (by omega)), if_neg h0, pk_sub (by omega)]
    have hq := (h9 (i - 1) (by omega)).1
    have hv : rs[i - 1]? = some rs[i - 1] := List.getElem?_eq_getElem (by omega)
    rw [hv] at hq ⊢
    rw [sRw_keyBefore_19 (k := i - 1) h6 (nI_toInt (by omega)) (v := .long rs[i - 1].1) (by simp [hq])]
    simp only [sRw_keyBefore_20, sRw_keyBefore_23, sRw_keyBefore_24, Option.map_some, Option.getD_some]
theorem c_alike_raw {d : Nat} {x y : Int64} {M : xM} {z w : Nat} {Q : Option Value → xM → Nat → Nat → Prop} : WP d mNm_alike 0 [some (.long x), none, some (.long y), none, none, none, none, none] [] M z w Q ↔ Q (some (.int (nI (alk (kN x) (kN y))))) M z w := by
  have := c_alike (d := d) (M := M) (z := z) (w := w) (Q := Q) (kN_lt x) (kN_lt y)
  rwa [lN_kN, lN_kN] at this
theorem n4 : nI 4 ≠ 0 := by decide
theorem c_sharedDue {d a room i : Nat} {rs : List xrow} {k : Int64} {M : xM} {z w : Nat} {Q : Option Value → xM → Nat → Nat → Prop} (h : RowsAt M a room rs) (hr : room < 2 ^ 30) (hi : i ≤ rs.length) : WP (d + 1) mRw_sharedDue 0 [some (.ref a), some (.int (nI i)), some (.long k), none] [] M z w Q ↔ Q (some (.int (nI (if i % 4 = 0 then 0 else alk (kN (kbf rs i)) (kN k))))) M z w := by
  have h' := h
  obtain ⟨kl, tl, vs, h1, h2, h3, h4, h5, h6, h7, h8, h9⟩ := h'
  simp only [sRw_sharedDue_0, sRw_sharedDue_1, sRw_sharedDue_2 n4, sRw_sharedDue_3, sRw_sharedDue_6, sRw_sharedDue_7, sRw_sharedDue_10, sRw_sharedDue_11, sRw_sharedDue_12 h5, sRw_sharedDue_19, pk_rem (a := i) (d := 4) (by omega) (by decide) (by decide)]
  have q := nI_eq (a := i % 4) (b := 0) (by omega) (by omega)
  simp only [q]
  by_cases h0 : i % 4 = 0
  · rw [if_pos h0, if_pos h0]
  · rw [if_neg h0, if_neg h0, c_keyBefore h hr hi]
    simp only [sRw_sharedDue_15, sRw_sharedDue_16, xk_i, xk_l, xk_a, xk_n, xk_0, Option.toList_some, Option.toList_none, List.cons_append, List.nil_append]
    rw [c_alike_raw]
    simp only [sRw_sharedDue_19, xk_i, xk_l, xk_a, xk_n, xk_0, Option.toList_some, Option.toList_none, List.cons_append, List.nil_append]
/-- Rows(room): three new arrays behind it -/
theorem c_rows_init {d a room : Nat} {M : xM} {z w : Nat} {Q : Option Value → xM → Nat → Nat → Prop} (hr : room ≤ 1000) (h : M a = some (2, xDef 2)) (ha : z = a + 1)
    (K : ∀ M', RowsAt M' a room [] → Only M M' a 4 → Q none M' (z + 3) (w + 3 * room)) : WP (d + 1) mRw_init 0 [some (.ref a), some (.int (nI room))] [] M z w Q := by
  subst ha
  have hi := nI_toInt (n := room) (by omega)
  simp only [sRw_init_0, sRw_init_1, sRw_init_4, sRw_init_5]
  rw [sRw_init_6 h rfl]
  simp only [sRw_init_9, sRw_init_10]
  rw [sRw_init_11 hi (by omega)]
  have e1 : xput (xput M a (2, (xDef 2).set 0 (.int (nI room)))) (a + 1) (21, List.replicate room (.long 0)) a = some (2, (xDef 2).set 0 (.int (nI room))) := by rw [xput_ne (by omega), xput_same]
  rw [sRw_init_13 e1 rfl]
  simp only [sRw_init_16, sRw_init_17]
  rw [sRw_init_18 hi (by omega)]
  generalize hM1 : xput (xput (xput M a (2, (xDef 2).set 0 (.int (nI room)))) (a + 1) (21, List.replicate room (.long 0))) a (2, ((xDef 2).set 0 (.int (nI room))).set 1 (.ref (a + 1))) = M1
  have f1 : M1 a = some (2, ((xDef 2).set 0 (.int (nI room))).set 1 (.ref (a + 1))) := by rw [← hM1, xput_same]
  have f2 : M1 (a + 1) = some (21, List.replicate room (.long 0)) := by rw [← hM1, xput_ne (by omega), xput_same]
  have f3 : ∀ q, q ≠ a → q ≠ a + 1 → M1 q = M q := fun q h1 h2 => by rw [← hM1, xput_ne h1, xput_ne h2, xput_ne h1]
  have g1 : xput M1 (a + 1 + 1) (20, List.replicate room (.int 0)) a = some (2, ((xDef 2).set 0 (.int (nI room))).set 1 (.ref (a + 1))) := by rw [xput_ne (by omega)]; exact f1
  rw [sRw_init_20 g1 rfl]
  simp only [sRw_init_23, sRw_init_24]
  rw [sRw_init_25 hi (by omega)]
  generalize hM2 : xput (xput M1 (a + 1 + 1) (20, List.replicate room (.int 0))) a (2, (((xDef 2).set 0 (.int (nI room))).set 1 (.ref (a + 1))).set 2 (.ref (a + 1 + 1))) = M2
  have j1 : M2 a = some (2, (((xDef 2).set 0 (.int (nI room))).set 1 (.ref (a + 1))).set 2 (.ref (a + 1 + 1))) := by rw [← hM2, xput_same]
  have j2 : M2 (a + 1) = some (21, List.replicate room (.long 0)) := by rw [← hM2, xput_ne (by omega), xput_ne (by omega)]; exact f2
  have j3 : M2 (a + 2) = some (20, List.replicate room (.int 0)) := by rw [← hM2, xput_ne (by omega), xput_same]
  have j4 : ∀ q, q ≠ a → q ≠ a + 1 → q ≠ a + 2 → M2 q = M q := fun q h1 h2 h3 => by rw [← hM2, xput_ne h1, xput_ne h3]; exact f3 q h1 h2
  have k1 : xput M2 (a + 1 + 1 + 1) (21, List.replicate room (.long 0)) a = some (2, (((xDef 2).set 0 (.int (nI room))).set 1 (.ref (a + 1))).set 2 (.ref (a + 1 + 1))) := by rw [xput_ne (by omega)]; exact j1
  rw [sRw_init_27 k1 rfl, sRw_init_30]
  rw [show w + room + room + room = w + 3 * room by omega, show a + 1 + 1 + 1 + 1 = a + 1 + 3 by omega]
  refine K _ ⟨List.replicate room 0, List.replicate room 0, List.replicate room 0, by simp, by simp, by simp, by simp, ?_, ?_, ?_, ?_, fun i hi' => absurd hi' (by simp)⟩ (fun q hq => ?_)
  · rw [xput_same]; rfl
  · rw [xput_ne (by omega), xput_ne (by omega), j2]; simp
  · rw [xput_ne (by omega), xput_ne (by omega), j3]; simp
  · rw [xput_ne (by omega), show a + 3 = a + 1 + 1 + 1 by omega, xput_same]; simp
  · rw [xput_ne (by omega), xput_ne (by omega)]; exact j4 q (by omega) (by omega) (by omega)
