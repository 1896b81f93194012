/-! RefStack$Walk -/
def tN (x : Int32) : Nat := x.toBitVec.toNat
theorem tN_nI {n : Nat} (h : n < 2 ^ 32) : tN (nI n) = n := pk_tn h
theorem nI_tN (x : Int32) : nI (tN x) = x := Int32.toBitVec_inj.mp (by show BitVec.ofNat 32 _ = _; unfold tN; simp)
/-- what a walk is ordered by -/
def fW (tm : Bool) (r : xrow) : Nat := if tm = true then kN r.1 * 2 ^ 32 + (2 ^ 32 - 1 - tN r.2.1) else kN r.1
def rok (r : xrow) : Prop := 0 < kN r.1 ∧ kN r.1 < 2 ^ 60 ∧ tN r.2.1 < 2 ^ 31
/-- a source: its rows' address, their room, the rows, the next of them -/
abbrev wsrc : Type := Nat × Nat × List xrow × Nat
def srm (s : wsrc) : List xrow := s.2.2.1.drop s.2.2.2
def wrem (srcs : List wsrc) : List xrow := srcs.flatMap srm
def WkAt (M : xM) (a : Nat) (tm : Bool) (D : Nat → Prop) (srcs : List wsrc) (cur : xrow) : Prop :=
  M a = some (6, [.int (nI (if tm = true then 1 else 0)), .ref (a + 1), .ref (a + 2), .int (nI srcs.length), .long cur.1, .int cur.2.1, .long cur.2.2]) ∧ srcs.length ≤ 9 ∧ ∃ (arr : List Value) (nx : List Int32), arr.length = 9 ∧ nx.length = 9 ∧ M (a + 1) = some (24, arr) ∧ M (a + 2) = some (20, vi nx) ∧
  ∀ (i : Nat) (s : wsrc), srcs[i]? = some s → arr[i]? = some (.ref s.1) ∧ nx[i]? = some (nI s.2.2.2) ∧ RowsAt M s.1 s.2.1 s.2.2.1 ∧ s.2.2.2 ≤ s.2.2.1.length ∧ s.2.1 ≤ 40 ∧ (s.1 + 4 ≤ a ∨ a + 3 ≤ s.1) ∧ sT (fW tm) s.2.2.1 ∧ (∀ r ∈ s.2.2.1, rok r) ∧ ∀ q, s.1 ≤ q → q < s.1 + 4 → D q
theorem WkAt.kept {M M' : xM} {a : Nat} {tm : Bool} {D : Nat → Prop} {srcs : List wsrc} {cur : xrow} (h : WkAt M a tm D srcs cur) (h1 : ∀ q, a ≤ q → q < a + 3 → M' q = M q) (h2 : ∀ q, D q → M' q = M q) : WkAt M' a tm D srcs cur := by
  obtain ⟨k1, k2, arr, nx, k3, k4, k5, k6, k7⟩ := h
  refine ⟨by rw [h1 _ (by omega) (by omega)]; exact k1, k2, arr, nx, k3, k4, by rw [h1 _ (by omega) (by omega)]; exact k5, by rw [h1 _ (by omega) (by omega)]; exact k6, fun i s hs => ?_⟩
  obtain ⟨j1, j2, j3, j4, j5, j6, j7, j8, j9⟩ := k7 i s hs
  exact ⟨j1, j2, j3.kept (fun q q1 q2 => h2 q (j9 q q1 q2)), j4, j5, j6, j7, j8, j9⟩
theorem fW_lt {tm : Bool} {r s : xrow} (hr : rok r) (hs : rok s) : fW tm r < fW tm s ↔ (if r.1 = s.1 then tm = true ∧ s.2.1 < r.2.1 else r.1 < s.1) := by
  obtain ⟨r0, r1, r2⟩ := hr
  obtain ⟨s0, s1, s2⟩ := hs
  have e1 : r.1 = s.1 ↔ kN r.1 = kN s.1 := by
    constructor
    · intro h; rw [h]
    · intro h; rw [← lN_kN r.1, h, lN_kN]
  have e2 : r.1 < s.1 ↔ kN r.1 < kN s.1 := by
    have := pk_lLT (a := kN r.1) (b := kN s.1) (by omega) (by omega)
    rwa [lN_kN, lN_kN] at this
  have e3 : s.2.1 < r.2.1 ↔ tN s.2.1 < tN r.2.1 := by
    have := nI_ltI (a := tN s.2.1) (b := tN r.2.1) s2 r2
    rwa [nI_tN, nI_tN] at this
  simp only [e1, e2, e3]
  unfold fW
  cases tm with
  | true =>
    simp only [if_true, true_and]
    split
    · rename_i h; rw [h]; omega
    · omega
  | false =>
    simp only [Bool.false_eq_true, if_false, false_and]
    split
    · rename_i h; simp [h]
    · exact Iff.rfl
theorem fW_eq {tm : Bool} {r s : xrow} (ht : tN r.2.1 < 2 ^ 31) (ht2 : tN s.2.1 < 2 ^ 31) : fW tm r = fW tm s ↔ (r.1 = s.1 ∧ (tm = true → r.2.1 = s.2.1)) := by
  have e1 : r.1 = s.1 ↔ kN r.1 = kN s.1 := by
    constructor
    · intro h; rw [h]
    · intro h; rw [← lN_kN r.1, h, lN_kN]
  have e3 : r.2.1 = s.2.1 ↔ tN r.2.1 = tN s.2.1 := by
    constructor
    · intro h; rw [h]
    · intro h; rw [← nI_tN r.2.1, h, nI_tN]
  simp only [e1, e3]
  unfold fW
  cases tm with
  | true => simp only [if_true, true_implies]; omega
  | false => simp
section WLK
variable {d a : Nat} {tm : Bool} {D : Nat → Prop} {srcs : List wsrc} {cur : xrow} {M : xM} {z w : Nat} {Q : Option Value → xM → Nat → Nat → Prop}
theorem c_comesBefore {t0 : Int32} {fs : List Value} {a1 n1 i1 a2 n2 i2 : Nat} {l1 l2 : List xrow} {r1 r2 : xrow} (hw : M a = some (6, .int (nI (if tm = true then 1 else 0)) :: fs)) (h1 : RowsAt M a1 n1 l1) (h2 : RowsAt M a2 n2 l2) (hr1 : l1[i1]? = some r1) (hr2 : l2[i2]? = some r2) (o1 : rok r1) (o2 : rok r2) (b1 : n1 ≤ 40) (b2 : n2 ≤ 40) :
    WP d mWk_comesBefore 0 [some (.ref a), some (.ref a1), some (.int (nI i1)), some (.ref a2), some (.int (nI i2))] [] M z w Q ↔ Q (some (.int (nI (if fW tm r1 < fW tm r2 then 1 else 0)))) M z w := by
  have c1 := h1.cell
  have c2 := h2.cell
  obtain ⟨kl, tl, vs, p1, p2, p3, p4, p5, p6, p7, p8⟩ := h1.at hr1
  obtain ⟨kl', tl', vs', q1, q2, q3, q4, q5, q6, q7, q8⟩ := h2.at hr2
  have t1 := nI_toInt (n := i1) (by omega)
  have t2 := nI_toInt (n := i2) (by omega)
  have hf := fW_lt (tm := tm) o1 o2
  rw [sWk_comesBefore_0, sWk_comesBefore_1 c1 rfl, sWk_comesBefore_4, sWk_comesBefore_5 p1 t1 p2, sWk_comesBefore_6, sWk_comesBefore_7 c2 rfl, sWk_comesBefore_10, sWk_comesBefore_12 q1 t2 q2]
  simp only [sWk_comesBefore_13, sWk_comesBefore_14, lcmp_eq, lcmp_lt, lcmp_ge, lcmp_gt, lcmp_le]
  by_cases hk : r1.1 = r2.1
  · rw [if_pos hk]
    rw [if_pos hk] at hf
    simp only [sWk_comesBefore_40, sWk_comesBefore_41 hw rfl, sWk_comesBefore_44]
    cases tm with
    | false =>
      rw [if_pos (show nI (if false = true then 1 else 0) = nI 0 from rfl), if_neg (fun z => by have := hf.mp z; cases this.1)]
      simp only [sWk_comesBefore_67, sWk_comesBefore_68 xb0, sWk_comesBefore_68 xb1]
    | true =>
      rw [if_neg (by decide), sWk_comesBefore_47, sWk_comesBefore_48 c1 rfl, sWk_comesBefore_51, sWk_comesBefore_52 p3 t1 p4, sWk_comesBefore_53, sWk_comesBefore_54 c2 rfl, sWk_comesBefore_57, sWk_comesBefore_59 q3 t2 q4]
      simp only [sWk_comesBefore_60, sWk_comesBefore_63, sWk_comesBefore_64, sWk_comesBefore_67, sWk_comesBefore_68 xb0, sWk_comesBefore_68 xb1]
      by_cases ht : r2.2.1 < r1.2.1
      · rw [if_neg (by rw [Int32.le_iff_toInt_le]; rw [Int32.lt_iff_toInt_lt] at ht; omega), if_pos (hf.mpr ⟨rfl, ht⟩)]
      · rw [if_pos (by rw [Int32.le_iff_toInt_le]; rw [Int32.lt_iff_toInt_lt] at ht; omega), if_neg (fun z => ht (hf.mp z).2)]
  · rw [if_neg hk]
    rw [if_neg hk] at hf
    rw [sWk_comesBefore_17, sWk_comesBefore_18 c1 rfl, sWk_comesBefore_21, sWk_comesBefore_22 p1 t1 p2, sWk_comesBefore_23, sWk_comesBefore_24 c2 rfl, sWk_comesBefore_27, sWk_comesBefore_29 q1 t2 q2]
    simp only [sWk_comesBefore_30, sWk_comesBefore_31, sWk_comesBefore_34, sWk_comesBefore_35, sWk_comesBefore_38, sWk_comesBefore_39 xb0, sWk_comesBefore_39 xb1, lcmp_eq, lcmp_lt, lcmp_ge, lcmp_gt, lcmp_le]
    by_cases hl : r1.1 < r2.1
    · rw [if_neg (by rw [Int64.le_iff_toInt_le]; rw [Int64.lt_iff_toInt_lt] at hl; omega), if_pos (hf.mpr hl)]
    · rw [if_pos (by rw [Int64.le_iff_toInt_le]; rw [Int64.lt_iff_toInt_lt] at hl; omega), if_neg (fun z => hl (hf.mp z))]

/-- the first of the least heads of the first i sources -/
def Bst (tm : Bool) (srcs : List wsrc) (i : Nat) : Option Nat → Prop
  | none => ∀ q s, q < i → srcs[q]? = some s → s.2.2.1.length ≤ s.2.2.2
  | some j => j < i ∧ ∃ s h, srcs[j]? = some s ∧ s.2.2.1[s.2.2.2]? = some h ∧ ∀ q s' h', q < i → srcs[q]? = some s' → s'.2.2.1[s'.2.2.2]? = some h' → fW tm h ≤ fW tm h' ∧ (q < j → fW tm h < fW tm h')
def bV (srcs : List wsrc) : Option Nat → Value
  | none => .null
  | some j => .ref (((srcs[j]?).map (fun s => s.1)).getD 0)
set_option maxHeartbeats 1000000 in
theorem step_loop (h : WkAt M a tm D srcs cur) (K : ∀ b x4, Bst tm srcs srcs.length b → WP (d + 1) mWk_step 81 [some (.ref a), some (bV srcs b), some (.int (nI (b.getD 0))), some (.int (nI srcs.length)), x4] [] M z w Q) : ∀ (r i : Nat) (b : Option Nat) (x4 : Option Value), i + r = srcs.length → Bst tm srcs i b →
    WP (d + 1) mWk_step 6 [some (.ref a), some (bV srcs b), some (.int (nI (b.getD 0))), some (.int (nI i)), x4] [] M z w Q := by
  have h0 := h
  obtain ⟨k1, k2, arr, nx, k3, k4, k5, k6, k7⟩ := h0
  intro r
  induction r with
  | zero =>
    intro i b x4 hi hb
    have : i = srcs.length := by omega
    subst this
    rw [sWk_step_6]
    simp only [sWk_step_7, sWk_step_8 k1 rfl, sWk_step_11]
    rw [if_pos (nI_le (by omega) (by omega))]
    exact K b x4 hb
  | succ r ih =>
    intro i b x4 hi hb
    have hs : srcs[i]? = some srcs[i] := List.getElem?_eq_getElem (by omega)
    generalize srcs[i] = s at hs
    obtain ⟨j1, j2, j3, j4, j5, j6, j7, j8, j9⟩ := k7 i s hs
    have ti := nI_toInt (n := i) (by omega)
    have hc := j3.cell
    have hnxt : WP (d + 1) mWk_step 75 [some (.ref a), some (bV srcs b), some (.int (nI (b.getD 0))), some (.int (nI i)), some (.ref s.1)] [] M z w Q ↔ WP (d + 1) mWk_step 6 [some (.ref a), some (bV srcs b), some (.int (nI (b.getD 0))), some (.int (nI (i + 1))), some (.ref s.1)] [] M z w Q := by
      cases b <;> simp only [bV, sWk_step_75, sWk_step_78, xk_i, xk_l, xk_a, xk_n, xk_0, Option.toList_some, Option.toList_none, List.cons_append, List.nil_append, nI_add]
    have hnew : WP (d + 1) mWk_step 70 [some (.ref a), some (bV srcs b), some (.int (nI (b.getD 0))), some (.int (nI i)), some (.ref s.1)] [] M z w Q ↔ WP (d + 1) mWk_step 6 [some (.ref a), some (bV srcs (some i)), some (.int (nI ((some i).getD 0))), some (.int (nI (i + 1))), some (.ref s.1)] [] M z w Q := by
      have : bV srcs (some i) = .ref s.1 := by simp only [bV, hs, Option.map_some, Option.getD_some]
      rw [this]
      cases b <;> simp only [bV, sWk_step_70, sWk_step_72, sWk_step_73, sWk_step_74, sWk_step_75, sWk_step_78, xk_i, xk_l, xk_a, xk_n, xk_0, Option.toList_some, Option.toList_none, List.cons_append, List.nil_append, nI_add, Option.getD_some]
    have hfirst : WP (d + 1) mWk_step 6 [some (.ref a), some (bV srcs b), some (.int (nI (b.getD 0))), some (.int (nI i)), x4] [] M z w Q ↔ (if nI s.2.2.2 < nI s.2.2.1.length then WP (d + 1) mWk_step 44 [some (.ref a), some (bV srcs b), some (.int (nI (b.getD 0))), some (.int (nI i)), some (.ref s.1)] [] M z w Q else WP (d + 1) mWk_step 75 [some (.ref a), some (bV srcs b), some (.int (nI (b.getD 0))), some (.int (nI i)), some (.ref s.1)] [] M z w Q) := by
      rw [sWk_step_6]
      simp only [sWk_step_7, sWk_step_8 k1 rfl, sWk_step_11, sWk_step_14, sWk_step_15 k1 rfl, sWk_step_18]
      rw [if_neg (nI_ge (by omega) (by omega)), sWk_step_19r k5 ti j1]
      simp only [sWk_step_20, sWk_step_22, sWk_step_24, sWk_step_27, sWk_step_28 k1 rfl, sWk_step_31, xk_i, xk_l, xk_a, xk_n, xk_0, Option.toList_some, Option.toList_none, List.cons_append, List.nil_append]
      rw [sWk_step_32 k6 ti (v := .int (nI s.2.2.2)) (by simp [j2])]
      simp only [sWk_step_33, sWk_step_35 hc rfl, sWk_step_38, sWk_step_41]
    have hlen : s.2.2.1.length ≤ 40 := by obtain ⟨_, _, _, _, _, _, q, _⟩ := j3; omega
    rw [hfirst]
    by_cases hl : s.2.2.2 < s.2.2.1.length
    · rw [if_pos (nI_lt hl (by omega))]
      have hh : s.2.2.1[s.2.2.2]? = some s.2.2.1[s.2.2.2] := List.getElem?_eq_getElem hl
      generalize s.2.2.1[s.2.2.2] = hd at hh
      have hrok := j8 _ (List.mem_of_getElem? hh)
      cases b with
      | none =>
        have e44 : WP (d + 1) mWk_step 44 [some (.ref a), some (bV srcs none), some (.int (nI ((none : Option Nat).getD 0))), some (.int (nI i)), some (.ref s.1)] [] M z w Q ↔ WP (d + 1) mWk_step 70 [some (.ref a), some (bV srcs none), some (.int (nI ((none : Option Nat).getD 0))), some (.int (nI i)), some (.ref s.1)] [] M z w Q := by
          simp only [bV, sWk_step_44n, sWk_step_45n]
        rw [e44, hnew]
        refine ih (i + 1) (some i) _ (by omega) ⟨by omega, s, hd, hs, hh, fun q s' h' hq hs' hh' => ?_⟩
        by_cases hqi : q = i
        · subst hqi; rw [hs] at hs'; cases hs'; rw [hh] at hh'; cases hh'; exact ⟨Nat.le_refl _, fun z => absurd z (Nat.lt_irrefl _)⟩
        · have := hb q s' (by omega) hs'
          have := (List.getElem?_eq_some_iff.mp hh').1
          omega
      | some j =>
        obtain ⟨hj, s2, h2, hs2, hh2, hall⟩ := hb
        obtain ⟨i1, i2, i3, i4, i5, i6, i7, i8, i9⟩ := k7 j s2 hs2
        have eV : bV srcs (some j) = .ref s2.1 := by simp only [bV, hs2, Option.map_some, Option.getD_some]
        have e44 : WP (d + 1) mWk_step 44 [some (.ref a), some (bV srcs (some j)), some (.int (nI ((some j).getD 0))), some (.int (nI i)), some (.ref s.1)] [] M z w Q ↔ (if fW tm hd < fW tm h2 then WP (d + 1) mWk_step 70 [some (.ref a), some (bV srcs (some j)), some (.int (nI ((some j).getD 0))), some (.int (nI i)), some (.ref s.1)] [] M z w Q else WP (d + 1) mWk_step 75 [some (.ref a), some (bV srcs (some j)), some (.int (nI ((some j).getD 0))), some (.int (nI i)), some (.ref s.1)] [] M z w Q) := by
          rw [eV]
          simp only [sWk_step_44, sWk_step_45, sWk_step_48, sWk_step_49, sWk_step_51, sWk_step_52 k1 rfl, sWk_step_55, Option.getD_some]
          rw [sWk_step_56 k6 ti (v := .int (nI s.2.2.2)) (by simp [j2])]
          simp only [sWk_step_57, sWk_step_58, sWk_step_59 k1 rfl, sWk_step_62]
          rw [sWk_step_63 k6 (nI_toInt (n := j) (by omega)) (v := .int (nI s2.2.2.2)) (by simp [i2]), sWk_step_64 k1, c_comesBefore (t0 := 0) k1 j3 i3 hh hh2 hrok (i8 _ (List.mem_of_getElem? hh2)) j5 i5]
          simp only [sWk_step_67, xk_i, xk_l, xk_a, xk_n, xk_0, Option.toList_some, Option.toList_none, List.cons_append, List.nil_append]
          by_cases hf : fW tm hd < fW tm h2
          · rw [if_pos hf, if_pos hf, if_neg (by decide)]
          · rw [if_neg hf, if_neg hf, if_pos (by decide)]
        rw [e44]
        by_cases hf : fW tm hd < fW tm h2
        · rw [if_pos hf, hnew]
          refine ih (i + 1) (some i) _ (by omega) ⟨by omega, s, hd, hs, hh, fun q s' h' hq hs' hh' => ?_⟩
          by_cases hqi : q = i
          · subst hqi; rw [hs] at hs'; cases hs'; rw [hh] at hh'; cases hh'; exact ⟨Nat.le_refl _, fun z => absurd z (Nat.lt_irrefl _)⟩
          · have := (hall q s' h' (by omega) hs' hh').1
            exact ⟨by omega, fun _ => by omega⟩
        · rw [if_neg hf, hnxt]
          refine ih (i + 1) (some j) _ (by omega) ⟨by omega, s2, h2, hs2, hh2, fun q s' h' hq hs' hh' => ?_⟩
          by_cases hqi : q = i
          · subst hqi; rw [hs] at hs'; cases hs'; rw [hh] at hh'; cases hh'; exact ⟨by omega, fun z => by omega⟩
          · exact hall q s' h' (by omega) hs' hh'
    · rw [if_neg (nI_nlt (by omega) (by omega)), hnxt]
      refine ih (i + 1) b _ (by omega) ?_
      cases b with
      | none =>
        intro q s' hq hs'
        by_cases hqi : q = i
        · subst hqi; rw [hs] at hs'; cases hs'; omega
        · exact hb q s' (by omega) hs'
      | some j =>
        obtain ⟨hj, s2, h2, hs2, hh2, hall⟩ := hb
        refine ⟨by omega, s2, h2, hs2, hh2, fun q s' h' hq hs' hh' => ?_⟩
        by_cases hqi : q = i
        · subst hqi; rw [hs] at hs'; cases hs'
          have := (List.getElem?_eq_some_iff.mp hh').1
          omega
        · exact hall q s' h' (by omega) hs' hh'
end WLK
