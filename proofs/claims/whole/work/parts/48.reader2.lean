/-! RefStack$Reader: numbers, keys, contents -/
theorem PR.req {α : Type} {p : List Nat → Option (α × List Nat)} {ps ps1 : Option (List Nat)} {rel : α → Prop} {C : α → Prop} [DecidablePred C] {c : Prop} [Decidable c] (h : PR p ps rel ps1) (hc : ∀ x, rel x → (c ↔ C x)) : PR (fun l => (p l).bind fun q => if C q.1 then some q else none) ps rel (if c then ps1 else none) := by
  cases ps with
  | none => rw [h.no]; show (if c then none else none) = none; split <;> rfl
  | some l =>
    unfold PR
    rw [Option.bind_some]
    rcases h.so with ⟨q, e1, e2, e3⟩ | ⟨e1, e2⟩
    · rw [e1, Option.bind_some]
      by_cases hC : C q.1
      · rw [if_pos hC, if_pos ((hc _ e2).mpr hC)]; exact ⟨e2, e3⟩
      · rw [if_neg hC, if_neg (fun z => hC ((hc _ e2).mp z))]
    · rw [e1, e2]; show (if c then none else none) = none; split <;> rfl
theorem PR.seq {α β : Type} {p : List Nat → Option (α × List Nat)} {f : α → List Nat → Option (β × List Nat)} {ps ps1 ps2 : Option (List Nat)} {rel : α → Prop} {rel2 : β → Prop} {a : α} (h : PR p ps rel ps1) (ha : ∀ x, rel x → x = a) (h2 : PR (f a) ps1 rel2 ps2) : PR (fun l => (p l).bind fun q => f q.1 q.2) ps rel2 ps2 := by
  cases ps with
  | none => rw [h.no] at h2; exact h2.no
  | some l =>
    unfold PR
    rw [Option.bind_some]
    rcases h.so with ⟨q, e1, e2, e3⟩ | ⟨e1, e2⟩
    · rw [e1, Option.bind_some, ha _ e2]
      rw [e3] at h2
      rcases h2.so with ⟨q2, f1, f2, f3⟩ | ⟨f1, f2⟩
      · rw [f1]; exact ⟨f2, f3⟩
      · rw [f1]; exact f2
    · rw [e2] at h2; rw [e1]; exact h2.no
theorem PR.grd {α : Type} {f : List Nat → Option (α × List Nat)} {c : Prop} [Decidable c] {ps ps' : Option (List Nat)} {rel : α → Prop} (h : PR f (if c then ps else none) rel ps') : PR (fun l => if c then f l else none) ps rel ps' := by
  cases ps with
  | none => have : (if c then none else none : Option (List Nat)) = none := (by split <;> rfl); rw [this] at h; exact h.no
  | some l =>
    unfold PR
    rw [Option.bind_some]
    by_cases hc : c
    · rw [if_pos hc]; rw [if_pos hc] at h; exact h
    · rw [if_neg hc]; rw [if_neg hc] at h; exact h.no
theorem PR.map {α β : Type} {p : List Nat → Option (α × List Nat)} {g : α → β} {ps ps' : Option (List Nat)} {rel : α → Prop} {rel' : β → Prop} (h : PR p ps rel ps') (e : ∀ x, rel x → rel' (g x)) : PR (fun l => (p l).bind fun q => some (g q.1, q.2)) ps rel' ps' := by
  cases ps with
  | none => exact h.no
  | some l =>
    unfold PR
    rw [Option.bind_some]
    rcases h.so with ⟨q, e1, e2, e3⟩ | ⟨e1, e2⟩
    · rw [e1]; exact ⟨e _ e2, e3⟩
    · rw [e1]; exact e2
theorem PR.congr {α : Type} {p p' : List Nat → Option (α × List Nat)} {ps ps1 : Option (List Nat)} {rel : α → Prop} (h : PR p ps rel ps1) (e : ∀ l, p l = p' l) : PR p' ps rel ps1 := by
  have : p = p' := funext e
  rw [← this]; exact h
theorem PR.rel {α : Type} {p : List Nat → Option (α × List Nat)} {ps ps1 : Option (List Nat)} {rel rel' : α → Prop} (h : PR p ps rel ps1) (e : ∀ x, rel x → rel' x) : PR p ps rel' ps1 := by
  unfold PR at h ⊢
  split at h
  · exact ⟨e _ h.1, h.2⟩
  · exact h
section RD2
variable {d rd t : Nat} {bs : List Nat} {low high : Int32} {wf : Bool} {recs ents : List xrow} {ps : Option (List Nat)} {M : xM} {z w : Nat} {Q : Option Value → xM → Nat → Nat → Prop}
theorem c_nextNumber (h : RdAt M rd t bs low high wf recs ents ps) (K : ∀ M' n ps', n < 2097152 → RdAt M' rd t bs low high wf recs ents ps' → PR nD ps (fun x => n = x) ps' → OnlyW M M' rd t → Q (some (.int (nI n))) M' z w) : WP (d + 2) mRd_nextNumber 0 [some (.ref rd), none] [] M z w Q := by
  obtain ⟨fs, hc⟩ := h.cell
  simp only [sRd_nextNumber_0]
  rw [sRd_nextNumber_1 hc]
  refine c_nextVarint h (fun M1 n ps1 hn hR1 hP1 hO1 => ?_)
  obtain ⟨fs1, hc1⟩ := hR1.cell
  have fin : ∀ c : Bool, (c = true ↔ n ≤ 65535) → WP (d + 2) mRd_nextNumber 17 [some (.ref rd), some (.int (nI n))] [.int (nI (if c = true then 1 else 0)), .ref rd] M1 z w Q := by
    intro c hcc
    rw [sRd_nextNumber_17 hc1]
    refine c_require (c := c) hR1 (fun M2 hR2 hO2 => ?_)
    simp only [sRd_nextNumber_20, sRd_nextNumber_21, xk_i, xk_l, xk_a, xk_n, xk_0, Option.toList_some, Option.toList_none, List.cons_append, List.nil_append]
    exact K M2 n _ hn hR2 (PR.req (c := (c = true)) (C := fun x => x ≤ 65535) hP1 (fun x hx => by rw [hcc, hx])) (hO1.trans hO2)
  simp only [sRd_nextNumber_4, sRd_nextNumber_5, sRd_nextNumber_6, sRd_nextNumber_7, sRd_nextNumber_9, sRd_nextNumber_12, sRd_nextNumber_13, sRd_nextNumber_16, xk_i, xk_l, xk_a, xk_n, xk_0, Option.toList_some, Option.toList_none, List.cons_append, List.nil_append]
  by_cases hl : n ≤ 65535
  · rw [if_neg (nI_nlt hl (by omega))]; exact fin true (by simp [hl])
  · rw [if_pos (nI_lt (by omega) (by omega))]; exact fin false (by simp [hl])
def accI (i acc : Nat) : Prop := ∃ c, acc = c * 2 ^ (5 * (12 - i)) ∧ c < 2 ^ (5 * i)
theorem accI.lt {i acc : Nat} (h : accI i acc) (hi : i ≤ 12) : acc < 2 ^ 60 := by
  obtain ⟨c, hc, hl⟩ := h
  rw [hc, show 60 = 5 * i + 5 * (12 - i) by omega, Nat.pow_add]
  exact Nat.mul_lt_mul_of_pos_right hl (Nat.pow_pos (by decide))
theorem accI.next {i acc s : Nat} (h : accI i acc) (hi : i < 12) (hs : s < 32) : accI (i + 1) (acc + s * 2 ^ (5 * (11 - i))) := by
  obtain ⟨c, hc, hl⟩ := h
  refine ⟨32 * c + s, ?_, ?_⟩
  · rw [hc, show 12 - (i + 1) = 11 - i by omega, show 5 * (12 - i) = 5 + 5 * (11 - i) by omega, Nat.pow_add, Nat.add_mul]
    congr 1
    rw [← Nat.mul_assoc]
    congr 1
    omega
  · have e : 2 ^ (5 * (i + 1)) = 32 * 2 ^ (5 * i) := by rw [Nat.mul_add, Nat.pow_add, Nat.mul_comm]
    rw [e]; omega
theorem accI.or {i acc s : Nat} (h : accI i acc) (hi : i < 12) (hs : s < 32) : lN acc ||| lN s <<< ((nI 5 * (nI 11 - nI i)).toInt64 &&& 63) = lN (acc + s * 2 ^ (5 * (11 - i))) := by
  have hlt := (h.next hi hs).lt (by omega)
  obtain ⟨c, hc, hl⟩ := h
  have hp : s * 2 ^ (5 * (11 - i)) < 2 ^ (5 * (12 - i)) := by
    rw [show 5 * (12 - i) = 5 + 5 * (11 - i) by omega, Nat.pow_add]
    exact Nat.mul_lt_mul_of_pos_right hs (Nat.pow_pos (by decide))
  rw [pl_nI hi, wb_shl _ (by omega)]
  rw [hc] at hlt ⊢
  exact g_or (k := 5 * (12 - i)) rfl hp (by omega)
theorem accI_kpr (p : Nat) : ∀ i, i ≤ 12 → accI i (kpr p i)
  | 0, _ => ⟨0, by simp [kpr], by simp⟩
  | i + 1, h => (accI_kpr p i (by omega)).next (by omega) (sy_lt p i)
theorem nextKey_1 {kb : Int64} {x4 : Int32} {sh : Nat} (hsh : sh ≤ 12) (K : WP (d + 3) mRd_nextKey 52 [some (.ref rd), some (.long kb), none, some (.int (nI sh)), some (.int x4), some (.long (lN (kpr (kN kb) sh))), none, some (.int (nI sh)), none] [] M z w Q) : ∀ r, r ≤ sh → WP (d + 3) mRd_nextKey 22 [some (.ref rd), some (.long kb), none, some (.int (nI sh)), some (.int x4), some (.long (lN (kpr (kN kb) (sh - r)))), none, some (.int (nI (sh - r))), none] [] M z w Q := by
  intro r
  induction r with
  | zero =>
    intro hr
    simp only [sRd_nextKey_22, sRd_nextKey_24, sRd_nextKey_25]
    rw [if_pos (nI_le (by omega) (by omega))]
    exact K
  | succ r ih =>
    intro hr
    rw [sRd_nextKey_22]
    simp only [sRd_nextKey_24, sRd_nextKey_25, sRd_nextKey_28, sRd_nextKey_30, sRd_nextKey_31]
    rw [if_neg (nI_ge (by omega) (by omega)), sRd_nextKey_33]
    have hk := c_symbolOf (d := d + 2) (M := M) (z := z) (w := w) (Q := fun v M' z' w' => WP (d + 2 + 1) mRd_nextKey 36 [some (.ref rd), some (.long kb), none, some (.int (nI sh)), some (.int x4), some (.long (lN (kpr (kN kb) (sh - (r + 1))))), none, some (.int (nI (sh - (r + 1)))), none] (v.toList ++ [.long (lN (kpr (kN kb) (sh - (r + 1))))]) M' z' w' Q) (kN_lt kb) (i := sh - (r + 1)) (by omega)
    rw [lN_kN] at hk
    rw [hk]
    simp only [sRd_nextKey_36, sRd_nextKey_37, xk_i, xk_l, xk_a, xk_n, xk_0, Option.toList_some, Option.toList_none, List.cons_append, List.nil_append]
    rw [sRd_nextKey_39, c_placeOf]
    simp only [sRd_nextKey_42, sRd_nextKey_43, sRd_nextKey_44, sRd_nextKey_46, sRd_nextKey_49, xk_i, xk_l, xk_a, xk_n, xk_0, Option.toList_some, Option.toList_none, List.cons_append, List.nil_append]
    have hs := sy_lt (kN kb) (sh - (r + 1))
    rw [nI_l (n := sy (kN kb) (sh - (r + 1))) (by omega), (accI_kpr (kN kb) (sh - (r + 1)) (by omega)).or (by omega) hs, nI_add]
    have := ih (by omega)
    rw [show sh - r = sh - (r + 1) + 1 by omega] at this
    exact this
theorem nextKey_2 {kb : Int64} {sh n : Nat} (hsn : sh + n ≤ 12) : ∀ (r i acc : Nat) (M : xM) (ps : Option (List Nat)) (x8 : Option Value), i + r = sh + n → accI i acc → RdAt M rd t bs low high wf recs ents ps →
    (∀ M' k ps' x8', k < 2 ^ 60 → RdAt M' rd t bs low high wf recs ents ps' → PR (kD r i acc) ps (fun x => k = x) ps' → OnlyW M M' rd t → WP (d + 3) mRd_nextKey 115 [some (.ref rd), some (.long kb), none, some (.int (nI sh)), some (.int (nI n)), some (.long (lN k)), none, some (.int (nI (sh + n))), x8'] [] M' z w Q) →
    WP (d + 3) mRd_nextKey 55 [some (.ref rd), some (.long kb), none, some (.int (nI sh)), some (.int (nI n)), some (.long (lN acc)), none, some (.int (nI i)), x8] [] M z w Q := by
  intro r
  induction r with
  | zero =>
    intro i acc M ps x8 hi ha h K
    simp only [sRd_nextKey_55, sRd_nextKey_57, sRd_nextKey_58, sRd_nextKey_60, sRd_nextKey_61, nI_add]
    rw [if_pos (nI_le (by omega) (by omega)), show i = sh + n by omega]
    refine K M acc ps x8 (ha.lt (by omega)) h ?_ OnlyW.rf
    cases ps with
    | none => rfl
    | some l => exact ⟨rfl, rfl⟩
  | succ r ih =>
    intro i acc M ps x8 hi ha h K
    rw [sRd_nextKey_55]
    simp only [sRd_nextKey_57, sRd_nextKey_58, sRd_nextKey_60, sRd_nextKey_61, sRd_nextKey_64, nI_add]
    obtain ⟨fs, hc⟩ := h.cell
    rw [if_neg (nI_ge (by omega) (by omega)), sRd_nextKey_65 hc]
    refine c_nextByte h (fun M1 b ps1 hb hR1 hP1 hO1 => ?_)
    obtain ⟨fs1, hc1⟩ := hR1.cell
    have fin : ∀ c : Bool, (c = true ↔ (1 ≤ b ∧ b ≤ 31)) → WP (d + 3) mRd_nextKey 89 [some (.ref rd), some (.long kb), none, some (.int (nI sh)), some (.int (nI n)), some (.long (lN acc)), none, some (.int (nI i)), some (.int (nI b))] [.int (nI (if c = true then 1 else 0)), .ref rd] M1 z w Q := by
      intro c hcc
      rw [sRd_nextKey_89 hc1]
      refine c_require (c := c) hR1 (fun M2 hR2 hO2 => ?_)
      simp only [sRd_nextKey_92, sRd_nextKey_94, sRd_nextKey_96, sRd_nextKey_98, sRd_nextKey_99, sRd_nextKey_100, xk_i, xk_l, xk_a, xk_n, xk_0, Option.toList_some, Option.toList_none, List.cons_append, List.nil_append]
      rw [sRd_nextKey_102, c_placeOf]
      simp only [sRd_nextKey_105, sRd_nextKey_106, sRd_nextKey_107, sRd_nextKey_109, sRd_nextKey_112, xk_i, xk_l, xk_a, xk_n, xk_0, Option.toList_some, Option.toList_none, List.cons_append, List.nil_append]
      rw [nI_and31, nI_l (n := b % 32) (by omega), ha.or (by omega) (Nat.mod_lt _ (by decide)), nI_add]
      refine ih (i + 1) _ M2 _ _ (by omega) (ha.next (by omega) (Nat.mod_lt _ (by decide))) hR2 (fun M3 k ps3 x8' hk hR3 hP3 hO3 => K M3 k ps3 x8' hk hR3 ?_ ((hO1.trans hO2).trans hO3))
      cases ps with
      | none => rw [hP1.no] at hP3; have : (if c = true then none else none : Option (List Nat)) = none := (by split <;> rfl); rw [this] at hP3; exact hP3.no
      | some l =>
        rcases hP1.so with ⟨q, e1, e2, e3⟩ | ⟨e1, e2⟩
        · cases l with
          | nil => cases e1
          | cons x s =>
            cases e1; subst e2
            dsimp only at e3
            subst e3
            unfold PR
            rw [Option.bind_some]
            unfold kD
            by_cases hok : 1 ≤ b ∧ b ≤ 31
            · rw [if_pos hok]
              rw [if_pos (hcc.mpr hok), Nat.mod_eq_of_lt (show b < 32 by omega)] at hP3
              exact hP3
            · rw [if_neg hok]
              rw [if_neg (fun q => hok (hcc.mp q))] at hP3
              exact hP3.no
        · cases l with
          | nil =>
            rw [e2] at hP3
            have : (if c = true then none else none : Option (List Nat)) = none := by split <;> rfl
            rw [this] at hP3
            rw [hP3.no]; unfold PR; simp [kD]
          | cons x s => cases e1
    simp only [sRd_nextKey_68, sRd_nextKey_70, sRd_nextKey_71, sRd_nextKey_73, sRd_nextKey_74, sRd_nextKey_77, sRd_nextKey_79, sRd_nextKey_81, sRd_nextKey_84, sRd_nextKey_85, sRd_nextKey_88, xk_i, xk_l, xk_a, xk_n, xk_0, Option.toList_some, Option.toList_none, List.cons_append, List.nil_append]
    by_cases h1 : b < 1
    · rw [if_pos (nI_lt h1 (by omega))]; exact fin false (by simp; omega)
    · rw [if_neg (nI_nlt (by omega) (by omega))]
      by_cases h2 : b ≤ 31
      · rw [if_neg (nI_nlt h2 (by omega))]; exact fin true (by simp; omega)
      · rw [if_pos (nI_lt (by omega) (by omega))]; exact fin false (by simp; omega)
theorem c_nextKey {kb : Int64} {sh n : Nat} (hsh : sh < 2097152) (hn : n < 2097152) (h : RdAt M rd t bs low high wf recs ents ps) (K : ∀ M' k ps', k < 2 ^ 60 → RdAt M' rd t bs low high wf recs ents ps' → PR (nK (kN kb) sh n) ps (fun x => k = x) ps' → OnlyW M M' rd t → Q (some (.long (lN k))) M' z w) : WP (d + 3) mRd_nextKey 0 [some (.ref rd), some (.long kb), none, some (.int (nI sh)), some (.int (nI n)), none, none, none, none] [] M z w Q := by
  simp only [sRd_nextKey_0, sRd_nextKey_1, sRd_nextKey_3, sRd_nextKey_4, sRd_nextKey_6, sRd_nextKey_9, sRd_nextKey_10, sRd_nextKey_16, sRd_nextKey_17, sRd_nextKey_19, sRd_nextKey_20, xk_i, xk_l, xk_a, xk_n, xk_0, Option.toList_some, Option.toList_none, List.cons_append, List.nil_append, nI_add]
  by_cases hl : sh + n ≤ 12
  · rw [if_pos (nI_le hl (by omega))]
    have := nextKey_1 (d := d) (rd := rd) (M := M) (z := z) (w := w) (Q := Q) (kb := kb) (x4 := nI n) (sh := sh) (by omega) ?_ sh (Nat.le_refl _)
    · rw [Nat.sub_self] at this
      exact this
    · simp only [sRd_nextKey_52, sRd_nextKey_53, xk_i, xk_l, xk_a, xk_n, xk_0, Option.toList_some, Option.toList_none, List.cons_append, List.nil_append]
      refine nextKey_2 hl n sh _ M ps none rfl (accI_kpr (kN kb) sh (by omega)) h (fun M1 k ps1 x8' hk hR1 hP1 hO1 => ?_)
      simp only [sRd_nextKey_115, sRd_nextKey_116]
      rw [sRd_nextKey_118, c_isGood (k := k) (by omega)]
      simp only [xk_i, xk_l, xk_a, xk_n, xk_0, Option.toList_some, Option.toList_none, List.cons_append, List.nil_append]
      obtain ⟨fs1, hc1⟩ := hR1.cell
      rw [sRd_nextKey_121 hc1]
      refine c_require (c := gk k) hR1 (fun M2 hR2 hO2 => ?_)
      simp only [sRd_nextKey_124, sRd_nextKey_126, xk_i, xk_l, xk_a, xk_n, xk_0, Option.toList_some, Option.toList_none, List.cons_append, List.nil_append]
      refine K M2 k _ hk hR2 ?_ (hO1.trans hO2)
      refine (PR.req (c := (gk k = true)) (C := fun x => gk x = true) hP1 (fun x hx => by rw [hx])).congr (fun l => ?_)
      unfold nK
      rw [if_neg (by omega)]
  · rw [if_neg (nI_ge (by omega) (by omega))]
    obtain ⟨pos, c5, hF⟩ := h.fail
    rw [sRd_nextKey_11 c5 rfl xb1]
    simp only [sRd_nextKey_14, sRd_nextKey_15]
    refine K _ 0 none (by decide) hF ?_ (fun q q1 _ => xput_ne q1)
    cases ps with
    | none => rfl
    | some l =>
      unfold PR
      rw [Option.bind_some]
      unfold nK
      rw [if_pos (by omega)]
theorem c_nextContent {kind : Nat} (hk : kind < 4) (h : RdAt M rd t bs low high wf recs ents ps) (K : ∀ M' (c : Int64) ps', RdAt M' rd t bs low high wf recs ents ps' → PR (cD kind) ps (fun x => c = rawC x) ps' → OnlyW M M' rd t → Q (some (.long c)) M' z w) : WP (d + 4) mRd_nextContent 0 [some (.ref rd), some (.int (nI kind)), none] [] M z w Q := by
  rw [sRd_nextContent_0]
  obtain ⟨fs, hc⟩ := h.cell
  match kind, hk with
  | 0, _ =>
    rw [sRd_nextContent_1_0]
    simp only [sRd_nextContent_28, sRd_nextContent_29]
    refine K M _ ps h ?_ OnlyW.rf
    cases ps with
    | none => rfl
    | some l => exact ⟨rfl, rfl⟩
  | 1, _ =>
    rw [sRd_nextContent_1_1, sRd_nextContent_30, sRd_nextContent_31 hc]
    refine c_nextNumber h (fun M1 n ps1 hn hR1 hP1 hO1 => ?_)
    obtain ⟨fs1, hc1⟩ := hR1.cell
    have fin : ∀ c : Bool, (c = true ↔ 1 ≤ n) → WP (d + 4) mRd_nextContent 46 [some (.ref rd), some (.int (nI 1)), some (.int (nI n))] [.int (nI (if c = true then 1 else 0)), .ref rd] M1 z w Q := by
      intro c hcc
      rw [sRd_nextContent_46 hc1]
      refine c_require (c := c) hR1 (fun M2 hR2 hO2 => ?_)
      simp only [sRd_nextContent_49, sRd_nextContent_50, sRd_nextContent_51, xk_i, xk_l, xk_a, xk_n, xk_0, Option.toList_some, Option.toList_none, List.cons_append, List.nil_append]
      refine K M2 _ _ hR2 ?_ (hO1.trans hO2)
      have hP := PR.req (C := fun x => 1 ≤ x) (c := (c = true)) hP1 (fun x hx => by rw [hcc, hx])
      rw [nI_l (n := n) (by omega)]
      cases ps with
      | none => exact hP.no
      | some l =>
        unfold PR
        rw [Option.bind_some]
        unfold cD
        rw [if_neg (by decide), if_pos rfl]
        rcases hP.so with ⟨q, e1, e2, e3⟩ | ⟨e1, e2⟩
        · unfold nD at e1
          cases hv : vD l with
          | none => rw [hv] at e1; cases e1
          | some q2 =>
            rw [hv] at e1
            simp only [Option.bind_some] at e1
            by_cases g1 : q2.1 ≤ 65535
            · rw [if_pos g1, Option.bind_some] at e1
              by_cases g2 : 1 ≤ q2.1
              · rw [if_pos g2] at e1
                cases e1
                rw [Option.bind_some, if_pos ⟨g2, g1⟩]
                refine ⟨?_, e3⟩
                dsimp only
                rw [← e2]
                unfold rawC
                rw [if_pos (by omega)]
                rfl
              · rw [if_neg g2] at e1; cases e1
            · rw [if_neg g1] at e1; cases e1
        · unfold nD at e1
          cases hv : vD l with
          | none => exact e2
          | some q2 =>
            rw [hv] at e1
            simp only [Option.bind_some] at e1
            rw [Option.bind_some]
            by_cases g1 : q2.1 ≤ 65535
            · rw [if_pos g1, Option.bind_some] at e1
              by_cases g2 : 1 ≤ q2.1
              · rw [if_pos g2] at e1; cases e1
              · rw [if_neg (fun q => g2 q.1)]; exact e2
            · rw [if_neg (fun q => g1 q.2)]; exact e2
    simp only [sRd_nextContent_34, sRd_nextContent_35, sRd_nextContent_36, sRd_nextContent_37, sRd_nextContent_38, sRd_nextContent_41, sRd_nextContent_42, sRd_nextContent_45, xk_i, xk_l, xk_a, xk_n, xk_0, Option.toList_some, Option.toList_none, List.cons_append, List.nil_append]
    by_cases hl : n < 1
    · rw [if_pos (nI_lt hl (by omega))]; exact fin false (by simp; omega)
    · rw [if_neg (nI_nlt (by omega) (by omega))]; exact fin true (by simp; omega)
  | 2, _ =>
    rw [sRd_nextContent_1_2]
    simp only [sRd_nextContent_52, sRd_nextContent_53, sRd_nextContent_54, sRd_nextContent_55]
    rw [sRd_nextContent_56 hc]
    refine c_nextVarint h (fun M1 n ps1 hn hR1 hP1 hO1 => ?_)
    obtain ⟨fs1, hc1⟩ := hR1.cell
    simp only [xk_i, xk_l, xk_a, xk_n, xk_0, Option.toList_some, Option.toList_none, List.cons_append, List.nil_append]
    rw [sRd_nextContent_59 hc1]
    refine c_nextKey (sh := 0) (by omega) hn hR1 (fun M2 k ps2 hk2 hR2 hP2 hO2 => ?_)
    simp only [sRd_nextContent_62, sRd_nextContent_63, xk_i, xk_l, xk_a, xk_n, xk_0, Option.toList_some, Option.toList_none, List.cons_append, List.nil_append]
    refine K M2 _ ps2 hR2 ?_ (hO1.trans hO2)
    cases ps with
    | none => rw [hP1.no] at hP2; exact hP2.no
    | some l =>
      unfold PR
      rw [Option.bind_some]
      unfold cD
      rw [if_neg (by decide), if_neg (by decide), if_pos rfl]
      rcases hP1.so with ⟨q, e1, e2, e3⟩ | ⟨e1, e2⟩
      · rw [e1, Option.bind_some]
        rw [e3] at hP2
        rw [e2] at hP2
        rcases hP2.so with ⟨q2, f1, f2, f3⟩ | ⟨f1, f2⟩
        · rw [show nK 0 0 q.1 q.2 = some q2 from f1, Option.bind_some]
          refine ⟨?_, f3⟩
          dsimp only
          rw [f2]
          unfold rawC
          by_cases h0 : q2.1 = 0
          · rw [h0]; rfl
          · rw [if_neg (by omega), Int.neg_neg, Int.toNat_natCast]
        · rw [show nK 0 0 q.1 q.2 = none from f1]; exact f2
      · rw [e2] at hP2; rw [e1]; exact hP2.no
  | 3, _ =>
    rw [sRd_nextContent_1_d (by decide)]
    obtain ⟨pos, c5, hF⟩ := h.fail
    simp only [sRd_nextContent_64, sRd_nextContent_65]
    rw [sRd_nextContent_66 c5 rfl xb1]
    simp only [sRd_nextContent_69, sRd_nextContent_70]
    refine K _ _ none hF ?_ (fun q q1 _ => xput_ne q1)
    cases ps with
    | none => rfl
    | some l => rfl
end RD2
