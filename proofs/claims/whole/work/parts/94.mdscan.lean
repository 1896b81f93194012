/-! the reference: damage, sound, records, scan -/
theorem find_cm {α : Type} {p q : α → Bool} : ∀ {l : List α}, (∀ x ∈ l, p x = q x) → l.find? p = l.find? q
  | [], _ => rfl
  | x :: l, h => by
    rw [List.find?_cons, List.find?_cons, h x (by simp), find_cm (fun y hy => h y (by simp [hy]))]
theorem mG_filter2 {α : Type} {f : α → Nat} {p : α → Bool} {l : List α} (hp : ∀ x ∈ l, ∀ y ∈ l, f x = f y → p x = p y) : (mG f l).filter p = mG f (l.filter p) := by
  refine sT_ext (f := f) (List.Pairwise.sublist List.filter_sublist (mG_sT l)) (mG_sT _) (fun x => ?_)
  rw [List.mem_filter, mem_mG, mem_mG, List.find?_filter]
  constructor
  · rintro ⟨h1, h2⟩
    rw [← h1]
    refine find_cm (fun y hy => ?_)
    by_cases e : f y = f x
    · simp [hp y hy x (List.mem_of_find?_eq_some h1) e, h2, e]
    · simp [e]
  · intro h1
    have hx := List.mem_of_find?_eq_some h1
    have h2 := List.find?_some h1
    rw [decide_eq_true_eq] at h2
    refine ⟨?_, h2.1⟩
    rw [← h1]
    refine find_cm (fun y hy => ?_)
    by_cases e : f y = f x
    · simp [hp y hy x hx e, h2.1, e]
    · simp [e]
theorem dd_uq {α : Type} {f : α → Nat} : ∀ {l : List α}, l.Pairwise (fun a b => f a ≠ f b) → ∀ x ∈ l, ∀ y ∈ l, f x = f y → x = y
  | [], _, x, hx, _, _, _ => by cases hx
  | a :: l, h, x, hx, y, hy, e => by
    rw [List.pairwise_cons] at h
    rw [List.mem_cons] at hx hy
    rcases hx with hx | hx
    · rcases hy with hy | hy
      · rw [hx, hy]
      · subst hx; exact absurd e (h.1 y hy)
    · rcases hy with hy | hy
      · subst hy; exact absurd e.symm (h.1 x hx)
      · exact dd_uq h.2 x hx y hy e
theorem mG_dd_filter {α : Type} {f : α → Nat} {p : α → Bool} {l : List α} (h : l.Pairwise (fun a b => f a ≠ f b)) : mG f (l.filter p) = (mG f l).filter p := (mG_filter2 (fun x hx y hy e => by rw [dd_uq h x hx y hy e])).symm
theorem frK_ndl (r : arec) : frK 1 r = ndl true r := by
  unfold frK ndl
  have h := knd0 (c := r.2.2)
  by_cases h0 : r.2.2 = 0
  · rw [h.mpr h0, h0]; rfl
  · have : knd r.2.2 ≠ 0 := fun q => h0 (h.mp q)
    have e : (r.2.2 == 0) = false := by simp [h0]
    rw [e, decide_eq_true (by omega)]; rfl
theorem frK_0 (r : arec) : frK 0 r = ndl false r := by
  unfold frK ndl
  simp
/-- a prefix: what stands behind its first zero counts for nothing -/
theorem alk_kyA (r p : Nat) : alk r (kyA p (nln p)) = alk r (rv p) := by
  have hL := nln_le p
  have h12 : alk r (rv p) ≤ 12 := Nat.le_trans (alk_self r (rv p)) (alk12 (rv p))
  obtain ⟨s1, s2⟩ := alk_sp r (rv p)
  have hlt : ∀ j, j < alk r (rv p) → j < nln p := by
    intro j hj
    apply Classical.byContradiction
    intro hn
    have hz := nln_z (n := p) (by omega)
    have h1 := s1 (nln p) (by omega)
    rw [sy_rv p (by omega), hz] at h1
    exact h1.1 h1.2
  refine alk_uq h12 (fun j hj => ?_) (fun hm => ?_)
  · have h1 := s1 j hj
    rw [sy_kyA p _ hL j (by omega), if_pos (hlt j hj), ← sy_rv p (by omega)]
    exact h1
  · rw [sy_kyA p _ hL _ hm]
    by_cases hl : alk r (rv p) < nln p
    · rw [if_pos hl, ← sy_rv p hm]
      exact s2 hm
    · rw [if_neg hl]
      by_cases h0 : sy r (alk r (rv p)) = 0
      · exact Or.inl h0
      · exact Or.inr h0
theorem alk_kyA2 (p : Nat) : alk (kyA p (nln p)) (kyA p (nln p)) = alk (rv p) (rv p) := by
  have hL := nln_le p
  rw [← nln_alk]
  refine alk_uq hL (fun j hj => ?_) (fun hm => ?_)
  · rw [sy_kyA p _ hL j (by omega), if_pos hj]
    exact ⟨nln_ne hj, rfl⟩
  · rw [sy_kyA p _ hL _ hm, if_neg (by omega)]
    exact Or.inl rfl
section MS
variable {d m : Nat} {B : List (List Nat)} {M : xM} {g : Nat → Int32} {A : Nat → Nat → Int32} {L : Nat → Nat → Int64} {N : List arec} {E : List (aent × Nat)} {z w : Nat} {Q : Option Value → xM → Nat → Nat → Prop}
theorem sb_sb (b : Nat) : (sb b).toInt8.toInt32 = sb b := by simp [sb]
theorem c_Md_damage {t k b : Int32} (h8 : B.length ≤ 8) (hS : StA g A B) (K0 : ¬ dmC B t k b → Q (some (.int (nI 0))) (MM (AR M m A L) m g) z w) (K1 : dmC B t k b → ∀ A', StA g A' (dmB B t k b) → Fr [] [1] [] g g A A' L L → Q (some (.int (nI 1))) (MM (AR M m A' L) m g) z w) : WP (d + 2) mMd_damage 0 [some (.ref m), some (.int t), some (.int k), some (.int b)] [] (MM (AR M m A L) m g) z w Q := by
  simp only [sMd_damage_0, sMd_damage_1, sMd_damage_2, rMd_damage_3]
  rw [c_Md_byteAt h8 hS]
  simp only [sMd_damage_6, sMd_damage_9, sMd_damage_10, sMd_damage_11, xk_i, xk_l, xk_a, xk_n, xk_0, Option.toList_some, Option.toList_none, List.cons_append, List.nil_append]
  unfold dmC at K0 K1
  unfold byS
  cases hx : (ix B t).bind (fun b => ix b k) with
  | none =>
    rw [if_pos (by decide)]
    simp only [sMd_damage_20, sMd_damage_21 xb0, sMd_damage_21 xb1]
    refine K0 (fun q => ?_)
    rw [hx] at q
    exact absurd q.1 (by decide)
  | some v =>
    have hi : ∃ i bs, B[i]? = some bs ∧ t = nI i ∧ i < B.length ∧ ix bs k = some v := by
      cases h1 : ix B t with
      | none => rw [h1] at hx; cases hx
      | some bs =>
        rw [h1, Option.bind_some] at hx
        unfold ix at h1
        split at h1
        · cases h1
        · rename_i h0
          obtain ⟨i, hi, rfl⟩ := nI_of h0
          rw [nI_clamp hi] at h1
          exact ⟨i, bs, h1, rfl, (List.getElem?_eq_some_iff.mp h1).1, hx⟩
    obtain ⟨i, bs, hb, rfl, hil, hk⟩ := hi
    have hj : ∃ j, k = nI j ∧ j < bs.length ∧ bs[j]? = some v := by
      unfold ix at hk
      split at hk
      · cases hk
      · rename_i h0
        obtain ⟨j, hj, rfl⟩ := nI_of h0
        rw [nI_clamp hj] at hk
        exact ⟨j, rfl, (List.getElem?_eq_some_iff.mp hk).1, hk⟩
    obtain ⟨j, rfl, hjl, hv⟩ := hj
    obtain ⟨s1, s2, s3⟩ := hS.2 i bs hb
    have hv256 := s1.2.1 v (List.mem_of_getElem? hv)
    have hl12 := s1.2.2.1
    rw [if_neg (nI_nlt (a := v) (b := 0) (by omega) (by omega)), sMd_damage_14, c_within]
    simp only [sMd_damage_17, sMd_damage_20, sMd_damage_21 xb0, sMd_damage_21 xb1, sMd_damage_22, rMd_damage_23, sMd_damage_26, sMd_damage_29, sMd_damage_30, sMd_damage_31, sMd_damage_32, sMd_damage_33, sMd_damage_34, xk_i, xk_l, xk_a, xk_n, xk_0, Option.toList_some, Option.toList_none, List.cons_append, List.nil_append, pk_mul, nI_add]
    rw [hx] at K0 K1
    by_cases hc : nI 0 ≤ b ∧ b ≤ nI 255
    · rw [if_neg (by rw [if_pos hc]; decide), qMd_damage_35 (k := 1200 * i + j) (by omega)]
      simp only [sMd_damage_36, sMd_damage_37 xb0, sMd_damage_37 xb1]
      have h0 : ¬ b < 0 := by
        have := hc.1
        rw [Int32.lt_iff_toInt_lt]
        rw [Int32.le_iff_toInt_le] at this
        have e : (nI 0).toInt = (0 : Int32).toInt := rfl
        omega
      obtain ⟨c, hc31, rfl⟩ := nI_of h0
      have hc255 := (nI_leI (a := c) (b := 255) hc31 (by omega)).mp hc.2
      have hdm : dmB B (nI i) (nI j) (nI c) = B.set i (bs.set j c) := by
        unfold dmB
        rw [nI_clamp (by omega), nI_clamp (by omega), nI_clamp hc31, ix_nI (by omega), hb]
        rfl
      refine K1 ⟨by rfl, hc⟩ _ ?_ ⟨fun _ _ => rfl, fun q hq => u2_ne (fun e => hq (by rw [e]; decide)), fun _ _ => rfl⟩
      rw [hdm]
      refine ⟨by rw [List.length_set]; exact hS.1, fun t' bs' hb' => ?_⟩
      by_cases ht : t' = i
      · subst ht
        rw [List.getElem?_set_self hil] at hb'
        cases hb'
        refine ⟨⟨fun q x hq => ?_, fun x hx => ?_, by rw [List.length_set]; exact hl12, by rw [List.length_set]; omega, by rw [List.length_set]; exact s1.2.2.2.2⟩, ?_, by rw [List.length_set]; exact s3⟩
        · rw [u2_eq]
          by_cases hqj : q = j
          · subst hqj
            rw [List.getElem?_set_self hjl] at hq
            cases hq
            rw [if_pos rfl]
            simp [sb]
          · rw [List.getElem?_set_ne (fun e => hqj e.symm)] at hq
            rw [if_neg (by omega)]
            exact s1.1 q x hq
        · rcases List.mem_or_eq_of_mem_set hx with h | h
          · exact s1.2.1 x h
          · omega
        · rw [u2_ne (by decide), List.length_set]; exact s2
      · rw [List.getElem?_set_ne (fun e => ht e.symm)] at hb'
        obtain ⟨r1, r2, r3⟩ := hS.2 t' bs' hb'
        refine ⟨⟨fun q x hq => ?_, r1.2⟩, by rw [u2_ne (by decide)]; exact r2, r3⟩
        have hql := (List.getElem?_eq_some_iff.mp hq).1
        have hbl := r1.2.2.1
        rw [u2_eq, if_neg (by omega)]
        exact r1.1 q x hq
    · rw [if_pos (by rw [if_neg hc])]
      exact K0 (fun q => hc q.2)
theorem c_Md_sound {t : Int32} (h8 : B.length ≤ 8) (hS : StA g A B) (K : ∀ g' A' L', Fr FgV FaR FlR g g' A A' L L' → Q (some (.int (nI (if soS B t = true then 1 else 0)))) (MM (AR M m A' L') m g') z w) : WP (d + 5) mMd_sound 0 [some (.ref m), some (.int t)] [] (MM (AR M m A L) m g) z w Q := by
  simp only [sMd_sound_0, rMd_sound_1]
  refine c_empty (fun g1 hN1 hE1 h25 h26 hF1 => ?_)
  have hS1 := hS.kept (hF1.1 2 (by decide)) rfl rfl
  simp only [sMd_sound_4, sMd_sound_5, sMd_sound_6, rMd_sound_7, sMd_sound_10, sMd_sound_11, xk_i, xk_l, xk_a, xk_n, xk_0, Option.toList_some, Option.toList_none, List.cons_append, List.nil_append, hS1.1]
  rw [sMd_sound_12, c_within]
  simp only [sMd_sound_15, sMd_sound_18, sMd_sound_19, rMd_sound_20, sMd_sound_30, sMd_sound_31 xb0, sMd_sound_31 xb1, xk_i, xk_l, xk_a, xk_n, xk_0, Option.toList_some, Option.toList_none, List.cons_append, List.nil_append, wi_iff (t := t) (n := B.length) (by omega)]
  unfold soS at K
  by_cases h : ∃ i, i < B.length ∧ t = nI i
  · rw [if_neg (by rw [if_pos h]; decide)]
    obtain ⟨i, hi, rfl⟩ := h
    obtain ⟨s1, s2, s3⟩ := hS1.2 i B[i] (List.getElem?_eq_getElem hi)
    rw [ix_nI (by omega), List.getElem?_eq_getElem hi, Option.bind_some] at K
    refine c_read2 (by omega) s1 s2 s3 hN1 hE1 (by simp) (by simp) (fun s hs => (by cases hs)) (fun hp g' A' L' hF' => ?_) (fun T hp g' A' L' hN' hE' e12 e13 hF' => ?_)
    · simp only [sMd_sound_23, sMd_sound_30, sMd_sound_31 xb0, sMd_sound_31 xb1, xk_i, xk_l, xk_a, xk_n, xk_0, Option.toList_some, Option.toList_none, List.cons_append, List.nil_append]
      rw [if_pos trivial]
      rw [hp] at K
      exact K g' A' L' (hF1.trans (hF'.sub (by decide) (by decide) (by decide)))
    · simp only [sMd_sound_23, sMd_sound_26, sMd_sound_27, sMd_sound_30, sMd_sound_31 xb0, sMd_sound_31 xb1, xk_i, xk_l, xk_a, xk_n, xk_0, Option.toList_some, Option.toList_none, List.cons_append, List.nil_append]
      rw [if_neg (by decide)]
      rw [hp] at K
      exact K g' A' L' (hF1.trans (hF'.sub (by decide) (by decide) (by decide)))
  · rw [if_pos (by rw [if_neg h])]
    rw [ix_none (fun i hi e => h ⟨i, hi, e⟩)] at K
    exact K g1 A L hF1
theorem c_Md_records {t : Int32} (h8 : B.length ≤ 8) (hS : StA g A B) (K : ∀ g' A' L', Fr FgV FaR FlR g g' A A' L L' → Q (some (.int (rcS B t))) (MM (AR M m A' L') m g') z w) : WP (d + 5) mMd_records 0 [some (.ref m), some (.int t)] [] (MM (AR M m A L) m g) z w Q := by
  simp only [sMd_records_0, rMd_records_1]
  refine c_empty (fun g1 hN1 hE1 h25 h26 hF1 => ?_)
  have hS1 := hS.kept (hF1.1 2 (by decide)) rfl rfl
  simp only [sMd_records_4, sMd_records_5, sMd_records_6, rMd_records_7, sMd_records_10, sMd_records_11, xk_i, xk_l, xk_a, xk_n, xk_0, Option.toList_some, Option.toList_none, List.cons_append, List.nil_append, hS1.1]
  rw [sMd_records_12, c_within]
  simp only [sMd_records_15, sMd_records_18, sMd_records_19, rMd_records_20, sMd_records_33, sMd_records_34, xk_i, xk_l, xk_a, xk_n, xk_0, Option.toList_some, Option.toList_none, List.cons_append, List.nil_append, wi_iff (t := t) (n := B.length) (by omega)]
  unfold rcS at K
  by_cases h : ∃ i, i < B.length ∧ t = nI i
  · rw [if_neg (by rw [if_pos h]; decide)]
    obtain ⟨i, hi, rfl⟩ := h
    obtain ⟨s1, s2, s3⟩ := hS1.2 i B[i] (List.getElem?_eq_getElem hi)
    rw [ix_nI (by omega), List.getElem?_eq_getElem hi, Option.bind_some] at K
    refine c_read2 (by omega) s1 s2 s3 hN1 hE1 (by simp) (by simp) (fun s hs => (by cases hs)) (fun hp g' A' L' hF' => ?_) (fun T hp g' A' L' hN' hE' e12 e13 hF' => ?_)
    · simp only [sMd_records_23, sMd_records_33, sMd_records_34, xk_i, xk_l, xk_a, xk_n, xk_0, Option.toList_some, Option.toList_none, List.cons_append, List.nil_append]
      rw [if_pos trivial]
      rw [hp] at K
      exact K g' A' L' (hF1.trans (hF'.sub (by decide) (by decide) (by decide)))
    · rw [ddf_id (fun r _ s hs => (by cases hs)) (sT_dd (pT_w hp).1.2.2.2.1), List.nil_append] at hN'
      simp only [sMd_records_23, sMd_records_26, rMd_records_27, sMd_records_30, sMd_records_33, sMd_records_34, xk_i, xk_l, xk_a, xk_n, xk_0, Option.toList_some, Option.toList_none, List.cons_append, List.nil_append, hN'.1]
      rw [if_neg (by decide)]
      rw [hp] at K
      exact K g' A' L' (hF1.trans (hF'.sub (by decide) (by decide) (by decide)))
  · rw [if_pos (by rw [if_neg h])]
    rw [ix_none (fun i hi e => h ⟨i, hi, e⟩)] at K
    exact K g1 A L hF1
def bg2 (p : Nat) (r : arec) : Bool := decide (alk r.1 (rv p) = alk (rv p) (rv p))
set_option maxHeartbeats 1000000 in
theorem mscan_loop {p : Nat} {k : Int32} {V : Int64} (hp : p < 2 ^ 64) (hN : NmA g A L N) (hl : N.length ≤ 260) (ho : okN N) (K : Q (some (.long V)) (MM (AR M m A L) m g) z w) : ∀ (r c v : Nat) (b : Option Nat), (abv kR (N.filter (frK 1)) v).length = r → c + r < 2 ^ 30 → v < 2 ^ 60 → nxI N kR (frK 1) v N.length b → (k < 0 ∨ ∃ j, k = nI j ∧ c ≤ j ∧ j < 2 ^ 31) → V = scR (nth ((abv kR (N.filter (frK 1)) v).filter (bg2 p)) k c) →
    WP (d + 3) mMd_scan 25 [some (.ref m), some (.long (lN p)), none, some (.int k), some (.int (nI c)), some (.long (lN (rv v))), none, some (.int (oI b))] [] (MM (AR M m A L) m g) z w Q := by
  intro r
  induction r with
  | zero =>
    intro c v b hr hc hv hb hk hV
    cases b with
    | some j =>
      obtain ⟨e, -, -, -, -, h⟩ := nxI_some hb
      rw [h] at hr
      cases hr
    | none =>
      rw [sMd_scan_25]
      simp only [sMd_scan_27, sMd_scan_72, sMd_scan_73]
      rw [if_pos (by decide)]
      rw [nxI_none hb] at hV
      have : V = lN 0 := by
        rw [hV]
        unfold nth
        split <;> simp [scR]
      rw [this] at K
      exact K
  | succ r ih =>
    intro c v b hr hc hv hb hk hV
    cases b with
    | none =>
      rw [nxI_none hb] at hr
      cases hr
    | some j =>
      obtain ⟨e, h1, h2, h3, h4, h5⟩ := nxI_some hb
      rw [h5, List.length_cons] at hr
      obtain ⟨q1, q2, q3, q4⟩ := hN.2 j e h1
      obtain ⟨o1, o2, o3, o4⟩ := ho e (List.mem_of_getElem? h1)
      have hre := rv_lt e.1
      have hnext : ∀ (c' : Nat), c' ≤ c + 1 → (k < 0 ∨ ∃ j, k = nI j ∧ c' ≤ j ∧ j < 2 ^ 31) → V = scR (nth ((abv kR (N.filter (frK 1)) e.1).filter (bg2 p)) k c') → WP (d + 3) mMd_scan 60 [some (.ref m), some (.long (lN p)), none, some (.int k), some (.int (nI c')), some (.long (lN (rv e.1))), none, some (.int (nI j))] [] (MM (AR M m A L) m g) z w Q := by
        intro c' hc' hk' hV'
        simp only [sMd_scan_60, sMd_scan_61, sMd_scan_63, rMd_scan_64]
        refine c_nextRecord o2 (by decide) hN hl ho (fun b' hb' => ?_)
        simp only [sMd_scan_67, sMd_scan_69, xk_i, xk_l, xk_a, xk_n, xk_0, Option.toList_some, Option.toList_none, List.cons_append, List.nil_append]
        exact ih c' e.1 b' (Nat.succ.inj hr) (by omega) o2 hb' hk' hV'
      rw [sMd_scan_25]
      simp only [sMd_scan_27, sMd_scan_30, rMd_scan_31, sMd_scan_34, qMd_scan_36 (k := j) (by omega), sMd_scan_37, sMd_scan_39, sMd_scan_41, xk_i, xk_l, xk_a, xk_n, xk_0, Option.toList_some, Option.toList_none, List.cons_append, List.nil_append, oI, q1]
      rw [if_neg (nI_nlt (a := j) (b := 0) (by omega) (by omega)), sMd_scan_42, c_begins2 (by omega) hp, rv_rv' o2]
      simp only [sMd_scan_45, sMd_scan_48, sMd_scan_50, sMd_scan_51, sMd_scan_54, sMd_scan_56, sMd_scan_57, xk_i, xk_l, xk_a, xk_n, xk_0, Option.toList_some, Option.toList_none, List.cons_append, List.nil_append, nI_add]
      rw [h5] at hV
      by_cases hbg : alk e.1 (rv p) = alk (rv p) (rv p)
      · have hb2 : bg2 p e = true := decide_eq_true hbg
        rw [List.filter_cons_of_pos hb2] at hV
        rw [if_neg (by rw [if_pos hbg]; decide)]
        by_cases hkc : nI c = k
        · rw [if_pos hkc]
          have : V = lN (rv e.1) := by
            rw [hV, ← hkc]
            unfold nth
            rw [if_neg (nI_pos (by omega)), nI_clamp (by omega), Nat.sub_self, List.getElem?_cons_zero]
            rfl
          rw [this] at K
          exact K
        · rw [if_neg hkc]
          have hk' : k < 0 ∨ ∃ j, k = nI j ∧ c + 1 ≤ j ∧ j < 2 ^ 31 := by
            rcases hk with h | ⟨j', e1, e2, e3⟩
            · exact Or.inl h
            · refine Or.inr ⟨j', e1, ?_, e3⟩
              have : c ≠ j' := fun q => hkc (by rw [q, e1])
              omega
          refine hnext (c + 1) (Nat.le_refl _) hk' ?_
          rw [hV]
          congr 1
          unfold nth
          rcases hk' with h | ⟨j', e1, e2, e3⟩
          · rw [if_pos h, if_pos h]
          · subst e1
            rw [if_neg (nI_pos e3), if_neg (nI_pos e3), nI_clamp e3, show j' - c = (j' - (c + 1)) + 1 by omega, List.getElem?_cons_succ]
            rfl
      · have hb2 : ¬ bg2 p e = true := by unfold bg2; simp [hbg]
        rw [List.filter_cons_of_neg hb2] at hV
        rw [if_pos (by rw [if_neg hbg])]
        exact hnext c (by omega) hk hV
theorem c_Md_scan {p : Nat} {k : Int32} (hp : p < 2 ^ 64) (h8 : B.length ≤ 8) (hS : StA g A B) (K : ∀ g' A' L', Fr FgV FaR FlR g g' A A' L L' → Q (some (.long (scS B p k))) (MM (AR M m A' L') m g') z w) : WP (d + 7) mMd_scan 0 [some (.ref m), some (.long (lN p)), none, some (.int k), none, none, none, none] [] (MM (AR M m A L) m g) z w Q := by
  simp only [sMd_scan_0, rMd_scan_1]
  refine c_view h8 hS (fun hv g1 A1 L1 hF => ?_) (fun TT hv g1 A1 L1 hN hE h25 h26 hF => ?_)
  · simp only [sMd_scan_4, sMd_scan_7, sMd_scan_10, xk_i, xk_l, xk_a, xk_n, xk_0, Option.toList_some, Option.toList_none, List.cons_append, List.nil_append]
    rw [if_pos trivial]
    have := K g1 A1 L1 hF
    unfold scS at this
    rw [hv] at this
    exact this
  · obtain ⟨v1, v2, v3⟩ := view_ok (vw_w hv).2.2 (by rw [vw_len hv]; exact h8)
    simp only [sMd_scan_4, sMd_scan_7, sMd_scan_10, sMd_scan_11, sMd_scan_12, sMd_scan_14, sMd_scan_15, sMd_scan_17, sMd_scan_18, sMd_scan_19, rMd_scan_20, xk_i, xk_l, xk_a, xk_n, xk_0, Option.toList_some, Option.toList_none, List.cons_append, List.nil_append]
    rw [if_neg (by decide)]
    have h0 : abv kR ((ddf [] (cR TT)).filter (frK 1)) 0 = mG kR ((ddf [] (cR TT)).filter (frK 1)) := abv_0 (fun e he => (v2 e (List.mem_filter.mp he).1).1)
    have hlen : (mG kR ((ddf [] (cR TT)).filter (frK 1))).length ≤ 240 := by
      have a1 := mG_len (f := kR) (l := (ddf [] (cR TT)).filter (frK 1))
      have a2 := List.length_filter_le (frK 1) (ddf [] (cR TT))
      omega
    refine c_nextRecord (v := 0) (by decide) (by decide) hN (by omega) v2 (fun b hb => ?_)
    simp only [sMd_scan_23, xk_i, xk_l, xk_a, xk_n, xk_0, Option.toList_some, Option.toList_none, List.cons_append, List.nil_append]
    refine mscan_loop (d := d + 4) (V := scS B p k) hp hN (by omega) v2 (K g1 A1 L1 hF) _ 0 0 b rfl (by rw [h0]; omega) (by decide) hb ?_ ?_
    · by_cases hk : k < 0
      · exact Or.inl hk
      · obtain ⟨j, hj, rfl⟩ := nI_of hk
        exact Or.inr ⟨j, rfl, by omega, hj⟩
    · rw [h0, mG_dd_filter (ddf_dd List.Pairwise.nil), ddf_mG, List.filter_filter]
      unfold scS
      rw [hv]
      dsimp only
      have e : ∀ r : arec, (bg2 p r && frK 1 r) = bgn (kyA p (nln p)) r := by
        intro r
        unfold bgn bg2
        rw [alk_kyA, alk_kyA2, frK_ndl, Bool.and_comm]
        unfold ndl
        by_cases h0 : r.2.2 = 0
        · simp [h0]
        · simp [h0]
      simp only [e]
end MS
