/-! what a well formed table says is a table; what is written of a table says it again -/
theorem sy_acc {i acc : Nat} (h : accI i acc) (hi : i ≤ 12) {j : Nat} (hj : i ≤ j) (hj2 : j < 12) : sy acc j = 0 := by
  obtain ⟨c, rfl, -⟩ := h
  unfold sy
  rw [show 5 * (12 - i) = 5 * (11 - j) + (5 + 5 * (j - i)) by omega, Nat.pow_add, Nat.pow_add, Nat.mul_comm (2 ^ (5 * (11 - j))), ← Nat.mul_assoc, Nat.mul_div_cancel _ (Nat.pow_pos (by decide)), ← Nat.mul_assoc, Nat.mul_comm _ (2 ^ 5), Nat.mul_assoc]
  exact Nat.mul_mod_right _ _
theorem sy_next {i acc s : Nat} (h : accI i acc) (hi : i < 12) (hs : s < 32) {j : Nat} (hj : j < 12) : sy (acc + s * 2 ^ (5 * (11 - i))) j = if j < i then sy acc j else if j = i then s else 0 := by
  by_cases h2 : i < j
  · rw [if_neg (by omega), if_neg (by omega)]
    exact sy_acc (h.next hi hs) (by omega) (by omega) hj
  · obtain ⟨c, rfl, -⟩ := h
    have e0 : c * 2 ^ (5 * (12 - i)) = (32 * c) * 2 ^ (5 * (11 - i)) := by
      rw [show 5 * (12 - i) = 5 + 5 * (11 - i) by omega, Nat.pow_add, ← Nat.mul_assoc]
      congr 1; omega
    have hp : 0 < 2 ^ (5 * (11 - i)) := Nat.pow_pos (by decide)
    rw [e0, ← Nat.add_mul]
    unfold sy
    by_cases h1 : j < i
    · rw [if_pos h1, show 5 * (11 - j) = 5 * (11 - i) + 5 * (i - j) by omega, Nat.pow_add, ← Nat.div_div_eq_div_mul, ← Nat.div_div_eq_div_mul, Nat.mul_div_cancel _ hp, Nat.mul_div_cancel _ hp, show 5 * (i - j) = 5 + 5 * (i - j - 1) by omega, Nat.pow_add, ← Nat.div_div_eq_div_mul, ← Nat.div_div_eq_div_mul]
      congr 2; omega
    · have : j = i := by omega
      subst this
      rw [if_neg h1, if_pos rfl, Nat.mul_div_cancel _ hp]
      omega
theorem kD_sy : ∀ (n i acc : Nat) (l : List Nat) (q : Nat × List Nat), i + n ≤ 12 → accI i acc → kD n i acc l = some q → (∀ j, j < i → sy q.1 j = sy acc j) ∧ (∀ j, i ≤ j → j < i + n → sy q.1 j ≠ 0) ∧ ∀ j, i + n ≤ j → j < 12 → sy q.1 j = 0
  | 0, i, acc, l, q, hi, ha, h => by
    cases h
    exact ⟨fun j _ => rfl, fun j h1 h2 => absurd h2 (by omega), fun j h1 h2 => sy_acc ha hi h1 h2⟩
  | n + 1, i, acc, [], q, hi, ha, h => by cases h
  | n + 1, i, acc, b :: l, q, hi, ha, h => by
    unfold kD at h
    split at h
    · rename_i hb
      obtain ⟨h1, h2, h3⟩ := kD_sy n (i + 1) _ l q (by omega) (ha.next (by omega) (by omega)) h
      refine ⟨fun j hj => ?_, fun j hj1 hj2 => ?_, fun j hj1 hj2 => h3 j (by omega) hj2⟩
      · rw [h1 j (by omega), sy_next ha (by omega) (by omega) (by omega), if_pos hj]
      · by_cases hj : j = i
        · subst hj
          rw [h1 j (by omega), sy_next ha (by omega) (by omega) (by omega), if_neg (by omega), if_pos rfl]
          omega
        · exact h2 j (by omega) (by omega)
    · cases h
theorem alkN_spec (a b : Nat) : ∀ n, n ≤ 12 → (∀ j, 12 - n ≤ j → j < 12 - n + alkN a b n → sy a j ≠ 0 ∧ sy a j = sy b j) ∧ (12 - n + alkN a b n < 12 → sy a (12 - n + alkN a b n) = 0 ∨ sy a (12 - n + alkN a b n) ≠ sy b (12 - n + alkN a b n))
  | 0, _ => ⟨fun j h1 h2 => absurd h2 (by simp [alkN]; omega), fun h => absurd h (by simp [alkN])⟩
  | n + 1, hn => by
    obtain ⟨h1, h2⟩ := alkN_spec a b n (by omega)
    have e : ∀ x, x / 2 ^ (5 * n) % 32 = sy x (12 - (n + 1)) := fun x => by unfold sy; rw [show 11 - (12 - (n + 1)) = n by omega]
    unfold alkN
    rw [e a, e b]
    by_cases hc : sy a (12 - (n + 1)) = 0 ∨ sy a (12 - (n + 1)) ≠ sy b (12 - (n + 1))
    · rw [if_pos hc]
      exact ⟨fun j q1 q2 => absurd q2 (by omega), fun _ => hc⟩
    · rw [if_neg hc, show 12 - (n + 1) + (alkN a b n + 1) = 12 - n + alkN a b n by omega]
      refine ⟨fun j q1 q2 => ?_, h2⟩
      by_cases hj : j = 12 - (n + 1)
      · subst hj
        exact ⟨fun z => hc (Or.inl z), Classical.byContradiction fun z => hc (Or.inr z)⟩
      · exact h1 j (by omega) q2
theorem alk_sp (a b : Nat) : (∀ j, j < alk a b → sy a j ≠ 0 ∧ sy a j = sy b j) ∧ (alk a b < 12 → sy a (alk a b) = 0 ∨ sy a (alk a b) ≠ sy b (alk a b)) := by
  have := alkN_spec a b 12 (by omega)
  simp only [Nat.sub_self, Nat.zero_add, Nat.zero_le, true_implies] at this
  exact this
theorem alk_uq {a b m : Nat} (hm : m ≤ 12) (h1 : ∀ j, j < m → sy a j ≠ 0 ∧ sy a j = sy b j) (h2 : m < 12 → sy a m = 0 ∨ sy a m ≠ sy b m) : alk a b = m := by
  obtain ⟨g1, g2⟩ := alk_sp a b
  have hl := alk_le a b
  rcases Nat.lt_trichotomy (alk a b) m with q | q | q
  · have := h1 _ q
    rcases g2 (by omega) with z | z
    · exact absurd z this.1
    · exact absurd this.2 z
  · exact q
  · have := g1 _ q
    rcases h2 (by omega) with z | z
    · exact absurd z this.1
    · exact absurd this.2 z
/-- the key of a name that is read -/
theorem nK_GK {p sh n i : Nat} {l : List Nat} {q : Nat × List Nat} (h : nK p sh n l = some q) (hs : sh = shd i p q.1) : GK q.1 ∧ alk q.1 q.1 = sh + n := by
  obtain ⟨k1, k2⟩ := nK_lt h
  unfold nK at h
  split at h
  · cases h
  · rename_i hle
    obtain ⟨q0, h1, h2⟩ := Option.bind_eq_some_iff.mp h
    split at h2
    · cases h2
      obtain ⟨s1, s2, s3⟩ := kD_sy n sh _ l _ (by omega) (accI_kpr p sh (by omega)) h1
      have hnz : ∀ j, j < sh + n → sy q.1 j ≠ 0 := by
        intro j hj
        by_cases hjs : j < sh
        · unfold shd at hs
          split at hs
          · omega
          · have := (alk_sp p q.1).1 j (by omega)
            rw [← this.2]; exact this.1
        · exact s2 j (by omega) hj
      have ha : alk q.1 q.1 = sh + n := alk_uq (by omega) (fun j hj => ⟨hnz j hj, rfl⟩) (fun hl => Or.inl (s3 _ (Nat.le_refl _) hl))
      exact ⟨⟨k1, k2, fun j h1 h2 => s3 j (by omega) h2⟩, ha⟩
    · cases h2
theorem cD_w {kd : Nat} {l : List Nat} {q : Int × List Nat} (h : cD kd l = some q) : wC q.1 := by
  unfold cD at h
  split at h
  · cases h; exact Or.inl rfl
  · split at h
    · obtain ⟨q0, h1, h2⟩ := Option.bind_eq_some_iff.mp h
      split at h2
      · rename_i hq; cases h2; exact Or.inr (Or.inl ⟨by omega, by show (q0.1 : Int) ≤ _; omega⟩)
      · cases h2
    · split at h
      · obtain ⟨q0, h1, h2⟩ := Option.bind_eq_some_iff.mp h
        obtain ⟨k, h3, h4⟩ := Option.bind_eq_some_iff.mp h2
        cases h4
        have hg := (nK_GK (i := 0) h3 rfl).1
        refine Or.inr (Or.inr ⟨?_, ?_⟩)
        · show -(k.1 : Int) < 0
          have := hg.pos; omega
        · show GK (-(-(k.1 : Int))).toNat
          rw [show (-(-(k.1 : Int))).toNat = k.1 by omega]
          exact hg
      · cases h
theorem rD_w {i p lw hg : Nat} {l : List Nat} {q : arec × List Nat} (h : rD i p lw hg l = some q) : wR lw hg q.1 ∧ p < q.1.1 := by
  unfold rD at h
  obtain ⟨sh, h1, h⟩ := Option.bind_eq_some_iff.mp h
  obtain ⟨hd, h2, h⟩ := Option.bind_eq_some_iff.mp h
  split at h
  · obtain ⟨k, h3, h⟩ := Option.bind_eq_some_iff.mp h
    split at h
    · rename_i hk
      obtain ⟨dt, h4, h⟩ := Option.bind_eq_some_iff.mp h
      split at h
      · rename_i hdt
        obtain ⟨c, h5, h⟩ := Option.bind_eq_some_iff.mp h
        cases h
        exact ⟨⟨(nK_GK h3 hk.1).1, Nat.le_add_right _ _, hdt, cD_w h5⟩, hk.2⟩
      · cases h
    · cases h
  · cases h
theorem eD_w {i p pt lw hg : Nat} {l : List Nat} {q : aent × List Nat} (h : eD i p pt lw hg l = some q) : wE lw hg q.1 ∧ p ≤ q.1.1 ∧ (i = 0 ∨ q.1.1 ≠ p ∨ q.1.2.1 < pt) := by
  unfold eD at h
  obtain ⟨sh, h1, h⟩ := Option.bind_eq_some_iff.mp h
  obtain ⟨n, h2, h⟩ := Option.bind_eq_some_iff.mp h
  obtain ⟨k, h3, h⟩ := Option.bind_eq_some_iff.mp h
  split at h
  · rename_i hk
    obtain ⟨tm, h4, h⟩ := Option.bind_eq_some_iff.mp h
    split at h
    · rename_i htm
      split at h
      · rename_i hpt
        obtain ⟨o, h5, h⟩ := Option.bind_eq_some_iff.mp h
        obtain ⟨nw, h6, h⟩ := Option.bind_eq_some_iff.mp h
        cases h
        exact ⟨⟨(nK_GK h3 hk.1).1, htm.1, htm.2, nD_lt h5, nD_lt h6⟩, hk.2, hpt⟩
      · cases h
    · cases h
  · cases h
theorem rsD_w {lw hg : Nat} : ∀ (n i p : Nat) (l : List Nat) (q : List arec × List Nat), rsD lw hg n i p l = some q → q.1.length = n ∧ sT kR q.1 ∧ (∀ r ∈ q.1, wR lw hg r ∧ p < r.1)
  | 0, i, p, l, q, h => by cases h; exact ⟨rfl, List.Pairwise.nil, fun r hr => by cases hr⟩
  | n + 1, i, p, l, q, h => by
    unfold rsD at h
    obtain ⟨r, h1, h⟩ := Option.bind_eq_some_iff.mp h
    obtain ⟨q2, h2, h⟩ := Option.bind_eq_some_iff.mp h
    cases h
    obtain ⟨w1, w2⟩ := rD_w h1
    obtain ⟨i1, i2, i3⟩ := rsD_w n (i + 1) _ _ q2 h2
    refine ⟨by simp [i1], List.pairwise_cons.mpr ⟨fun a ha => (i3 a ha).2, i2⟩, fun a ha => ?_⟩
    rcases List.mem_cons.mp ha with rfl | ha
    · exact ⟨w1, w2⟩
    · exact ⟨(i3 a ha).1, Nat.lt_trans w2 (i3 a ha).2⟩
theorem ek_lt {a b : aent} (ha : a.2.1 < 2 ^ 31) (hb : b.2.1 < 2 ^ 31) : ek a < ek b ↔ a.1 < b.1 ∨ (a.1 = b.1 ∧ b.2.1 < a.2.1) := by
  unfold ek
  omega
theorem esD_w {lw hg : Nat} (hh : hg < 2 ^ 31) : ∀ (n i p pt : Nat) (l : List Nat) (q : List aent × List Nat), esD lw hg n i p pt l = some q → q.1.length = n ∧ sT ek q.1 ∧ (∀ r ∈ q.1, wE lw hg r ∧ p ≤ r.1 ∧ (i ≠ 0 → r.1 ≠ p ∨ r.2.1 < pt))
  | 0, i, p, pt, l, q, h => by cases h; exact ⟨rfl, List.Pairwise.nil, fun r hr => by cases hr⟩
  | n + 1, i, p, pt, l, q, h => by
    unfold esD at h
    obtain ⟨e, h1, h⟩ := Option.bind_eq_some_iff.mp h
    obtain ⟨q2, h2, h⟩ := Option.bind_eq_some_iff.mp h
    cases h
    obtain ⟨w1, w2, w3⟩ := eD_w h1
    obtain ⟨i1, i2, i3⟩ := esD_w hh n (i + 1) _ _ _ q2 h2
    have we := w1.2.2.1
    refine ⟨by simp [i1], List.pairwise_cons.mpr ⟨fun a ha => ?_, i2⟩, fun a ha => ?_⟩
    · obtain ⟨a1, a2, a3⟩ := i3 a ha
      have ae := a1.2.2.1
      rw [ek_lt (by omega) (by omega)]
      rcases a3 (by omega) with q | q
      · omega
      · omega
    · rcases List.mem_cons.mp ha with rfl | ha
      · exact ⟨w1, w2, fun h0 => w3.resolve_left h0⟩
      · obtain ⟨a1, a2, a3⟩ := i3 a ha
        refine ⟨a1, by omega, fun h0 => ?_⟩
        have b1 := w3.resolve_left h0
        have b2 := a3 (by omega)
        rcases b1 with b1 | b1
        · left; omega
        · by_cases hq : a.1 = p
          · right; rcases b2 with b2 | b2 <;> omega
          · left; exact hq
theorem pT_w {bs : List Nat} {T : atab} (h : pT bs = some T) : wT T := by
  unfold pT at h
  obtain ⟨q, h1, h2⟩ := Option.bind_eq_some_iff.mp h
  split at h2
  · cases h2
    unfold hD at h1
    obtain ⟨b, -, h1⟩ := Option.bind_eq_some_iff.mp h1
    split at h1
    · obtain ⟨lw, -, h1⟩ := Option.bind_eq_some_iff.mp h1
      obtain ⟨hg, -, h1⟩ := Option.bind_eq_some_iff.mp h1
      split at h1
      · rename_i hr
        obtain ⟨cn, -, h1⟩ := Option.bind_eq_some_iff.mp h1
        split at h1
        · rename_i h30
          obtain ⟨R, hR, h1⟩ := Option.bind_eq_some_iff.mp h1
          obtain ⟨lg, -, h1⟩ := Option.bind_eq_some_iff.mp h1
          split at h1
          · rename_i h40
            obtain ⟨E, hE, h1⟩ := Option.bind_eq_some_iff.mp h1
            cases h1
            obtain ⟨r1, r2, r3⟩ := rsD_w _ _ _ _ _ hR
            obtain ⟨e1, e2, e3⟩ := esD_w (by omega) _ _ _ _ _ _ hE
            exact ⟨⟨hr.1, hr.2.1, hr.2.2, r2, e2, fun r q => (r3 r q).1, fun e q => (e3 e q).1⟩, by show R.1.length ≤ 30; omega, by show E.1.length ≤ 40; omega⟩
          · cases h1
        · cases h1
      · cases h1
    · cases h1
  · cases h2
