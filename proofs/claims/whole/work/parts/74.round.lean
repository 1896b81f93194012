/-! what is written of a table is read again; how long it is -/
theorem vD_vE {n : Nat} (h : n < 2097152) (l : List Nat) : vD (vE n ++ l) = some (n, l) := by
  unfold vE
  by_cases h1 : n < 128
  · rw [if_pos h1]
    show vD (n :: l) = _
    simp only [vD]
    rw [if_pos h1]
  · rw [if_neg h1]
    by_cases h2 : n < 16384
    · rw [if_pos h2]
      show vD ((n % 128 + 128) :: (n / 128) :: l) = _
      simp only [vD]
      rw [if_neg (by omega), if_pos (by omega), if_neg (by omega)]
      congr 2; omega
    · rw [if_neg h2]
      show vD ((n % 128 + 128) :: (n / 128 % 128 + 128) :: (n / 16384) :: l) = _
      simp only [vD]
      rw [if_neg (by omega), if_neg (by omega), if_pos (by omega), if_neg (by omega)]
      congr 2; omega
theorem kD_syms {k : Nat} : ∀ (n i : Nat) (l : List Nat), (∀ j, i ≤ j → j < i + n → sy k j ≠ 0) → kD n i (kpr k i) (syms k i n ++ l) = some (kpr k (i + n), l)
  | 0, i, l, _ => rfl
  | n + 1, i, l, h => by
    show kD (n + 1) i (kpr k i) (sy k i :: (syms k (i + 1) n ++ l)) = _
    unfold kD
    have h1 := h i (by omega) (by omega)
    have h2 := sy_lt k i
    rw [if_pos (by omega), show kpr k i + sy k i * 2 ^ (5 * (11 - i)) = kpr k (i + 1) from rfl, kD_syms n (i + 1) l (fun j a b => h j (by omega) (by omega)), show i + 1 + n = i + (n + 1) by omega]
theorem kpr_sy (k : Nat) : ∀ m, m ≤ 12 → ∀ j, j < 12 → sy (kpr k m) j = if j < m then sy k j else 0
  | 0, _, j, _ => by rw [if_neg (by omega)]; show sy 0 j = 0; unfold sy; simp
  | m + 1, h, j, hj => by
    show sy (kpr k m + sy k m * 2 ^ (5 * (11 - m))) j = _
    rw [sy_next (accI_kpr k m (by omega)) (by omega) (sy_lt k m) hj]
    by_cases h1 : j < m
    · rw [if_pos h1, if_pos (by omega), kpr_sy k m (by omega) j hj, if_pos h1]
    · rw [if_neg h1]
      by_cases h2 : j = m
      · rw [if_pos h2, if_pos (by omega), h2]
      · rw [if_neg h2, if_neg (by omega)]
theorem kpr_lt (k : Nat) {m : Nat} (h : m ≤ 12) : kpr k m < 2 ^ 60 := (accI_kpr k m h).lt h
theorem kpr_GK {k : Nat} (h : GK k) : kpr k (alk k k) = k := by
  have hl := alk_le k k
  refine key_ext (kpr_lt k hl) h.1 (fun j hj => ?_)
  rw [kpr_sy k _ hl j hj]
  split
  · rfl
  · exact (h.2.2 j (by omega) hj).symm
theorem kpr_eq {p k m : Nat} (hm : m ≤ 12) (h : ∀ j, j < m → sy p j = sy k j) : kpr p m = kpr k m := by
  refine key_ext (kpr_lt p hm) (kpr_lt k hm) (fun j hj => ?_)
  rw [kpr_sy p _ hm j hj, kpr_sy k _ hm j hj]
  split
  · rename_i q; exact h j q
  · rfl
theorem shd_sy {i p k j : Nat} (h : j < shd i p k) : sy p j = sy k j := by
  unfold shd at h
  split at h
  · omega
  · exact ((alk_sp p k).1 j h).2
theorem nK_syms {i p k : Nat} (h : GK k) (l : List Nat) : nK p (shd i p k) (alk k k - shd i p k) (syms k (shd i p k) (alk k k - shd i p k) ++ l) = some (k, l) := by
  have h1 := shd_le i p k
  have h2 := alk_le k k
  unfold nK
  rw [if_neg (by omega), kpr_eq (by omega) (fun j hj => shd_sy hj), kD_syms _ _ _ (fun j a b => ((alk_sp k k).1 j (by omega)).1), show shd i p k + (alk k k - shd i p k) = alk k k by omega, kpr_GK h, Option.bind_some, if_pos h.2.1]
theorem kpr_le (k : Nat) : ∀ m, m ≤ 12 → kpr k m ≤ kpr k 12 := by
  intro m hm
  have : ∀ d, m + d ≤ 12 → kpr k m ≤ kpr k (m + d) := by
    intro d
    induction d with
    | zero => intro _; exact Nat.le_refl _
    | succ d ih => intro hd; exact Nat.le_trans (ih (by omega)) (Nat.le_add_right _ _)
  have h := this (12 - m) (by omega)
  rwa [show m + (12 - m) = 12 by omega] at h
theorem kpr_12 {k : Nat} (h : k < 2 ^ 60) : kpr k 12 = k := by
  refine key_ext (kpr_lt k (by omega)) h (fun j hj => ?_)
  rw [kpr_sy k 12 (by omega) j hj, if_pos hj]
theorem shd_lt {i p k : Nat} (hk : GK k) (hp : p < 2 ^ 60) (h : p < k) : shd i p k < alk k k := by
  have hpos : 0 < alk k k := by
    rcases Nat.eq_zero_or_pos (alk k k) with q | q
    · have := kpr_GK hk
      rw [q] at this
      have := hk.pos
      simp [kpr] at *
      omega
    · exact q
  unfold shd
  split
  · exact hpos
  · have h1 := alk_self p k
    rcases Nat.lt_or_eq_of_le h1 with q | q
    · exact q
    · exfalso
      have hl := alk_le k k
      have e1 : kpr p (alk k k) = kpr k (alk k k) := kpr_eq hl (fun j hj => ((alk_sp p k).1 j (by omega)).2)
      rw [kpr_GK hk] at e1
      have := kpr_le p (alk k k) hl
      rw [kpr_12 hp] at this
      omega
theorem cD_E {c : Int} (h : wC c) (l : List Nat) : cD (knd c) (contE c ++ l) = some (c, l) := by
  unfold knd contE
  rcases h with h | h | h
  · subst h; rfl
  · have h0 : c ≠ 0 := by omega
    have hp : 0 < c := by omega
    rw [if_neg h0, if_neg h0, if_pos hp, if_pos hp]
    unfold cD
    rw [if_neg (by decide), if_pos rfl, vD_vE (by omega), Option.bind_some]
    rw [if_pos (show 1 ≤ c.toNat ∧ c.toNat ≤ 65535 by omega)]
    congr 2
    show (c.toNat : Int) = c
    omega
  · have h0 : c ≠ 0 := by omega
    have hp : ¬ 0 < c := by omega
    rw [if_neg h0, if_neg h0, if_neg hp, if_neg hp]
    unfold cD
    have hl := alk_le (-c).toNat (-c).toNat
    rw [if_neg (by decide), if_neg (by decide), if_pos rfl, List.append_assoc, vD_vE (by omega), Option.bind_some]
    have := nK_syms (i := 0) (p := 0) h.2 l
    rw [show shd 0 0 (-c).toNat = 0 from rfl, Nat.sub_zero] at this
    rw [this, Option.bind_some]
    congr 2
    show -(((-c).toNat : Nat) : Int) = c
    omega
theorem knd_lt (c : Int) : knd c ≤ 2 := by unfold knd; split; omega; split <;> omega
theorem rD_E {i p lw hg : Nat} {r : arec} (h : wR lw hg r) (hp : p < r.1) (hh : hg ≤ 2000) (l : List Nat) : rD i p lw hg (recE i p lw r ++ l) = some (r, l) := by
  obtain ⟨h1, h2, h3, h4⟩ := h
  have hs := shd_lt (i := i) h1 (by have := h1.1; omega) hp
  have hl := alk_le r.1 r.1
  have hk := knd_lt r.2.2
  unfold recE rD
  rw [List.append_assoc, List.append_assoc, List.append_assoc, List.append_assoc, vD_vE (by omega), Option.bind_some, vD_vE (by omega), Option.bind_some]
  have e1 : (4 * (alk r.1 r.1 - shd i p r.1) + knd r.2.2) / 4 = alk r.1 r.1 - shd i p r.1 := by omega
  have e2 : (4 * (alk r.1 r.1 - shd i p r.1) + knd r.2.2) % 4 = knd r.2.2 := by omega
  simp only [e1, e2]
  rw [if_pos (by omega), nK_syms h1, Option.bind_some, if_pos ⟨rfl, hp⟩, vD_vE (by omega), Option.bind_some]
  rw [if_pos (show lw + (r.2.1 - lw) ≤ hg by omega), cD_E h4, Option.bind_some]
  rw [show lw + (r.2.1 - lw) = r.2.1 by omega]
theorem nD_E {n : Nat} (h : n ≤ 65535) (l : List Nat) : nD (vE n ++ l) = some (n, l) := by
  unfold nD
  rw [vD_vE (by omega), Option.bind_some, if_pos h]
theorem eD_E {i p pt lw hg : Nat} {e : aent} (h : wE lw hg e) (hp : p ≤ e.1) (ho : i = 0 ∨ e.1 ≠ p ∨ e.2.1 < pt) (hh : hg ≤ 2000) (l : List Nat) : eD i p pt lw hg (entE i p e ++ l) = some (e, l) := by
  obtain ⟨h1, h2, h3, h4, h5⟩ := h
  have hs := shd_le i p e.1
  have hl := alk_le e.1 e.1
  unfold entE eD
  rw [List.append_assoc, List.append_assoc, List.append_assoc, List.append_assoc, List.append_assoc, vD_vE (by omega), Option.bind_some, vD_vE (by omega), Option.bind_some, nK_syms h1, Option.bind_some, if_pos ⟨rfl, hp⟩, vD_vE (by omega), Option.bind_some, if_pos ⟨h2, h3⟩, if_pos ho, nD_E h4, Option.bind_some, nD_E h5, Option.bind_some]
theorem rsD_E {lw hg : Nat} (hh : hg ≤ 2000) : ∀ (R : List arec) (i p : Nat) (l : List Nat), sT kR R → (∀ r ∈ R, wR lw hg r ∧ p < r.1) → rsD lw hg R.length i p (recsE lw i p R ++ l) = some (R, l)
  | [], i, p, l, _, _ => rfl
  | r :: R, i, p, l, hs, h => by
    have h1 := h r List.mem_cons_self
    have hs1 := (List.pairwise_cons.mp hs).1
    show rsD lw hg (R.length + 1) i p (recE i p lw r ++ recsE lw (i + 1) r.1 R ++ l) = _
    unfold rsD
    rw [List.append_assoc, rD_E h1.1 h1.2 hh, Option.bind_some, rsD_E hh R (i + 1) r.1 l (List.pairwise_cons.mp hs).2 (fun a ha => ⟨(h a (List.mem_cons_of_mem _ ha)).1, hs1 a ha⟩), Option.bind_some]
theorem esD_E {lw hg : Nat} (hh : hg ≤ 2000) : ∀ (E : List aent) (i p pt : Nat) (l : List Nat), sT ek E → (∀ r ∈ E, wE lw hg r ∧ p ≤ r.1 ∧ (i = 0 ∨ r.1 ≠ p ∨ r.2.1 < pt)) → esD lw hg E.length i p pt (entsE i p E ++ l) = some (E, l)
  | [], i, p, pt, l, _, _ => rfl
  | e :: E, i, p, pt, l, hs, h => by
    obtain ⟨h1, h2, h3⟩ := h e List.mem_cons_self
    have hs1 := (List.pairwise_cons.mp hs).1
    show esD lw hg (E.length + 1) i p pt (entE i p e ++ entsE (i + 1) e.1 E ++ l) = _
    unfold esD
    rw [List.append_assoc, eD_E h1 h2 h3 hh, Option.bind_some, esD_E hh E (i + 1) e.1 e.2.1 l (List.pairwise_cons.mp hs).2 (fun a ha => ?_), Option.bind_some]
    have ha1 := (h a (List.mem_cons_of_mem _ ha)).1
    have b1 := h1.2.2.1
    have b2 := ha1.2.2.1
    have := (ek_lt (by omega) (by omega)).mp (hs1 a ha)
    exact ⟨ha1, by omega, by omega⟩
theorem hD_E {T : atab} (h : wT T) : hD (ser0 T.1 T.2.1 T.2.2.1 T.2.2.2) = some (T, []) := by
  obtain ⟨⟨h1, h2, h3, h4, h5, h6, h7⟩, h8, h9⟩ := h
  unfold ser0 hD
  rw [List.append_assoc, List.append_assoc, List.append_assoc, List.append_assoc, List.append_assoc]
  have eb : ∀ l : List Nat, bD ([82] ++ l) = some (82, l) := fun l => rfl
  rw [eb, Option.bind_some, if_pos rfl, vD_vE (by omega), Option.bind_some, vD_vE (by omega), Option.bind_some, if_pos ⟨h1, h2, h3⟩, vD_vE (by omega), Option.bind_some, if_pos h8, rsD_E h3 _ _ _ _ h4 (fun r hr => ⟨h6 r hr, (h6 r hr).1.pos⟩), Option.bind_some, vD_vE (by omega), Option.bind_some, if_pos h9]
  have := esD_E (lw := T.1) (hg := T.2.1) h3 T.2.2.2 0 0 0 [] h5 (fun r hr => ⟨h7 r hr, Nat.zero_le _, Or.inl rfl⟩)
  rw [List.append_nil] at this
  rw [this, Option.bind_some]
theorem pT_ser {T : atab} (h : wT T) : pT (serT T) = some T := by
  unfold pT serT ser
  have e1 : (ser0 T.1 T.2.1 T.2.2.1 T.2.2.2 ++ [crc (ser0 T.1 T.2.1 T.2.2.1 T.2.2.2) / 256, crc (ser0 T.1 T.2.1 T.2.2.1 T.2.2.2) % 256]).length - 2 = (ser0 T.1 T.2.1 T.2.2.1 T.2.2.2).length := by simp
  have e2 : (ser0 T.1 T.2.1 T.2.2.1 T.2.2.2 ++ [crc (ser0 T.1 T.2.1 T.2.2.1 T.2.2.2) / 256, crc (ser0 T.1 T.2.1 T.2.2.1 T.2.2.2) % 256]).length - 1 = (ser0 T.1 T.2.1 T.2.2.1 T.2.2.2).length + 1 := by simp
  rw [e1, e2, List.take_left', hD_E h, Option.bind_some, if_pos]
  · refine ⟨rfl, ?_⟩
    have g1 : ∀ (s : List Nat) (a b : Nat), (s ++ [a, b]).getD s.length 0 = a := fun s a b => by simp [List.getD]
    have g2 : ∀ (s : List Nat) (a b : Nat), (s ++ [a, b]).getD (s.length + 1) 0 = b := fun s a b => by simp [List.getD]
    rw [g1, g2]
    omega
  · rfl
theorem vE_len1 {n : Nat} (h : n < 128) : (vE n).length = 1 := by unfold vE; rw [if_pos h]; rfl
theorem vE_len2 {n : Nat} (h : n < 16384) : (vE n).length ≤ 2 := by
  unfold vE
  by_cases h1 : n < 128
  · rw [if_pos h1]; simp
  · rw [if_neg h1, if_pos h]; simp
theorem vE_len3 (n : Nat) : (vE n).length ≤ 3 := by
  unfold vE
  split
  · simp
  · split <;> simp
theorem vE_pos (n : Nat) : 1 ≤ (vE n).length := by
  unfold vE
  split
  · simp
  · split <;> simp
theorem syms_len (k : Nat) : ∀ n i, (syms k i n).length = n
  | 0, _ => rfl
  | n + 1, i => by simp [syms, syms_len k n]
theorem contE_len {c : Int} : (contE c).length ≤ 13 := by
  unfold contE
  split
  · simp
  · split
    · have := vE_len3 c.toNat; omega
    · have := alk_le (-c).toNat (-c).toNat
      rw [List.length_append, syms_len, vE_len1 (by omega)]
      omega
theorem recE_len {i p lw hg : Nat} {r : arec} (h : wR lw hg r) (hh : hg ≤ 2000) : (recE i p lw r).length ≤ 29 := by
  have hl := alk_le r.1 r.1
  have hk := knd_lt r.2.2
  have hs := shd_le i p r.1
  have hc := contE_len (c := r.2.2)
  have ht := h.2.2.1
  unfold recE
  rw [List.length_append, List.length_append, List.length_append, List.length_append, syms_len, vE_len1 (by omega), vE_len1 (by omega)]
  have := vE_len2 (n := r.2.1 - lw) (by omega)
  omega
theorem entE_len {i p lw hg : Nat} {e : aent} (h : wE lw hg e) (hh : hg ≤ 2000) : (entE i p e).length ≤ 22 := by
  have hl := alk_le e.1 e.1
  have hs := shd_le i p e.1
  have ht := h.2.2.1
  unfold entE
  rw [List.length_append, List.length_append, List.length_append, List.length_append, List.length_append, syms_len, vE_len1 (by omega), vE_len1 (by omega)]
  have := vE_len2 (n := e.2.1) (by omega)
  have := vE_len3 e.2.2.1
  have := vE_len3 e.2.2.2
  omega
theorem recsE_len {lw hg : Nat} (hh : hg ≤ 2000) : ∀ (R : List arec) (i p : Nat), (∀ r ∈ R, wR lw hg r) → (recsE lw i p R).length ≤ 29 * R.length
  | [], _, _, _ => by simp [recsE]
  | r :: R, i, p, h => by
    have h1 := recE_len (i := i) (p := p) (h r List.mem_cons_self) hh
    have h2 := recsE_len hh R (i + 1) r.1 (fun a ha => h a (List.mem_cons_of_mem _ ha))
    show (recE i p lw r ++ recsE lw (i + 1) r.1 R).length ≤ _
    rw [List.length_append, List.length_cons]
    omega
theorem entsE_len {lw hg : Nat} (hh : hg ≤ 2000) : ∀ (R : List aent) (i p : Nat), (∀ r ∈ R, wE lw hg r) → (entsE i p R).length ≤ 22 * R.length
  | [], _, _, _ => by simp [entsE]
  | r :: R, i, p, h => by
    have h1 := entE_len (i := i) (p := p) (h r List.mem_cons_self) hh
    have h2 := entsE_len hh R (i + 1) r.1 (fun a ha => h a (List.mem_cons_of_mem _ ha))
    show (entE i p r ++ entsE (i + 1) r.1 R).length ≤ _
    rw [List.length_append, List.length_cons]
    omega
/-- 16 names and 24 entries always fit -/
theorem ser_fits {T : atab} (h : wT0 T) (h1 : T.2.2.1.length ≤ 16) (h2 : T.2.2.2.length ≤ 24) : (serT T).length ≤ 1200 := by
  obtain ⟨a1, a2, a3, a4, a5, a6, a7⟩ := h
  have r := recsE_len (lw := T.1) a3 T.2.2.1 0 0 a6
  have e := entsE_len (lw := T.1) a3 T.2.2.2 0 0 a7
  unfold serT ser ser0
  simp only [List.length_append, List.length_cons, List.length_nil]
  rw [vE_len1 (n := T.2.2.1.length) (by omega), vE_len1 (n := T.2.2.2.length) (by omega)]
  have := vE_len2 (n := T.1) (by omega)
  have := vE_len2 (n := T.2.1) (by omega)
  omega
/-- one record is 4 bytes or more: a table with one has 11 -/
theorem ser_least {T : atab} (h : wT0 T) (h1 : T.2.2.1 ≠ []) : 11 ≤ (serT T).length := by
  obtain ⟨r, R, hR⟩ := List.exists_cons_of_ne_nil h1
  obtain ⟨a1, a2, a3, a4, a5, a6, a7⟩ := h
  have hr := a6 r (by rw [hR]; simp)
  have hs := shd_lt (i := 0) (p := 0) hr.1 (by omega) hr.1.pos
  unfold serT ser ser0
  rw [hR]
  simp only [List.length_append, List.length_cons, List.length_nil]
  have e1 : (recsE T.1 0 0 (r :: R)).length = (recE 0 0 T.1 r).length + (recsE T.1 1 r.1 R).length := by
    show (recE 0 0 T.1 r ++ recsE T.1 1 r.1 R).length = _
    rw [List.length_append]
  have e2 : 4 ≤ (recE 0 0 T.1 r).length := by
    unfold recE
    rw [List.length_append, List.length_append, List.length_append, List.length_append, syms_len]
    have := vE_pos (shd 0 0 r.1)
    have := vE_pos (4 * (alk r.1 r.1 - shd 0 0 r.1) + knd r.2.2)
    have := vE_pos (r.2.1 - T.1)
    omega
  have := vE_pos T.1
  have := vE_pos T.2.1
  have := vE_pos (R.length + 1)
  have := vE_pos T.2.2.2.length
  omega
theorem ser_3 (T : atab) : 7 ≤ (serT T).length := by
  unfold serT ser ser0
  simp only [List.length_append, List.length_cons, List.length_nil]
  have := vE_pos T.1
  have := vE_pos T.2.1
  have := vE_pos T.2.2.1.length
  have := vE_pos T.2.2.2.length
  omega
