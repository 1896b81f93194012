/-! the reference: bytes that are put -/
def DrA (g : Nat → Int32) (A : Nat → Nat → Int32) (D : List Nat) : Prop := g 27 = nI (min D.length 1200) ∧ g 29 = nI (if 1200 < D.length then 1 else 0) ∧ (∀ b ∈ D, b < 256) ∧ ∀ i b, D[i]? = some b → i < 1200 → A 16 i = sb b
theorem DrA.kept {g g' : Nat → Int32} {A A' : Nat → Nat → Int32} {D : List Nat} (h : DrA g A D) (e1 : g' 27 = g 27) (e2 : g' 29 = g 29) (e3 : A' 16 = A 16) : DrA g' A' D := ⟨e1.trans h.1, e2.trans h.2.1, h.2.2.1, fun i b q r => by rw [e3]; exact h.2.2.2 i b q r⟩
section MP
variable {d m : Nat} {M : xM} {g : Nat → Int32} {A : Nat → Nat → Int32} {L : Nat → Nat → Int64} {D : List Nat} {z w : Nat} {Q : Option Value → xM → Nat → Nat → Prop}
theorem c_put {b : Nat} (hb : b < 256) (hD : DrA g A D) (K : ∀ g' A', DrA g' A' (D ++ [b]) → Fr [27, 29] [16] [] g g' A A' L L → Q none (MM (AR M m A' L) m g') z w) : WP d mMd_put 0 [some (.ref m), some (.int (nI b))] [] (MM (AR M m A L) m g) z w Q := by
  obtain ⟨h1, h2, h0, h3⟩ := hD
  have hb' : ∀ x ∈ D ++ [b], x < 256 := by
    intro x hx
    rw [List.mem_append, List.mem_singleton] at hx
    exact hx.elim (h0 x) (fun e => e ▸ hb)
  simp only [sMd_put_0, rMd_put_1, sMd_put_4, sMd_put_7, sMd_put_10, sMd_put_11, rMd_put_12 xb0, rMd_put_12 xb1, sMd_put_15, h1, nI_eq (a := min D.length 1200) (b := 1200) (by omega) (by omega)]
  by_cases hl : D.length < 1200
  · rw [if_neg (by omega)]
    simp only [sMd_put_16, rMd_put_17, sMd_put_20, rMd_put_21, sMd_put_24, sMd_put_25, qMd_put_26 (k := min D.length 1200) (by omega), sMd_put_27, sMd_put_28, rMd_put_29, sMd_put_32, sMd_put_33, rMd_put_34, sMd_put_37, h1, nI_add]
    refine K _ _ ⟨?_, ?_, hb', fun i c hi hi2 => ?_⟩ ⟨?_, ?_, ?_⟩
    · rw [ug_s, List.length_append]
      congr 1
      simp only [List.length_singleton]
      omega
    · rw [ug_e (by decide), h2, if_neg (by omega), if_neg (by rw [List.length_append, List.length_singleton]; omega)]
    · rw [u2_eq]
      by_cases hil : i < D.length
      · rw [List.getElem?_append_left hil] at hi
        rw [if_neg (by omega)]
        exact h3 i c hi hi2
      · have hi3 := (List.getElem?_eq_some_iff.mp hi).1
        simp only [List.length_append, List.length_singleton] at hi3
        have : i = D.length := by omega
        subst this
        rw [List.getElem?_append_right (Nat.le_refl _), Nat.sub_self] at hi
        cases hi
        rw [if_pos (by omega)]
        simp [sb]
    · intro j hj; exact ug_e (fun q => hj (by rw [q]; decide))
    · intro j hj; exact u2_ne (fun q => hj (by rw [q]; decide))
    · intro j _; rfl
  · rw [if_pos (by omega)]
    refine K _ _ ⟨?_, ?_, hb', fun i c hi hi2 => ?_⟩ ⟨?_, ?_, ?_⟩
    · rw [ug_e (by decide), h1, List.length_append]
      congr 1
      simp only [List.length_singleton]
      omega
    · rw [ug_s, if_pos (by rw [List.length_append, List.length_singleton]; omega)]
    · rw [List.getElem?_append_left (by omega)] at hi
      exact h3 i c hi hi2
    · intro j hj; exact ug_e (fun q => hj (by rw [q]; decide))
    · intro j _; rfl
    · intro j _; rfl
theorem c_putNumber {v : Nat} (hv : v < 2097152) (hD : DrA g A D) (K : ∀ g' A', DrA g' A' (D ++ vE v) → Fr [27, 29] [16] [] g g' A A' L L → Q none (MM (AR M m A' L) m g') z w) : WP (d + 1) mMd_putNumber 0 [some (.ref m), some (.int (nI v)), none] [] (MM (AR M m A L) m g) z w Q := by
  have hlast : ∀ (v : Nat) (x1 : Option Value) (g1 : Nat → Int32) (A1 : Nat → Nat → Int32) (D1 : List Nat), v < 128 → DrA g1 A1 D1 → (∀ g' A', DrA g' A' (D1 ++ [v]) → Fr [27, 29] [16] [] g1 g' A1 A' L L → Q none (MM (AR M m A' L) m g') z w) → WP (d + 1) mMd_putNumber 2 [some (.ref m), x1, some (.int (nI v))] [] (MM (AR M m A1 L) m g1) z w Q := by
    intro v x1 g1 A1 D1 hv hD1 K1
    rw [sMd_putNumber_2]
    simp only [sMd_putNumber_3, sMd_putNumber_5, sMd_putNumber_28, sMd_putNumber_29, rMd_putNumber_30]
    rw [if_pos (nI_le (by omega) (by omega))]
    refine c_put (by omega) hD1 (fun g2 A2 hD2 hF2 => ?_)
    simp only [sMd_putNumber_33, xk_i, xk_l, xk_a, xk_n, xk_0, Option.toList_some, Option.toList_none, List.cons_append, List.nil_append]
    exact K1 g2 A2 hD2 hF2
  have hstep : ∀ (v : Nat) (x1 : Option Value) (g1 : Nat → Int32) (A1 : Nat → Nat → Int32) (D1 : List Nat), 128 ≤ v → v < 2097152 → DrA g1 A1 D1 → (∀ g' A', DrA g' A' (D1 ++ [v % 128 + 128]) → Fr [27, 29] [16] [] g1 g' A1 A' L L → WP (d + 1) mMd_putNumber 2 [some (.ref m), x1, some (.int (nI (v / 128)))] [] (MM (AR M m A' L) m g') z w Q) → (∀ y, x1 = xk y → True) → xk x1 = x1 → WP (d + 1) mMd_putNumber 2 [some (.ref m), x1, some (.int (nI v))] [] (MM (AR M m A1 L) m g1) z w Q := by
    intro v x1 g1 A1 D1 h128 hv hD1 K1 _ hx
    rw [sMd_putNumber_2]
    simp only [sMd_putNumber_3, sMd_putNumber_5, sMd_putNumber_8, sMd_putNumber_9, sMd_putNumber_10, sMd_putNumber_12, sMd_putNumber_13, sMd_putNumber_16, rMd_putNumber_17]
    rw [if_neg (nI_ge (by omega) (by omega)), vbyte]
    refine c_put (by omega) hD1 (fun g2 A2 hD2 hF2 => ?_)
    simp only [sMd_putNumber_20, sMd_putNumber_21, sMd_putNumber_23, sMd_putNumber_24, sMd_putNumber_25, xk_i, xk_l, xk_a, xk_n, xk_0, Option.toList_some, Option.toList_none, List.cons_append, List.nil_append, hx]
    rw [vshr (by omega)]
    exact K1 g2 A2 hD2 hF2
  simp only [sMd_putNumber_0, sMd_putNumber_1, xk_i, xk_l, xk_a, xk_n, xk_0, Option.toList_some, Option.toList_none, List.cons_append, List.nil_append]
  unfold vE at K
  by_cases h1 : v < 128
  · rw [if_pos h1] at K
    exact hlast v _ g A D h1 hD K
  · rw [if_neg h1] at K
    refine hstep v _ g A D (by omega) hv hD (fun g1 A1 hD1 hF1 => ?_) (fun _ _ => trivial) rfl
    by_cases h2 : v < 16384
    · rw [if_pos h2] at K
      refine hlast (v / 128) _ g1 A1 _ (by omega) hD1 (fun g2 A2 hD2 hF2 => K g2 A2 ?_ (hF1.trans hF2))
      rw [List.append_assoc] at hD2; exact hD2
    · rw [if_neg h2] at K
      refine hstep (v / 128) _ g1 A1 _ (by omega) (by omega) hD1 (fun g2 A2 hD2 hF2 => ?_) (fun _ _ => trivial) rfl
      refine hlast (v / 128 / 128) _ g2 A2 _ (by omega) hD2 (fun g3 A3 hD3 hF3 => K g3 A3 ?_ ((hF1.trans hF2).trans hF3))
      rw [List.append_assoc, List.append_assoc, show v / 128 / 128 = v / 16384 by omega] at hD3
      exact hD3
theorem alk12 (k : Nat) : alk k k ≤ 12 := by
  have : ∀ n, alkN k k n ≤ n := by
    intro n
    induction n with
    | zero => exact Nat.le_refl 0
    | succ n ih => unfold alkN; split <;> omega
  exact this 12
theorem nln_rv {k : Nat} (hk : k < 2 ^ 60) : nln (rv k) = alk k k := by rw [nln_alk, rv_rv' hk]
theorem putName_loop {k fr : Nat} (hk : k < 2 ^ 60) : ∀ (r i : Nat) (g : Nat → Int32) (A : Nat → Nat → Int32) (D : List Nat), i + r = alk k k → DrA g A D → (∀ g' A', DrA g' A' (D ++ syms k i r) → Fr [27, 29] [16] [] g g' A A' L L → Q none (MM (AR M m A' L) m g') z w) →
    WP (d + 2) mMd_putName 3 [some (.ref m), some (.long (lN (rv k))), none, some (.int (nI fr)), some (.int (nI i))] [] (MM (AR M m A L) m g) z w Q := by
  have hrk := rv_lt k
  have h12 := alk12 k
  intro r
  induction r with
  | zero =>
    intro i g A D hi hD K
    rw [sMd_putName_3, sMd_putName_5, sMd_putName_6, c_length (by omega), nln_rv hk]
    simp only [sMd_putName_9, sMd_putName_28, xk_i, xk_l, xk_a, xk_n, xk_0, Option.toList_some, Option.toList_none, List.cons_append, List.nil_append]
    rw [if_pos (nI_le (by omega) (by omega))]
    exact K g A (by simpa [syms] using hD) Fr.rf
  | succ r ih =>
    intro i g A D hi hD K
    rw [sMd_putName_3, sMd_putName_5, sMd_putName_6, c_length (by omega), nln_rv hk]
    simp only [sMd_putName_9, sMd_putName_12, sMd_putName_13, sMd_putName_14, xk_i, xk_l, xk_a, xk_n, xk_0, Option.toList_some, Option.toList_none, List.cons_append, List.nil_append]
    rw [if_neg (nI_ge (by omega) (by omega)), sMd_putName_16, c_symbol (by omega) (by omega), nds_nd (by omega), nd_of k (by omega)]
    simp only [rMd_putName_19, xk_i, xk_l, xk_a, xk_n, xk_0, Option.toList_some, Option.toList_none, List.cons_append, List.nil_append]
    refine c_put (by have := sy_lt k i; omega) hD (fun g1 A1 hD1 hF1 => ?_)
    simp only [sMd_putName_22, sMd_putName_25, xk_i, xk_l, xk_a, xk_n, xk_0, Option.toList_some, Option.toList_none, List.cons_append, List.nil_append, nI_add]
    refine ih (i + 1) g1 A1 _ (by omega) hD1 (fun g2 A2 hD2 hF2 => K g2 A2 ?_ (hF1.trans hF2))
    rw [List.append_assoc] at hD2; exact hD2
theorem c_putName {k fr : Nat} (hk : k < 2 ^ 60) (hf : fr ≤ alk k k) (hD : DrA g A D) (K : ∀ g' A', DrA g' A' (D ++ syms k fr (alk k k - fr)) → Fr [27, 29] [16] [] g g' A A' L L → Q none (MM (AR M m A' L) m g') z w) :
    WP (d + 2) mMd_putName 0 [some (.ref m), some (.long (lN (rv k))), none, some (.int (nI fr)), none] [] (MM (AR M m A L) m g) z w Q := by
  simp only [sMd_putName_0, sMd_putName_1, xk_i, xk_l, xk_a, xk_n, xk_0, Option.toList_some, Option.toList_none, List.cons_append, List.nil_append]
  exact putName_loop hk (alk k k - fr) fr g A D (by omega) hD K
end MP
