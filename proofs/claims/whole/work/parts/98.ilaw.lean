/-! the law -/
theorem sub5 {l i : Nat} (hl : l ≤ 2560) (hi : i ≤ 3000) : nI l - nI 5 < nI i ↔ l < i + 5 := by
  rw [Int32.lt_iff_toInt_lt, Int32.toInt_sub, nI_toInt (n := l) (by omega), nI_toInt (n := i) (by omega), nI_toInt (n := 5) (by omega), Int.bmod_eq_of_le (by omega) (by omega)]
  omega
section LL
variable {M : xM} {g : Nat → Int32} {A : Nat → Nat → Int32} {L : Nat → Nat → Int64} {x z w wb b Ls : Nat} {xs : Nat → Int32} {B : List (List Nat)} {tx : Option (List achg)} {Q : Option Value → xM → Nat → Nat → Prop}
set_option maxHeartbeats 2000000 in
theorem law_loop (hLs : Ls ≤ 2560) (K : ∀ M' z' w', z' ≤ x + 122 → w' ≤ wb + 12843 → Q (some (.int (nI 1))) M' z' w') : ∀ (r i : Nat) (M : xM) (g : Nat → Int32) (A : Nat → Nat → Int32) (L : Nat → Nat → Int64) (z w : Nat) (B : List (List Nat)) (tx : Option (List achg)), Ls < i + 5 * r → i ≤ Ls + 5 → LwS M g A L x z w wb b Ls xs B tx →
    WP 11 mLw_law 18 [some (.ref b), some (.ref x), some (.ref (x + 15)), some (.int (nI i))] [] (MM (AR M (x + 15) A L) (x + 15) g) z w Q := by
  have hend : ∀ (i : Nat) (M : xM) (g : Nat → Int32) (A : Nat → Nat → Int32) (L : Nat → Nat → Int64) (z w : Nat) (B : List (List Nat)) (tx : Option (List achg)), LwS M g A L x z w wb b Ls xs B tx → WP 11 mLw_law 822 [some (.ref b), some (.ref x), some (.ref (x + 15)), some (.int (nI i))] [] (MM (AR M (x + 15) A L) (x + 15) g) z w Q := by
    intro i M g A L z w B tx hL
    obtain ⟨⟨L0, cs, -, hSk, -, -, -, -, hz, hw⟩, -⟩ := hL
    have h9 := hSk.2.2.2.2.2.1
    rw [sLw_law_822, sLw_law_823 xb1]
    exact K _ _ _ (by omega) (by omega)
  intro r
  induction r with
  | zero =>
    intro i M g A L z w B tx hr hi hL
    have hb : MM (AR M (x + 15) A L) (x + 15) g b = some (30, scrL Ls xs) := by
      obtain ⟨-, -, -, hb0, hbx, -, -⟩ := hL
      exact (MMn (by omega)).trans ((AR_ne (by omega)).trans hb0)
    rw [sLw_law_18, sLw_law_19, sLw_law_20 hb, sLw_law_21, sLw_law_22, sLw_law_23, show (scrL Ls xs).length = Ls from by simp, if_pos ((sub5 hLs (by omega)).mpr (by omega))]
    exact hend i M g A L z w B tx hL
  | succ r ih =>
    intro i M g A L z w B tx hr hi hL
    have hb : MM (AR M (x + 15) A L) (x + 15) g b = some (30, scrL Ls xs) := by
      obtain ⟨-, -, -, hb0, hbx, -, -⟩ := hL
      exact (MMn (by omega)).trans ((AR_ne (by omega)).trans hb0)
    rw [sLw_law_18, sLw_law_19, sLw_law_20 hb, sLw_law_21, sLw_law_22, sLw_law_23, show (scrL Ls xs).length = Ls from by simp]
    by_cases hc : Ls < i + 5
    · rw [if_pos ((sub5 hLs (by omega)).mpr hc)]
      exact hend i M g A L z w B tx hL
    · rw [if_neg (fun q => hc ((sub5 hLs (by omega)).mp q))]
      have hi5 : i + 5 ≤ Ls := by omega
      have nx : ∀ M g A L z w B tx, LwS M g A L x z w wb b Ls xs B tx → WP 11 mLw_law 816 [some (.ref b), some (.ref x), some (.ref (x + 15)), some (.int (nI i))] [] (MM (AR M (x + 15) A L) (x + 15) g) z w Q := by
        intro M g A L z w B tx hL
        simp only [sLw_law_816, sLw_law_819, xk_i, xk_l, xk_a, xk_n, xk_0, Option.toList_some, Option.toList_none, List.cons_append, List.nil_append, nI_add]
        exact ih (i + 5) M g A L z w B tx (by omega) (by omega) hL
      rw [sLw_law_26, sLw_law_27, sLw_law_28s hb (nI_toInt (n := i) (by omega)) (scr_at (by omega)), sLw_law_29, sLw_law_31]
      have he : xs i &&& nI 31 = nI ((xs i).toBitVec.toNat % 32) := pk_and (xs i) 5 (by decide)
      rw [he]
      have hn : (xs i).toBitVec.toNat % 32 < 32 := Nat.mod_lt _ (by decide)
      generalize (xs i).toBitVec.toNat % 32 = n at hn
      by_cases h18 : 18 ≤ n
      · rw [sLw_law_32_d (Or.inr (by rw [nI_toInt (n := n) (by omega)]; omega))]
        exact nx M g A L z w B tx hL
      · have hcs : n = 0 ∨ n = 1 ∨ n = 2 ∨ n = 3 ∨ n = 4 ∨ n = 5 ∨ n = 6 ∨ n = 7 ∨ n = 8 ∨ n = 9 ∨ n = 10 ∨ n = 11 ∨ n = 12 ∨ n = 13 ∨ n = 14 ∨ n = 15 ∨ n = 16 ∨ n = 17 := by omega
        rcases hcs with rfl | rfl | rfl | rfl | rfl | rfl | rfl | rfl | rfl | rfl | rfl | rfl | rfl | rfl | rfl | rfl | rfl | rfl
        · rw [sLw_law_32_0]; exact lw_0 hL hi5 hLs nx
        · rw [sLw_law_32_1]; exact lw_1 hL hi5 hLs nx
        · rw [sLw_law_32_2]; exact lw_2 hL hi5 hLs nx
        · rw [sLw_law_32_3]; exact lw_3 hL hi5 hLs nx
        · rw [sLw_law_32_4]; exact lw_4 hL hi5 hLs nx
        · rw [sLw_law_32_5]; exact lw_5 hL hi5 hLs nx
        · rw [sLw_law_32_6]; exact lw_6 hL hi5 hLs nx
        · rw [sLw_law_32_7]; exact lw_7 hL hi5 hLs nx
        · rw [sLw_law_32_8]; exact lw_8 hL hi5 hLs nx
        · rw [sLw_law_32_9]; exact lw_9 hL hi5 hLs nx
        · rw [sLw_law_32_10]; exact lw_10 hL hi5 hLs nx
        · rw [sLw_law_32_11]; exact lw_11 hL hi5 hLs nx
        · rw [sLw_law_32_12]; exact lw_12 hL hi5 hLs nx
        · rw [sLw_law_32_13]; exact lw_13 hL hi5 hLs nx
        · rw [sLw_law_32_14]; exact lw_14 hL hi5 hLs nx
        · rw [sLw_law_32_15]; exact lw_15 hL hi5 hLs nx
        · rw [sLw_law_32_16]; exact lw_16 hL hi5 hLs nx
        · rw [sLw_law_32_17]; exact lw_17 hL hi5 hLs nx
end LL
set_option maxHeartbeats 2000000 in
theorem law_wp {Ls b x : Nat} {xs : Nat → Int32} (hLs : Ls ≤ 2560) (hbx : b < x) : WP 11 mLw_law 0 [some (.ref b), none, none, none] [] (xscr b Ls xs) x 0 (fun v _ z' w' => v = some (.int 1) ∧ z' ≤ x + 622155 ∧ w' ≤ 7235784) := by
  rw [sLw_law_0, sLw_law_3, sLw_law_4]
  refine c_RS_init (d := 7) (x := x) xput_same rfl (fun M1 h0 hSk hTx hRd hO => ?_)
  simp only [sLw_law_7, xk_i, xk_l, xk_a, xk_n, xk_0, Option.toList_some, Option.toList_none, List.cons_append, List.nil_append]
  rw [sLw_law_8, sLw_law_11, sLw_law_12]
  refine c_Md_init (d := 9) (m := x + 1 + 14) xput_same rfl ?_
  simp only [sLw_law_15, sLw_law_16, sLw_law_17, xk_i, xk_l, xk_a, xk_n, xk_0, Option.toList_some, Option.toList_none, List.cons_append, List.nil_append]
  have hm : x + 1 + 14 = x + 15 := by omega
  rw [hm]
  generalize hM2 : xput M1 (x + 15) (8, xDef 8) = M2
  have q2 : ∀ q, q ≠ x + 15 → M2 q = M1 q := fun q h => by rw [← hM2, xput_ne h]
  have q3 : ∀ q, (q < x + 15 ∨ x + 32 ≤ q) → MM (AR M2 (x + 15) (fun _ _ => 0) (fun _ _ => 0)) (x + 15) (fun _ => 0) q = M1 q := fun q h => by rw [MMn (by omega), AR_ne (by omega), q2 q (by omega)]
  refine law_loop (wb := 16100) (xs := xs) hLs (fun M' z' w' hz hw => ⟨rfl, by omega, by omega⟩) (Ls + 1) 0 M2 _ _ _ _ _ [] none (by omega) (by omega) ⟨⟨[], [], by rw [q3 _ (by omega)]; exact h0, ?_, ⟨?_, fun c hc => (by cases hc), fun c q => (by cases q)⟩, ⟨.null, 0, 0, 0, by rw [q3 _ (by omega)]; exact hRd⟩, rfl, fun e he => (by cases he), by simp, by simp⟩, ⟨rfl, fun t bs h => (by simp at h)⟩, ⟨fun _ => rfl, fun cs q => (by cases q)⟩, ?_, hbx, trivial, fun cs q => (by cases q)⟩
  · exact (hSk _).kept (Nat.le_refl _) (fun q a b => q3 q (by omega)) (fun q a b => q3 q (by omega))
  · exact hTx.kept (fun q a b => q3 q (by omega))
  · rw [q2 b (by omega), hO b (by omega), xput_ne (by omega)]
    unfold xscr
    rw [if_pos rfl]
theorem xlaw : xlaw_says := by
  intro Ls xs b z hLs hbz
  obtain ⟨n, r, h1, h2, h3, h4⟩ := law_wp (Ls := Ls) (b := b) (x := z) (xs := xs) hLs hbz
  refine ⟨n, r.2.1, r.2.2.1, r.2.2.2, ?_, h3, h4⟩
  rw [h1, ← h2]
