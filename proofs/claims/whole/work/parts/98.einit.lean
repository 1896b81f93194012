/-! the two objects are made -/
section IN
variable {d : Nat} {M : xM} {z w : Nat} {Q : Option Value → xM → Nat → Nat → Prop}
theorem xput_cm {M : xM} {a b : Nat} {c e : xC} (h : a ≠ b) : xput (xput M a c) b e = xput (xput M b e) a c := by
  funext q
  unfold xput
  by_cases h1 : q = a
  · subst h1
    rw [if_neg h, if_pos rfl, if_pos rfl]
  · by_cases h2 : q = b
    · subst h2
      rw [if_pos rfl, if_neg h1, if_pos rfl]
    · rw [if_neg h2, if_neg h1, if_neg h1, if_neg h2]
set_option maxHeartbeats 1000000 in
theorem c_Ts_init {s : Nat} (h : M s = some (4, xDef 4)) (hz : z = s + 1) (K : ∀ M', (∀ zz, SkAt M' s 0 [] zz) → Only M M' s 9 → Q none M' (z + 8) (w + 61)) : WP (d + 2) mTs_init 0 [some (.ref s)] [] M z w Q := by
  subst hz
  simp only [sTs_init_0, sTs_init_1, sTs_init_4, sTs_init_5]
  rw [sTs_init_7 (nI_toInt (n := 9) (by omega)) (by omega), sTs_init_10 ((xput_ne (by omega)).trans h) rfl, sTs_init_13, sTs_init_14, sTs_init_17, sTs_init_18]
  simp only [sWr_init_0, sWr_init_1, sWr_init_4, xk_i, xk_l, xk_a, xk_n, xk_0, Option.toList_some, Option.toList_none, List.cons_append, List.nil_append]
  rw [sTs_init_21 ((xput_ne (by omega)).trans xput_same) rfl, sTs_init_24, sTs_init_25, sTs_init_28, sTs_init_29, sTs_init_30]
  generalize hM1 : xput (xput (xput (xput M (s + 1) _) s _) (s + 1 + 1) _) s _ = M1
  have c0 : M1 s = some (4, [.ref (s + 1), .ref (s + 2), .null, .null, .int 0]) := by rw [← hM1, xput_same]; rfl
  have c1 : M1 (s + 1) = some (23, List.replicate 9 .null) := by rw [← hM1, xput_ne (by omega), xput_ne (by omega), xput_ne (by omega), xput_same]
  have c2 : M1 (s + 2) = some (7, xDef 7) := by rw [← hM1, xput_ne (by omega), show s + 2 = s + 1 + 1 by omega, xput_same]
  have cq : ∀ q, (q < s ∨ s + 3 ≤ q) → M1 q = M q := by
    intro q hq
    rw [← hM1, xput_ne (by omega), xput_ne (by omega), xput_ne (by omega), xput_ne (by omega)]
  refine c_walk_init (tm := false) (a := s + 1 + 1 + 1) xput_same rfl (fun M2 hW2 hO2 => ?_)
  have d0 : M2 s = some (4, [.ref (s + 1), .ref (s + 2), .null, .null, .int 0]) := by rw [hO2 _ (by omega), xput_ne (by omega)]; exact c0
  simp only [xk_i, xk_l, xk_a, xk_n, xk_0, Option.toList_some, Option.toList_none, List.cons_append, List.nil_append]
  rw [sTs_init_33 d0 rfl, sTs_init_36, sTs_init_37, sTs_init_40, sTs_init_41, sTs_init_42]
  refine c_walk_init (tm := true) (a := s + 1 + 1 + 1 + 1 + 2) xput_same (by omega) (fun M3 hW3 hO3 => ?_)
  have e0 : M3 s = some (4, [.ref (s + 1), .ref (s + 2), .ref (s + 3), .null, .int 0]) := by rw [hO3 _ (by omega), xput_ne (by omega), xput_same]; rfl
  simp only [xk_i, xk_l, xk_a, xk_n, xk_0, Option.toList_some, Option.toList_none, List.cons_append, List.nil_append]
  rw [sTs_init_45 e0 rfl, sTs_init_48]
  generalize hM4 : xput M3 s _ = M4
  have f0 : M4 s = some (4, [.ref (s + 1), .ref (s + 2), .ref (s + 3), .ref (s + 6), .int 0]) := by rw [← hM4, xput_same]; rfl
  have fq : ∀ q, q ≠ s → (q < s + 6 ∨ s + 9 ≤ q) → M4 q = M2 q := by
    intro q h1 h2
    rw [← hM4, xput_ne h1, hO3 _ (by omega), xput_ne (by omega), xput_ne h1]
  have fq1 : ∀ q, q ≠ s → (q < s + 3 ∨ s + 9 ≤ q) → M4 q = M1 q := by
    intro q h1 h2
    rw [fq q h1 (by omega), hO2 _ (by omega), xput_ne (by omega)]
  have hK := K M4 (fun zz => ⟨f0, by rw [fq1 _ (by omega) (by omega)]; exact c1, ⟨.null, 0, by rw [fq1 _ (by omega) (by omega)]; exact c2⟩, ?_, ?_, by simp, by simp, fun i e he => (by simp at he), fun i j e e' _ he => (by simp at he)⟩) (fun q hq => ?_)
  · rw [show s + 1 + 8 = s + 1 + 1 + 1 + 1 + 2 + 1 + 2 by omega, show w + 61 = w + 9 + 2 + 7 + 18 + 7 + 18 by omega]
    exact hK
  · obtain ⟨n, k, t, v, arr, nx, w1, w2, w3, w4, w5, w6⟩ := hW2
    exact ⟨n, k, t, v, arr, nx, by rw [fq _ (by omega) (by omega)]; exact w1, w2, w3, w4, by rw [fq _ (by omega) (by omega)]; exact w5, by rw [fq _ (by omega) (by omega)]; exact w6⟩
  · obtain ⟨n, k, t, v, arr, nx, w1, w2, w3, w4, w5, w6⟩ := hW3
    have fr : ∀ q, q ≠ s → M4 q = M3 q := fun q h1 => by rw [← hM4, xput_ne h1]
    exact ⟨n, k, t, v, arr, nx, by rw [fr _ (by omega)]; exact w1, w2, w3, w4, by rw [fr _ (by omega)]; exact w5, by rw [fr _ (by omega)]; exact w6⟩
  · rw [fq1 q (by omega) (by omega)]
    exact cq q (by omega)
set_option maxHeartbeats 1000000 in
theorem c_RS_init {x : Nat} (h : M x = some (0, xDef 0)) (hz : z = x + 1) (K : ∀ M', M' x = some (0, [.ref (x + 1), .ref (x + 10), .ref (x + 14)]) → (∀ zz, SkAt M' (x + 1) 0 [] zz) → TxAt M' (x + 10) false [] → M' (x + 14) = some (1, xDef 1) → Only M M' x 15 → Q none M' (z + 14) (w + 93)) : WP (d + 3) mRS_init 0 [some (.ref x)] [] M z w Q := by
  subst hz
  simp only [sRS_init_0, sRS_init_1, sRS_init_4]
  rw [sRS_init_5, sRS_init_8, sRS_init_9]
  refine c_Ts_init xput_same rfl (fun M1 hS1 hO1 => ?_)
  simp only [xk_i, xk_l, xk_a, xk_n, xk_0, Option.toList_some, Option.toList_none, List.cons_append, List.nil_append]
  have a0 : M1 x = some (0, xDef 0) := by rw [hO1 _ (by omega), xput_ne (by omega)]; exact h
  rw [sRS_init_12 a0 rfl, sRS_init_15, sRS_init_16, sRS_init_19, sRS_init_20]
  refine c_tx_init (t := x + 1 + 1 + 8) xput_same rfl (fun M2 hX2 hO2 => ?_)
  simp only [xk_i, xk_l, xk_a, xk_n, xk_0, Option.toList_some, Option.toList_none, List.cons_append, List.nil_append]
  have b0 : M2 x = some (0, [.ref (x + 1), .null, .null]) := by rw [hO2 _ (by omega), xput_ne (by omega), xput_same]; rfl
  rw [sRS_init_23 b0 rfl, sRS_init_26, sRS_init_27, sRS_init_30, sRS_init_31]
  simp only [sRd_init_0, sRd_init_1, sRd_init_4, xk_i, xk_l, xk_a, xk_n, xk_0, Option.toList_some, Option.toList_none, List.cons_append, List.nil_append]
  rw [sRS_init_34 ((xput_ne (by omega)).trans xput_same) rfl, sRS_init_37]
  generalize hM3 : xput (xput (xput M2 x _) _ _) x _ = M3
  have q0 : M3 x = some (0, [.ref (x + 1), .ref (x + 10), .ref (x + 14)]) := by rw [← hM3, xput_same]; rfl
  have q14 : M3 (x + 14) = some (1, xDef 1) := by rw [← hM3, xput_ne (by omega), show x + 14 = x + 1 + 1 + 8 + 1 + 3 by omega, xput_same]
  have q2 : ∀ q, q ≠ x → q ≠ x + 14 → M3 q = M2 q := by
    intro q h1 h2
    rw [← hM3, xput_ne h1, xput_ne (by omega), xput_ne h1]
  have q1 : ∀ q, q ≠ x → q ≠ x + 14 → (q < x + 10 ∨ x + 14 ≤ q) → M3 q = M1 q := by
    intro q h1 h2 h3
    rw [q2 q h1 h2, hO2 _ (by omega), xput_ne (by omega), xput_ne h1]
  have hK := K M3 q0 (fun zz => (hS1 zz).kept (Nat.le_refl _) (fun q a b => q1 q (by omega) (by omega) (by omega)) (fun q a b => ?_)) (hX2.kept (fun q a b => q2 q (by omega) (by omega))) q14 (fun q hq => ?_)
  · rw [show x + 1 + 14 = x + 1 + 1 + 8 + 1 + 3 + 1 by omega, show w + 93 = w + 5 + 61 + 5 + 18 + 4 by omega]
    exact hK
  · exact q1 q (by omega) (by omega) (by omega)
  · rw [q1 q (by omega) (by omega) (by omega), hO1 _ (by omega), xput_ne (by omega)]
theorem rep_va (n : Nat) : List.replicate n (Value.int 0) = va (fun _ => 0) n := by unfold va; rw [List.map_const', List.length_range]
theorem rep_vb (n : Nat) : List.replicate n (Value.long 0) = vb (fun _ => 0) n := by unfold vb; rw [List.map_const', List.length_range]
theorem ard_1 {A : Nat → Nat → Int32} {L : Nat → Nat → Int64} : ard A L 1 = (22, va (A 1) 12000) := rfl
theorem ard_2 {A : Nat → Nat → Int32} {L : Nat → Nat → Int64} : ard A L 2 = (20, va (A 2) 10) := rfl
theorem ard_3 {A : Nat → Nat → Int32} {L : Nat → Nat → Int64} : ard A L 3 = (21, vb (L 3) 6) := rfl
theorem ard_4 {A : Nat → Nat → Int32} {L : Nat → Nat → Int64} : ard A L 4 = (20, va (A 4) 6) := rfl
theorem ard_5 {A : Nat → Nat → Int32} {L : Nat → Nat → Int64} : ard A L 5 = (20, va (A 5) 6) := rfl
theorem ard_6 {A : Nat → Nat → Int32} {L : Nat → Nat → Int64} : ard A L 6 = (21, vb (L 6) 6) := rfl
theorem ard_7 {A : Nat → Nat → Int32} {L : Nat → Nat → Int64} : ard A L 7 = (21, vb (L 7) 260) := rfl
theorem ard_8 {A : Nat → Nat → Int32} {L : Nat → Nat → Int64} : ard A L 8 = (20, va (A 8) 260) := rfl
theorem ard_9 {A : Nat → Nat → Int32} {L : Nat → Nat → Int64} : ard A L 9 = (20, va (A 9) 260) := rfl
theorem ard_10 {A : Nat → Nat → Int32} {L : Nat → Nat → Int64} : ard A L 10 = (21, vb (L 10) 260) := rfl
theorem ard_11 {A : Nat → Nat → Int32} {L : Nat → Nat → Int64} : ard A L 11 = (21, vb (L 11) 340) := rfl
theorem ard_12 {A : Nat → Nat → Int32} {L : Nat → Nat → Int64} : ard A L 12 = (20, va (A 12) 340) := rfl
theorem ard_13 {A : Nat → Nat → Int32} {L : Nat → Nat → Int64} : ard A L 13 = (20, va (A 13) 340) := rfl
theorem ard_14 {A : Nat → Nat → Int32} {L : Nat → Nat → Int64} : ard A L 14 = (20, va (A 14) 340) := rfl
theorem ard_15 {A : Nat → Nat → Int32} {L : Nat → Nat → Int64} : ard A L 15 = (20, va (A 15) 340) := rfl
theorem ard_16 {A : Nat → Nat → Int32} {L : Nat → Nat → Int64} : ard A L 16 = (22, va (A 16) 1200) := rfl
theorem chain_AR {m : Nat} : xput (xput (xput (xput (xput (xput (xput (xput (xput (xput (xput (xput (xput (xput (xput (xput M (m + 1) (22, va (fun _ => 0) 12000)) (m + 2) (20, va (fun _ => 0) 10)) (m + 3) (21, vb (fun _ => 0) 6)) (m + 4) (20, va (fun _ => 0) 6)) (m + 5) (20, va (fun _ => 0) 6)) (m + 6) (21, vb (fun _ => 0) 6)) (m + 7) (21, vb (fun _ => 0) 260)) (m + 8) (20, va (fun _ => 0) 260)) (m + 9) (20, va (fun _ => 0) 260)) (m + 10) (21, vb (fun _ => 0) 260)) (m + 11) (21, vb (fun _ => 0) 340)) (m + 12) (20, va (fun _ => 0) 340)) (m + 13) (20, va (fun _ => 0) 340)) (m + 14) (20, va (fun _ => 0) 340)) (m + 15) (20, va (fun _ => 0) 340)) (m + 16) (22, va (fun _ => 0) 1200) = AR M m (fun _ _ => 0) (fun _ _ => 0) := by
  funext q
  by_cases hq : m + 1 ≤ q ∧ q ≤ m + 16
  · obtain ⟨j, hj, rfl⟩ : ∃ j, (1 ≤ j ∧ j ≤ 16) ∧ q = m + j := ⟨q - m, by omega, by omega⟩
    have e : AR M m (fun _ _ => 0) (fun _ _ => 0) (m + j) = some (ard (fun _ _ => 0) (fun _ _ => 0) j) := by
      unfold AR
      rw [if_pos (by omega), Nat.add_sub_cancel_left]
    rw [e]
    have hc : j = 1 ∨ j = 2 ∨ j = 3 ∨ j = 4 ∨ j = 5 ∨ j = 6 ∨ j = 7 ∨ j = 8 ∨ j = 9 ∨ j = 10 ∨ j = 11 ∨ j = 12 ∨ j = 13 ∨ j = 14 ∨ j = 15 ∨ j = 16 := by omega
    rcases hc with rfl | rfl | rfl | rfl | rfl | rfl | rfl | rfl | rfl | rfl | rfl | rfl | rfl | rfl | rfl | rfl
    · rw [xput_ne (by omega), xput_ne (by omega), xput_ne (by omega), xput_ne (by omega), xput_ne (by omega), xput_ne (by omega), xput_ne (by omega), xput_ne (by omega), xput_ne (by omega), xput_ne (by omega), xput_ne (by omega), xput_ne (by omega), xput_ne (by omega), xput_ne (by omega), xput_ne (by omega), xput_same, ard_1]
    · rw [xput_ne (by omega), xput_ne (by omega), xput_ne (by omega), xput_ne (by omega), xput_ne (by omega), xput_ne (by omega), xput_ne (by omega), xput_ne (by omega), xput_ne (by omega), xput_ne (by omega), xput_ne (by omega), xput_ne (by omega), xput_ne (by omega), xput_ne (by omega), xput_same, ard_2]
    · rw [xput_ne (by omega), xput_ne (by omega), xput_ne (by omega), xput_ne (by omega), xput_ne (by omega), xput_ne (by omega), xput_ne (by omega), xput_ne (by omega), xput_ne (by omega), xput_ne (by omega), xput_ne (by omega), xput_ne (by omega), xput_ne (by omega), xput_same, ard_3]
    · rw [xput_ne (by omega), xput_ne (by omega), xput_ne (by omega), xput_ne (by omega), xput_ne (by omega), xput_ne (by omega), xput_ne (by omega), xput_ne (by omega), xput_ne (by omega), xput_ne (by omega), xput_ne (by omega), xput_ne (by omega), xput_same, ard_4]
    · rw [xput_ne (by omega), xput_ne (by omega), xput_ne (by omega), xput_ne (by omega), xput_ne (by omega), xput_ne (by omega), xput_ne (by omega), xput_ne (by omega), xput_ne (by omega), xput_ne (by omega), xput_ne (by omega), xput_same, ard_5]
    · rw [xput_ne (by omega), xput_ne (by omega), xput_ne (by omega), xput_ne (by omega), xput_ne (by omega), xput_ne (by omega), xput_ne (by omega), xput_ne (by omega), xput_ne (by omega), xput_ne (by omega), xput_same, ard_6]
    · rw [xput_ne (by omega), xput_ne (by omega), xput_ne (by omega), xput_ne (by omega), xput_ne (by omega), xput_ne (by omega), xput_ne (by omega), xput_ne (by omega), xput_ne (by omega), xput_same, ard_7]
    · rw [xput_ne (by omega), xput_ne (by omega), xput_ne (by omega), xput_ne (by omega), xput_ne (by omega), xput_ne (by omega), xput_ne (by omega), xput_ne (by omega), xput_same, ard_8]
    · rw [xput_ne (by omega), xput_ne (by omega), xput_ne (by omega), xput_ne (by omega), xput_ne (by omega), xput_ne (by omega), xput_ne (by omega), xput_same, ard_9]
    · rw [xput_ne (by omega), xput_ne (by omega), xput_ne (by omega), xput_ne (by omega), xput_ne (by omega), xput_ne (by omega), xput_same, ard_10]
    · rw [xput_ne (by omega), xput_ne (by omega), xput_ne (by omega), xput_ne (by omega), xput_ne (by omega), xput_same, ard_11]
    · rw [xput_ne (by omega), xput_ne (by omega), xput_ne (by omega), xput_ne (by omega), xput_same, ard_12]
    · rw [xput_ne (by omega), xput_ne (by omega), xput_ne (by omega), xput_same, ard_13]
    · rw [xput_ne (by omega), xput_ne (by omega), xput_same, ard_14]
    · rw [xput_ne (by omega), xput_same, ard_15]
    · rw [xput_same, ard_16]
  · rw [AR_ne (by omega), xput_ne (by omega), xput_ne (by omega), xput_ne (by omega), xput_ne (by omega), xput_ne (by omega), xput_ne (by omega), xput_ne (by omega), xput_ne (by omega), xput_ne (by omega), xput_ne (by omega), xput_ne (by omega), xput_ne (by omega), xput_ne (by omega), xput_ne (by omega), xput_ne (by omega), xput_ne (by omega)]
set_option maxHeartbeats 2000000 in
theorem c_Md_init {m : Nat} (h : M m = some (8, xDef 8)) (hz : z = m + 1) (K : Q none (MM (AR M m (fun _ _ => 0) (fun _ _ => 0)) m (fun _ => 0)) (m + 17) (w + 15974)) : WP (d + 1) mMd_init 0 [some (.ref m)] [] M z w Q := by
  subst hz
  have hM : M = xput M m (8, xDef 8) := by
    funext q
    unfold xput
    by_cases hq : q = m
    · rw [if_pos hq, hq, h]
    · rw [if_neg hq]
  rw [hM]
  rw [sMd_init_0, sMd_init_1]
  rw [sMd_init_4, sMd_init_5, sMd_init_8 (nI_toInt (n := 12000) (by omega)) (by omega), xput_cm (by omega), sMd_init_10 xput_same rfl, xput_xput, rep_va]
  rw [sMd_init_13, sMd_init_14, sMd_init_16 (nI_toInt (n := 10) (by omega)) (by omega), xput_cm (by omega), sMd_init_18 xput_same rfl, xput_xput, rep_va]
  rw [sMd_init_21, sMd_init_22, sMd_init_24 (nI_toInt (n := 6) (by omega)) (by omega), xput_cm (by omega), sMd_init_26 xput_same rfl, xput_xput, rep_vb]
  rw [sMd_init_29, sMd_init_30, sMd_init_32 (nI_toInt (n := 6) (by omega)) (by omega), xput_cm (by omega), sMd_init_34 xput_same rfl, xput_xput, rep_va]
  rw [sMd_init_37, sMd_init_38, sMd_init_40 (nI_toInt (n := 6) (by omega)) (by omega), xput_cm (by omega), sMd_init_42 xput_same rfl, xput_xput, rep_va]
  rw [sMd_init_45, sMd_init_46, sMd_init_48 (nI_toInt (n := 6) (by omega)) (by omega), xput_cm (by omega), sMd_init_50 xput_same rfl, xput_xput, rep_vb]
  rw [sMd_init_53, sMd_init_54, sMd_init_57 (nI_toInt (n := 260) (by omega)) (by omega), xput_cm (by omega), sMd_init_59 xput_same rfl, xput_xput, rep_vb]
  rw [sMd_init_62, sMd_init_63, sMd_init_66 (nI_toInt (n := 260) (by omega)) (by omega), xput_cm (by omega), sMd_init_68 xput_same rfl, xput_xput, rep_va]
  rw [sMd_init_71, sMd_init_72, sMd_init_75 (nI_toInt (n := 260) (by omega)) (by omega), xput_cm (by omega), sMd_init_77 xput_same rfl, xput_xput, rep_va]
  rw [sMd_init_80, sMd_init_81, sMd_init_84 (nI_toInt (n := 260) (by omega)) (by omega), xput_cm (by omega), sMd_init_86 xput_same rfl, xput_xput, rep_vb]
  rw [sMd_init_89, sMd_init_90, sMd_init_93 (nI_toInt (n := 340) (by omega)) (by omega), xput_cm (by omega), sMd_init_95 xput_same rfl, xput_xput, rep_vb]
  rw [sMd_init_98, sMd_init_99, sMd_init_102 (nI_toInt (n := 340) (by omega)) (by omega), xput_cm (by omega), sMd_init_104 xput_same rfl, xput_xput, rep_va]
  rw [sMd_init_107, sMd_init_108, sMd_init_111 (nI_toInt (n := 340) (by omega)) (by omega), xput_cm (by omega), sMd_init_113 xput_same rfl, xput_xput, rep_va]
  rw [sMd_init_116, sMd_init_117, sMd_init_120 (nI_toInt (n := 340) (by omega)) (by omega), xput_cm (by omega), sMd_init_122 xput_same rfl, xput_xput, rep_va]
  rw [sMd_init_125, sMd_init_126, sMd_init_129 (nI_toInt (n := 340) (by omega)) (by omega), xput_cm (by omega), sMd_init_131 xput_same rfl, xput_xput, rep_va]
  rw [sMd_init_134, sMd_init_135, sMd_init_138 (nI_toInt (n := 1200) (by omega)) (by omega), xput_cm (by omega), sMd_init_140 xput_same rfl, xput_xput, rep_va]
  rw [sMd_init_143]
  have hw : w + 12000 + 10 + 6 + 6 + 6 + 6 + 260 + 260 + 260 + 260 + 340 + 340 + 340 + 340 + 340 + 1200 = w + 15974 := by omega
  rw [hw]
  have hc := chain_AR (M := M) (m := m)
  have hm : ∀ X : xM, xput X m (8, mf m (fun _ => 0)) = MM X m (fun _ => 0) := fun X => rfl
  rw [← hc, ← hm] at K
  exact K
end IN
