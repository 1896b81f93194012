/-! Writer.write -/
section WRW
variable {d wr t : Nat} {M : xM} {z w : Nat} {Q : Option Value → xM → Nat → Nat → Prop} {R : List arec} {E : List aent} {lw hg : Nat} {wf : Bool}
theorem kbf_R {i : Nat} {r : arec} (h : R[i]? = some r) : kN (kbf (R.map rawR) (i + 1)) = r.1 % 2 ^ 64 := by
  unfold kbf
  rw [if_neg (by omega), Nat.add_sub_cancel, List.getElem?_map, h]
  show kN (lN r.1) = _
  rw [wb_mod, kN_lN (Nat.mod_lt _ (by decide))]
theorem kbf_E {i : Nat} {r : aent} (h : E[i]? = some r) : kN (kbf (E.map rawE) (i + 1)) = r.1 % 2 ^ 64 := by
  unfold kbf
  rw [if_neg (by omega), Nat.add_sub_cancel, List.getElem?_map, h]
  show kN (lN r.1) = _
  rw [wb_mod, kN_lN (Nat.mod_lt _ (by decide))]
theorem write_recs (okRs : ∀ r ∈ R, okR lw r) (hR : R.length ≤ 30) : ∀ (rs : List arec) (i : Nat) (M : xM) (out : List Nat), R.drop i = rs → i ≤ R.length → WrAt M wr t out (nI lw) (nI hg) wf (R.map rawR) (E.map rawE) →
    (∀ M', WrAt M' wr t (out ++ recsE lw i (kN (kbf (R.map rawR) i)) rs) (nI lw) (nI hg) wf (R.map rawR) (E.map rawE) → OnlyW M M' wr t → WP (d + 3) mWr_write 75 [some (.ref wr), some (.ref t), some (.int (nI R.length))] [] M' z w Q) →
    WP (d + 3) mWr_write 53 [some (.ref wr), some (.ref t), some (.int (nI i))] [] M z w Q := by
  intro rs
  induction rs with
  | nil =>
    intro i M out hd hi h K
    have hlen : i = R.length := by have := congrArg List.length hd; simp at this; omega
    have k6 := h.2.2.2.2.2.1
    have r2 := h.2.2.2.2.2.2.1.cell
    simp only [sWr_write_53, sWr_write_54, sWr_write_55 k6 rfl, sWr_write_58 r2 rfl, sWr_write_61, List.length_map]
    rw [if_pos (nI_le (by omega) (by omega)), hlen]
    exact K M (by simpa [recsE] using h) OnlyW.rf
  | cons r rs ih =>
    intro i M out hd hi h K
    have hr : R[i]? = some r := by rw [← List.head?_drop, hd]; rfl
    have hlt := (List.getElem?_eq_some_iff.mp hr).1
    have k6 := h.2.2.2.2.2.1
    have r2 := h.2.2.2.2.2.2.1.cell
    rw [sWr_write_53]
    simp only [sWr_write_54, sWr_write_55 k6 rfl, sWr_write_58 r2 rfl, sWr_write_61, sWr_write_64, sWr_write_65, List.length_map]
    rw [if_neg (nI_ge (by omega) (by omega)), sWr_write_66 h.2.1]
    have okr := okRs r (List.mem_of_getElem? hr)
    refine c_putRecord h (i := i) (by rw [List.getElem?_map, hr]; rfl) okr (fun M1 hW1 hO1 => ?_)
    simp only [sWr_write_69, sWr_write_72, xk_i, xk_l, xk_a, xk_n, xk_0, Option.toList_some, Option.toList_none, List.cons_append, List.nil_append]
    rw [nI_add]
    refine ih (i + 1) M1 _ (by rw [← List.tail_drop, hd]; rfl) (by omega) hW1 (fun M2 hW2 hO2 => K M2 ?_ (hO1.trans hO2))
    rw [kbf_R hr, Nat.mod_eq_of_lt (by have := okr.1; omega), List.append_assoc] at hW2
    exact hW2
theorem write_ents (okEs : ∀ e ∈ E, okE e) (hE : E.length ≤ 40) : ∀ (rs : List aent) (i : Nat) (M : xM) (out : List Nat), E.drop i = rs → i ≤ E.length → WrAt M wr t out (nI lw) (nI hg) wf (R.map rawR) (E.map rawE) →
    (∀ M', WrAt M' wr t (out ++ entsE i (kN (kbf (E.map rawE) i)) rs) (nI lw) (nI hg) wf (R.map rawR) (E.map rawE) → OnlyW M M' wr t → WP (d + 3) mWr_write 110 [some (.ref wr), some (.ref t), some (.int (nI E.length))] [] M' z w Q) →
    WP (d + 3) mWr_write 88 [some (.ref wr), some (.ref t), some (.int (nI i))] [] M z w Q := by
  intro rs
  induction rs with
  | nil =>
    intro i M out hd hi h K
    have hlen : i = E.length := by have := congrArg List.length hd; simp at this; omega
    have k6 := h.2.2.2.2.2.1
    have r2 := h.2.2.2.2.2.2.2.cell
    simp only [sWr_write_88, sWr_write_89, sWr_write_90 k6 rfl, sWr_write_93 r2 rfl, sWr_write_96, List.length_map]
    rw [if_pos (nI_le (by omega) (by omega)), hlen]
    exact K M (by simpa [entsE] using h) OnlyW.rf
  | cons r rs ih =>
    intro i M out hd hi h K
    have hr : E[i]? = some r := by rw [← List.head?_drop, hd]; rfl
    have hlt := (List.getElem?_eq_some_iff.mp hr).1
    have k6 := h.2.2.2.2.2.1
    have r2 := h.2.2.2.2.2.2.2.cell
    rw [sWr_write_88]
    simp only [sWr_write_89, sWr_write_90 k6 rfl, sWr_write_93 r2 rfl, sWr_write_96, sWr_write_99, sWr_write_100, List.length_map]
    rw [if_neg (nI_ge (by omega) (by omega)), sWr_write_101 h.2.1]
    have okr := okEs r (List.mem_of_getElem? hr)
    refine c_putEntry h (i := i) (by rw [List.getElem?_map, hr]; rfl) okr (fun M1 hW1 hO1 => ?_)
    simp only [sWr_write_104, sWr_write_107, xk_i, xk_l, xk_a, xk_n, xk_0, Option.toList_some, Option.toList_none, List.cons_append, List.nil_append]
    rw [nI_add]
    refine ih (i + 1) M1 _ (by rw [← List.tail_drop, hd]; rfl) (by omega) hW1 (fun M2 hW2 hO2 => K M2 ?_ (hO1.trans hO2))
    rw [kbf_E hr, Nat.mod_eq_of_lt (by have := okr.1; omega), List.append_assoc] at hW2
    exact hW2
theorem kbf_0 (rs : List xrow) : kN (kbf rs 0) = 0 := rfl
set_option maxHeartbeats 1000000 in
theorem c_write {v0 : Value} {f0 : Int32} {bs0 : List Nat} (hd : wr < t ∨ t + 10 ≤ wr) (h7 : M wr = some (7, [v0, .int f0])) (h : TableAt M t bs0 (nI lw) (nI hg) wf (R.map rawR) (E.map rawE)) (okRs : ∀ r ∈ R, okR lw r) (okEs : ∀ e ∈ E, okE e) (hR : R.length ≤ 30) (hE : E.length ≤ 40) (hlw : lw ≤ 2001) (hhg : hg ≤ 2001)
    (K1 : (ser lw hg R E).length ≤ 1200 → ∀ M', TableAt M' t (ser lw hg R E) (nI lw) (nI hg) true (R.map rawR) (E.map rawE) → M' wr = some (7, [.ref t, .int (nI 1)]) → OnlyW M M' wr t → Q (some (.int (nI 1))) M' z w)
    (K0 : ¬ (ser lw hg R E).length ≤ 1200 → ∀ M' bs, TableAt M' t bs (nI lw) (nI hg) false (R.map rawR) (E.map rawE) → M' wr = some (7, [.ref t, .int (nI 0)]) → OnlyW M M' wr t → Q (some (.int (nI 0))) M' z w) :
    WP (d + 3) mWr_write 0 [some (.ref wr), some (.ref t), none] [] M z w Q := by
  obtain ⟨k1, k2, ⟨bl, k3, k4, k5⟩, k6, k7, k8⟩ := h
  simp only [sWr_write_0, sWr_write_1]
  rw [sWr_write_2 h7 rfl, sWr_write_5, sWr_write_6 xput_same rfl, sWr_write_9, sWr_write_10 ((xput_ne (by omega)).trans k6) rfl, sWr_write_13, sWr_write_14, sWr_write_15 ((xput_ne (by omega)).trans xput_same) rfl xb1]
  generalize hM1 : xput (xput (xput M wr _) t _) wr _ = M1
  have o1 : OnlyW M M1 wr t := fun q q1 q2 => by rw [← hM1, xput_ne q1, xput_ne (by omega), xput_ne q1]
  have o2 : ∀ q, q ≠ t → q ≠ wr → M1 q = M q := fun q q1 q2 => by rw [← hM1, xput_ne q2, xput_ne q1, xput_ne q2]
  have hW : WrAt M1 wr t [] (nI lw) (nI hg) wf (R.map rawR) (E.map rawE) := by
    refine ⟨hd, by rw [← hM1, xput_same]; rfl, by simp, by simp, ⟨bl, k3, by rw [o2 _ (by omega) (by omega)]; exact k4, fun i hi => absurd hi (by simp)⟩, ?_, ?_, ?_⟩
    · rw [← hM1, xput_ne (by omega), xput_same]; rfl
    · exact k7.kept (fun q a b => o2 q (by omega) (by omega))
    · exact k8.kept (fun q a b => o2 q (by omega) (by omega))
  simp only [sWr_write_18, sWr_write_19]
  rw [sWr_write_21 hW.2.1]
  refine c_putVarint hW (by omega) (fun M2 hW2 hO2 => ?_)
  have j6 := hW2.2.2.2.2.2.1
  simp only [sWr_write_24, sWr_write_25, sWr_write_26 j6 rfl, xk_i, xk_l, xk_a, xk_n, xk_0, Option.toList_some, Option.toList_none, List.cons_append, List.nil_append]
  rw [sWr_write_29 hW2.2.1]
  refine c_putVarint hW2 (by omega) (fun M3 hW3 hO3 => ?_)
  have j6 := hW3.2.2.2.2.2.1
  simp only [sWr_write_32, sWr_write_33, sWr_write_34 j6 rfl, xk_i, xk_l, xk_a, xk_n, xk_0, Option.toList_some, Option.toList_none, List.cons_append, List.nil_append]
  rw [sWr_write_37 hW3.2.1]
  refine c_putVarint hW3 (by omega) (fun M4 hW4 hO4 => ?_)
  have j6 := hW4.2.2.2.2.2.1
  have j2 := hW4.2.2.2.2.2.2.1.cell
  simp only [sWr_write_40, sWr_write_41, sWr_write_42 j6 rfl, sWr_write_45 j2 rfl, xk_i, xk_l, xk_a, xk_n, xk_0, Option.toList_some, Option.toList_none, List.cons_append, List.nil_append, List.length_map]
  rw [sWr_write_48 hW4.2.1]
  refine c_putVarint hW4 (by omega) (fun M5 hW5 hO5 => ?_)
  simp only [sWr_write_51, sWr_write_52, xk_i, xk_l, xk_a, xk_n, xk_0, Option.toList_some, Option.toList_none, List.cons_append, List.nil_append]
  refine write_recs okRs hR R 0 M5 _ rfl (by omega) hW5 (fun M6 hW6 hO6 => ?_)
  have j6 := hW6.2.2.2.2.2.1
  have j2 := hW6.2.2.2.2.2.2.2.cell
  simp only [sWr_write_75, sWr_write_76, sWr_write_77 j6 rfl, sWr_write_80 j2 rfl, xk_i, xk_l, xk_a, xk_n, xk_0, Option.toList_some, Option.toList_none, List.cons_append, List.nil_append, List.length_map]
  rw [sWr_write_83 hW6.2.1]
  refine c_putVarint hW6 (by omega) (fun M7 hW7 hO7 => ?_)
  simp only [sWr_write_86, sWr_write_87, xk_i, xk_l, xk_a, xk_n, xk_0, Option.toList_some, Option.toList_none, List.cons_append, List.nil_append]
  refine write_ents okEs hE E 0 M7 _ rfl (by omega) hW7 (fun M8 hW8 hO8 => ?_)
  rw [kbf_0, kbf_0, show ([] : List Nat) ++ vE 82 = [82] from rfl] at hW8
  rw [show [82] ++ vE lw ++ vE hg ++ vE R.length ++ recsE lw 0 0 R ++ vE E.length ++ entsE 0 0 E = ser0 lw hg R E from rfl] at hW8
  have oo : OnlyW M M8 wr t := (o1.trans hO2).trans ((hO3.trans hO4).trans ((hO5.trans hO6).trans (hO7.trans hO8)))
  unfold ser at K1 K0
  generalize ser0 lw hg R E = s0 at *
  have j6 := hW8.2.2.2.2.2.1
  simp only [sWr_write_110, sWr_write_111, sWr_write_112 j6 rfl, xk_i, xk_l, xk_a, xk_n, xk_0, Option.toList_some, Option.toList_none, List.cons_append, List.nil_append]
  rw [sWr_write_115 j6, c_checkOf hW8.2.2 (Nat.le_refl _), List.take_length]
  have hc : crc (s0.take 1200) < 65536 := crcL_lt _ (by decide) hW8.2.2.2.1
  simp only [sWr_write_118, sWr_write_119, sWr_write_120, sWr_write_121, sWr_write_123, xk_i, xk_l, xk_a, xk_n, xk_0, Option.toList_some, Option.toList_none, List.cons_append, List.nil_append]
  rw [sWr_write_124 hW8.2.1, pk_shrN (n := crc (s0.take 1200)) (by omega) (nI 8 &&& 31) 8 (by decide), show (2 : Nat) ^ 8 = 256 from rfl]
  refine c_putByte hW8 (by omega) (fun M9 hW9 hO9 => ?_)
  simp only [sWr_write_127, sWr_write_128, sWr_write_129, sWr_write_132, xk_i, xk_l, xk_a, xk_n, xk_0, Option.toList_some, Option.toList_none, List.cons_append, List.nil_append]
  rw [sWr_write_133 hW9.2.1, pk_andN (n := crc (s0.take 1200)) (by omega) 8 (by decide), show (2 : Nat) ^ 8 = 256 from rfl]
  refine c_putByte hW9 (by omega) (fun M10 hW10 hO10 => ?_)
  have l7 := hW10.2.1
  have l6 := hW10.2.2.2.2.2.1
  have hbo : ∀ c : Prop, [Decidable c] → (nI (if c then 1 else 0) = 0 ∨ nI (if c then 1 else 0) = 1) := fun c _ => by
    by_cases h : c
    · rw [if_pos h]; exact Or.inr rfl
    · rw [if_neg h]; exact Or.inl rfl
  simp only [sWr_write_136, sWr_write_137, sWr_write_138 l7 rfl, xk_i, xk_l, xk_a, xk_n, xk_0, Option.toList_some, Option.toList_none, List.cons_append, List.nil_append]
  rw [sWr_write_141 l6 rfl (hbo _), sWr_write_144, sWr_write_145 ((xput_ne (by omega)).trans l7) rfl, sWr_write_148 (hbo _)]
  have of : OnlyW M (xput M10 t (3, ([.ref (t + 1), .ref (t + 2), .ref (t + 6), .int (nI ((s0 ++ [crc (s0.take 1200) / 256] ++ [crc (s0.take 1200) % 256]).take 1200).length), .int (nI lw), .int (nI hg), .int (nI (if wf = true then 1 else 0))] : List Value).set 6 (.int (nI (if (s0 ++ [crc (s0.take 1200) / 256] ++ [crc (s0.take 1200) % 256]).length ≤ 1200 then 1 else 0))))) wr t := fun q q1 q2 => by
    rw [xput_ne (by omega)]; exact ((oo.trans hO9).trans hO10) q q1 q2
  obtain ⟨-, -, g1, g2, ⟨bl', g3, g4, g5⟩, g6, g7, g8⟩ := hW10
  by_cases hl : (s0 ++ [crc (s0.take 1200) / 256] ++ [crc (s0.take 1200) % 256]).length ≤ 1200
  · have hs : s0.take 1200 = s0 := List.take_of_length_le (by simp at hl; omega)
    rw [if_pos hl] at l7 of ⊢
    have ht := List.take_of_length_le hl
    rw [ht] at g1 g2 g5 of ⊢
    rw [hs] at g1 g2 g5 hl of ⊢
    rw [List.append_assoc] at g1 g2 g5 hl of ⊢
    refine K1 (by simpa using hl) _ ⟨g1, g2, ⟨bl', g3, by rw [xput_ne (by omega)]; exact g4, g5⟩, by rw [xput_same]; rfl, g7.kept (fun q a b => xput_ne (by omega)), g8.kept (fun q a b => xput_ne (by omega))⟩ ((xput_ne (by omega)).trans l7) of
  · rw [if_neg hl] at l7 of ⊢
    refine K0 (by simp at hl ⊢; omega) _ _ ⟨g1, g2, ⟨bl', g3, by rw [xput_ne (by omega)]; exact g4, g5⟩, by rw [xput_same]; rfl, g7.kept (fun q a b => xput_ne (by omega)), g8.kept (fun q a b => xput_ne (by omega))⟩ ((xput_ne (by omega)).trans l7) of
end WRW
