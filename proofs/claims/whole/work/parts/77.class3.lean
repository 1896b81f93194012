/-! RefStack: damage, scan, log -/
section CL3
variable {d x wb : Nat} {B : List (List Nat)} {tx : Option (List achg)} {M : xM} {z w : Nat} {Q : Option Value → xM → Nat → Nat → Prop}
def dmC (B : List (List Nat)) (t k b : Int32) : Prop := ((ix B t).bind (fun l => ix l k)).isSome = true ∧ nI 0 ≤ b ∧ b ≤ nI 255
def dmB (B : List (List Nat)) (t k b : Int32) : List (List Nat) := B.set t.toNatClampNeg (((ix B t).getD []).set k.toNatClampNeg b.toNatClampNeg)
set_option maxHeartbeats 1000000 in
theorem c_RS_damage {t k b : Int32} (hK : KAt M x z w wb B tx) (h2 : ∀ l ∈ B, 2 ≤ l.length) (K0 : ¬ dmC B t k b → Q (some (.int (nI 0))) M z w) (K1 : dmC B t k b → ∀ M', KAt M' x z w wb (dmB B t k b) tx → OnlyK M M' x → Q (some (.int (nI 1))) M' z w) : WP (d + 7) mRS_damage 0 [some (.ref x), some (.int t), some (.int k), some (.int b), none] [] M z w Q := by
  have k1 := hK.cell
  have k2 := hK.sk
  simp only [sRS_damage_0, sRS_damage_1 k1 rfl, sRS_damage_4]
  rw [sRS_damage_5 k2]
  refine c_found hK (fun hn => ?_) (fun i l e ht hi hb hx hL hT he ho => ?_)
  · simp only [xk_i, xk_l, xk_a, xk_n, xk_0, Option.toList_some, Option.toList_none, List.cons_append, List.nil_append]
    rw [sRS_damage_8n]
    simp only [xk_i, xk_l, xk_a, xk_n, xk_0, Option.toList_some, Option.toList_none, List.cons_append, List.nil_append]
    rw [sRS_damage_10n, sRS_damage_12n]
    simp only [sRS_damage_39, sRS_damage_40 xb0, sRS_damage_40 xb1]
    exact K0 (fun q => by unfold dmC at q; rw [hn] at q; cases q.1)
  · have hc := hT.cell
    rw [he] at hc
    simp only [sRS_damage_8, sRS_damage_10, sRS_damage_12, sRS_damage_15, sRS_damage_16, sRS_damage_19, sRS_damage_20, sRS_damage_22 hc rfl, sRS_damage_25, sRS_damage_28, sRS_damage_29, sRS_damage_32, sRS_damage_33, sRS_damage_36, sRS_damage_39, sRS_damage_40 xb0, sRS_damage_40 xb1, sRS_damage_41, sRS_damage_43 hc rfl, sRS_damage_46, sRS_damage_47, xk_i, xk_l, xk_a, xk_n, xk_0, Option.toList_some, Option.toList_none, List.cons_append, List.nil_append]
    by_cases h0 : k < nI 0
    · rw [if_pos h0]
      exact K0 (fun q => by unfold dmC at q; rw [hx, Option.bind_some, ix_neg h0] at q; cases q.1)
    · rw [if_neg h0]
      obtain ⟨j, hj, rfl⟩ := nI_of h0
      have hl12 : l.length ≤ 1200 := by have := hT.1; rw [he] at this; exact this
      by_cases hl : l.length ≤ j
      · rw [if_pos (nI_le hl hj)]
        exact K0 (fun q => by unfold dmC at q; rw [hx, Option.bind_some, ix_nI hj, List.getElem?_eq_none_iff.mpr hl] at q; cases q.1)
      · rw [if_neg (nI_ge (by omega) (by omega))]
        by_cases hb0 : b < nI 0
        · rw [if_pos hb0]; exact K0 (fun q => i_nlt.mpr q.2.1 hb0)
        · rw [if_neg hb0]
          by_cases hb1 : b ≤ nI 255
          · rw [if_pos hb1]
            have hC : dmC B t (nI j) b := ⟨by rw [hx, Option.bind_some, ix_nI hj, List.getElem?_eq_getElem (by omega)]; rfl, i_nlt.mp hb0, hb1⟩
            obtain ⟨u, hu, rfl⟩ := nI_of hb0
            rw [nI_leI hu (by omega)] at hb1
            obtain ⟨L0, cs, ⟨c1, c2, c3, ⟨v, p, e1, f, c6⟩, c7, c8, c9, c10⟩, hL0⟩ := hL
            have hloc := c2.2.2.2.2.2.2.2.1 i e hL0
            obtain ⟨b1, b2, ⟨bl, b3, b4, b5⟩, b6, b7, b8⟩ := hT
            rw [sRS_damage_48 b4 (nI_toInt hj) (by simp; omega), vi_set]
            generalize hM1 : xput M (e.1 + 1) (20, vi (bl.set j (nI u))) = M1
            have o1 : ∀ q, q ≠ e.1 + 1 → M1 q = M q := fun q hq => by rw [← hM1, xput_ne hq]
            have hT1 : TableAt M1 e.1 (l.set j u) e.2.2.1 e.2.2.2.1 e.2.2.2.2.1 e.2.2.2.2.2.1 e.2.2.2.2.2.2 := by
              rw [he] at b1 b2 b5 b6
              refine ⟨by simpa using b1, fun y hy => ?_, ⟨bl.set j (nI u), by simpa using b3, by rw [← hM1, xput_same], fun n hn => ?_⟩, by rw [o1 _ (by omega), List.length_set]; exact b6, b7.kept (fun q q1 q2 => o1 q (by omega)), b8.kept (fun q q1 q2 => o1 q (by omega))⟩
              · rcases List.mem_or_eq_of_mem_set hy with q | q
                · exact b2 y q
                · omega
              · rw [List.length_set] at hn
                rw [List.getElem?_set, List.getElem?_set]
                by_cases hjn : j = n
                · subst hjn
                  rw [if_pos rfl, if_pos rfl, if_pos (by omega), if_pos hn]; rfl
                · rw [if_neg hjn, if_neg hjn]; exact b5 n hn
            have hrd : M1 (x + 14) = _ := (o1 _ (by omega)).trans c6
            have k11 : M1 x = _ := (o1 _ (by omega)).trans k1
            simp only [sRS_damage_49, sRS_damage_50 k11 rfl, sRS_damage_53]
            rw [sRS_damage_55 hrd]
            refine c_read (d := d) (by omega) hrd hT1 (by rw [List.length_set]; exact h2 l (List.mem_of_getElem? hb)) (fun M2 lw hg rc en hT2 hp2 hr2 hO2 => ?_)
            simp only [sRS_damage_58, sRS_damage_59 xb0, sRS_damage_59 xb1, xk_i, xk_l, xk_a, xk_n, xk_0, Option.toList_some, Option.toList_none, List.cons_append, List.nil_append]
            have hO12 : OnlyW M M2 (x + 14) e.1 := fun q q1 q2 => by rw [hO2 q q1 q2, o1 q (by omega)]
            obtain ⟨p1, e2, f1, hr2⟩ := hr2
            have hb2 : dmB B t (nI j) (nI u) = B.set i (l.set j u) := by
              unfold dmB
              rw [hx, Option.getD_some, ht, nI_clamp (by have := c2.2.2.2.2.2.1; have := c2.2.2.2.2.2.2.1; omega), nI_clamp hj, nI_clamp hu]
            have hS2 : SkAt M2 (x + 1) B.length (L0.set i (e.1, l.set j u, lw, hg, (pT (l.set j u)).isSome, rc, en)) z := by
              have hS14 : SkAt (fun q => if q = x + 14 then M q else M2 q) (x + 1) B.length (L0.set i (e.1, l.set j u, lw, hg, (pT (l.set j u)).isSome, rc, en)) z := by
                refine c2.setT hL0 (TableAt.kept hT2 (fun q q1 q2 => if_neg (by omega))) (fun q hq => ?_)
                by_cases h14 : q = x + 14
                · simp only [h14, if_true]
                · simp only [h14, if_false]
                  exact hO12 q h14 hq
              exact hS14.kept (Nat.le_refl _) (fun q q1 q2 => (if_neg (by omega)).symm) (fun q q1 q2 => (if_neg (by omega)).symm)
            have hlen : (B.set i (l.set j u)).length = B.length := List.length_set
            refine K1 hC M2 ⟨L0.set i (e.1, l.set j u, lw, hg, (pT (l.set j u)).isSome, rc, en), cs, by rw [hO12 _ (by omega) (by omega)]; exact c1, by rw [hb2, hlen]; exact hS2, ⟨c3.1.kept (fun q q1 q2 => hO12 q (by omega) (by omega)), c3.2⟩, ⟨_, _, _, _, hr2⟩, ?_, ?_, by rw [List.length_set]; exact c9, by rw [List.length_set]; exact c10⟩ (fun q hq => hO12 q (by omega) (by omega))
            · rw [hb2, hlen]
              apply List.ext_getElem?
              intro n
              rw [List.getElem?_map, List.getElem?_take, List.getElem?_set, List.getElem?_set]
              have := congrArg (fun l => l[n]?) c7
              simp only [List.getElem?_map, List.getElem?_take] at this
              by_cases hin : i = n
              · subst hin
                have hi0 := (List.getElem?_eq_some_iff.mp hL0).1
                rw [if_pos hi, if_pos rfl, if_pos hi0, if_pos rfl, if_pos hi]; rfl
              · rw [if_neg hin, if_neg hin]; exact this
            · rw [hb2, hlen]
              intro y hy
              obtain ⟨n, hn⟩ := List.mem_iff_getElem?.mp hy
              rw [List.getElem?_take] at hn
              split at hn
              · rename_i hnB
                rw [List.getElem?_set] at hn
                by_cases hin : i = n
                · subst hin
                  have hi0 := (List.getElem?_eq_some_iff.mp hL0).1
                  rw [if_pos rfl, if_pos hi0] at hn
                  cases hn
                  refine ⟨rfl, fun T hpT => ?_⟩
                  obtain ⟨w1, w2, w3, w4⟩ := hp2 T hpT
                  show (l.set j u, lw, hg, (pT (l.set j u)).isSome, rc, en) = _
                  rw [w1, w2, w3, w4, hpT]
                  rfl
                · rw [if_neg hin] at hn
                  refine c8 y ?_
                  rw [List.mem_iff_getElem?]
                  exact ⟨n, by rw [List.getElem?_take, if_pos hnB]; exact hn⟩
              · cases hn
          · rw [if_neg hb1]; exact K0 (fun q => hb1 q.2.2)
end CL3
