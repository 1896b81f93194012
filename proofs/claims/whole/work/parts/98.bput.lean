/-! the reference: the changes become a table -/
def oX (N : List arec) (cs : List achg) : List achg := cs.map (fun c => (c.1, nI (lkA N c.1).toNat, c.2.2))
def n0 (now : Nat) (cs : List achg) : List arec := cs.map (crec now)
def eX (now : Nat) (N : List arec) (tb : Nat) (cs : List achg) : List (aent × Nat) := (cs.filter (fun c => decide (0 ≤ c.2.2))).map (fun c => ((c.1, now, (lkA N c.1).toNat, c.2.2.toNat), tb))
theorem n0_dd {now : Nat} {cs : List achg} (h : cs.Pairwise (fun a b => a.1 ≠ b.1)) : (n0 now cs).Pairwise (fun a b => kR a ≠ kR b) := by
  unfold n0
  rw [List.pairwise_map]
  exact h
theorem insR_ord {α : Type} {f g : α → Nat} {x : α} : ∀ {l : List α}, (∀ y ∈ l, (f x < f y ↔ g x < g y) ∧ (f x = f y ↔ g x = g y)) → insR f x l = insR g x l
  | [], _ => rfl
  | y :: t, h => by
    have hy := h y (by simp)
    have ih := insR_ord (l := t) (fun z hz => h z (by simp [hz]))
    unfold insR
    simp only [hy.1, hy.2, ih]
theorem mG_ord {α : Type} {f g : α → Nat} (h : ∀ x y, (f x < f y ↔ g x < g y) ∧ (f x = f y ↔ g x = g y)) : ∀ (l : List α), mG f l = mG g l
  | [] => rfl
  | x :: l => by
    rw [mG_cons, mG_cons, mG_ord h l]
    exact insR_ord (fun y _ => h x y)
theorem ddf_mG2 (N R : List arec) : mG kR (ddf N R) = mG kR (N ++ R) := mG_congr (fun v => ddf_find R N v)
theorem fr0 (N : List arec) : N.filter (frK 0) = N := List.filter_eq_self.mpr (fun r _ => by unfold frK; simp)
theorem sin0 {e : aent} (h : e.2.1 < 2 ^ 31) : sin (nI 0) e = true := by
  unfold sin
  have : ¬ nI e.2.1 < nI 0 := nI_nlt (by omega) h
  simp [this]
theorem ent0 {E : List (aent × Nat)} (h : ∀ e ∈ E, e.1.2.1 < 2 ^ 31) : (mG ekP (E.filter (sinP (nI 0)))).map (fun e => e.1) = mG ek (E.map (fun e => e.1)) := by
  rw [mG_ents h]
  refine List.filter_eq_self.mpr (fun e he => sin0 ?_)
  obtain ⟨x, hx, rfl⟩ := List.mem_map.mp (mG_sub he)
  exact h x hx
/-- the draft's table -/
theorem T_first {now tb : Nat} {N l : List arec} {cs : List achg} (hnow : now ≤ 2000) (hlk : ∀ k, lkA N k = lkA l k) (hd : cs.Pairwise (fun a b => a.1 ≠ b.1)) : wrT 0 (nI 0) now now (n0 now cs) (eX now N tb cs) = drT now l cs := by
  unfold wrT drT
  rw [fr0, ent0]
  · have h1 : (eX now N tb cs).map (fun e => e.1) = ((n0 now cs).filter (fun r => decide (0 ≤ r.2.2))).map (fun r => (r.1, now, (lkA l r.1).toNat, r.2.2.toNat)) := by
      unfold eX n0
      rw [List.map_map, List.filter_map, List.map_map]
      simp only [Function.comp, hlk]
      rfl
    have h2 : mG ek ((eX now N tb cs).map (fun e => e.1)) = dEn now l (dRc now cs) := by
      rw [h1, mG_map (f := ek) (φ := fun (r : arec) => ((r.1, now, (lkA l r.1).toNat, r.2.2.toNat) : aent)), mG_ord (g := kR) (fun x y => by
        show (x.1 * 2 ^ 32 + (2 ^ 32 - 1 - now) < y.1 * 2 ^ 32 + (2 ^ 32 - 1 - now) ↔ x.1 < y.1) ∧ (x.1 * 2 ^ 32 + (2 ^ 32 - 1 - now) = y.1 * 2 ^ 32 + (2 ^ 32 - 1 - now) ↔ x.1 = y.1)
        omega), mG_dd_filter (n0_dd hd)]
      rfl
    rw [h2]
    rfl
  · intro e he
    unfold eX at he
    obtain ⟨c, -, rfl⟩ := List.mem_map.mp he
    show now < 2 ^ 31
    omega
/-- one more table is merged -/
theorem T_step {now t : Nat} {b : Bool} {q p : ptab} {X : List ptab} {N0 : List arec} {E0 : List (aent × Nat)} (hp : p.2 = wrT 0 (nI 0) (mnT now X) (mxT now X) (ddf N0 (cR X)) (E0 ++ enT (t + 1) X)) (hnow : now ≤ 2000) (hd : N0.Pairwise (fun a b => kR a ≠ kR b)) (hE : ∀ e ∈ E0, e.1.2.1 < 2 ^ 31) (hw : ∀ y ∈ q :: X, wT y.2) :
    mT b (nI 0) [q, p] = wrT (if b = true then 1 else 0) (nI 0) (mnT now (q :: X)) (mxT now (q :: X)) (ddf N0 (cR (q :: X))) (E0 ++ enT t (q :: X)) := by
  have hmn := (mnT_f (le := now) (TT := X)).1
  have htm : ∀ (t : Nat) (Y : List ptab), (∀ y ∈ Y, wT y.2) → ∀ e ∈ E0 ++ enT t Y, e.1.2.1 < 2 ^ 31 := by
    intro t Y hY e he
    rcases List.mem_append.mp he with h | h
    · exact hE e h
    · obtain ⟨y, hy, hm⟩ := enT_mem h
      have h1 := ((hY y hy).1.2.2.2.2.2.2 e.1 hm).2.2.1
      have h2 := (hY y hy).1.2.2.1
      omega
  have hX : ∀ y ∈ X, wT y.2 := fun y hy => hw y (by simp [hy])
  have e1 : p.2.1 = mnT now X := by rw [hp]; rfl
  have e2 : p.2.2.1 = mxT now X := by rw [hp]; rfl
  have e3 : p.2.2.2.1 = mG kR (N0 ++ cR X) := by
    rw [hp]
    unfold wrT
    dsimp only
    rw [fr0, ddf_mG2]
  have e4 : p.2.2.2.2 = mG ek (E0.map (fun e => e.1) ++ cE X) := by
    rw [hp]
    unfold wrT
    dsimp only
    rw [ent0 (htm (t + 1) X hX), List.map_append, enT_fst]
  have eR : cR [q, p] = p.2.2.2.1 ++ q.2.2.2.1 := by simp [cR]
  have eE : cE [q, p] = p.2.2.2.2 ++ q.2.2.2.2 := by simp [cE]
  have eE2 : cE (q :: X) = cE X ++ q.2.2.2.2 := by simp [cE]
  have hfr : frK (if b = true then 1 else 0) = ndl b := by
    cases b with
    | true => exact funext frK_ndl
    | false => exact funext frK_0
  unfold mT wrT
  rw [mG_ents (htm t (q :: X) hw), hfr, mG_dd_filter (ddf_dd hd), ddf_mG2, List.map_append, enT_fst, eR, e3, eE, e4, mG_idem, mG_idem, cR_cons q X, eE2, List.append_assoc, List.append_assoc]
  have el : lwM [q, p] = mnT now (q :: X) := by
    show min (min 2000 q.2.1) p.2.1 = min q.2.1 (mnT now X)
    rw [e1]
    have := (hw q (by simp)).1.2.1
    have := (hw q (by simp)).1.2.2.1
    omega
  have eh : hgM [q, p] = mxT now (q :: X) := by
    show max (max 0 q.2.2.1) p.2.2.1 = max q.2.2.1 (mxT now X)
    rw [e2]
    omega
  rw [el, eh]
section MH
variable {d m : Nat} {B : List (List Nat)} {M : xM} {g : Nat → Int32} {A : Nat → Nat → Int32} {L : Nat → Nat → Int64} {N : List arec} {cs : List achg} {z w : Nat} {Q : Option Value → xM → Nat → Nat → Prop}
theorem lk_ok {k : Nat} (hNo : ∀ s ∈ N, okC s.2.2) : (lkA N k).toNat ≤ 65535 := by
  unfold lkA
  cases hf : N.find? (fun r => r.1 == k) with
  | none => decide
  | some r =>
    have := (hNo r (List.mem_of_find?_eq_some hf)).1
    show r.2.2.toNat ≤ 65535
    omega
set_option maxHeartbeats 1000000 in
theorem putC_loop {now tb : Nat} (hnow : now ≤ 2001) (ho : okX cs) (K : ∀ g' A' L' x, ChA g' A' L' (oX N cs) → NmA g' A' L' (n0 now cs) → EnA g' A' L' (eX now N tb cs) → Fr FgV FaR FlR g g' A A' L L' → WP (d + 2) mMd_putChanges 79 [some (.ref m), some (.int (nI now)), some (.int x)] [] (MM (AR M m A' L') m g') z w Q) : ∀ (r i : Nat) (g1 : Nat → Int32) (A1 : Nat → Nat → Int32) (L1 : Nat → Nat → Int64), i + r = cs.length → ChA g1 A1 L1 (oX N cs) → g1 2 = nI tb → NmA g1 A1 L1 (n0 now (cs.take i)) → EnA g1 A1 L1 (eX now N tb (cs.take i)) → Fr FgV FaR FlR g g1 A A1 L L1 →
    WP (d + 2) mMd_putChanges 6 [some (.ref m), some (.int (nI now)), some (.int (nI i))] [] (MM (AR M m A1 L1) m g1) z w Q := by
  obtain ⟨o1, o2, o3⟩ := ho
  have hcl : (oX N cs).length = cs.length := by simp [oX]
  intro r
  induction r with
  | zero =>
    intro i g1 A1 L1 hi hC h2 hN hE hF
    rw [List.take_of_length_le (by omega)] at hN hE
    rw [sMd_putChanges_6]
    simp only [sMd_putChanges_7, rMd_putChanges_8, sMd_putChanges_11, hC.1, hcl]
    rw [if_pos (nI_le (by omega) (by omega))]
    exact K g1 A1 L1 _ hC hN hE hF
  | succ r ih =>
    intro i g1 A1 L1 hi hC h2 hN hE hF
    have hlt : i < cs.length := by omega
    have hgi : cs[i]? = some cs[i] := List.getElem?_eq_getElem hlt
    have hmi := List.getElem_mem hlt
    have htk : cs.take (i + 1) = cs.take i ++ [cs[i]] := List.take_succ_eq_append_getElem hlt
    generalize cs[i] = c at hgi hmi htk
    obtain ⟨⟨c1, c2⟩, c3⟩ := o2 c hmi
    have hgo : (oX N cs)[i]? = some (c.1, nI (lkA N c.1).toNat, c.2.2) := by unfold oX; rw [List.getElem?_map, hgi]; rfl
    obtain ⟨q1, q2, q3, q4⟩ := hC.2 i _ hgo
    dsimp only at q1 q2 q3 q4
    have hk2 := knd_2 c.2.2
    have hokc := c2.ok
    have hnl : (n0 now (cs.take i)).length ≤ 6 := by unfold n0; rw [List.length_map, List.length_take]; omega
    have hel : (eX now N tb (cs.take i)).length ≤ 6 := by
      unfold eX
      rw [List.length_map]
      have := List.length_filter_le (fun c : achg => decide (0 ≤ c.2.2)) (cs.take i)
      rw [List.length_take] at this
      omega
    rw [sMd_putChanges_6]
    simp only [sMd_putChanges_7, rMd_putChanges_8, sMd_putChanges_11, sMd_putChanges_14, sMd_putChanges_15, rMd_putChanges_16, sMd_putChanges_19, qMd_putChanges_20 (k := i) (by omega), sMd_putChanges_21, sMd_putChanges_22, rMd_putChanges_23, hC.1, hcl, q1]
    rw [if_neg (nI_ge (by omega) (by omega)), c_madeKind hC (by omega) hgo c2]
    simp only [sMd_putChanges_26, sMd_putChanges_27, rMd_putChanges_28, sMd_putChanges_31, qMd_putChanges_32 (k := i) (by omega), rMd_putChanges_33, xk_i, xk_l, xk_a, xk_n, xk_0, Option.toList_some, Option.toList_none, List.cons_append, List.nil_append, q4]
    refine c_enter (r := crec now c) c1.1 (fun s hs => ?_) hN (by omega) (fun g2 A2 L2 hN2 hF2 => ?_)
    · unfold n0 at hs
      obtain ⟨x, hx, rfl⟩ := List.mem_map.mp hs
      exact (o2 x (List.mem_of_mem_take hx)).1.1.1
    · have hC2 := hC.fr hF2 (by decide) (by decide) (by decide) (by decide) (by decide)
      have hE2 := hE.kept hF2 (by decide) (by decide) (by decide) (by decide) (by decide) (by decide)
      have hddi : ddi (n0 now (cs.take i)) (crec now c) = n0 now (cs.take (i + 1)) := by
        unfold ddi
        rw [if_neg, htk]
        · unfold n0
          rw [List.map_append]
          rfl
        · rw [List.any_eq_true]
          rintro ⟨s, hs, e⟩
          unfold n0 at hs
          obtain ⟨x, hx, rfl⟩ := List.mem_map.mp hs
          rw [beq_iff_eq] at e
          obtain ⟨j, hj, hje⟩ := List.mem_iff_getElem.mp hx
          rw [List.length_take] at hj
          rw [List.getElem_take] at hje
          exact pw_get o3 (i := j) (j := i) (by omega) (List.getElem?_eq_getElem (by omega)) hgi (by rw [hje]; exact e)
      rw [hddi] at hN2
      obtain ⟨u1, u2', u3, u4⟩ := hC2.2 i _ hgo
      dsimp only at u1 u2' u3 u4
      have hF3 : Fr FgV FaR FlR g g2 A A2 L L2 := hF.trans (hF2.sub (by decide) (by decide) (by decide))
      have h22 : g2 2 = nI tb := (hF2.1 2 (by decide)).trans h2
      simp only [sMd_putChanges_36, rMd_putChanges_37, sMd_putChanges_40, qMd_putChanges_41 (k := i) (by omega), sMd_putChanges_42, xk_i, xk_l, xk_a, xk_n, xk_0, Option.toList_some, Option.toList_none, List.cons_append, List.nil_append, u2']
      have hnext : ∀ (g3 : Nat → Int32) (A3 : Nat → Nat → Int32) (L3 : Nat → Nat → Int64), EnA g3 A3 L3 (eX now N tb (cs.take (i + 1))) → Fr [19] [12, 13, 14, 15] [11] g2 g3 A2 A3 L2 L3 → WP (d + 2) mMd_putChanges 73 [some (.ref m), some (.int (nI now)), some (.int (nI i))] [] (MM (AR M m A3 L3) m g3) z w Q := by
        intro g3 A3 L3 hE3 hF23
        simp only [sMd_putChanges_73, sMd_putChanges_76, xk_i, xk_l, xk_a, xk_n, xk_0, Option.toList_some, Option.toList_none, List.cons_append, List.nil_append, nI_add]
        exact ih (i + 1) g3 A3 L3 (by omega) (hC2.fr hF23 (by decide) (by decide) (by decide) (by decide) (by decide)) ((hF23.1 2 (by decide)).trans h22) (hN2.kept hF23 (by decide) (by decide) (by decide) (by decide) (by decide)) hE3 (hF3.trans (hF23.sub (by decide) (by decide) (by decide)))
      have heX : eX now N tb (cs.take (i + 1)) = if 0 ≤ c.2.2 then eX now N tb (cs.take i) ++ [((c.1, now, (lkA N c.1).toNat, c.2.2.toNat), tb)] else eX now N tb (cs.take i) := by
        unfold eX
        rw [htk, List.filter_append, List.map_append]
        by_cases h0 : 0 ≤ c.2.2
        · rw [if_pos h0, List.filter_cons_of_pos (by simp [h0])]
          rfl
        · rw [if_neg h0, List.filter_cons_of_neg (by simp [h0])]
          simp
      by_cases hc0 : c.2.2 < 0
      · rw [if_neg (by rw [if_pos hc0]; decide)]
        refine hnext g2 A2 L2 ?_ Fr.rf
        rw [heX, if_neg (by omega)]
        exact hE2
      · rw [if_pos (by rw [if_neg hc0])]
        have hvn : vN c.2.2 = c.2.2.toNat := by unfold vN; rw [if_pos (by omega)]
        simp only [sMd_putChanges_45, sMd_putChanges_46, rMd_putChanges_47, sMd_putChanges_50, qMd_putChanges_51 (k := i) (by omega), sMd_putChanges_52, sMd_putChanges_53, rMd_putChanges_54, sMd_putChanges_57, qMd_putChanges_58 (k := i) (by omega), sMd_putChanges_59, rMd_putChanges_60, sMd_putChanges_63, qMd_putChanges_64 (k := i) (by omega), sMd_putChanges_65, sMd_putChanges_66, rMd_putChanges_67, rMd_putChanges_70, u1, u3, u4, hvn, lN_i, h22]
        refine c_entry (c := (eX now N tb (cs.take i)).length) (by omega) hE2.1 (fun g3 A3 L3 k1 k2 k3 k4 k5 k6 hF23 => ?_)
        simp only [xk_i, xk_l, xk_a, xk_n, xk_0, Option.toList_some, Option.toList_none, List.cons_append, List.nil_append]
        refine hnext g3 A3 L3 ?_ hF23
        rw [heX, if_pos (by omega)]
        exact hE2.snoc (e := ((c.1, now, (lkA N c.1).toNat, c.2.2.toNat), tb)) k1 k2 k3 k4 k5 k6
theorem c_putChanges {now tb : Nat} (hnow : now ≤ 2001) (ho : okX cs) (hC : ChA g A L (oX N cs)) (h2 : g 2 = nI tb) (K : ∀ g' A' L', ChA g' A' L' (oX N cs) → NmA g' A' L' (n0 now cs) → EnA g' A' L' (eX now N tb cs) → g' 25 = nI now → g' 26 = nI now → Fr FgV FaR FlR g g' A A' L L' → Q none (MM (AR M m A' L') m g') z w) :
    WP (d + 2) mMd_putChanges 0 [some (.ref m), some (.int (nI now)), none] [] (MM (AR M m A L) m g) z w Q := by
  simp only [sMd_putChanges_0, rMd_putChanges_1]
  refine c_empty (fun g1 hN1 hE1 h25 h26 hF1 => ?_)
  simp only [sMd_putChanges_4, sMd_putChanges_5, xk_i, xk_l, xk_a, xk_n, xk_0, Option.toList_some, Option.toList_none, List.cons_append, List.nil_append]
  refine putC_loop hnow ho (g := g) (A := A) (L := L) (fun g2 A2 L2 x hC2 hN2 hE2 hF2 => ?_) cs.length 0 g1 A L (by omega) (hC.fr hF1 (by decide) (by decide) (by decide) (by decide) (by decide)) ((hF1.1 2 (by decide)).trans h2) ?_ ?_ hF1
  · simp only [sMd_putChanges_79, sMd_putChanges_80, rMd_putChanges_81, sMd_putChanges_84, sMd_putChanges_85, rMd_putChanges_86, sMd_putChanges_89]
    have hFu : Fr [25, 26] [] [] g2 (ug (ug g2 25 (nI now)) 26 (nI now)) A2 A2 L2 L2 := (Fr.ug (by decide)).trans (Fr.ug (by decide))
    refine K _ A2 L2 (hC2.fr hFu (by decide) (by decide) (by decide) (by decide) (by decide)) (hN2.kept hFu (by decide) (by decide) (by decide) (by decide) (by decide)) (hE2.kept hFu (by decide) (by decide) (by decide) (by decide) (by decide) (by decide)) (by rw [ug_e (by decide), ug_s]) ug_s (hF2.trans (hFu.sub (by decide) (by decide) (by decide)))
  · simpa [n0] using hN1
  · simpa [eX] using hE1
end MH
