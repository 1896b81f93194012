/-! RefStack$TableStack: mergeFrom -/
def serT (T : atab) : List Nat := ser T.1 T.2.1 T.2.2.1 T.2.2.2
abbrev ptab : Type := List Nat × atab
section MFR
theorem yR_raw {l : List (Nat × tS)} {T2 : List ptab} (h : l.map (fun e => e.2) = T2.map rawP) : yR l = (cR T2).map rawR := by
  have e1 : yR l = ((l.map (fun e => e.2)).reverse).flatMap (fun b => b.2.2.2.2.1) := by
    unfold yR
    rw [← List.map_reverse, List.flatMap_map]
  rw [e1, h, ← List.map_reverse, List.flatMap_map]
  unfold cR
  rw [List.map_flatMap]
  rfl
theorem yE_raw {l : List (Nat × tS)} {T2 : List ptab} (h : l.map (fun e => e.2) = T2.map rawP) : yE l = (cE T2).map rawE := by
  have e1 : yE l = ((l.map (fun e => e.2)).reverse).flatMap (fun b => b.2.2.2.2.2) := by
    unfold yE
    rw [← List.map_reverse, List.flatMap_map]
  rw [e1, h, ← List.map_reverse, List.flatMap_map]
  unfold cE
  rw [List.map_flatMap]
  rfl
theorem mn32_nI {a b : Nat} (ha : a < 2 ^ 31) (hb : b < 2 ^ 31) : mn32 (nI a) (nI b) = nI (min a b) := by
  unfold mn32
  by_cases h : b < a
  · rw [if_pos (nI_lt h ha)]; congr 1; omega
  · rw [if_neg (nI_nlt (by omega) hb)]; congr 1; omega
theorem mx32_nI {a b : Nat} (ha : a < 2 ^ 31) (hb : b < 2 ^ 31) : mx32 (nI a) (nI b) = nI (max a b) := by
  unfold mx32
  by_cases h : a < b
  · rw [if_pos (nI_lt h hb)]; congr 1; omega
  · rw [if_neg (nI_nlt (by omega) ha)]; congr 1; omega
theorem lw_raw {T2 : List ptab} (hw : ∀ p ∈ T2, wT0 p.2) : ∀ {l : List (Nat × tS)} {m : Nat}, m < 2 ^ 31 → l.map (fun e => e.2) = T2.map rawP → l.foldl (fun m e => mn32 m e.2.2.1) (nI m) = nI (T2.foldl (fun m p => min m p.2.1) m) := by
  induction T2 with
  | nil => intro l m hm h; cases l with
    | nil => rfl
    | cons a t => cases h
  | cons p T2 ih =>
    intro l m hm h
    cases l with
    | nil => cases h
    | cons a t =>
      simp only [List.map_cons, List.cons.injEq] at h
      have hp := hw p List.mem_cons_self
      have hp1 : p.2.1 < 2 ^ 31 := by have := hp.2.1; have := hp.2.2.1; omega
      have e : a.2.2.1 = nI p.2.1 := by rw [h.1]; rfl
      rw [List.foldl_cons, List.foldl_cons, e, mn32_nI hm hp1]
      exact ih (fun q hq => hw q (List.mem_cons_of_mem _ hq)) (by omega) h.2
theorem hg_raw {T2 : List ptab} (hw : ∀ p ∈ T2, wT0 p.2) : ∀ {l : List (Nat × tS)} {m : Nat}, m < 2 ^ 31 → l.map (fun e => e.2) = T2.map rawP → l.foldl (fun m e => mx32 m e.2.2.2.1) (nI m) = nI (T2.foldl (fun m p => max m p.2.2.1) m) := by
  induction T2 with
  | nil => intro l m hm h; cases l with
    | nil => rfl
    | cons a t => cases h
  | cons p T2 ih =>
    intro l m hm h
    cases l with
    | nil => cases h
    | cons a t =>
      simp only [List.map_cons, List.cons.injEq] at h
      have hp := hw p List.mem_cons_self
      have hp1 : p.2.2.1 < 2 ^ 31 := by have := hp.2.2.1; omega
      have e : a.2.2.2.1 = nI p.2.2.1 := by rw [h.1]; rfl
      rw [List.foldl_cons, List.foldl_cons, e, mx32_nI hm hp1]
      exact ih (fun q hq => hw q (List.mem_cons_of_mem _ hq)) (by omega) h.2
theorem en_raw {T2 : List ptab} : ∀ {l : List (Nat × tS)} {m : Nat}, l.map (fun e => e.2) = T2.map rawP → l.foldl (fun m e => m + e.2.2.2.2.2.2.length) m = T2.foldl (fun m p => m + p.2.2.2.2.length) m := by
  induction T2 with
  | nil => intro l m h; cases l with
    | nil => rfl
    | cons a t => cases h
  | cons p T2 ih =>
    intro l m h
    cases l with
    | nil => cases h
    | cons a t =>
      simp only [List.map_cons, List.cons.injEq] at h
      have e : a.2.2.2.2.2.2 = p.2.2.2.2.map rawE := by rw [h.1]; rfl
      rw [List.foldl_cons, List.foldl_cons, e, List.length_map]
      exact ih h.2
theorem ok_raw {l : List (Nat × tS)} {T2 : List ptab} (hw : ∀ p ∈ T2, wT0 p.2) (h : l.map (fun e => e.2) = T2.map rawP) : okL l := by
  intro e he
  have hm : e.2 ∈ T2.map rawP := by rw [← h]; exact List.mem_map_of_mem he
  obtain ⟨p, hp, hpe⟩ := List.mem_map.mp hm
  obtain ⟨w1, w2, w3, w4, w5, w6, w7⟩ := hw p hp
  have er : e.2.2.2.2.2.1 = p.2.2.2.1.map rawR := by rw [← hpe]; rfl
  have ee : e.2.2.2.2.2.2 = p.2.2.2.2.map rawE := by rw [← hpe]; rfl
  rw [er, ee]
  refine ⟨sT_mapR w4 (fun r hr => (w6 r hr).1.1), fun r hr => ?_, sT_mapE w5 (fun r hr => ⟨(w7 r hr).1.1, by have := (w7 r hr).2.2.1; omega⟩), fun r hr => ?_⟩
  · obtain ⟨r0, h0, rfl⟩ := List.mem_map.mp hr
    exact rok_R (w6 r0 h0).1 (by have := (w6 r0 h0).2.2.1; omega)
  · obtain ⟨r0, h0, rfl⟩ := List.mem_map.mp hr
    exact rok_E (w7 r0 h0).1 (by have := (w7 r0 h0).2.2.1; omega)
theorem cR_lt {T2 : List ptab} (hw : ∀ p ∈ T2, wT0 p.2) : ∀ r ∈ cR T2, r.1 < 2 ^ 60 := by
  intro r hr
  obtain ⟨p, hp, hm⟩ := mem_cR.mp hr
  exact ((hw p hp).2.2.2.2.2.1 r hm).1.1
theorem cE_lt {T2 : List ptab} (hw : ∀ p ∈ T2, wT0 p.2) : ∀ r ∈ cE T2, r.1 < 2 ^ 60 ∧ r.2.1 < 2 ^ 31 := by
  intro r hr
  obtain ⟨p, hp, hm⟩ := mem_cE.mp hr
  have h1 := (hw p hp).2.2.2.2.2.2 r hm
  have := (hw p hp).2.2.1
  have := h1.2.2.1
  exact ⟨h1.1.1, by omega⟩
theorem flt_R {l : List arec} {lo : Nat} (h : ∀ r ∈ l, okC r.2.2) : (l.map rawR).filter (kpX lo) = (l.filter (ndl (decide (lo = 0)))).map rawR := by
  rw [List.filter_map]
  congr 1
  refine List.filter_congr (fun r hr => ?_)
  show kpX lo (rawR r) = ndl (decide (lo = 0)) r
  have := rawC_eq0 (h r hr)
  unfold kpX ndl
  have e : decide ((rawR r).2.2 = lN 0) = (r.2.2 == 0) := by
    rw [Bool.eq_iff_iff]
    simp only [decide_eq_true_eq, beq_iff_eq]
    exact this
  rw [e, Bool.and_comm]
theorem flt_E {l : List aent} {tm : Int32} : (l.map rawE).filter (exX tm) = (l.filter (sin tm)).map rawE := by
  rw [List.filter_map]
  rfl
variable {d s h : Nat} {L : List (Nat × tS)} {M : xM} {z w : Nat} {Q : Option Value → xM → Nat → Nat → Prop}
theorem c_tableIn_h (hS : SkAt M s h L z) (h9 : h < 9) (hz : s + 31 ≤ z) (K : ∀ M' L' e, SkAt M' s h L' (z + 10 * (L'.length - L.length)) → L'[h]? = some e → L'.take h = L.take h → L.length ≤ L'.length → OnlyS M M' s → Q (some (.ref e.1)) M' (z + 10 * (L'.length - L.length)) (w + 1427 * (L'.length - L.length))) : WP (d + 3) mTs_tableIn 0 [some (.ref s), some (.int (nI h)), none] [] M z w Q := by
  have hh := hS.2.2.2.2.2.2.1
  by_cases hl : h < L.length
  · have he : L[h]? = some L[h] := List.getElem?_eq_getElem hl
    rw [c_tableIn hS he]
    have := K M L L[h]
    rw [Nat.sub_self, Nat.mul_zero, Nat.add_zero] at this
    exact this hS he rfl (Nat.le_refl _) OnlyS.rf
  · have e : h = L.length := by omega
    have hK := K
    refine e ▸ c_tableIn_new (d := d) hS (by omega) hz (fun M' hS' hO => ?_)
    have := K M' (L ++ [newT z]) (newT z)
    rw [List.length_append, List.length_singleton, Nat.add_sub_cancel_left, Nat.mul_one, Nat.mul_one] at this
    exact this hS' (by rw [e]; simp) (by rw [e]; simp) (by omega) (fun q hq => hO q (by omega) (by omega))
end MFR
