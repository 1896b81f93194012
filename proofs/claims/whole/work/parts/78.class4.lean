/-! RefStack: scan, log, compact, expire -/
section CL4
variable {d x wb : Nat} {B : List (List Nat)} {tx : Option (List achg)} {M : xM} {z w : Nat} {Q : Option Value → xM → Nat → Nat → Prop}
theorem KB.stack {L L' : List (Nat × tS)} {cs : List achg} {M' : xM} {z' w' : Nat} {B' : List (List Nat)} (h : KB M x z w wb B tx L cs) (hS : SkAt M' (x + 1) B'.length L' z') (hb : (L'.take B'.length).map (fun e => e.2.1) = B') (ho : ∀ e ∈ L'.take B'.length, okS e.2) (hz : z' = z + 10 * (L'.length - L.length)) (hw : w' = w + 1427 * (L'.length - L.length)) (hl : L.length ≤ L'.length) (hO : OnlyS M M' (x + 1)) : KAt M' x z' w' wb B' tx := by
  obtain ⟨k1, k2, ⟨k3, k4, k5⟩, ⟨v, p, e, f, k6⟩, k7, k8, k9, k10⟩ := h
  exact ⟨L', cs, by rw [hO _ (by omega)]; exact k1, hS, ⟨k3.kept (fun q a b => hO q (by omega)), k4, k5⟩, ⟨v, p, e, f, by rw [hO _ (by omega)]; exact k6⟩, hb, ho, by omega, by omega⟩
theorem KB.same {L : List (Nat × tS)} {cs : List achg} {M' : xM} (h : KB M x z w wb B tx L cs) (hS : SkAt M' (x + 1) B.length L z) (hO : OnlyS M M' (x + 1)) : KAt M' x z w wb B tx :=
  h.stack hS h.2.2.2.2.1 h.2.2.2.2.2.1 (by omega) (by omega) (Nat.le_refl _) hO
theorem okS_P {p : ptab} (h : pT p.1 = some p.2) : okS (rawP p) := ⟨by show true = _; show true = (pT p.1).isSome; rw [h]; rfl, fun T hT => by have : pT p.1 = some T := hT; rw [h] at this; cases this; rfl⟩
theorem KB.remade {L L' : List (Nat × tS)} {cs : List achg} {M' : xM} {h' : Nat} {TT : List ptab} (h : KB M x z w wb B tx L cs) (hS : SkAt M' (x + 1) h' L' (z + 10 * (L'.length - L.length))) (hh : h' = TT.length) (hb : (L'.take h').map (fun e => e.2) = TT.map rawP) (hT : ∀ p ∈ TT, pT p.1 = some p.2) (hl : L.length ≤ L'.length) (hO : OnlyS M M' (x + 1)) : KAt M' x (z + 10 * (L'.length - L.length)) (w + 1427 * (L'.length - L.length)) wb (TT.map (fun p => p.1)) tx := by
  subst hh
  refine h.stack (L' := L') (by rw [List.length_map]; exact hS) ?_ ?_ rfl rfl hl hO
  · rw [List.length_map]
    have := congrArg (fun l => l.map (fun b : tS => b.1)) hb
    simp only [List.map_map] at this
    exact this
  · rw [List.length_map]
    intro e he
    have hm : e.2 ∈ TT.map rawP := by rw [← hb]; exact List.mem_map_of_mem he
    obtain ⟨p, hp, hpe⟩ := List.mem_map.mp hm
    rw [← hpe]
    exact okS_P (hT p hp)
theorem KAt.b (h : KAt M x z w wb B tx) : ∃ L cs, KB M x z w wb B tx L cs := h
theorem KB.raw {L : List (Nat × tS)} {cs : List achg} (h : KB M x z w wb B tx L cs) {TT : List ptab} (hv : vw B = some TT) : (L.take B.length).map (fun e => e.2) = TT.map rawP := by
  obtain ⟨k1, k2, k3, k6, k7, k8, k9, k10⟩ := h
  have h := vw_l _ k8
  rw [k7] at h
  exact (h.2 TT hv).2
def bgn (pk : Nat) (r : arec) : Bool := !decide (r.2.2 = 0) && decide (alk r.1 pk = alk pk pk)
def nth {α : Type} (F : List α) (k : Int32) (c : Nat) : Option α := if k < 0 then none else F[k.toNatClampNeg - c]?
def scR (o : Option arec) : Int64 := match o with
  | none => lN 0
  | some r => lN (rv r.1)
theorem scan_loop {s h pk n : Nat} {k : Int32} {L : List (Nat × tS)} {D : Nat → Prop} {M0 : xM} {V : Int64} (hpk : pk < 2 ^ 64) (K : ∀ M', SkAt M' s h L z → Only M0 M' (s + 3) 3 → Q (some (.long V)) M' z w) : ∀ (P : List arec) (c i : Nat) (M : xM) (cur : xrow), i + P.length ≤ 360 → c ≤ i → (∀ r ∈ P, r.1 < 2 ^ 60 ∧ okC r.2.2) → SkAt M s h L z → WkP M (s + 3) false D cur (P.map rawR) → Only M0 M (s + 3) 3 → (k < 0 ∨ ∃ j, k = nI j ∧ c ≤ j ∧ j < 2 ^ 31) → V = scR (nth (P.filter (bgn pk)) k c) →
    WP (d + 3) mRS_scan 43 [some (.ref x), some (.long (lN n)), none, some (.int k), some (.long (lN pk)), none, some (.ref (s + 3)), some (.int (nI c)), some (.int (nI i))] [] M z w Q := by
  intro P
  induction P with
  | nil =>
    intro c i M cur hi hc hP hS hW hO hk hV
    obtain ⟨n', hcl⟩ := hW.cell
    rw [sRS_scan_43]
    simp only [sRS_scan_45, sRS_scan_48, sRS_scan_51]
    rw [if_neg (nI_ge (by simp at hi; omega) (by omega)), sRS_scan_53 hcl]
    refine c_sto hW (fun _ M' cur' hW' hO' => ?_) (fun M' x P' e => by cases e)
    simp only [sRS_scan_56, sRS_scan_109, sRS_scan_110, xk_i, xk_l, xk_a, xk_n, xk_0, Option.toList_some, Option.toList_none, List.cons_append, List.nil_append]
    rw [if_pos (by decide)]
    have : V = lN 0 := by
      rw [hV]
      unfold nth
      by_cases h0 : k < 0
      · rw [if_pos h0]; rfl
      · rw [if_neg h0]; rfl
    have hK := K M' (hS.walkfalse hO' hW'.idle) (hO.trans hO')
    rw [this] at hK
    exact hK
  | cons r P ih =>
    intro c i M cur hi hc hP hS hW hO hk hV
    obtain ⟨n', hcl⟩ := hW.cell
    rw [sRS_scan_43]
    simp only [sRS_scan_45, sRS_scan_48, sRS_scan_51]
    rw [if_neg (nI_ge (by simp at hi; omega) (by omega)), sRS_scan_53 hcl]
    refine c_sto hW (fun e => by cases e) (fun M' y P' e ho hW' hO' => ?_)
    simp only [List.map_cons, List.cons.injEq] at e
    obtain ⟨rfl, rfl⟩ := e
    obtain ⟨n2, hc2⟩ := hW'.cell
    have hS' := hS.walkfalse hO' hW'.idle
    obtain ⟨hr1, hr2⟩ := hP r List.mem_cons_self
    have hP' : ∀ r ∈ P, r.1 < 2 ^ 60 ∧ okC r.2.2 := fun a ha => hP a (List.mem_cons_of_mem _ ha)
    have hi' : i + 1 + P.length ≤ 360 := by simp at hi; omega
    have q0 : (rawR r).2.2 = lN 0 ↔ r.2.2 = 0 := rawC_eq0 hr2
    simp only [sRS_scan_56, sRS_scan_59, sRS_scan_61 hc2 rfl, sRS_scan_64, sRS_scan_65, sRS_scan_66, sRS_scan_69, sRS_scan_71 hc2 rfl, sRS_scan_74, sRS_scan_103, sRS_scan_106, xk_i, xk_l, xk_a, xk_n, xk_0, Option.toList_some, Option.toList_none, List.cons_append, List.nil_append, lcmp_eq, lcmp_lt, lcmp_ge, lcmp_gt, lcmp_le, nI_add, q0]
    rw [if_neg (by decide)]
    have skip : bgn pk r = false → WP (d + 3) mRS_scan 43 [some (.ref x), some (.long (lN n)), none, some (.int k), some (.long (lN pk)), none, some (.ref (s + 3)), some (.int (nI c)), some (.int (nI (i + 1)))] [] M' z w Q := by
      intro hb
      rw [List.filter_cons_of_neg (by rw [hb]; decide)] at hV
      exact ih c (i + 1) M' _ hi' (by omega) hP' hS' hW' (hO.trans hO') hk hV
    by_cases h0 : r.2.2 = 0
    · rw [if_pos h0]; exact skip (by unfold bgn; simp [h0])
    · rw [if_neg h0]
      have e1 : (rawR r).1 = lN r.1 := rfl
      rw [e1, sRS_scan_76, c_begins (by omega) hpk]
      simp only [sRS_scan_79, sRS_scan_82, sRS_scan_103, sRS_scan_106, xk_i, xk_l, xk_a, xk_n, xk_0, Option.toList_some, Option.toList_none, List.cons_append, List.nil_append, nI_add]
      by_cases hbg : alk r.1 pk = alk pk pk
      · rw [if_pos hbg, if_neg (by decide)]
        have hb : bgn pk r = true := by unfold bgn; simp [h0, hbg]
        rw [List.filter_cons_of_pos hb] at hV
        simp only [sRS_scan_85, sRS_scan_87, sRS_scan_88, sRS_scan_91, sRS_scan_93 hc2 rfl, sRS_scan_100, sRS_scan_103, sRS_scan_106, xk_i, xk_l, xk_a, xk_n, xk_0, Option.toList_some, Option.toList_none, List.cons_append, List.nil_append, nI_add]
        by_cases heq : nI c = k
        · rw [if_pos heq]
          rw [← heq] at hV
          have hVr : V = lN (rv r.1) := by
            rw [hV]
            unfold nth
            rw [if_neg (nI_pos (by omega)), nI_clamp (by omega), Nat.sub_self]
            rfl
          rw [e1, sRS_scan_96, c_nameOf (by omega)]
          simp only [sRS_scan_99, xk_i, xk_l, xk_a, xk_n, xk_0, Option.toList_some, Option.toList_none, List.cons_append, List.nil_append]
          rw [← hVr]
          exact K M' hS' (hO.trans hO')
        · rw [if_neg heq]
          refine ih (c + 1) (i + 1) M' _ hi' (by omega) hP' hS' hW' (hO.trans hO') ?_ ?_
          · rcases hk with q | ⟨j, q1, q2, q3⟩
            · exact Or.inl q
            · refine Or.inr ⟨j, q1, ?_, q3⟩
              rcases Nat.lt_or_eq_of_le q2 with q | q
              · exact q
              · exact absurd (by rw [q1, q]) heq
          · rw [hV]
            congr 1
            unfold nth
            rcases hk with q | ⟨j, q1, q2, q3⟩
            · rw [if_pos q, if_pos q]
            · subst q1
              have : c ≠ j := fun q => heq (by rw [q])
              rw [if_neg (nI_pos q3), if_neg (nI_pos q3), nI_clamp q3, show j - c = (j - (c + 1)) + 1 by omega, List.getElem?_cons_succ]
      · rw [if_neg hbg, if_pos (by decide)]
        exact skip (by unfold bgn; simp [hbg])
def scS (B : List (List Nat)) (p : Nat) (k : Int32) : Int64 := match vw B with
  | none => -2
  | some TT => scR (nth ((mG kR (cR TT)).filter (bgn (kyA p (nln p)))) k 0)
theorem c_RS_scan {p : Nat} {k : Int32} (hp : p < 2 ^ 64) (hK : KAt M x z w wb B tx) (K : ∀ M', KAt M' x z w wb B tx → OnlyK M M' x → Q (some (.long (scS B p k))) M' z w) : WP (d + 3) mRS_scan 0 [some (.ref x), some (.long (lN p)), none, some (.int k), none, none, none, none, none] [] M z w Q := by
  have k1 := hK.cell
  have k2 := hK.sk
  simp only [sRS_scan_0, sRS_scan_1 k1 rfl]
  rw [sRS_scan_4 k2, c_isDam hK]
  unfold scS at K
  cases hv : vw B with
  | none =>
    rw [hv] at K
    simp only [sRS_scan_7, sRS_scan_10, sRS_scan_13, xk_i, xk_l, xk_a, xk_n, xk_0, Option.toList_some, Option.toList_none, List.cons_append, List.nil_append]
    rw [if_neg (show ¬ nI (if (none : Option (List ptab)).isNone = true then 1 else 0) = nI 0 by decide)]
    exact K M hK OnlyK.rf
  | some TT =>
    rw [hv] at K
    obtain ⟨L, cs, hB⟩ := hK.b
    have hS := hB.2.1
    have hT := hB.raw hv
    have hw := vw_w0 hv
    have hh := hS.2.2.2.2.2.2.1
    simp only [sRS_scan_7, sRS_scan_10, sRS_scan_13, sRS_scan_14, xk_i, xk_l, xk_a, xk_n, xk_0, Option.toList_some, Option.toList_none, List.cons_append, List.nil_append]
    rw [if_pos (show nI (if (some TT).isNone = true then 1 else 0) = nI 0 from rfl), sRS_scan_15, c_keyOf hp]
    simp only [sRS_scan_18, sRS_scan_20, sRS_scan_21 k1 rfl, sRS_scan_24, sRS_scan_25, sRS_scan_26 k1 rfl, sRS_scan_29 k2 rfl, xk_i, xk_l, xk_a, xk_n, xk_0, Option.toList_some, Option.toList_none, List.cons_append, List.nil_append]
    rw [sRS_scan_32 k2]
    have hd0 : (L.take B.length).drop 0 = L.take B.length := List.drop_zero
    refine c_wkR (D := fun _ => True) (ab := B.length) (lo := 0) hS hh (by omega) (by rw [hd0]; exact ok_raw hw hT) (fun _ _ _ _ _ => trivial) (fun M1 cur hW hS1 hO1 => ?_)
    rw [hd0, yR_raw hT, mG_R (cR_lt hw)] at hW
    simp only [sRS_scan_35, sRS_scan_37, sRS_scan_38, sRS_scan_40, sRS_scan_41, xk_i, xk_l, xk_a, xk_n, xk_0, Option.toList_some, Option.toList_none, List.cons_append, List.nil_append]
    have hlen := hW.len
    rw [List.length_map] at hlen
    refine scan_loop (s := x + 1) (V := scR (nth ((mG kR (cR TT)).filter (bgn (kyA p (nln p)))) k 0)) (M0 := M) (by have := kyA_lt p (nln_le p); omega) (fun M' hS' hO' => K M' (hB.same hS' (fun q hq => hO' q (by omega))) (fun q hq => hO' q (by omega))) _ 0 0 M1 cur (by omega) (Nat.le_refl _) (fun r hr => ?_) hS1 hW hO1 ?_ rfl
    · obtain ⟨q, hq, hm⟩ := mem_cR.mp (mG_sub hr)
      have := (hw q hq).2.2.2.2.2.1 r hm
      exact ⟨this.1.1, this.2.2.2.ok⟩
    · by_cases h0 : k < 0
      · exact Or.inl h0
      · obtain ⟨j, hj, rfl⟩ := nI_of h0
        exact Or.inr ⟨j, rfl, Nat.zero_le _, hj⟩
def prt (e : aent) (what : Int32) : Int32 := if what = nI 0 then nI e.2.1 else if what = nI 1 then nI e.2.2.1 else if what = nI 2 then nI e.2.2.2 else -1
theorem c_part {a : Nat} {n tm : Int32} {e : aent} {what : Int32} (he : okE e) (hc : M a = some (6, [.int tm, .ref (a + 1), .ref (a + 2), .int n, .long (rawE e).1, .int (rawE e).2.1, .long (rawE e).2.2])) : WP (d + 1) mRS_partOfEntry 0 [some (.ref a), some (.int what)] [] M z w Q ↔ Q (some (.int (prt e what))) M z w := by
  obtain ⟨h1, h2, h3, h4⟩ := he
  rw [sRS_partOfEntry_0]
  unfold prt
  by_cases q0 : what = nI 0
  · rw [if_pos q0, q0, sRS_partOfEntry_1_0]
    simp only [sRS_partOfEntry_28, sRS_partOfEntry_29 hc rfl, sRS_partOfEntry_32]
    rfl
  · rw [if_neg q0]
    by_cases q1 : what = nI 1
    · rw [if_pos q1, q1, sRS_partOfEntry_1_1]
      simp only [sRS_partOfEntry_33, sRS_partOfEntry_34 hc rfl]
      rw [sRS_partOfEntry_37, c_oldOf]
      simp only [sRS_partOfEntry_40, xk_i, xk_l, xk_a, xk_n, xk_0, Option.toList_some, Option.toList_none, List.cons_append, List.nil_append]
      rw [show (rawE e).2.2 = lN (e.2.2.1 * 65536 + e.2.2.2) from rfl, oldV_nI h3 h4]
    · rw [if_neg q1]
      by_cases q2 : what = nI 2
      · rw [if_pos q2, q2, sRS_partOfEntry_1_2]
        simp only [sRS_partOfEntry_41, sRS_partOfEntry_42 hc rfl]
        rw [sRS_partOfEntry_45, c_newOf]
        simp only [sRS_partOfEntry_48, xk_i, xk_l, xk_a, xk_n, xk_0, Option.toList_some, Option.toList_none, List.cons_append, List.nil_append]
        rw [show (rawE e).2.2 = lN (e.2.2.1 * 65536 + e.2.2.2) from rfl, newV_nI h3 h4]
      · rw [if_neg q2]
        have hr : what.toInt < 0 ∨ 2 < what.toInt := by
          rw [← Int32.toInt_inj] at q0 q1 q2
          have a0 : (nI 0).toInt = 0 := rfl
          have a1 : (nI 1).toInt = 1 := rfl
          have a2 : (nI 2).toInt = 2 := rfl
          omega
        rw [sRS_partOfEntry_1_d hr]
        simp only [sRS_partOfEntry_49, sRS_partOfEntry_50]
def lgR (o : Option aent) (what : Int32) : Int32 := match o with
  | none => -1
  | some e => prt e what
theorem log_loop {s h key n0 : Nat} {k what : Int32} {L : List (Nat × tS)} {D : Nat → Prop} {M0 : xM} {V : Int32} (hkey : key < 2 ^ 60) (K : ∀ M', SkAt M' s h L z → Only M0 M' (s + 6) 3 → Q (some (.int V)) M' z w) : ∀ (P : List aent) (c i : Nat) (M : xM) (cur : xrow), i + P.length ≤ 360 → c ≤ i → (∀ r ∈ P, okE r) → SkAt M s h L z → WkS M (s + 6) true D cur (P.map rawE) → Only M0 M (s + 6) 3 → (k < 0 ∨ ∃ j, k = nI j ∧ c ≤ j ∧ j < 2 ^ 31) → V = lgR (nth (P.filter (fun e => decide (e.1 = key))) k c) what →
    WP (d + 2) mRS_log 42 [some (.ref x), some (.long (lN n0)), none, some (.int k), some (.int what), some (.long (lN key)), none, some (.ref (s + 6)), some (.int (nI c)), some (.int (nI i))] [] M z w Q := by
  intro P
  induction P with
  | nil =>
    intro c i M cur hi hc hP hS hW hO hk hV
    obtain ⟨n', hcl⟩ := hW.cell
    rw [sRS_log_42]
    simp only [sRS_log_44, sRS_log_47, sRS_log_50]
    rw [if_neg (nI_ge (by simp at hi; omega) (by omega)), sRS_log_52 hcl]
    refine c_step hW (fun _ => ?_) (fun M' x P' e => by cases e)
    simp only [sRS_log_55, sRS_log_95, sRS_log_96, xk_i, xk_l, xk_a, xk_n, xk_0, Option.toList_some, Option.toList_none, List.cons_append, List.nil_append]
    rw [if_pos (by decide)]
    have : V = -1 := by
      rw [hV]
      unfold nth
      by_cases h0 : k < 0
      · rw [if_pos h0]; rfl
      · rw [if_neg h0]; rfl
    have hK := K M hS hO
    rw [this] at hK
    exact hK
  | cons r P ih =>
    intro c i M cur hi hc hP hS hW hO hk hV
    obtain ⟨n', hcl⟩ := hW.cell
    rw [sRS_log_42]
    simp only [sRS_log_44, sRS_log_47, sRS_log_50]
    rw [if_neg (nI_ge (by simp at hi; omega) (by omega)), sRS_log_52 hcl]
    refine c_step hW (fun e => by cases e) (fun M' y P' e ho hW' hO' => ?_)
    simp only [List.map_cons, List.cons.injEq] at e
    obtain ⟨rfl, rfl⟩ := e
    obtain ⟨n2, hc2⟩ := hW'.cell
    have hS' := hS.walktrue hO' hW'.idle
    have hr := hP r List.mem_cons_self
    have hr60 := hr.1
    have hP' : ∀ r ∈ P, okE r := fun a ha => hP a (List.mem_cons_of_mem _ ha)
    have hi' : i + 1 + P.length ≤ 360 := by simp at hi; omega
    have q0 : (rawE r).1 = lN key ↔ r.1 = key := lN_inj (a := r.1) (b := key) (by omega) (by omega)
    simp only [sRS_log_55, sRS_log_58, sRS_log_60 hc2 rfl, sRS_log_63, sRS_log_65, sRS_log_66, sRS_log_69, sRS_log_72, sRS_log_74, sRS_log_75, sRS_log_78, sRS_log_80, sRS_log_86, sRS_log_89, sRS_log_92, xk_i, xk_l, xk_a, xk_n, xk_0, Option.toList_some, Option.toList_none, List.cons_append, List.nil_append, lcmp_eq, lcmp_lt, lcmp_ge, lcmp_gt, lcmp_le, nI_add, q0]
    rw [if_neg (by decide)]
    by_cases h0 : r.1 = key
    · rw [if_pos h0]
      rw [List.filter_cons_of_pos (by simp [h0])] at hV
      by_cases heq : nI c = k
      · rw [if_pos heq]
        rw [← heq] at hV
        have hVr : V = prt r what := by
          rw [hV]
          unfold nth
          rw [if_neg (nI_pos (by omega)), nI_clamp (by omega), Nat.sub_self]
          rfl
        rw [sRS_log_82, c_part hr hc2]
        simp only [sRS_log_85, xk_i, xk_l, xk_a, xk_n, xk_0, Option.toList_some, Option.toList_none, List.cons_append, List.nil_append]
        rw [← hVr]
        exact K M' hS' (hO.trans hO')
      · rw [if_neg heq]
        refine ih (c + 1) (i + 1) M' _ hi' (by omega) hP' hS' hW' (hO.trans hO') ?_ ?_
        · rcases hk with q | ⟨j, q1, q2, q3⟩
          · exact Or.inl q
          · refine Or.inr ⟨j, q1, ?_, q3⟩
            rcases Nat.lt_or_eq_of_le q2 with q | q
            · exact q
            · exact absurd (by rw [q1, q]) heq
        · rw [hV]
          congr 1
          unfold nth
          rcases hk with q | ⟨j, q1, q2, q3⟩
          · rw [if_pos q, if_pos q]
          · subst q1
            have : c ≠ j := fun q => heq (by rw [q])
            rw [if_neg (nI_pos q3), if_neg (nI_pos q3), nI_clamp q3, show j - c = (j - (c + 1)) + 1 by omega, List.getElem?_cons_succ]
    · rw [if_neg h0]
      rw [List.filter_cons_of_neg (by simp [h0])] at hV
      exact ih c (i + 1) M' _ hi' (by omega) hP' hS' hW' (hO.trans hO') hk hV
noncomputable def lgS (B : List (List Nat)) (n : Nat) (k what : Int32) : Int32 := match vw B with
  | none => -2
  | some TT => lgR (nth ((sS ek (cE TT)).filter (fun e => decide (e.1 = gkey n))) k 0) what
theorem c_RS_log {n : Nat} {k what : Int32} (hn : n < 2 ^ 64) (hK : KAt M x z w wb B tx) (K : ∀ M', KAt M' x z w wb B tx → OnlyK M M' x → Q (some (.int (lgS B n k what))) M' z w) : WP (d + 3) mRS_log 0 [some (.ref x), some (.long (lN n)), none, some (.int k), some (.int what), none, none, none, none, none] [] M z w Q := by
  have k1 := hK.cell
  have k2 := hK.sk
  simp only [sRS_log_0, sRS_log_1 k1 rfl]
  rw [sRS_log_4 k2, c_isDam hK]
  unfold lgS at K
  cases hv : vw B with
  | none =>
    rw [hv] at K
    simp only [sRS_log_7, sRS_log_10, sRS_log_12, xk_i, xk_l, xk_a, xk_n, xk_0, Option.toList_some, Option.toList_none, List.cons_append, List.nil_append]
    rw [if_neg (show ¬ nI (if (none : Option (List ptab)).isNone = true then 1 else 0) = nI 0 by decide)]
    exact K M hK OnlyK.rf
  | some TT =>
    rw [hv] at K
    obtain ⟨L, cs, hB⟩ := hK.b
    have hS := hB.2.1
    have hT := hB.raw hv
    have hw := vw_w0 hv
    have hh := hS.2.2.2.2.2.2.1
    simp only [sRS_log_7, sRS_log_10, sRS_log_12, sRS_log_13, xk_i, xk_l, xk_a, xk_n, xk_0, Option.toList_some, Option.toList_none, List.cons_append, List.nil_append]
    rw [if_pos (show nI (if (some TT).isNone = true then 1 else 0) = nI 0 from rfl), sRS_log_14, c_goodKey hn]
    simp only [sRS_log_17, sRS_log_19, sRS_log_20 k1 rfl, sRS_log_23, sRS_log_24, sRS_log_25 k1 rfl, sRS_log_28 k2 rfl, xk_i, xk_l, xk_a, xk_n, xk_0, Option.toList_some, Option.toList_none, List.cons_append, List.nil_append]
    rw [sRS_log_31 k2]
    have hd0 : (L.take B.length).drop 0 = L.take B.length := List.drop_zero
    have hok := ok_raw hw hT
    refine c_walkEntries (D := fun _ => True) (ab := B.length) (lo := 0) hS hh (by omega) (by rw [hd0]; exact fun e he => ⟨(hok e he).2.2.1, (hok e he).2.2.2⟩) (fun _ _ _ _ _ => trivial) (fun M1 cur hW hc0 hO1 => ?_)
    have hS1 := hS.walktrue hO1 hW.idle
    rw [hd0, show (L.take B.length).reverse.flatMap (fun e => e.2.2.2.2.2.2) = yE (L.take B.length) from rfl, yE_raw hT, sS_E (cE_lt hw)] at hW
    simp only [sRS_log_34, sRS_log_36, sRS_log_37, sRS_log_39, sRS_log_40, xk_i, xk_l, xk_a, xk_n, xk_0, Option.toList_some, Option.toList_none, List.cons_append, List.nil_append]
    have hlen : ((sS ek (cE TT)).map rawE).length ≤ 360 := by obtain ⟨_, _, _, q, _⟩ := hW; exact q
    rw [List.length_map] at hlen
    refine log_loop (d := d + 1) (s := x + 1) (V := lgR (nth ((sS ek (cE TT)).filter (fun e => decide (e.1 = gkey n))) k 0) what) (M0 := M) (gkey_lt n) (fun M' hS' hO' => K M' (hB.same hS' (fun q hq => hO' q (by omega))) (fun q hq => hO' q (by omega))) _ 0 0 M1 cur (by omega) (Nat.le_refl _) (fun r hr => ?_) hS1 hW hO1 ?_ rfl
    · obtain ⟨q, hq, hm⟩ := mem_cE.mp (mem_sS.mp hr)
      exact ((hw q hq).2.2.2.2.2.2 r hm).ok (hw q hq).2.2.1
    · by_cases h0 : k < 0
      · exact Or.inl h0
      · obtain ⟨j, hj, rfl⟩ := nI_of h0
        exact Or.inr ⟨j, rfl, Nat.zero_le _, hj⟩
end CL4
