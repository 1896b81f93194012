/-! making, the library, calls; then: what the small machine answers, the real one answers -/
section XG2
variable {p : Program} {l : Launch} {e : Env} {R : Room} {s : State} {mi : MethodId} {args : Array Value} {below : List Frame} {meth : Method} {c : Code} {H : Heap} {locs : List Loc} {cells slots : Nat} {Q : State → Prop}
variable {dC : Nat → ClassId} {dI : Nat → Nat → Nat} {dA : Nat → ClassId} {b0 z w d : Nat} {M M' : xM} {m : xY}
variable {pc n : Nat} {ls : Array Slot} {st st' : List Value} {lo lo' : xL} {pc' len : Nat} {ins : Instr}
theorem xac_int : Cond.arrayClass .int ∈ xtbl := xin 135 (by decide +kernel) rfl
theorem xac_long : Cond.arrayClass .long ∈ xtbl := xin 182 (by decide +kernel) rfl
theorem xac_byte : Cond.arrayClass .byte ∈ xtbl := xin 746 (by decide +kernel) rfl
theorem xpushed (hH : xH b0 dC dI dA M z s H locs) (hb0 : b0 ≤ s.heap.size) {k N : Nat} {ty : FieldType} {v : Value} (hk : xEl k = some ty) : xH b0 dC dI dA (xput M z (k, List.replicate N v)) (z + 1) s (H.push { cls := dA k, slots := Array.replicate N v, vm := .none }) locs := by
  have hz := hH.1
  subst hz
  refine hH.push hb0 (xat.mkarr (c := (k, List.replicate N v)) hk (cell := { cls := dA k, slots := Array.replicate N v, vm := .none }) (by simp) rfl (fun h => by cases h) (fun _ h => by cases h) (by simp)) (by simp) (fun q hq => ?_)
  rw [Array.getElem?_push, if_neg (Nat.ne_of_lt hq)]
theorem xnewa_ok {at' : ArrayType} {k : Nat} {ty : FieldType} {v : Value} {N : Nat} {x : Int32} {r : List Value} (G : xG m d p R s mi args meth c b0 dC dI dA) (hd : decode m.2.2.2.1 pc = .ok (.newarray at', 2)) (hw : Cond.arrayClass (newarray.typeOf at') ∈ xtbl) (hty : newarray.typeOf at' = ty) (hv : defaultValue ty = v) (hk : xEl k = some ty) (h30 : k ≠ 30) (hby : componentBytes ty ≤ 8) (h0 : ¬ x < 0) (hN : x.toNatClampNeg = N) (hN2 : N ≤ 1000000) (hH : xH b0 dC dI dA M z s H locs)
    (hc : cells + 1 ≤ R.cells) (hs : slots + N ≤ R.slots) (kk : ∀ H', xH b0 dC dI dA (xput M z (k, List.replicate N v)) (z + 1) s H' locs → W p l e R s mi args below meth c H' locs (cells + 1) (slots + N) Q (F0 mi (pc + 2) ls (.ref z :: r))) : W p l e R s mi args below meth c H locs cells slots Q (F0 mi pc ls (.int x :: r)) := by
  obtain ⟨hx, hb, hr, hml, hown, hts, hlk, hini, hK, hb0, hfr, hloc, hO⟩ := G
  subst hty; subst hN
  have hz := hH.1
  refine W.newa hx hb (hts _ hw) rfl hd rfl h0 (Nat.le_trans (Nat.mul_le_mul hN2 hby) (by decide)) hc hs (fun cA kA comp h1 h2 h3 => ?_)
  obtain ⟨kA', comp', k1, k2, k3, -⟩ := hK.2.1 k _ hk
  have e1 : cA = dA k := Option.some.inj (h1.symm.trans (k3 h30))
  subst e1
  rw [hv, hz]
  exact kk _ (xpushed hH hb0 hk)
set_option maxHeartbeats 1000000 in
theorem xmak_ok {cl : xC} (G : xG m d p R s mi args meth c b0 dC dI dA) (hd : decode m.2.2.2.1 pc = .ok (ins, len)) (hlen : xlen ins len = true) (h : xmak m ins pc st = some (pc', st', cl)) (hH : xH b0 dC dI dA M z s H locs) (hc : cells + 1 ≤ R.cells) (hs : slots + cl.2.length ≤ R.slots)
    (kk : ∀ H', xH b0 dC dI dA (xput M z cl) (z + 1) s H' locs → W p l e R s mi args below meth c H' locs (cells + 1) (slots + cl.2.length) Q (F0 mi pc' ls (.ref z :: st'))) : W p l e R s mi args below meth c H locs cells slots Q (F0 mi pc ls st) := by
  have G' := G
  obtain ⟨hx, hb, hr, hml, hown, hts, hlk, hini, hK, hb0, hfr, hloc, hO⟩ := G
  cases ins with
  | new k =>
    simp [xlen] at hlen; subst hlen
    obtain ⟨t, ht, hq⟩ := Option.map_eq_some_iff.mp (h : (xnew m.1 k).map _ = _)
    simp only [Prod.mk.injEq] at hq
    obtain ⟨rfl, rfl, rfl⟩ := hq
    obtain ⟨own, r, h1, h2, h3⟩ := xNewT_ok _ (xfind ht)
    dsimp only at h1 h2 h3
    cases hO.symm.trans h1
    obtain ⟨k1, k2, k3, k4, k5, k6, k7⟩ := xCl_ok _ _ h2
    have hKn := hK.1 _ _ h2
    have hz := hH.1
    rw [k4] at hs
    have kk' := kk
    rw [k4] at kk'
    refine W.newcK hx hb hown (hts _ h3) (hts _ k6) (hts _ k7) rfl hd hc hs hKn.2.1 hz (fun H1 kC hkC e1 z1 o1 => ?_)
    refine kk' H1 (hH.push hb0 ?_ z1 o1)
    unfold xat
    dsimp only
    rw [h2]
    exact ⟨k4, (u_born (xTyp t) hts k1 hKn hkC e1 k2).to k5⟩
  | newarray ty =>
    simp [xlen] at hlen; subst hlen
    cases ty with
    | int =>
      simp only [xmak, xarr] at h
      split at h
      · rename_i q x r hq
        cases hq
        split at h
        · rename_i hc'
          simp only [Option.some.injEq, Prod.mk.injEq] at h
          obtain ⟨rfl, rfl, rfl⟩ := h
          simp only [List.length_replicate] at hs kk
          exact xnewa_ok G' hd xac_int rfl rfl rfl (by decide) (by decide) hc'.1 rfl hc'.2 hH hc hs kk
        · cases h
      · cases h
    | long =>
      simp only [xmak, xarr] at h
      split at h
      · rename_i q x r hq
        cases hq
        split at h
        · rename_i hc'
          simp only [Option.some.injEq, Prod.mk.injEq] at h
          obtain ⟨rfl, rfl, rfl⟩ := h
          simp only [List.length_replicate] at hs kk
          exact xnewa_ok G' hd xac_long rfl rfl rfl (by decide) (by decide) hc'.1 rfl hc'.2 hH hc hs kk
        · cases h
      · cases h
    | byte =>
      simp only [xmak, xarr] at h
      split at h
      · rename_i q x r hq
        cases hq
        split at h
        · rename_i hc'
          simp only [Option.some.injEq, Prod.mk.injEq] at h
          obtain ⟨rfl, rfl, rfl⟩ := h
          simp only [List.length_replicate] at hs kk
          exact xnewa_ok G' hd xac_byte rfl rfl rfl (by decide) (by decide) hc'.1 rfl hc'.2 hH hc hs kk
        · cases h
      · cases h
    | _ => exact absurd h (by simp [xmak, xarr])
  | anewarray k =>
    simp [xlen] at hlen; subst hlen
    simp only [xmak] at h
    split at h
    · rename_i t x r ht
      split at h
      · rename_i hc'
        simp only [Option.some.injEq, Prod.mk.injEq] at h
        obtain ⟨rfl, rfl, rfl⟩ := h
        simp only [List.length_replicate] at hs kk
        obtain ⟨own, h1, h2, h3, h4⟩ := xAnT_ok _ (xfind ht)
        dsimp only at h1 h2 h3 h4
        cases hO.symm.trans h1
        have hE : xEl t = some (.object (xAC t)) ∧ t ≠ 30 := by rcases h2 with rfl | rfl <;> exact ⟨rfl, by decide⟩
        have hz := hH.1
        refine W.anew hx hb hown (hts _ h3) (va_AO.use (hK.2.2 _ h4)) rfl hd rfl hc'.1 (Nat.le_trans (Nat.mul_le_mul_right 4 hc'.2) (by decide)) hc hs (fun cA kA comp g1 g2 g3 g4 => ?_)
        obtain ⟨kA', comp', k1, k2, k3, -⟩ := hK.2.1 t _ hE.1
        have e1 : cA = dA t := Option.some.inj (g1.symm.trans (k3 hE.2))
        subst e1
        rw [hz]
        exact kk _ (xpushed hH hb0 hE.1)
      · cases h
    · cases h
  | _ => exact absurd h (by simp [xmak])
theorem xmth1 : Cond.methodLink "RefStack$TableStack" 46 Lib.Math.max.name ∈ xtbl := xin 267 (by decide +kernel) rfl
theorem xmth2 : Cond.static Lib.Math.max.name ∈ xtbl := xin 268 (by decide +kernel) rfl
theorem xmth3 : Cond.code Lib.Math.max.name Lib.Math.max.code 2 (some .int) ∈ xtbl := xin 269 (by decide +kernel) rfl
theorem xmth4 : Cond.methodLink "RefStack$TableStack" 112 Lib.MathLoose.max_long.x ∈ xtbl := xin 387 (by decide +kernel) rfl
theorem xmth5 : Cond.static Lib.MathLoose.max_long.x ∈ xtbl := xin 388 (by decide +kernel) rfl
theorem xmth6 : Cond.code Lib.MathLoose.max_long.x Lib.MathLoose.max_long.code 4 (some .long) ∈ xtbl := xin 389 (by decide +kernel) rfl
theorem xmth7 : Cond.methodLink "RefStack$TableStack" 40 Lib.Math.min.name ∈ xtbl := xin 264 (by decide +kernel) rfl
theorem xmth8 : Cond.static Lib.Math.min.name ∈ xtbl := xin 265 (by decide +kernel) rfl
theorem xmth9 : Cond.code Lib.Math.min.name Lib.Math.min.code 2 (some .int) ∈ xtbl := xin 266 (by decide +kernel) rfl
theorem xmth0 : Cond.initialized "java/lang/Math" ∈ xtbl := xin 67 (by decide +kernel) rfl
theorem xobj_mem {c k : Nat} (h : xobj c k = true) : (c, k) ∈ xObT := by
  obtain ⟨e, h1, h2⟩ := List.any_eq_true.mp h
  simp at h2
  obtain ⟨e1, e2⟩ := e
  obtain ⟨rfl, rfl⟩ := h2
  exact h1
set_option maxHeartbeats 1000000 in
theorem xlib_ok {r : List Value} (G : xG m (d + 1) p R s mi args meth c b0 dC dI dA) (hd : decode m.2.2.2.1 pc = .ok (ins, len)) (hlen : xlen ins len = true) (h : xlib m ins st = some r) (hr8 : xcat r ≤ 8) (hls : ls.size = m.2.2.2.2.1) (hcl : cells ≤ R.cells) (hsl : slots ≤ R.slots)
    (kk : W p l e R s mi args below meth c H locs cells slots Q (F0 mi (pc + 3) ls r)) : W p l e R s mi args below meth c H locs cells slots Q (F0 mi pc ls st) := by
  obtain ⟨hx, hb, hr, hml, hown, hts, hlk, hini, hK, hb0, hfr, hloc, hO⟩ := G
  have hf1 : 1 ≤ R.frames := by omega
  have hl1 : 39 ≤ R.locals := by omega
  have hsz : c.maxLocals = ls.size := by rw [hml, hls]
  cases ins with
  | invokespecial k =>
    simp [xlen] at hlen; subst hlen
    simp only [xlib] at h
    split at h
    · rename_i ho
      split at h
      · rename_i a r'
        cases h
        obtain ⟨own, h1, h2⟩ := xObT_ok _ (xobj_mem ho)
        dsimp only at h1 h2
        cases hO.symm.trans h1
        refine W.objInit hx hb hown (hts _ h2) (hts _ xob_i) (hts _ xob_c) rfl hsz.symm rfl hd hf1 ?_ kk
        show 2 * 0 + xcat r + 12 ≤ R.locals
        omega
      · cases h
    · cases h
  | invokestatic k =>
    simp [xlen] at hlen; subst hlen
    simp only [xlib] at h
    split at h
    · rename_i hc
      obtain ⟨e1, rfl⟩ := hc
      rw [e1] at hO
      have hO' : "RefStack$TableStack" = m.2.2.1.cls := Option.some.inj hO
      rw [← hO'] at hown
      split at h
      · rename_i y x r'
        cases h
        refine va_mmax hx hb hsz hown (hts _ xmth1) (hts _ xmth2) (hts _ xmth0) (hts _ xmth3) hf1 ?_ hcl hsl hd kk
        have : xcat r' + 1 ≤ 8 := by simpa [xcat, Value.category, Nat.add_comm] using hr8
        show xcat r' + 13 ≤ R.locals
        omega
      · cases h
    · split at h
      · rename_i hc
        obtain ⟨e1, rfl⟩ := hc
        rw [e1] at hO
        have hO' : "RefStack$TableStack" = m.2.2.1.cls := Option.some.inj hO
        rw [← hO'] at hown
        split at h
        · rename_i y x r'
          cases h
          refine va_mmax_long hx hb hsz hown (hts _ xmth4) (hts _ xmth5) (hts _ xmth0) (hts _ xmth6) hf1 ?_ hcl hsl hd kk
          have : xcat r' + 2 ≤ 8 := by simpa [xcat, Value.category, Nat.add_comm] using hr8
          show xcat r' + 15 ≤ R.locals
          omega
        · cases h
      · split at h
        · rename_i hc
          obtain ⟨e1, rfl⟩ := hc
          rw [e1] at hO
          have hO' : "RefStack$TableStack" = m.2.2.1.cls := Option.some.inj hO
          rw [← hO'] at hown
          split at h
          · rename_i y x r'
            cases h
            refine va_mmin hx hb hsz hown (hts _ xmth7) (hts _ xmth8) (hts _ xmth0) (hts _ xmth9) hf1 ?_ hcl hsl hd kk
            have : xcat r' + 1 ≤ 8 := by simpa [xcat, Value.category, Nat.add_comm] using hr8
            show xcat r' + 13 ≤ R.locals
            omega
          · cases h
        · cases h
  | _ => exact absurd h (by simp [xlib])
theorem xret_inv {v : Option Value} (h : xret m ins st = some v) : st = v.toList ∧ ((∃ x ty, ins = .ireturn ∧ v = some (.int x) ∧ m.2.2.2.2.2 = some ty ∧ narrow ty (.int x) = .int x) ∨ (∃ x, ins = .lreturn ∧ v = some (.long x) ∧ m.2.2.2.2.2 = some .long) ∨ (∃ u C, ins = .areturn ∧ v = some u ∧ (u = .null ∨ ∃ a, u = .ref a) ∧ m.2.2.2.2.2 = some (.object C)) ∨ (ins = .return_ ∧ v = none ∧ m.2.2.2.2.2 = none)) := by
  cases ins with
  | ireturn =>
    simp only [xret] at h
    split at h
    · rename_i x ty hq
      split at h
      · rename_i hn; cases h; exact ⟨rfl, Or.inl ⟨x, ty, rfl, rfl, hq, hn⟩⟩
      · cases h
    · cases h
  | lreturn =>
    simp only [xret] at h
    split at h
    · rename_i x hq
      cases h; exact ⟨rfl, Or.inr (Or.inl ⟨x, rfl, rfl, hq⟩)⟩
    · cases h
  | areturn =>
    simp only [xret] at h
    split at h
    · rename_i x C hq
      cases h; exact ⟨rfl, Or.inr (Or.inr (Or.inl ⟨_, C, rfl, rfl, Or.inr ⟨x, rfl⟩, hq⟩))⟩
    · rename_i C hq
      cases h; exact ⟨rfl, Or.inr (Or.inr (Or.inl ⟨_, C, rfl, rfl, Or.inl rfl, hq⟩))⟩
    · cases h
  | return_ =>
    simp only [xret] at h
    split at h
    · rename_i hq
      cases h; exact ⟨rfl, Or.inr (Or.inr (Or.inr ⟨rfl, rfl, hq⟩))⟩
    · cases h
  | _ => exact absurd h (by simp [xret])
end XG2
/-- what it means: from this frame on the real machine comes to a return with this answer and this memory -/
def xSem (d : Nat) (m : xY) (pc : Nat) (lo : xL) (st : List Value) (M : xM) (z w : Nat) (r : xR) : Prop :=
  ∀ {p : Program} {l : Launch} {e : Env} {R : Room} {s : State} {mi : MethodId} {args : Array Value} {below : List Frame} {meth : Method} {c : Code} {H : Heap} {locs : List Loc} {Q : State → Prop} {dC : Nat → ClassId} {dI : Nat → Nat → Nat} {dA : Nat → ClassId} {b0 zb wb : Nat} {ls : Array Slot},
    xG m d p R s mi args meth c b0 dC dI dA → xH b0 dC dI dA M z s H locs → xhas ls m.2.2.2.2.1 lo → zb ≤ z → wb ≤ w → r.2.2.1 - zb ≤ R.cells → r.2.2.2 - wb ≤ R.slots →
    (∀ (H' : Heap) (locs' : List Loc) (pc' : Nat) (ls' : Array Slot) (ins : Instr), xH b0 dC dI dA r.2.1 r.2.2.1 s H' locs' → decode m.2.2.2.1 pc' = .ok (ins, 1) → xret m ins r.1.toList = some r.1 → W p l e R s mi args below meth c H' locs' (r.2.2.1 - zb) (r.2.2.2 - wb) Q (F0 mi pc' ls' r.1.toList)) →
    W p l e R s mi args below meth c H locs (z - zb) (w - wb) Q (F0 mi pc ls st)
theorem xsl_len (as : List Value) : (xsl as).length = (lg_sl as).length := by
  induction as with
  | nil => rfl
  | cons v t ih =>
    have h1 : xsl (v :: t) = (if v.category = 2 then [some v, none] else [some v]) ++ xsl t := rfl
    have h2 : lg_sl (v :: t) = (if v.category = 2 then [.val v, .second] else [.val v]) ++ lg_sl t := rfl
    rw [h1, h2, List.length_append, List.length_append, ih]
    by_cases h : v.category = 2 <;> simp [h]
theorem xl_rep (n i : Nat) : xl (List.replicate n none) i = none := by
  induction n generalizing i with
  | zero => rfl
  | succ n ih => cases i with
    | zero => rfl
    | succ i => exact ih i
theorem xent_mem : ∀ (as : List Value) (k n i : Nat) (v : Value), xl (xsl as ++ List.replicate n none) i = some v → (k + i, v) ∈ lv_args k as
  | [], k, n, i, v, h => by
    have : xl (List.replicate n none) i = some v := h
    rw [xl_rep] at this
    cases this
  | u :: t, k, n, i, v, h => by
    have h1 : xsl (u :: t) = (if u.category = 2 then [some u, none] else [some u]) ++ xsl t := rfl
    rw [h1] at h
    by_cases hc : u.category = 2
    · rw [if_pos hc] at h
      match i, h with
      | 0, h => cases h; exact List.mem_cons_self
      | 1, h => cases h
      | i + 2, h =>
        have := xent_mem t (k + 2) n i v h
        refine List.mem_cons_of_mem _ ?_
        rw [if_pos hc, show k + (i + 2) = k + 2 + i by omega]
        exact this
    · rw [if_neg hc] at h
      match i, h with
      | 0, h => cases h; exact List.mem_cons_self
      | i + 1, h =>
        have := xent_mem t (k + 1) n i v h
        refine List.mem_cons_of_mem _ ?_
        rw [if_neg hc, show k + (i + 1) = k + 1 + i by omega]
        exact this
def xPc (b0 : Nat) (dC : Nat → ClassId) (dI : Nat → Nat → Nat) (dA : Nat → ClassId) (as : List Value) (M : xM) (z : Nat) : Array Value → State → Prop := va_Pc as (fun U => U.heap.size = z ∧ (∀ a c, M a = some c → (b0 ≤ a ∨ c.1 = 30) ∧ xat dC dI dA a c U.heap) ∧ b0 ≤ U.heap.size ∧ xKn dC dI dA U)
def xQc (b0 : Nat) (dC : Nat → ClassId) (dI : Nat → Nat → Nat) (dA : Nat → ClassId) (q : xR) : Array Value → State → Outcome → State → Prop := fun _ st oc t => oc = .returned q.1 ∧ t.heap.size = q.2.2.1 ∧ (∀ a c, q.2.1 a = some c → (b0 ≤ a ∨ c.1 = 30) ∧ xat dC dI dA a c t.heap) ∧ va_F (fun x => b0 ≤ x) st t
abbrev xrm (d mc ms : Nat) : Room := { frames := d, cells := mc, slots := ms, locals := 39 * d }
abbrev xws (y : xY) : List Cond := Cond.code y.2.2.1 y.2.2.2.1 y.2.2.2.2.1 y.2.2.2.2.2 :: xtbl
set_option maxHeartbeats 1000000 in
theorem xMet {l : Launch} {b0 : Nat} {dC : Nat → ClassId} {dI : Nat → Nat → Nat} {dA : Nat → ClassId} {d z w : Nat} {y : xY} {as : List Value} {M : xM} {q : xR} (hy : xMOK y) (hS : xSem d y 0 (xent as y.2.2.2.2.1) [] M z w q) (hlen : (xsl as).length ≤ y.2.2.2.2.1) :
    Met l y.2.2.1 (xws y) (xrm d (q.2.2.1 - z) (q.2.2.2 - w)) (xPc b0 dC dI dA as M z) (xQc b0 dC dI dA q) (q.2.2.1 - z) (q.2.2.2 - w) (fun x => b0 ≤ x) := by
  refine Met.ofW (cc := y.2.2.2.1) (maxL := y.2.2.2.2.1) (ret := y.2.2.2.2.2) hy.2.2.2.2.2.1 rfl ?_
  intro p e s mi args below meth c s₁ B hml hv
  obtain ⟨rfl, hsz, hM, hb0, hK⟩ := hv
  have hts0 := atoms_spec (ws := xws y) B.pre
  have G : xG y d p (headSpec (xws y) (xrm d (q.2.2.1 - z) (q.2.2.2 - w))).room s mi as.toArray meth c b0 dC dI dA :=
    ⟨B.exec, B.bytes, B.returns, hml, findClass_of_methodNamed B.named, fun w h => hts0 w (List.mem_cons_of_mem _ h), B.notSynchronized, fun h => by rw [(name_of_methodNamed B.named B.method).1]; exact h, hK, hb0, Nat.le_refl _, Nat.le_refl _, hy.1⟩
  have hl := lv_entry as (n := y.2.2.2.2.1) (by rw [← xsl_len]; exact hlen)
  rw [lg_entry_eq]
  generalize (lg_sl as ++ List.replicate (y.2.2.2.2.1 - (lg_sl as).length) Slot.unset).toArray = ls at hl ⊢
  have hls : xhas ls y.2.2.2.2.1 (xent as y.2.2.2.2.1) := ⟨_, hl, fun i v h => by have := xent_mem as 0 _ i v h; simpa using this⟩
  have K := @hS p l e (headSpec (xws y) (xrm d (q.2.2.1 - z) (q.2.2.2 - w))).room s mi as.toArray below meth c s.heap [] (MQ below (xQc b0 dC dI dA q) as.toArray s (q.2.2.1 - z) (q.2.2.2 - w) (fun x => b0 ≤ x)) dC dI dA b0 z w ls G ⟨hsz, hM, va_S.rf⟩ hls (Nat.le_refl _) (Nat.le_refl _) (Nat.le_refl _) (Nat.le_refl _) ?_
  · rw [Nat.sub_self, Nat.sub_self] at K
    exact K
  · intro H' locs' pc' ls' ins hH' hd' hr'
    obtain ⟨hx, hb, hr, -, -, -, hlocks, -⟩ := G
    have hq : ∀ t : State, t.heap = H' → s.WarmedH t.vm → xQc b0 dC dI dA q as.toArray s (.returned q.1) t := fun t ht _ => ⟨rfl, by rw [ht]; exact hH'.1, by rw [ht]; exact hH'.2.1, hH'.2.2.F ht⟩
    rcases (xret_inv hr').2 with ⟨x, ty, rfl, e1, e2, e3⟩ | ⟨x, rfl, e1, e2⟩ | ⟨u, C, rfl, e1, e2, e3⟩ | ⟨rfl, e1, e2⟩
    · rw [e1] at hq ⊢
      exact W.zret hx hb (hr.trans e2) e3 hq hH'.2.2.2.2 hd'
    · rw [e1] at hq ⊢
      exact W.lret hx hb (hr.trans e2) hq hH'.2.2.2.2 hd'
    · rw [e1] at hq ⊢
      exact W.aret hx hb (hr.trans e3) (Or.inl ⟨_, rfl⟩) e2 hq hH'.2.2.2.2 hd'
    · rw [e1] at hq ⊢
      exact W.vret hx hb (hr.trans e2) hq hH'.2.2.2.2 hd'
section XC
variable {p : Program} {l : Launch} {e : Env} {R : Room} {s : State} {mi : MethodId} {args : Array Value} {below : List Frame} {meth : Method} {c : Code} {H : Heap} {locs : List Loc} {cells slots : Nat} {Q : State → Prop}
variable {dC : Nat → ClassId} {dI : Nat → Nat → Nat} {dA : Nat → ClassId} {b0 z w d : Nat} {M M' : xM} {m y : xY}
variable {pc n : Nat} {ls : Array Slot} {st st' : List Value} {lo lo' : xL} {pc' len : Nat} {ins : Instr} {as r : List Value} {q : xR}
theorem xback {A : Array Value} (hr : va_Run p l e R s mi args below meth c H locs cells slots (q.2.2.1 - z) (q.2.2.2 - w) (F0 mi pc ls st) r (xQc b0 dC dI dA q A) (fun x => b0 ≤ x)) (hH : xH b0 dC dI dA M z s H locs)
    (kk : ∀ H' locs', xH b0 dC dI dA q.2.1 q.2.2.1 s H' locs' → W p l e R s mi args below meth c H' locs' (cells + (q.2.2.1 - z)) (slots + (q.2.2.2 - w)) Q (F0 mi (pc + 3) ls (q.1.toList ++ r))) : W p l e R s mi args below meth c H locs cells slots Q (F0 mi pc ls st) := by
  intro T hT X
  obtain ⟨v, st₀, t, T', L, h0, X', hL, e1, e2, ⟨hv, hz, hM', hF⟩, stp⟩ := hr T hT X
  cases hv
  have hS := hH.2.2
  obtain ⟨t2, a1, b1⟩ := kk T'.heap (locs ++ L) ⟨by rw [e1]; exact hz, by rw [e1]; exact hM', ⟨Nat.le_trans hS.1 (by rw [e1, ← h0]; exact hF.1), fun x h1 h2 => by rw [e1, hF.2 x (by rw [h0]; exact Nat.lt_of_lt_of_le h1 hS.1) h2, h0]; exact hS.2.1 x h1 h2, fun x hx => by
    rcases List.mem_append.mp hx with h | h
    · exact hS.2.2 x h
    · exact hL x h⟩⟩ T' rfl X'
  exact ⟨t2, stp t2 a1, b1⟩
theorem xblind : FrameBlind (xPc b0 dC dI dA as M z) := fun a U g mk q => ⟨q.1, q.2.1, q.2.2.1, q.2.2.2.1, xKn.same (s := U) (U := U.calling g mk a) rfl q.2.2.2.2⟩
theorem xpre (hK : xKn dC dI dA s) (hb0 : b0 ≤ s.heap.size) (hH : xH b0 dC dI dA M z s H locs) : ∀ U : State, U.heap = H → s.WarmedH U.vm → xPc b0 dC dI dA as M z as.toArray U := fun U hU hW => ⟨rfl, by rw [hU]; exact hH.1, by rw [hU]; exact hH.2.1, by rw [hU]; exact Nat.le_trans hb0 hH.2.2.1, hK.warm hW⟩
theorem xgood : GoodIn xtbl (xws y) ↔ Cond.code y.2.2.1 y.2.2.2.1 y.2.2.2.2.1 y.2.2.2.2.2 ∈ xtbl := by
  constructor
  · intro h; exact (h _ List.mem_cons_self).1
  · intro h w hw
    rcases List.mem_cons.mp hw with rfl | hw
    · exact ⟨h, good_of_word (List.mem_filter.mp h).2⟩
    · exact ⟨hw, good_of_word (List.mem_filter.mp hw).2⟩
set_option maxHeartbeats 1000000 in
theorem xinv_ok (G : xG m (d + 1) p R s mi args meth c b0 dC dI dA) (hd : decode m.2.2.2.1 pc = .ok (ins, len)) (hlen : xlen ins len = true) (h : xinv m ins st M = some (y, as, r)) (hr8 : xcat r ≤ 8) (hlen2 : (xsl as).length ≤ y.2.2.2.2.1) (hls : ls.size = m.2.2.2.2.1) (hH : xH b0 dC dI dA M z s H locs)
    (hS : xSem d y 0 (xent as y.2.2.2.2.1) [] M z w q) (hc : cells + (q.2.2.1 - z) ≤ R.cells) (hs : slots + (q.2.2.2 - w) ≤ R.slots)
    (kk : ∀ H' locs', xH b0 dC dI dA q.2.1 q.2.2.1 s H' locs' → W p l e R s mi args below meth c H' locs' (cells + (q.2.2.1 - z)) (slots + (q.2.2.2 - w)) Q (F0 mi (pc + 3) ls (q.1.toList ++ r))) : W p l e R s mi args below meth c H locs cells slots Q (F0 mi pc ls st) := by
  obtain ⟨hx, hb, hr, hml, hown, hts, hlk, hini, hK, hb0, hfr, hloc, hO⟩ := G
  have fin : ∀ (hy : xMOK y) {k : Nat}, (xrm d (q.2.2.1 - z) (q.2.2.2 - w)).frames + 1 ≤ R.frames ∧ 8 + (y.2.2.2.2.1 + 11) + (xrm d (q.2.2.1 - z) (q.2.2.2 - w)).locals ≤ R.locals := by
    intro hy k
    have := hy.2.1
    exact ⟨hfr, by show 8 + (y.2.2.2.2.1 + 11) + 39 * d ≤ R.locals; omega⟩
  have hsum : 2 * (F0 mi pc ls st).monitorRoom + (r.map fun v => v.category).sum ≤ 8 := by
    show 2 * 0 + xcat r ≤ 8
    omega
  have hrev : ∀ k, k ≤ st.length → st = (st.take k).reverse.reverse ++ st.drop k := fun k _ => by rw [List.reverse_reverse, List.take_append_drop]
  cases ins with
  | invokestatic k =>
    simp [xlen] at hlen; subst hlen
    simp only [xinv] at h
    split at h
    · rename_i i hcal
      split at h
      · rename_i y' hy'
        split at h
        · rename_i hle
          simp only [Option.some.injEq, Prod.mk.injEq] at h
          obtain ⟨rfl, rfl, rfl⟩ := h
          have hy : xMOK y' := xMs_ok _ (List.mem_of_getElem? hy')
          obtain ⟨own, y2, h1, h2, h3⟩ := xCallT_ok _ (xfind hcal)
          dsimp only at h1 h2 h3
          cases hO.symm.trans h1
          cases hy'.symm.trans h2
          have hcb := callB_of (own := m.2.2.1.cls) (index := k) (y := y'.2.2.1) (R := R) (rm := xrm d (q.2.2.1 - z) (q.2.2.2 - w)) (mc := q.2.2.1 - z) (ms := q.2.2.2 - w) y'.2.1 hts (xgood.mpr hy.2.2.2.2.2.2) rfl rfl rfl (hts _ hy.2.2.1) (hts _ h3.1) ⟨hy.2.2.2.1.1, hy.2.2.2.1.2, hy.2.2.2.2.1⟩ (fin hy (k := k))
          refine xback (va_runS (As := (st.take y'.2.1).reverse) (n := y'.2.1) ⟨hx, hb, hml, hown, hts⟩ (xMet (l := l) (b0 := b0) (dC := dC) (dI := dI) (dA := dA) hy hS hlen2) ⟨hcb, hts _ h3.2⟩ ⟨xblind, xpre hK hb0 hH⟩ rfl (by simp; omega) hls (hrev _ hle) hsum hd ⟨hc, hs⟩) hH kk
        · cases h
      · cases h
    · cases h
  | invokevirtual k =>
    simp [xlen] at hlen; subst hlen
    simp only [xinv] at h
    split at h
    · rename_i i hcal
      split at h
      · rename_i y' hy'
        split at h
        · rename_i b r' hdr
          split at h
          · rename_i o ho
            split at h
            · rename_i hc'
              simp only [Option.some.injEq, Prod.mk.injEq] at h
              obtain ⟨rfl, rfl, rfl⟩ := h
              have hy : xMOK y' := xMs_ok _ (List.mem_of_getElem? hy')
              obtain ⟨own, y2, h1, h2, h3⟩ := xCallT_ok _ (xfind hcal)
              dsimp only at h1 h2 h3
              cases hO.symm.trans h1
              cases hy'.symm.trans h2
              obtain ⟨h31, h32, h33, rr, h34, h35⟩ := h3
              have hcb := callB_of (own := m.2.2.1.cls) (index := k) (y := y'.2.2.1) (R := R) (rm := xrm d (q.2.2.1 - z) (q.2.2.2 - w)) (mc := q.2.2.1 - z) (ms := q.2.2.2 - w) y'.2.1 hts (xgood.mpr hy.2.2.2.2.2.2) rfl rfl rfl (hts _ hy.2.2.1) (hts _ h31) ⟨hy.2.2.2.1.1, hy.2.2.2.1.2, hy.2.2.2.2.1⟩ (fin hy (k := k))
              have hrecv : ∃ cellB : Cell, H[b]? = some cellB ∧ cellB.vm.isStatics = false ∧ s.vm.findClass y'.2.2.1.cls = some cellB.cls := by
                rw [← hc'.1] at h34
                obtain ⟨-, cell, g1, g2, g3, -⟩ := (hH.2.1 b o ho).2.obj h34
                exact ⟨cell, g1, by rw [g3]; rfl, by rw [g2, ← h35]; exact (hK.1 _ _ h34).2.1⟩
              have hst : st = (st.take y'.2.1).reverse.reverse ++ .ref b :: r' := by rw [← hdr]; exact hrev _ hc'.2
              refine xback (va_runV (As := (st.take y'.2.1).reverse) (b := b) (n := y'.2.1) ⟨hx, hb, hml, hown, hts⟩ (xMet (l := l) (b0 := b0) (dC := dC) (dI := dI) (dA := dA) hy hS hlen2) ⟨hcb, hts _ h32, hts _ h33⟩ ⟨xblind, hrecv, xpre hK hb0 hH⟩ rfl (by simp; omega) hls hst hsum hd ⟨hc, hs⟩) hH kk
            · cases h
          · cases h
        · cases h
      · cases h
    · cases h
  | invokespecial k =>
    simp [xlen] at hlen; subst hlen
    simp only [xinv] at h
    split at h
    · rename_i qk i hcal
      split at h
      · rename_i y' hy'
        split at h
        · rename_i b r' hdr
          split at h
          · rename_i hc'
            simp only [Option.some.injEq, Prod.mk.injEq] at h
            obtain ⟨rfl, rfl, rfl⟩ := h
            have hy : xMOK y' := xMs_ok _ (List.mem_of_getElem? hy')
            obtain ⟨own, y2, h1, h2, h3⟩ := xCallT_ok _ (xfind hcal)
            dsimp only at h1 h2 h3
            cases hO.symm.trans h1
            cases hy'.symm.trans h2
            have hst : st = (st.take y'.2.1).reverse.reverse ++ .ref b :: r' := by rw [← hdr]; exact hrev _ hc'.2
            have hMt := xMet (l := l) (b0 := b0) (dC := dC) (dI := dI) (dA := dA) hy hS hlen2
            rcases hc'.1 with rfl | rfl
            · obtain ⟨h31, h32, h33, h34⟩ := h3
              have hcb := callB_of (own := m.2.2.1.cls) (index := k) (y := y'.2.2.1) (R := R) (rm := xrm d (q.2.2.1 - z) (q.2.2.2 - w)) (mc := q.2.2.1 - z) (ms := q.2.2.2 - w) y'.2.1 hts (xgood.mpr hy.2.2.2.2.2.2) rfl rfl rfl (hts _ hy.2.2.1) (hts _ h31) ⟨hy.2.2.2.1.1, hy.2.2.2.1.2, hy.2.2.2.2.1⟩ (fin hy (k := k))
              rw [h34] at hcb
              refine xback (va_runI (As := (st.take y'.2.1).reverse) (b := b) (n := y'.2.1) ⟨hx, hb, hml, hown, hts⟩ hMt ⟨hcb, h33, hts _ h32⟩ ⟨xblind, xpre hK hb0 hH⟩ rfl (by simp; omega) hls hst hsum hd ⟨hc, hs⟩) hH kk
            · obtain ⟨h31, h32, h33, h34⟩ := h3
              have hcb := va_cnB (own := m.2.2.1.cls) (index := k) (y := y'.2.2.1) (R := R) (rm := xrm d (q.2.2.1 - z) (q.2.2.2 - w)) (mc := q.2.2.1 - z) (ms := q.2.2.2 - w) y'.2.1 hts (xgood.mpr hy.2.2.2.2.2.2) rfl rfl rfl (hK.2.2 _ h31) (hts _ hy.2.2.1) ⟨hy.2.2.2.1.1, hy.2.2.2.1.2, hy.2.2.2.2.1⟩ (fin hy (k := k))
              rw [h34] at hcb
              refine xback (va_runIN (As := (st.take y'.2.1).reverse) (b := b) (n := y'.2.1) ⟨hx, hb, hml, hown, hts⟩ hMt ⟨hcb, h33, hts _ h32⟩ ⟨xblind, xpre hK hb0 hH⟩ rfl (by simp; omega) hls hst hsum hd ⟨hc, hs⟩) hH kk
          · cases h
        · cases h
      · cases h
    · cases h
  | _ => exact absurd h (by simp [xinv])
end XC
set_option maxHeartbeats 1000000 in
/-- THE SMALL MACHINE IS RIGHT -/
theorem exec_ok : ∀ (n d : Nat) (m : xY) (pc : Nat) (lo : xL) (st : List Value) (M : xM) (z w : Nat) (r : xR), exec n d m pc lo st M z w = some r → z ≤ r.2.2.1 ∧ w ≤ r.2.2.2 ∧ xSem d m pc lo st M z w r := by
  intro n
  induction n with
  | zero => intro d m pc lo st M z w r h; cases h
  | succ n ih =>
    intro d m pc lo st M z w r h
    unfold exec at h
    split at h
    · rename_i ins len hd
      split at h
      · rename_i hlen
        split at h
        · rename_i f hf
          obtain ⟨pc', lo', st'⟩ := f
          obtain ⟨i1, i2, i3⟩ := ih _ _ _ _ _ _ _ _ _ h
          refine ⟨i1, i2, ?_⟩
          intro p l e R s mi args below meth c H locs Q dC dI dA b0 zb wb ls G hH hls hz hw hc hs kk
          exact xpure_ok G.1 G.2.1 hd hlen hf hls (fun ls' hls' => i3 G hH hls' hz hw hc hs kk)
        · split at h
          · rename_i g hg
            obtain ⟨⟨pc', lo', st'⟩, M'⟩ := g
            obtain ⟨i1, i2, i3⟩ := ih _ _ _ _ _ _ _ _ _ h
            refine ⟨i1, i2, ?_⟩
            intro p l e R s mi args below meth c H locs Q dC dI dA b0 zb wb ls G hH hls hz hw hc hs kk
            exact xmem_ok G hd hlen hg hH (fun H' locs' hH' he => i3 G hH' (by rw [← he]; exact hls) hz hw hc hs kk)
          · split at h
            · rename_i g hg
              obtain ⟨pc', st', cl⟩ := g
              obtain ⟨i1, i2, i3⟩ := ih _ _ _ _ _ _ _ _ _ h
              dsimp only at i1 i2 i3
              refine ⟨by omega, by omega, ?_⟩
              intro p l e R s mi args below meth c H locs Q dC dI dA b0 zb wb ls G hH hls hz hw hc hs kk
              refine xmak_ok G hd hlen hg hH (by omega) (by omega) (fun H' hH' => ?_)
              have K := i3 G hH' hls (show zb ≤ z + 1 by omega) (show wb ≤ w + cl.2.length by omega) hc hs kk
              rw [show z + 1 - zb = z - zb + 1 by omega, show w + cl.2.length - wb = w - wb + cl.2.length by omega] at K
              exact K
            · split at h
              · rename_i v hv
                cases h
                refine ⟨Nat.le_refl _, Nat.le_refl _, ?_⟩
                intro p l e R s mi args below meth c H locs Q dC dI dA b0 zb wb ls G hH hls hz hw hc hs kk
                have hi := xret_inv hv
                have hst := hi.1
                subst hst
                have hl1 : len = 1 := by
                  rcases hi.2 with ⟨_, _, rfl, _⟩ | ⟨_, rfl, _⟩ | ⟨_, _, rfl, _⟩ | ⟨rfl, _⟩ <;> simpa [xlen] using hlen
                subst hl1
                exact kk H locs pc ls ins hH hd hv
              · split at h
                · cases h
                · rename_i d'
                  split at h
                  · rename_i r' hr'
                    split at h
                    · rename_i hr8
                      obtain ⟨i1, i2, i3⟩ := ih _ _ _ _ _ _ _ _ _ h
                      refine ⟨i1, i2, ?_⟩
                      intro p l e R s mi args below meth c H locs Q dC dI dA b0 zb wb ls G hH hls hz hw hc hs kk
                      exact xlib_ok G hd hlen hr' hr8 hls.size (by omega) (by omega) (i3 G hH hls hz hw hc hs kk)
                    · cases h
                  · split at h
                    · rename_i cc hcc
                      obtain ⟨y, as, r'⟩ := cc
                      split at h
                      · rename_i hk
                        split at h
                        · rename_i q hq
                          obtain ⟨j1, j2, j3⟩ := ih _ _ _ _ _ _ _ _ _ hq
                          obtain ⟨i1, i2, i3⟩ := ih _ _ _ _ _ _ _ _ _ h
                          refine ⟨by omega, by omega, ?_⟩
                          intro p l e R s mi args below meth c H locs Q dC dI dA b0 zb wb ls G hH hls hz hw hc hs kk
                          refine xinv_ok G hd hlen hcc hk.1 hk.2 hls.size hH j3 (by omega) (by omega) (fun H' locs' hH' => ?_)
                          have K := i3 G hH' hls (show zb ≤ q.2.2.1 by omega) (show wb ≤ q.2.2.2 by omega) hc hs kk
                          rw [show q.2.2.1 - zb = z - zb + (q.2.2.1 - z) by omega, show q.2.2.2 - wb = w - wb + (q.2.2.2 - w) by omega] at K
                          exact K
                        · cases h
                      · cases h
                    · cases h
      · cases h
    · cases h
