/-! the picture of the memory, and the steps that read or change it -/
def xat (dC : Nat → ClassId) (dI : Nat → Nat → Nat) (dA : Nat → ClassId) (a : Nat) (c : xC) (H : Heap) : Prop := match xCl[c.1]? with
  | some r => c.2.length = r.2.2 ∧ t_OB a (dC c.1) r.2.2 (dI c.1) H (vp_V c.2)
  | none => (xEl c.1).isSome = true ∧ ∃ cell : Cell, H[a]? = some cell ∧ cell.cls = dA c.1 ∧ cell.vm ≠ .unknown ∧ (∀ k, cell.vm ≠ .statics k) ∧ cell.slots = c.2.toArray
def xKn (dC : Nat → ClassId) (dI : Nat → Nat → Nat) (dA : Nat → ClassId) (s : State) : Prop :=
  (∀ (c : Nat) (q : vw_C), xCl[c]? = some q → u_Kn s q.1 q.2.1 q.2.2 (dC c) (dI c)) ∧
  (∀ (k : Nat) (ty : FieldType), xEl k = some ty → ∃ (kA : Class) (comp : ClassId), s.vm.classes[dA k]? = some kA ∧ kA.kind = .array comp ty ∧ (k ≠ 30 → s.vm.findClass ("[" ++ ty.toString) = some (dA k)) ∧ ∀ C, ty = .object C → s.vm.findClass C = some comp) ∧
  (∀ w ∈ xnest, va_Nw w s)
theorem xKn.alike {dC : Nat → ClassId} {dI : Nat → Nat → Nat} {dA : Nat → ClassId} {s U : State} (hvm : s.vm.Alike U.vm) (hn : ∀ w ∈ xnest, va_Nw w U) (h : xKn dC dI dA s) : xKn dC dI dA U := by
  refine ⟨fun c q hq => u_Kn_moved hvm (h.1 c q hq), fun k ty hk => ?_, hn⟩
  obtain ⟨kA, comp, h1, h2, h3, h4⟩ := h.2.1 k ty hk
  obtain ⟨k', hk', he⟩ := hvm.2.2 _ _ h1
  exact ⟨k', comp, hk', by rw [he]; exact h2, fun q => by rw [hvm.findClass]; exact h3 q, fun C q => by rw [hvm.findClass]; exact h4 C q⟩
theorem xnest_kinds {w : Cond} (h : w ∈ xnest) : xisN w = true := (List.mem_filter.mp h).2
theorem xKn.warm {dC : Nat → ClassId} {dI : Nat → Nat → Nat} {dA : Nat → ClassId} {s U : State} (hW : s.WarmedH U.vm) (h : xKn dC dI dA s) : xKn dC dI dA U := by
  refine xKn.alike hW.alike (fun w hw => ?_) h
  have h1 := h.2.2 w hw
  have h2 := xnest_kinds hw
  cases w with
  | fieldLinkNest a i b n d q => exact va_Nw.warmF hW h1
  | methodLinkNest a i x q => exact va_Nw.warmM hW h1
  | arrayOver ty => cases ty with
    | object C => exact va_AO.moved hW.alike h1
    | _ => exact absurd h2 (by simp [xisN])
  | _ => exact absurd h2 (by simp [xisN])
theorem xKn.same {dC : Nat → ClassId} {dI : Nat → Nat → Nat} {dA : Nat → ClassId} {s U : State} (hv : s.vm = U.vm) (h : xKn dC dI dA s) : xKn dC dI dA U := by
  have hal : s.vm.Alike U.vm := by rw [hv]; exact Vm.Alike.refl _
  refine xKn.alike hal (fun w hw => ?_) h
  have h1 := h.2.2 w hw
  have h2 := xnest_kinds hw
  cases w with
  | fieldLinkNest a i b n d q => exact va_Nw.same rfl hv h1
  | methodLinkNest a i x q => exact va_Nw.same rfl hv h1
  | arrayOver ty => cases ty with
    | object C => exact va_AO.moved hal h1
    | _ => exact absurd h2 (by simp [xisN])
  | _ => exact absurd h2 (by simp [xisN])
section XA
variable {dC : Nat → ClassId} {dI : Nat → Nat → Nat} {dA : Nat → ClassId} {a b0 z : Nat} {c c' : xC} {H H1 : Heap} {M : xM} {s : State} {locs : List Loc}
theorem xat.kept (h : xat dC dI dA a c H) (hq : H1[a]? = H[a]?) : xat dC dI dA a c H1 := by
  unfold xat at h ⊢
  split at h
  · rename_i r hr
    exact ⟨h.1, h.2.kept hq⟩
  · rename_i hr
    obtain ⟨h0, cell, h1, h2⟩ := h
    exact ⟨h0, cell, by rw [hq]; exact h1, h2⟩
theorem xat.lt (h : xat dC dI dA a c H) : a < H.size := by
  unfold xat at h
  split at h
  · obtain ⟨-, cell, h1, -⟩ := h
    exact (Array.getElem?_eq_some_iff.mp h1).1
  · obtain ⟨-, cell, h1, -⟩ := h
    exact (Array.getElem?_eq_some_iff.mp h1).1
theorem xat.obj {r : vw_C} (h : xat dC dI dA a c H) (hr : xCl[c.1]? = some r) : c.2.length = r.2.2 ∧ t_OB a (dC c.1) r.2.2 (dI c.1) H (vp_V c.2) := by
  unfold xat at h
  rw [hr] at h
  exact h
theorem xEl_none {t : Nat} {ty : FieldType} (h : xEl t = some ty) : xCl[t]? = none := by
  unfold xEl at h
  split at h <;> first | rfl | cases h
theorem xat.arr {ty : FieldType} (h : xat dC dI dA a c H) (ht : xEl c.1 = some ty) : ∃ cell : Cell, H[a]? = some cell ∧ cell.cls = dA c.1 ∧ cell.vm ≠ .unknown ∧ (∀ k, cell.vm ≠ .statics k) ∧ cell.slots = c.2.toArray := by
  unfold xat at h
  rw [xEl_none ht] at h
  exact h.2
theorem xat.mkarr {ty : FieldType} (ht : xEl c.1 = some ty) {cell : Cell} (h1 : H[a]? = some cell) (h2 : cell.cls = dA c.1) (h3 : cell.vm ≠ .unknown) (h4 : ∀ k, cell.vm ≠ .statics k) (h5 : cell.slots = c.2.toArray) : xat dC dI dA a c H := by
  unfold xat
  rw [xEl_none ht]
  exact ⟨by rw [ht]; rfl, cell, h1, h2, h3, h4, h5⟩
def xH (b0 : Nat) (dC : Nat → ClassId) (dI : Nat → Nat → Nat) (dA : Nat → ClassId) (M : xM) (z : Nat) (s : State) (H : Heap) (locs : List Loc) : Prop := H.size = z ∧ (∀ a c, M a = some c → (b0 ≤ a ∨ c.1 = 30) ∧ xat dC dI dA a c H) ∧ va_S (fun q => b0 ≤ q) s.heap H locs
theorem xH.put {j : Nat} (h : xH b0 dC dI dA M z s H locs) (ha : M a = some c) (h30 : c.1 ≠ 30) (hc : xat dC dI dA a c' H1) (hz : H1.size = H.size) (ho : ∀ q, q ≠ a → H1[q]? = H[q]?) : xH b0 dC dI dA (xput M a c') z s H1 (locs ++ [⟨a, j⟩]) := by
  have hba : b0 ≤ a := (h.2.1 a c ha).1.resolve_right h30
  refine ⟨by rw [hz]; exact h.1, fun q u hq => ?_, h.2.2.put hz ho hba⟩
  by_cases e : q = a
  · subst e
    rw [xput_same] at hq
    cases hq
    exact ⟨Or.inl hba, hc⟩
  · rw [xput_ne e] at hq
    exact ⟨(h.2.1 q u hq).1, (h.2.1 q u hq).2.kept (ho q e)⟩
theorem xH.push (h : xH b0 dC dI dA M z s H locs) (hb : b0 ≤ s.heap.size) (hc : xat dC dI dA z c H1) (hz : H1.size = z + 1) (ho : ∀ q, q < z → H1[q]? = H[q]?) : xH b0 dC dI dA (xput M z c) (z + 1) s H1 locs := by
  have hS := h.2.2
  have h1 := h.1
  refine ⟨hz, fun q u hq => ?_, ⟨Nat.le_trans hS.1 (by omega), fun x h1 h2 => (ho x (by have := Nat.lt_of_lt_of_le h1 hS.1; omega)).trans (hS.2.1 x h1 h2), hS.2.2⟩⟩
  by_cases e : q = z
  · subst e
    rw [xput_same] at hq
    cases hq
    exact ⟨Or.inl (by have := hS.1; omega), hc⟩
  · rw [xput_ne e] at hq
    have hl := (h.2.1 q u hq).2.lt
    exact ⟨(h.2.1 q u hq).1, (h.2.1 q u hq).2.kept (ho q (by omega))⟩
end XA
theorem xfind {α : Type} {T : List (Nat × Nat × α)} {c k : Nat} {v : α} (h : (T.find? (fun e => e.1 == c && e.2.1 == k)).map (fun e => e.2.2) = some v) : (c, k, v) ∈ T := by
  obtain ⟨e, h1, h2⟩ := Option.map_eq_some_iff.mp h
  have h3 := List.find?_some h1
  have h4 := List.mem_of_find?_eq_some h1
  simp at h3
  obtain ⟨e1, e2, e3⟩ := e
  obtain ⟨rfl, rfl⟩ := h3
  cases h2
  exact h4
section XG
variable {p : Program} {l : Launch} {e : Env} {R : Room} {s : State} {mi : MethodId} {args : Array Value} {below : List Frame} {meth : Method} {c : Code} {H : Heap} {locs : List Loc} {cells slots : Nat} {Q : State → Prop}
variable {dC : Nat → ClassId} {dI : Nat → Nat → Nat} {dA : Nat → ClassId} {b0 z d : Nat} {M M' : xM} {m : xY}
variable {pc n : Nat} {ls : Array Slot} {st st' : List Value} {lo lo' : xL} {pc' len : Nat} {ins : Instr}
/-- what stays while a method runs -/
def xG (m : xY) (d : Nat) (p : Program) (R : Room) (s : State) (mi : MethodId) (args : Array Value) (meth : Method) (c : Code) (b0 : Nat) (dC : Nat → ClassId) (dI : Nat → Nat → Nat) (dA : Nat → ClassId) : Prop :=
  p.tables.exec = Jvm.exec ∧ c.code = m.2.2.2.1 ∧ meth.sig.returnType = m.2.2.2.2.2 ∧ c.maxLocals = m.2.2.2.2.1 ∧ s.vm.findClass m.2.2.1.cls = some mi.cls ∧ (∀ w ∈ xtbl, w.before args s = true) ∧ meth.locks = false ∧ (m.2.2.1.name = "<init>" → meth.name = "<init>") ∧ xKn dC dI dA s ∧ b0 ≤ s.heap.size ∧ d ≤ R.frames ∧ 39 * d ≤ R.locals ∧ xOwn[m.1]? = some m.2.2.1.cls
theorem xgetf_ok {k : Nat} (G : xG m d p R s mi args meth c b0 dC dI dA) (hd : decode m.2.2.2.1 pc = .ok (.getfield k, 3)) (h : xgetf m.1 k pc lo st M = some ((pc', lo', st'), M')) (hH : xH b0 dC dI dA M z s H locs)
    (kk : xH b0 dC dI dA M' z s H locs → lo = lo' → W p l e R s mi args below meth c H locs cells slots Q (F0 mi pc' ls st')) : W p l e R s mi args below meth c H locs cells slots Q (F0 mi pc ls st) := by
  obtain ⟨hx, hb, hr, hml, hown, hts, hlk, hini, hK, hb0, hfr, hloc, hO⟩ := G
  unfold xgetf at h
  split at h
  · rename_i a r
    split at h
    · rename_i t j o hf ho
      split at h
      · rename_i hot
        split at h
        · rename_i v hv
          simp only [Option.some.injEq, Prod.mk.injEq] at h
          obtain ⟨⟨rfl, rfl, rfl⟩, rfl⟩ := h
          obtain ⟨own, rr, h1, h2, h3, h4⟩ := xFldT_ok _ (xfind hf)
          dsimp only at h1 h2 h3 h4
          cases hO.symm.trans h1
          subst hot
          obtain ⟨g1, cell, q1, q2, q3, q4⟩ := (hH.2.1 a o ho).2.obj h2
          obtain ⟨k1, k2, -⟩ := xCl_ok _ _ h2
          obtain ⟨hS, hfc, kC, hkC, hkind⟩ := hK.1 _ _ h2
          obtain ⟨cf, kf, fi, f, hi, hsl⟩ := hS j h3
          have hst := (u_facts hfc hkC (u_lays hts k1 h3) hi).1
          have hsv : cell.slots[f.slot]? = some v := by rw [hsl, q4 j h3]; simp [vp_V, hv]
          rcases h4 with h4 | h4
          · exact W.getf hx hb hown (hts _ h4) hi hst q1 (by rw [q3]; exact fun h => by cases h) hsv rfl rfl hd (kk hH rfl)
          · exact va_Wgetf hx hb hown (va_Nw.use rfl (hK.2.2 _ h4)) hi hst q1 (by rw [q3]; exact fun h => by cases h) hsv rfl rfl hd (kk hH rfl)
        · cases h
      · cases h
    · cases h
  · cases h
theorem xWput {own ref name desc : String} {k : Nat} (hx : p.tables.exec = Jvm.exec) (hb : c.code = m.2.2.2.1) (hown : s.vm.findClass own = some mi.cls) (hlink : (Cond.fieldLink own k ref name desc).before args s = true ∨ (Cond.fieldLinkNest own k ref name desc "RefStack").before args s = true)
    {cf i : Nat} {kl : Class} {f : Field} (hi : s.fieldFound? ref name desc = some (cf, kl, i, f)) (hst : f.isStatic = false) (hfin : hasFlag f.accessFlags Acc.final = false ∨ (mi.cls = cf ∧ meth.name = "<init>"))
    {a : Addr} {cell : Cell} {v : Value} (hcell : H[a]? = some cell) (hvm : cell.vm = .none) (hlt : f.slot < cell.slots.size) (hnarrow : narrow f.type v = v) (hfit : s.fitsSlot cell.cls .none f.slot v = true)
    {r : List Value} (hdg : decode m.2.2.2.1 pc = .ok (.putfield k, 3))
    (kk : ∀ H' : Heap, H'[a]? = some (cell.setSlot f.slot v) → H'.size = H.size → (∀ q, q ≠ a → H'[q]? = H[q]?) → W p l e R s mi args below meth c H' (locs ++ [⟨a, f.slot⟩]) cells slots Q (F0 mi (pc + 3) ls r)) : W p l e R s mi args below meth c H locs cells slots Q (F0 mi pc ls (v :: .ref a :: r)) := by
  have ha : a < H.size := (Array.getElem?_eq_some_iff.mp hcell).1
  have K := kk (H.setIfInBounds a (cell.setSlot f.slot v)) (by simp [Array.getElem?_setIfInBounds, ha]) (by simp) (fun q hq => by simp [Array.getElem?_setIfInBounds, Ne.symm hq])
  rcases hlink with hlink | hlink
  · exact W.putf hx hb hown hlink hi hst hfin hcell (by rw [hvm]; exact fun h => by cases h) hlt hnarrow (by rw [hvm]; exact hfit) rfl rfl hdg K
  · exact va_Wputf hx hb hown hlink hi hst hfin hcell (by rw [hvm]; exact fun h => by cases h) hlt hnarrow (by rw [hvm]; exact hfit) rfl rfl hdg K
theorem xCl_ne {t : Nat} {r : vw_C} (h : xCl[t]? = some r) : t ≠ 30 := by
  rintro rfl
  cases h
theorem xputf_ok {k : Nat} (G : xG m d p R s mi args meth c b0 dC dI dA) (hd : decode m.2.2.2.1 pc = .ok (.putfield k, 3)) (h : xputf m k pc lo st M = some ((pc', lo', st'), M')) (hH : xH b0 dC dI dA M z s H locs)
    (kk : ∀ H' locs', xH b0 dC dI dA M' z s H' locs' → lo = lo' → W p l e R s mi args below meth c H' locs' cells slots Q (F0 mi pc' ls st')) : W p l e R s mi args below meth c H locs cells slots Q (F0 mi pc ls st) := by
  obtain ⟨hx, hb, hr, hml, hown, hts, hlk, hini, hK, hb0, hfr, hloc, hO⟩ := G
  unfold xputf at h
  split at h
  · rename_i v a r
    split at h
    · rename_i t j o hf ho
      split at h
      · rename_i hc
        obtain ⟨hot, hjl, hnar, hfit, hfin⟩ := hc
        simp only [Option.some.injEq, Prod.mk.injEq] at h
        obtain ⟨⟨rfl, rfl, rfl⟩, rfl⟩ := h
        obtain ⟨own, rr, h1, h2, h3, h4⟩ := xFldT_ok _ (xfind hf)
        dsimp only at h1 h2 h3 h4
        cases hO.symm.trans h1
        subst hot
        obtain ⟨g1, cell, q1, q2, q3, q4⟩ := (hH.2.1 a o ho).2.obj h2
        obtain ⟨k1, k2, k3, -⟩ := xCl_ok _ _ h2
        have hap := va_apart (own := m.2.2.1.cls) (C := rr.1) (T := rr.2.1) (N := rr.2.2) (D := (dC, dI)) (cl := xCl) (tys := []) hts k1 (xTyp o.1) k2 k3 ⟨hK.1, fun k q h => by simp at h⟩ h2
        obtain ⟨hS, hfc, kC, hkC, hkind⟩ := hK.1 _ _ h2
        obtain ⟨cf, kf, fi, f, hi, hsl⟩ := hS j h3
        have hst := (u_facts hfc hkC (u_lays hts k1 h3) hi).1
        have h6 := u_fits hfc hkC hkind (u_lays hts k1 h3) hi (k2 j h3) hnar hfit
        have hlay := hts _ (k1 _ (u_in_lay h3))
        have hxf : xfin o.1 j = (rr.2.1 j).2.2.2 := by simp [xfin, h2]
        have hfin' : hasFlag f.accessFlags Acc.final = false ∨ (mi.cls = cf ∧ meth.name = "<init>") := by
          unfold u_lay at hlay
          by_cases hq : (rr.2.1 j).2.2.2 = true
          · rw [if_pos hq] at hlay
            rcases hfin with hfin | ⟨hi1, hi2⟩
            · rw [hxf, hq] at hfin; cases hfin
            · refine Or.inr ⟨?_, hini hi1⟩
              obtain ⟨_, _, c', _, _, _, -, -, hf', -, -, -, hown2, -⟩ := Cond.laysFinal_spec hlay
              have e1 : c' = cf := by have := hi.symm.trans hf'; simp at this; exact this.1.symm
              have e2 : (rr.2.1 j).1 = m.2.2.1.cls := by
                have h7 : ∀ (t : Nat) (r : vw_C), xCl[t]? = some r → ∀ j, j < r.2.2 → xOwn[t]? = some (r.2.1 j).1 := by
                  intro t r hr
                  match t, hr with
                  | 0, hr => cases hr; decide +kernel
                  | 1, hr => cases hr; decide +kernel
                  | 2, hr => cases hr; decide +kernel
                  | 3, hr => cases hr; decide +kernel
                  | 4, hr => cases hr; decide +kernel
                  | 5, hr => cases hr; decide +kernel
                  | 6, hr => cases hr; decide +kernel
                  | 7, hr => cases hr; decide +kernel
                  | 8, hr => cases hr; decide +kernel
                  | k + 9, hr => simp [xCl] at hr
                have h8 := h7 _ _ h2 j h3
                rw [← hi2] at h8
                exact Option.some.inj (h8.symm.trans hO)
              rw [e2] at hown2
              rw [← e1]; exact Option.some.inj (hown.symm.trans hown2)
          · rw [if_neg hq] at hlay
            refine Or.inl ?_
            exact (u_store hfc hkC hkind hlay hi (k2 j h3) hnar hfit).1
        refine xWput hx hb hown (h4.imp (fun h => hts _ h) (fun h => va_Nw.use rfl (hK.2.2 _ h))) hi hst hfin' q1 q3 (by rw [hsl]; exact k2_hasslot (q4 j h3)) h6.1 (by rw [q2]; exact h6.2) hd (fun H' e1 e2 e3 => ?_)
        rw [hsl] at e1
        refine kk H' _ (hH.put ho (xCl_ne h2) ?_ e2 e3) rfl
        unfold xat
        dsimp only
        rw [h2]
        exact ⟨by rw [List.length_set]; exact g1, t_OB.to (V := updV (vp_V o.2) j v) ⟨_, e1, q2, q3, t_set q4 hap h3 v⟩ (fun i _ => vp_updV_set hjl v i)⟩
      · cases h
    · cases h
  · cases h
theorem xarrOf {k : Nat} {ty : FieldType} {cell : Cell} (hK : xKn dC dI dA s) (hk : xEl k = some ty) (h1 : cell.cls = dA k) (h2 : ∀ k, cell.vm ≠ .statics k) : s.isArrayOf cell ty := by
  obtain ⟨kA, comp, g1, g2, -⟩ := hK.2.1 k ty hk
  exact ⟨h2, kA, by rw [h1]; exact g1, comp, g2⟩
theorem xald_ok {ts : List Nat} {ty : FieldType} (G : xG m d p R s mi args meth c b0 dC dI dA) (hts : ∀ t ∈ ts, ∃ ty', xEl t = some ty' ∧ (ty' = ty ∨ (ty.isReference = true ∧ ty'.isReference = true))) (h : xald ts pc lo st M = some ((pc', lo', st'), M')) (hH : xH b0 dC dI dA M z s H locs)
    (row : ∀ (a : Addr) (cell : Cell) (ty' : FieldType) (i : Int32) (v : Value) (r : List Value), H[a]? = some cell → s.isArrayOf cell ty' → (ty' = ty ∨ (ty.isReference = true ∧ ty'.isReference = true)) → cell.vm ≠ .unknown → ¬ (i < 0 ∨ cell.slots.size ≤ i.toNatClampNeg) → cell.slots[i.toNatClampNeg]? = some v → W p l e R s mi args below meth c H locs cells slots Q (F0 mi (pc + 1) ls (v :: r)) → W p l e R s mi args below meth c H locs cells slots Q (F0 mi pc ls (.int i :: .ref a :: r)))
    (kk : xH b0 dC dI dA M' z s H locs → lo = lo' → W p l e R s mi args below meth c H locs cells slots Q (F0 mi pc' ls st')) : W p l e R s mi args below meth c H locs cells slots Q (F0 mi pc ls st) := by
  obtain ⟨hx, hb, hr, hml, hown, -, hlk, hini, hK, hb0, hfr, hloc, hO⟩ := G
  unfold xald at h
  split at h
  · rename_i i a r
    split at h
    · rename_i o ho
      split at h
      · rename_i hc
        split at h
        · rename_i v hv
          simp only [Option.some.injEq, Prod.mk.injEq] at h
          obtain ⟨⟨rfl, rfl, rfl⟩, rfl⟩ := h
          obtain ⟨ty', e1, e2⟩ := hts o.1 hc.1
          obtain ⟨cell, g1, g2, g3, g4, g5⟩ := (hH.2.1 a o ho).2.arr e1
          have hl := (List.getElem?_eq_some_iff.mp hv).1
          refine row a cell ty' i v r g1 (xarrOf hK e1 g2 g4) e2 g3 ?_ ?_ (kk hH rfl)
          · rw [g5]; simp; exact ⟨by simpa using hc.2, hl⟩
          · rw [g5]; simpa using hv
        · cases h
      · cases h
    · cases h
  · cases h
theorem xset {cell : Cell} {l : List Value} (h : cell.slots = l.toArray) (i : Nat) (v : Value) : (cell.setSlot i v).slots = (l.set i v).toArray := by
  simp [Cell.setSlot, h]
theorem xast_ok {t : Nat} {ty : FieldType} {f : Value → Option Value} (G : xG m d p R s mi args meth c b0 dC dI dA) (hty : xEl t = some ty) (h30 : t ≠ 30) (h : xast t f pc lo st M = some ((pc', lo', st'), M')) (hH : xH b0 dC dI dA M z s H locs)
    (row : ∀ (a : Addr) (cell : Cell) (i : Int32) (v u : Value) (r : List Value), f v = some u → H[a]? = some cell → s.isArrayOf cell ty → cell.vm ≠ .unknown → ¬ (i < 0 ∨ cell.slots.size ≤ i.toNatClampNeg) → (∀ H' : Heap, H'[a]? = some (cell.setSlot i.toNatClampNeg u) → H'.size = H.size → (∀ q, q ≠ a → H'[q]? = H[q]?) → W p l e R s mi args below meth c H' (locs ++ [⟨a, i.toNatClampNeg⟩]) cells slots Q (F0 mi (pc + 1) ls r)) → W p l e R s mi args below meth c H locs cells slots Q (F0 mi pc ls (v :: .int i :: .ref a :: r)))
    (kk : ∀ H' locs', xH b0 dC dI dA M' z s H' locs' → lo = lo' → W p l e R s mi args below meth c H' locs' cells slots Q (F0 mi pc' ls st')) : W p l e R s mi args below meth c H locs cells slots Q (F0 mi pc ls st) := by
  obtain ⟨hx, hb, hr, hml, hown, -, hlk, hini, hK, hb0, hfr, hloc, hO⟩ := G
  unfold xast at h
  split at h
  · rename_i v i a r
    split at h
    · rename_i o u ho hu
      split at h
      · rename_i hc
        obtain ⟨hot, hi0, hil⟩ := hc
        simp only [Option.some.injEq, Prod.mk.injEq] at h
        obtain ⟨⟨rfl, rfl, rfl⟩, rfl⟩ := h
        subst hot
        obtain ⟨cell, g1, g2, g3, g4, g5⟩ := (hH.2.1 a o ho).2.arr hty
        refine row a cell i v u r hu g1 (xarrOf hK hty g2 g4) g3 (by rw [g5]; simp; exact ⟨by simpa using hi0, hil⟩) (fun H' e1 e2 e3 => ?_)
        exact kk H' _ (hH.put ho h30 (xat.mkarr hty e1 g2 g3 g4 (xset g5 _ _)) e2 e3) rfl
      · cases h
    · cases h
  · cases h
theorem xaas_ok (G : xG m d p R s mi args meth c b0 dC dI dA) (hd : decode m.2.2.2.1 pc = .ok (.aastore, 1)) (h : xaas pc lo st M = some ((pc', lo', st'), M')) (hH : xH b0 dC dI dA M z s H locs)
    (kk : ∀ H' locs', xH b0 dC dI dA M' z s H' locs' → lo = lo' → W p l e R s mi args below meth c H' locs' cells slots Q (F0 mi pc' ls st')) : W p l e R s mi args below meth c H locs cells slots Q (F0 mi pc ls st) := by
  obtain ⟨hx, hb, hr, hml, hown, -, hlk, hini, hK, hb0, hfr, hloc, hO⟩ := G
  unfold xaas at h
  split at h
  · rename_i q i a r
    split at h
    · rename_i o u ho hu
      split at h
      · rename_i hc
        obtain ⟨hot, hut, hi0, hil⟩ := hc
        simp only [Option.some.injEq, Prod.mk.injEq] at h
        obtain ⟨⟨rfl, rfl, rfl⟩, rfl⟩ := h
        have hE : ∃ (C : String) (rr : vw_C), xEl o.1 = some (.object C) ∧ o.1 ≠ 30 ∧ xCl[u.1]? = some rr ∧ rr.1 = C := by
          rw [hut]
          rcases hot with h | h <;> rw [h]
          · exact ⟨_, _, rfl, by decide, rfl, rfl⟩
          · exact ⟨_, _, rfl, by decide, rfl, rfl⟩
        obtain ⟨C, rr, e1, h30, e2, e3⟩ := hE
        obtain ⟨cell, g1, g2, g3, g4, g5⟩ := (hH.2.1 a o ho).2.arr e1
        obtain ⟨kA, comp, k1, k2, -, k4⟩ := hK.2.1 _ _ e1
        obtain ⟨-, cv, v1, v2, v3, -⟩ := (hH.2.1 q u hu).2.obj e2
        have hcls := (hK.1 _ _ e2).2
        have hcomp : comp = dC u.1 := Option.some.inj ((k4 C rfl).symm.trans (by rw [← e3]; exact hcls.1))
        obtain ⟨kC, hkC, -⟩ := hcls.2
        refine W.aast hx hb g1 g4 g3 (by rw [g2]; exact k1) k2 rfl (by rw [hcomp]; exact hkC) ⟨hi0, by rw [g5]; simpa using hil⟩ v1 (fun k h => by rw [v3] at h; cases h) (by rw [v2]; exact hkC) (by rw [v2, hcomp]; exact va_assign hcls) rfl rfl hd (fun H' e1' e2' e3' => ?_)
        exact kk H' _ (hH.put ho h30 (xat.mkarr e1 e1' g2 g3 g4 (xset g5 _ _)) e2' e3') rfl
      · cases h
    · cases h
  · cases h
theorem xaln_ok (G : xG m d p R s mi args meth c b0 dC dI dA) (hd : decode m.2.2.2.1 pc = .ok (.arraylength, 1)) (h : xaln pc lo st M = some ((pc', lo', st'), M')) (hH : xH b0 dC dI dA M z s H locs)
    (kk : xH b0 dC dI dA M' z s H locs → lo = lo' → W p l e R s mi args below meth c H locs cells slots Q (F0 mi pc' ls st')) : W p l e R s mi args below meth c H locs cells slots Q (F0 mi pc ls st) := by
  obtain ⟨hx, hb, hr, hml, hown, -, hlk, hini, hK, hb0, hfr, hloc, hO⟩ := G
  unfold xaln at h
  split at h
  · rename_i a r
    split at h
    · rename_i o ho
      split at h
      · rename_i hc
        obtain ⟨ty, hty⟩ := Option.isSome_iff_exists.mp hc
        simp only [Option.some.injEq, Prod.mk.injEq] at h
        obtain ⟨⟨rfl, rfl, rfl⟩, rfl⟩ := h
        obtain ⟨cell, g1, g2, g3, g4, g5⟩ := (hH.2.1 a o ho).2.arr hty
        exact W.alen (n := Int32.ofNat o.2.length) hx hb g1 (xarrOf hK hty g2 g4) (by rw [g5]; simp <;> rfl) rfl rfl hd (kk hH rfl)
      · cases h
    · cases h
  · cases h
set_option maxHeartbeats 4000000 in
theorem xmem_ok (G : xG m d p R s mi args meth c b0 dC dI dA) (hd : decode m.2.2.2.1 pc = .ok (ins, len)) (hlen : xlen ins len = true) (h : xmem m ins pc lo st M = some ((pc', lo', st'), M')) (hH : xH b0 dC dI dA M z s H locs)
    (kk : ∀ H' locs', xH b0 dC dI dA M' z s H' locs' → lo = lo' → W p l e R s mi args below meth c H' locs' cells slots Q (F0 mi pc' ls st')) : W p l e R s mi args below meth c H locs cells slots Q (F0 mi pc ls st) := by
  have hx := G.1
  have hb := G.2.1
  cases ins with
  | getfield k => simp [xlen] at hlen; subst hlen; exact xgetf_ok G hd h hH (kk H locs)
  | putfield k => simp [xlen] at hlen; subst hlen; exact xputf_ok G hd h hH kk
  | iaload =>
    simp [xlen] at hlen; subst hlen
    exact xald_ok (ty := .int) G (by decide +kernel) h hH (fun a cell ty' i v r g1 g2 g3 g4 g5 g6 g7 => by
      rcases g3 with rfl | ⟨g3, -⟩
      · exact W.iald hx hb g1 g2 g4 g5 g6 rfl rfl hd g7
      · cases g3) (kk H locs)
  | laload =>
    simp [xlen] at hlen; subst hlen
    exact xald_ok (ty := .long) G (by decide +kernel) h hH (fun a cell ty' i v r g1 g2 g3 g4 g5 g6 g7 => by
      rcases g3 with rfl | ⟨g3, -⟩
      · exact W.lald hx hb g1 g2 g4 g5 g6 rfl rfl hd g7
      · cases g3) (kk H locs)
  | baload =>
    simp [xlen] at hlen; subst hlen
    exact xald_ok (ty := .byte) G (by decide +kernel) h hH (fun a cell ty' i v r g1 g2 g3 g4 g5 g6 g7 => by
      rcases g3 with rfl | ⟨g3, -⟩
      · exact W.bald hx hb g1 g2 g4 g5 g6 rfl rfl hd g7
      · cases g3) (kk H locs)
  | aaload =>
    simp [xlen] at hlen; subst hlen
    exact xald_ok (ty := .object "") G (by decide +kernel) h hH (fun a cell ty' i v r g1 g2 g3 g4 g5 g6 g7 => by
      have g3' : ty'.isReference = true := by
        rcases g3 with rfl | ⟨-, g3⟩
        · rfl
        · exact g3
      exact W.aald hx hb g1 g2 g3' g4 g5 g6 rfl rfl hd g7) (kk H locs)
  | iastore =>
    simp [xlen] at hlen; subst hlen
    exact xast_ok (ty := .int) G rfl (by decide) h hH (fun a cell i v u r g1 g2 g3 g4 g5 g6 => by
      cases v with
      | int x => cases g1; exact W.iast hx hb g2 g3 g4 g5 rfl rfl hd g6
      | _ => cases g1) kk
  | lastore =>
    simp [xlen] at hlen; subst hlen
    exact xast_ok (ty := .long) G rfl (by decide) h hH (fun a cell i v u r g1 g2 g3 g4 g5 g6 => by
      cases v with
      | long x => cases g1; exact W.last hx hb g2 g3 g4 g5 rfl rfl hd g6
      | _ => cases g1) kk
  | bastore =>
    simp [xlen] at hlen; subst hlen
    exact xast_ok (ty := .byte) G rfl (by decide) h hH (fun a cell i v u r g1 g2 g3 g4 g5 g6 => by
      cases v with
      | int x => cases g1; exact W.bast hx hb g2 g3 g4 g5 rfl rfl hd g6
      | _ => cases g1) kk
  | aastore => simp [xlen] at hlen; subst hlen; exact xaas_ok G hd h hH kk
  | arraylength => simp [xlen] at hlen; subst hlen; exact xaln_ok G hd h hH (kk H locs)
  | ldc k =>
    simp [xlen] at hlen; subst hlen
    obtain ⟨v, hv, hq⟩ := Option.map_eq_some_iff.mp (h : (xldc m.1 k).map _ = _)
    simp only [Prod.mk.injEq] at hq
    obtain ⟨⟨rfl, rfl, rfl⟩, rfl⟩ := hq
    obtain ⟨own, h1, h2⟩ := xLdT_ok _ (xfind hv)
    dsimp only at h1 h2
    have hO := G.2.2.2.2.2.2.2.2.2.2.2.2
    cases hO.symm.trans h1
    exact lv_ldc hx hb G.2.2.2.2.1 (G.2.2.2.2.2.1 _ h2) hd (kk H locs hH rfl)
  | ldc2_w k =>
    simp [xlen] at hlen; subst hlen
    obtain ⟨v, hv, hq⟩ := Option.map_eq_some_iff.mp (h : (xld2 m.1 k).map _ = _)
    simp only [Prod.mk.injEq] at hq
    obtain ⟨⟨rfl, rfl, rfl⟩, rfl⟩ := hq
    obtain ⟨own, h1, h2⟩ := xLlT_ok _ (xfind hv)
    dsimp only at h1 h2
    have hO := G.2.2.2.2.2.2.2.2.2.2.2.2
    cases hO.symm.trans h1
    exact lv_ldc2 hx hb G.2.2.2.2.1 (G.2.2.2.2.2.1 _ h2) hd (kk H locs hH rfl)
  | _ => exact absurd h (by simp [xmem])
end XG
