/-! THE CLAIM OUT OF ONE WALK OF THE LAW'S BODY. Your part is whole_start (and what it stands on); all else here is the same for every law, but numbers. -/
def R_law : String := "RefStackLaw"
def lw_P (b : Addr) (xs : List Int32) (args : Array Value) (s : State) : Prop := args = #[.ref b] ∧ s.IntsAt b xs ∧ xs.length ≤ 2560 ∧ (Jvm.Cond.and given_1 narrow_1).before args s = true
def lw_Q (_ : Array Value) (s : State) (o : Outcome) (t : State) : Prop := o = .returned (some (.int 1)) ∧ Framed s o t [] 622155 7235784
def lw_Z (below : List Frame) (a : Array Value) (s : State) : State → Prop := fun t => ∃ o, t.status = .running ∧ Ended t below o ∧ lw_Q a s o t
/-- the law's own end, with 1 on the stack, nothing written that was there before, its room as the claim has it -/
theorem lw_ret {p : Program} {l : Launch} {e : Env} {s : State} {m : MethodId} {below : List Frame} {meth : Method} {c : Code} {b : Nat} (hx : p.tables.exec = Jvm.exec) (hb : c.code = code) (hr : meth.sig.returnType = ret) (hlocks : meth.locks = false) {pc : Nat} {H : Heap} {ls : Array Slot} (hdg : decode code pc = .ok (.ireturn, 1)) : W p l e room_1 s m #[Value.ref b] below meth c H [] 622155 7235784 (lw_Z below #[Value.ref b] s) (F0 m pc ls [.int 1]) := by
  intro T hT X
  obtain ⟨fs, hret, hrun, hended, hW, hframe⟩ := X.leave (v := some (.int 1)) (hlocks := hlocks) (fun h => by rw [hr] at h; cases h)
  have hmeth' : T.vm.method? m = some meth := X.method'
  refine ⟨T.setFrames fs, ?_, .returned (some (.int 1)), hrun, hended, rfl, ⟨_, rfl⟩, hW, hframe⟩
  jvm_step X.here [X.here.top, hx, hb, hdg, hmeth', hr, ret, narrow_b1]
  (try refine ⟨rfl, ?_⟩); (try refine ⟨rfl, ?_⟩)
  first | (intro acts; rw [hret _ acts rfl rfl rfl]) | rw [hret _ _ rfl rfl rfl]
  exact Steps.refl _
/-- what holds at the law's entry: the machine, the code, the tables' words (any of lw_tbl by 'hts w (by decide +kernel)'), the script of L ints xs at the cell b, what the Statement gives of the start (any of its parts by flat_of_before) -/
def lw_At (p : Program) (s : State) (m : MethodId) (meth : Method) (c : Code) (b L : Nat) (xs : Nat → Int32) : Prop :=
  p.tables.exec = Jvm.exec ∧ c.code = code ∧ meth.sig.returnType = ret ∧ c.maxLocals = 4 ∧ s.vm.findClass R_law = some m.cls ∧ (∀ w ∈ lw_tbl, w.before #[Value.ref b] s = true) ∧ va_X b L xs s s.heap ∧ b < s.heap.size ∧ meth.locks = false ∧ (Jvm.Cond.and given_1 narrow_1).before #[Value.ref b] s = true

/-- the script as a cell of the small machine's memory -/
def xscr (b L : Nat) (xs : Nat → Int32) : xM := fun q => if q = b then some (30, (List.range L).map (fun j => .int (xs j))) else none
/-- THE CLAIM, of the small machine alone -/
def xlaw_says : Prop := ∀ (L : Nat) (xs : Nat → Int32) (b z : Nat), L ≤ 2560 → b < z → ∃ (n : Nat) (M' : xM) (z' w' : Nat), exec n 11 mLw_law 0 [some (.ref b), none, none, none] [] (xscr b L xs) z 0 = some (some (.int 1), M', z', w') ∧ z' ≤ z + 622155 ∧ w' ≤ 7235784
set_option maxHeartbeats 4000000 in
set_option maxRecDepth 100000 in
theorem whole_from (hlaw : xlaw_says) {p : Program} {e : Env} {s : State} {m : MethodId} {below : List Frame} {meth : Method} {c : Code} (l : Launch) {b L : Nat} {xs : Nat → Int32} (hL : L ≤ 2560) (C0 : lw_At p s m meth c b L xs) : W p l e room_1 s m #[Value.ref b] below meth c s.heap [] 0 0 (lw_Z below #[Value.ref b] s) (entryFrame m ([Value.ref b] : List Value).toArray 4) := by
  obtain ⟨hx, hb, hr, hml, hown, hts, hX, hbl, hlocks, hgv⟩ := id C0
  have htx : ∀ w ∈ xtbl, w.before #[Value.ref b] s = true := fun w h => hts w (List.mem_filter.mp h).1
  have hnest : ∀ w ∈ xnest, va_Nw w s := by
    intro w hw
    have h1 := hts w (List.mem_append_right _ (List.mem_filter.mp hw).1)
    have h2 := xnest_kinds hw
    cases w with
    | fieldLinkNest a i b n d q => exact va_Nw.of rfl h1
    | methodLinkNest a i x q => exact va_Nw.of rfl h1
    | arrayOver ty => cases ty with
      | object C => exact va_AO.of h1
      | _ => exact absurd h2 (by simp [xisN])
    | _ => exact absurd h2 (by simp [xisN])
  have hKc : ∃ (dC : Nat → ClassId) (dI : Nat → Nat → Nat), ∀ (k : Nat) (q : vw_C), xCl[k]? = some q → u_Kn s q.1 q.2.1 q.2.2 (dC k) (dI k) := by
    have h : ∀ k : Nat, ∃ (cC : ClassId) (iS : Nat → Nat), ∀ q : vw_C, xCl[k]? = some q → u_Kn s q.1 q.2.1 q.2.2 cC iS := by
      intro k
      cases hk : xCl[k]? with
      | none => exact ⟨0, fun _ => 0, fun q h => by cases h⟩
      | some r =>
        obtain ⟨k1, k2, k3, k4, k5, k6, k7⟩ := xCl_ok _ _ hk
        obtain ⟨cC, iS, h⟩ := u_known (C := r.1) (T := r.2.1) (N := r.2.2) (n := r.2.2) htx k1 (htx _ k6)
        exact ⟨cC, iS, fun q hq => by cases hq; exact h⟩
    exact ⟨fun k => Classical.choose (h k), fun k => Classical.choose (Classical.choose_spec (h k)), fun k q hq => Classical.choose_spec (Classical.choose_spec (h k)) q hq⟩
  obtain ⟨dC, dI, hKc⟩ := hKc
  obtain ⟨scr, hscr, hsa, hsu, hss, hsv⟩ := hX
  obtain ⟨c20, k20, p20, f20, g20, h20⟩ := Cond.arrayClass_spec (htx _ xac_int)
  obtain ⟨c21, k21, p21, f21, g21, h21⟩ := Cond.arrayClass_spec (htx _ xac_long)
  obtain ⟨c22, k22, p22, f22, g22, h22⟩ := Cond.arrayClass_spec (htx _ xac_byte)
  obtain ⟨-, -, -, -, hov23⟩ := xAnT_ok (4, 9, 23) (by decide +kernel)
  obtain ⟨-, -, -, -, hov24⟩ := xAnT_ok (6, 9, 24) (by decide +kernel)
  obtain ⟨p23, c23, k23, e23, -, g23, h23, f23⟩ := Cond.arrayOver_spec (show (Cond.arrayOver (.object "RefStack$Table")).before #[] s = true from hnest _ hov23)
  obtain ⟨p24, c24, k24, e24, -, g24, h24, f24⟩ := Cond.arrayOver_spec (show (Cond.arrayOver (.object "RefStack$Rows")).before #[] s = true from hnest _ hov24)
  obtain ⟨hs1, k30, g30, p30, h30⟩ := hsa
  let dA : Nat → ClassId := fun k => if k = 20 then c20 else if k = 21 then c21 else if k = 22 then c22 else if k = 23 then c23 else if k = 24 then c24 else scr.cls
  have hK : xKn dC dI dA s := by
    refine ⟨hKc, fun k ty hk => ?_, hnest⟩
    unfold xEl at hk
    split at hk
    · cases hk; exact ⟨k20, p20, g20, h20, fun _ => f20, fun C h => by cases h⟩
    · cases hk; exact ⟨k21, p21, g21, h21, fun _ => f21, fun C h => by cases h⟩
    · cases hk; exact ⟨k22, p22, g22, h22, fun _ => f22, fun C h => by cases h⟩
    · cases hk; exact ⟨k23, p23, g23, h23, fun _ => f23, fun C h => by cases h; exact e23⟩
    · cases hk; exact ⟨k24, p24, g24, h24, fun _ => f24, fun C h => by cases h; exact e24⟩
    · cases hk; exact ⟨k30, p30, g30, h30, fun h => absurd rfl h, fun C h => by cases h⟩
    · cases hk
  obtain ⟨n, M', z', w', hex, hz', hw'⟩ := hlaw L xs b s.heap.size hL hbl
  obtain ⟨i1, i2, i3⟩ := exec_ok _ _ _ _ _ _ _ _ _ _ hex
  have G : xG mLw_law 11 p room_1 s m #[Value.ref b] meth c s.heap.size dC dI dA := ⟨hx, hb, hr, hml, hown, htx, hlocks, (fun h => absurd h (by decide)), hK, Nat.le_refl _, by decide, by decide, rfl⟩
  have hH : xH s.heap.size dC dI dA (xscr b L xs) s.heap.size s s.heap [] := by
    refine ⟨rfl, fun a c hc => ?_, va_S.rf⟩
    unfold xscr at hc
    split at hc
    · rename_i e; subst e
      cases hc
      refine ⟨Or.inr rfl, xat.mkarr (ty := .int) rfl hscr rfl hsu hs1 ?_⟩
      apply Array.ext'
      apply List.ext_getElem?
      intro i
      simp only [List.toList_toArray]
      by_cases hi : i < L
      · rw [Array.getElem?_toList, hsv i hi]; simp [hi]
      · rw [List.getElem?_eq_none (by simp [hss]; omega), List.getElem?_eq_none (by simp; omega)]
    · cases hc
  have hl := lv_entry ([.ref b]) (n := 4) (Nat.le_of_ble_eq_true rfl)
  rw [lg_entry_eq]
  generalize (lg_sl ([.ref b]) ++ List.replicate (4 - (lg_sl ([.ref b])).length) Slot.unset).toArray = ls at hl ⊢
  have hls : xhas ls mLw_law.2.2.2.2.1 [some (.ref b), none, none, none] := ⟨_, hl, fun i v h => by
    match i, h with
    | 0, h => cases h; exact List.mem_cons_self
    | 1, h => cases h
    | 2, h => cases h
    | 3, h => cases h
    | i + 4, h => cases h⟩
  have K := @i3 p l e room_1 s m #[Value.ref b] below meth c s.heap [] (lw_Z below #[Value.ref b] s) dC dI dA s.heap.size s.heap.size 0 ls G hH hls (Nat.le_refl _) (Nat.le_refl _) (by show z' - s.heap.size ≤ 622155; omega) (by show w' - 0 ≤ 7235784; omega) ?_
  · rw [Nat.sub_self] at K
    exact K
  · intro H' locs' pc' ls' ins hH' hd' hr'
    have hins : ins = .ireturn := by
      rcases (xret_inv hr').2 with ⟨_, _, h, _⟩ | ⟨_, _, h, _⟩ | ⟨_, _, _, h, h2, _⟩ | ⟨_, h, _⟩
      · exact h
      · cases h
      · rcases h2 with rfl | ⟨_, rfl⟩ <;> cases h
      · cases h
    subst hins
    refine va_forget (fun q hq => hH'.2.2.2.2 q hq) ?_
    refine W.widen (k := 622155) (n := 7235784) (by show z' - s.heap.size ≤ 622155; omega) (by show w' - 0 ≤ 7235784; omega) ?_
    exact lw_ret hx hb hr hlocks hd'
