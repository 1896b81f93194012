/-! the small machine is the real one: first the pure steps -/
def xhas (ls : Array Slot) (n : Nat) (lo : xL) : Prop := ∃ l, lv_has ls n l ∧ ∀ (i : Nat) (v : Value), xl lo i = some v → (i, v) ∈ l
theorem xhas.at {ls : Array Slot} {n : Nat} {lo : xL} {i : Nat} {v : Value} (h : xhas ls n lo) (hv : xl lo i = some v) : ls[i]? = some (.val v) := by
  obtain ⟨l, h1, h2⟩ := h
  exact h1.2.2 (i, v) (h2 i v hv)
theorem xhas.size {ls : Array Slot} {n : Nat} {lo : xL} (h : xhas ls n lo) : ls.size = n := by
  obtain ⟨l, h1, h2⟩ := h
  exact h1.1
theorem xk_some {w : Option Value} {v : Value} (h : xk w = some v) : w = some v ∧ v.category ≠ 2 := by
  cases w with
  | none => simp [xk] at h
  | some u => cases u <;> simp_all [xk, Value.category] <;> (subst h; simp [Value.category])
theorem xs1_get : ∀ (lo : xL) (i : Nat) (v : Value) (j : Nat) (u : Value), xl (xs1 lo i v) j = some u → (j = i ∧ u = v) ∨ (j ≠ i ∧ xl lo j = some u ∧ ¬ (j + 1 = i ∧ u.category = 2))
  | [], i, v, j, u, h => by simp [xs1, xl] at h
  | w :: r, 0, v, j, u, h => by
    cases j with
    | zero => simp [xs1, xl] at h; exact Or.inl ⟨rfl, h.symm⟩
    | succ j => simp [xs1, xl] at h; exact Or.inr ⟨by omega, by simpa [xl] using h, by omega⟩
  | w :: r, 1, v, j, u, h => by
    cases j with
    | zero =>
      simp [xs1, xl] at h
      obtain ⟨h1, h2⟩ := xk_some h
      exact Or.inr ⟨by omega, by simpa [xl] using h1, fun q => h2 q.2⟩
    | succ j =>
      have h' : xl (xs1 r 0 v) j = some u := by simpa [xs1, xl] using h
      rcases xs1_get r 0 v j u h' with ⟨e1, e2⟩ | ⟨e1, e2, e3⟩
      · exact Or.inl ⟨by omega, e2⟩
      · exact Or.inr ⟨by omega, by simpa [xl] using e2, fun q => e3 ⟨by omega, q.2⟩⟩
  | w :: r, i + 2, v, j, u, h => by
    cases j with
    | zero =>
      simp [xs1, xl] at h
      exact Or.inr ⟨by omega, by simpa [xl] using h, by omega⟩
    | succ j =>
      have h' : xl (xs1 r (i + 1) v) j = some u := by simpa [xs1, xl] using h
      rcases xs1_get r (i + 1) v j u h' with ⟨e1, e2⟩ | ⟨e1, e2, e3⟩
      · exact Or.inl ⟨by omega, e2⟩
      · exact Or.inr ⟨by omega, by simpa [xl] using e2, fun q => e3 ⟨by omega, q.2⟩⟩
theorem xnx_get {r : xL} {j : Nat} {u : Value} (h : xl (xnx r) j = some u) : j ≠ 0 ∧ xl r j = some u := by
  cases r with
  | nil => simp [xnx, xl] at h
  | cons a r => cases j with
    | zero => simp [xnx, xl] at h
    | succ j => exact ⟨by omega, by simpa [xnx, xl] using h⟩
theorem xs2_get : ∀ (lo : xL) (i : Nat) (v : Value) (j : Nat) (u : Value), xl (xs2 lo i v) j = some u → (j = i ∧ u = v) ∨ (j ≠ i ∧ j ≠ i + 1 ∧ xl lo j = some u ∧ ¬ (j + 1 = i ∧ u.category = 2))
  | [], i, v, j, u, h => by simp [xs2, xl] at h
  | w :: r, 0, v, j, u, h => by
    cases j with
    | zero => simp [xs2, xl] at h; exact Or.inl ⟨rfl, h.symm⟩
    | succ j =>
      have h' : xl (xnx r) j = some u := by simpa [xs2, xl] using h
      obtain ⟨e1, e2⟩ := xnx_get h'
      exact Or.inr ⟨by omega, by omega, by simpa [xl] using e2, by omega⟩
  | w :: r, 1, v, j, u, h => by
    cases j with
    | zero =>
      simp [xs2, xl] at h
      obtain ⟨h1, h2⟩ := xk_some h
      exact Or.inr ⟨by omega, by omega, by simpa [xl] using h1, fun q => h2 q.2⟩
    | succ j =>
      have h' : xl (xs2 r 0 v) j = some u := by simpa [xs2, xl] using h
      rcases xs2_get r 0 v j u h' with ⟨e1, e2⟩ | ⟨e1, e0, e2, e3⟩
      · exact Or.inl ⟨by omega, e2⟩
      · exact Or.inr ⟨by omega, by omega, by simpa [xl] using e2, fun q => e3 ⟨by omega, q.2⟩⟩
  | w :: r, i + 2, v, j, u, h => by
    cases j with
    | zero =>
      simp [xs2, xl] at h
      exact Or.inr ⟨by omega, by omega, by simpa [xl] using h, by omega⟩
    | succ j =>
      have h' : xl (xs2 r (i + 1) v) j = some u := by simpa [xs2, xl] using h
      rcases xs2_get r (i + 1) v j u h' with ⟨e1, e2⟩ | ⟨e1, e0, e2, e3⟩
      · exact Or.inl ⟨by omega, e2⟩
      · exact Or.inr ⟨by omega, by omega, by simpa [xl] using e2, fun q => e3 ⟨by omega, q.2⟩⟩
theorem xhas.st1 {lo : xL} {l : List (Nat × Value)} (h2 : ∀ (i : Nat) (v : Value), xl lo i = some v → (i, v) ∈ l) {ls' : Array Slot} {n i : Nat} {v : Value} (h : lv_has ls' n ((i, v) :: l.filter (fun q => !(q.1 == i) && !(q.1 + 1 == i && q.2.category == 2)))) : xhas ls' n (xs1 lo i v) := by
  refine ⟨_, h, fun j u hj => ?_⟩
  rcases xs1_get lo i v j u hj with ⟨rfl, rfl⟩ | ⟨e1, e2, e3⟩
  · exact List.mem_cons_self
  · refine List.mem_cons_of_mem _ (List.mem_filter.mpr ⟨h2 j u e2, ?_⟩)
    simp [e1]
    exact Decidable.not_and_iff_not_or_not.mp e3
theorem xhas.st2 {lo : xL} {l : List (Nat × Value)} (h2 : ∀ (i : Nat) (v : Value), xl lo i = some v → (i, v) ∈ l) {ls' : Array Slot} {n i : Nat} {v : Value} (h : lv_has ls' n ((i, v) :: l.filter (fun q => !(q.1 == i) && (!(q.1 == i + 1) && !(q.1 + 1 == i && q.2.category == 2))))) : xhas ls' n (xs2 lo i v) := by
  refine ⟨_, h, fun j u hj => ?_⟩
  rcases xs2_get lo i v j u hj with ⟨rfl, rfl⟩ | ⟨e1, e0, e2, e3⟩
  · exact List.mem_cons_self
  · refine List.mem_cons_of_mem _ (List.mem_filter.mpr ⟨h2 j u e2, ?_⟩)
    simp [e1, e0]
    exact Decidable.not_and_iff_not_or_not.mp e3
section XP
variable {p : Program} {l : Launch} {e : Env} {R : Room} {s : State} {m : MethodId} {args : Array Value} {below : List Frame} {meth : Method} {c : Code} {H : Heap} {locs : List Loc} {cells slots : Nat} {Q : State → Prop}
variable {cc : ByteArray} {pc n : Nat} {ls : Array Slot} {st st' : List Value} {lo lo' : xL} {pc' : Nat}
theorem xldi_inv {i : Nat} (h : xldi lo i pc st = some (pc', lo', st')) : ∃ x, xl lo i = some (.int x) ∧ pc = pc' ∧ lo = lo' ∧ .int x :: st = st' := by
  unfold xldi at h
  split at h
  · rename_i x hx; simp at h; exact ⟨x, hx, h.1, h.2.1, h.2.2⟩
  · cases h
theorem xldl_inv {i : Nat} (h : xldl lo i pc st = some (pc', lo', st')) : ∃ x, xl lo i = some (.long x) ∧ pc = pc' ∧ lo = lo' ∧ .long x :: st = st' := by
  unfold xldl at h
  split at h
  · rename_i x hx; simp at h; exact ⟨x, hx, h.1, h.2.1, h.2.2⟩
  · cases h
theorem xlda_inv {i : Nat} (h : xlda lo i pc st = some (pc', lo', st')) : ∃ v, xl lo i = some v ∧ (v = .null ∨ ∃ x, v = .ref x) ∧ pc = pc' ∧ lo = lo' ∧ v :: st = st' := by
  unfold xlda at h
  split at h
  · rename_i x hx; simp at h; exact ⟨_, hx, Or.inr ⟨x, rfl⟩, h.1, h.2.1, h.2.2⟩
  · rename_i hx; simp at h; exact ⟨_, hx, Or.inl rfl, h.1, h.2.1, h.2.2⟩
  · cases h
theorem xsti_inv {i : Nat} (h : xsti n lo i pc st = some (pc', lo', st')) : ∃ x, i < n ∧ st = .int x :: st' ∧ pc = pc' ∧ xs1 lo i (.int x) = lo' := by
  unfold xsti at h
  split at h
  · rename_i x r
    split at h
    · rename_i hi; simp at h; obtain ⟨a, b, rfl⟩ := h; exact ⟨x, hi, rfl, a, b⟩
    · cases h
  · cases h
theorem xstl_inv {i : Nat} (h : xstl n lo i pc st = some (pc', lo', st')) : ∃ x, i + 1 < n ∧ st = .long x :: st' ∧ pc = pc' ∧ xs2 lo i (.long x) = lo' := by
  unfold xstl at h
  split at h
  · rename_i x r
    split at h
    · rename_i hi; simp at h; obtain ⟨a, b, rfl⟩ := h; exact ⟨x, hi, rfl, a, b⟩
    · cases h
  · cases h
theorem xsta_inv {i : Nat} (h : xsta n lo i pc st = some (pc', lo', st')) : ∃ v, i < n ∧ (v = .null ∨ ∃ x, v = .ref x) ∧ st = v :: st' ∧ pc = pc' ∧ xs1 lo i v = lo' := by
  unfold xsta at h
  split at h
  · rename_i x r
    split at h
    · rename_i hi; simp at h; obtain ⟨a, b, rfl⟩ := h; exact ⟨_, hi, Or.inr ⟨x, rfl⟩, rfl, a, b⟩
    · cases h
  · rename_i r
    split at h
    · rename_i hi; simp at h; obtain ⟨a, b, rfl⟩ := h; exact ⟨_, hi, Or.inl rfl, rfl, a, b⟩
    · cases h
  · cases h
theorem xinc_inv {i : Nat} {k : Int} (h : xinc n lo i k pc st = some (pc', lo', st')) : ∃ x, i < n ∧ xl lo i = some (.int x) ∧ st = st' ∧ pc = pc' ∧ xs1 lo i (.int (x + Int32.ofInt k)) = lo' := by
  unfold xinc at h
  split at h
  · rename_i x hx
    split at h
    · rename_i hi; simp at h; exact ⟨x, hi, hx, h.2.2, h.1, h.2.1⟩
    · cases h
  · cases h
theorem xoi_inv {f : Int32 → Int32 → Int32} (h : xoi f pc lo st = some (pc', lo', st')) : ∃ x y r, st = .int y :: .int x :: r ∧ pc = pc' ∧ lo = lo' ∧ .int (f x y) :: r = st' := by
  unfold xoi at h
  split at h
  · rename_i y x r; simp at h; exact ⟨x, y, r, rfl, h.1, h.2.1, h.2.2⟩
  · cases h
theorem xoz_inv {f : Int32 → Int32 → Int32} (h : xoz f pc lo st = some (pc', lo', st')) : ∃ x y r, ¬ y = 0 ∧ st = .int y :: .int x :: r ∧ pc = pc' ∧ lo = lo' ∧ .int (f x y) :: r = st' := by
  unfold xoz at h
  split at h
  · rename_i y x r
    split at h
    · cases h
    · rename_i hy; simp at h; exact ⟨x, y, r, hy, rfl, h.1, h.2.1, h.2.2⟩
  · cases h
theorem xol_inv {f : Int64 → Int64 → Int64} (h : xol f pc lo st = some (pc', lo', st')) : ∃ x y r, st = .long y :: .long x :: r ∧ pc = pc' ∧ lo = lo' ∧ .long (f x y) :: r = st' := by
  unfold xol at h
  split at h
  · rename_i y x r; simp at h; exact ⟨x, y, r, rfl, h.1, h.2.1, h.2.2⟩
  · cases h
theorem xos_inv {f : Int64 → Int32 → Int64} (h : xos f pc lo st = some (pc', lo', st')) : ∃ x y r, st = .int y :: .long x :: r ∧ pc = pc' ∧ lo = lo' ∧ .long (f x y) :: r = st' := by
  unfold xos at h
  split at h
  · rename_i y x r; simp at h; exact ⟨x, y, r, rfl, h.1, h.2.1, h.2.2⟩
  · cases h
theorem xui_inv {f : Int32 → Value} (h : xui f pc lo st = some (pc', lo', st')) : ∃ x r, st = .int x :: r ∧ pc = pc' ∧ lo = lo' ∧ f x :: r = st' := by
  unfold xui at h
  split at h
  · rename_i x r; simp at h; exact ⟨x, r, rfl, h.1, h.2.1, h.2.2⟩
  · cases h
theorem xul_inv {f : Int64 → Value} (h : xul f pc lo st = some (pc', lo', st')) : ∃ x r, st = .long x :: r ∧ pc = pc' ∧ lo = lo' ∧ f x :: r = st' := by
  unfold xul at h
  split at h
  · rename_i x r; simp at h; exact ⟨x, r, rfl, h.1, h.2.1, h.2.2⟩
  · cases h
theorem xlc_inv (h : xlc pc lo st = some (pc', lo', st')) : ∃ x y r, st = .long y :: .long x :: r ∧ pc = pc' ∧ lo = lo' ∧ .int (lg_cmp x y) :: r = st' := by
  unfold xlc at h
  split at h
  · rename_i y x r; simp at h; exact ⟨x, y, r, rfl, h.1, h.2.1, h.2.2⟩
  · cases h
theorem xgo_inv {b : Bool} {off : Int} {r : List Value} (h : xgo b pc off lo r = some (pc', lo', st')) : lo = lo' ∧ r = st' ∧ ∃ tgt : Nat, (pc : Int) + off = (tgt : Int) ∧ (if b = true then tgt else pc + 3) = pc' := by
  unfold xgo at h
  split at h
  · rename_i h0; simp only [Option.some.injEq, Prod.mk.injEq] at h; obtain ⟨a, b', c'⟩ := h; exact ⟨b', c', ((pc : Int) + off).toNat, by omega, a⟩
  · cases h
theorem xtwo {b : Bool} {tgt : Nat} {lo : xL} {st : List Value} (k : ∀ ls', xhas ls' n lo → W p l e R s m args below meth c H locs cells slots Q (F0 m (if b = true then tgt else pc + 3) ls' st)) (hls : xhas ls n lo) :
    (b = true → W p l e R s m args below meth c H locs cells slots Q (F0 m tgt ls st)) ∧ (b = false → W p l e R s m args below meth c H locs cells slots Q (F0 m (pc + 3) ls st)) := by
  constructor
  · intro h; have := k ls hls; rw [if_pos h] at this; exact this
  · intro h; have := k ls hls; rw [if_neg (by rw [h]; decide)] at this; exact this
theorem xdp_inv (h : xdp pc lo st = some (pc', lo', st')) : ∃ v r, v.category = 1 ∧ st = v :: r ∧ pc = pc' ∧ lo = lo' ∧ v :: v :: r = st' := by
  unfold xdp at h
  split at h
  · rename_i v r
    split at h
    · rename_i hv; simp at h; exact ⟨v, r, hv, rfl, h.1, h.2.1, h.2.2⟩
    · cases h
  · cases h
theorem xdx1_inv (h : xdx1 pc lo st = some (pc', lo', st')) : ∃ v u r, v.category = 1 ∧ u.category = 1 ∧ st = v :: u :: r ∧ pc = pc' ∧ lo = lo' ∧ v :: u :: v :: r = st' := by
  unfold xdx1 at h
  split at h
  · rename_i v u r
    split at h
    · rename_i hv; simp at h; exact ⟨v, u, r, hv.1, hv.2, rfl, h.1, h.2.1, h.2.2⟩
    · cases h
  · cases h
theorem xdx2_inv (h : xdx2 pc lo st = some (pc', lo', st')) : ∃ v u t r, v.category = 1 ∧ u.category = 1 ∧ t.category = 1 ∧ st = v :: u :: t :: r ∧ pc = pc' ∧ lo = lo' ∧ v :: u :: t :: v :: r = st' := by
  unfold xdx2 at h
  split at h
  · rename_i v u t r
    split at h
    · rename_i hv; simp at h; exact ⟨v, u, t, r, hv.1, hv.2.1, hv.2.2, rfl, h.1, h.2.1, h.2.2⟩
    · cases h
  · cases h
theorem xd2_inv (h : xd2 pc lo st = some (pc', lo', st')) : ∃ v u r, v.category = 1 ∧ u.category = 1 ∧ st = v :: u :: r ∧ pc = pc' ∧ lo = lo' ∧ v :: u :: v :: u :: r = st' := by
  unfold xd2 at h
  split at h
  · rename_i v u r
    split at h
    · rename_i hv; simp at h; exact ⟨v, u, r, hv.1, hv.2, rfl, h.1, h.2.1, h.2.2⟩
    · cases h
  · cases h
theorem xpp_inv (h : xpp pc lo st = some (pc', lo', st')) : ∃ v r, v.category = 1 ∧ st = v :: r ∧ pc = pc' ∧ lo = lo' ∧ r = st' := by
  unfold xpp at h
  split at h
  · rename_i v r
    split at h
    · rename_i hv; simp at h; exact ⟨v, r, hv, rfl, h.1, h.2.1, h.2.2⟩
    · cases h
  · cases h
set_option maxHeartbeats 4000000 in
theorem xpure_ok {ins : Instr} {len : Nat} (hx : p.tables.exec = Jvm.exec) (hb : c.code = cc) (hd : decode cc pc = .ok (ins, len)) (hlen : xlen ins len = true) (h : xpure n ins pc lo st = some (pc', lo', st')) (hls : xhas ls n lo)
    (k : ∀ ls', xhas ls' n lo' → W p l e R s m args below meth c H locs cells slots Q (F0 m pc' ls' st')) : W p l e R s m args below meth c H locs cells slots Q (F0 m pc ls st) := by
  cases ins with
  | aconst_null =>
    simp [xlen] at hlen; subst hlen
    simp [xpure] at h; obtain ⟨rfl, rfl, rfl⟩ := h
    exact lv_null hx hb hd (k _ hls)
  | iconst q =>
    simp [xlen] at hlen; subst hlen
    simp [xpure] at h; obtain ⟨rfl, rfl, rfl⟩ := h
    exact lv_iconst hx hb hd rfl (k _ hls)
  | bipush q =>
    simp [xlen] at hlen; subst hlen
    simp [xpure] at h; obtain ⟨rfl, rfl, rfl⟩ := h
    exact lv_bipush hx hb hd rfl (k _ hls)
  | sipush q =>
    simp [xlen] at hlen; subst hlen
    simp [xpure] at h; obtain ⟨rfl, rfl, rfl⟩ := h
    exact lv_sipush hx hb hd rfl (k _ hls)
  | lconst q =>
    simp [xlen] at hlen; subst hlen
    simp [xpure] at h; obtain ⟨rfl, rfl, rfl⟩ := h
    exact lv_lconst hx hb hd rfl (k _ hls)
  | iload_n q =>
    simp [xlen] at hlen; subst hlen
    obtain ⟨x, h1, rfl, rfl, rfl⟩ := xldi_inv h
    exact lv_iload_n hx hb hd rfl (hls.at h1) (k _ hls)
  | iload q =>
    simp [xlen] at hlen; subst hlen
    obtain ⟨x, h1, rfl, rfl, rfl⟩ := xldi_inv h
    exact lv_iload hx hb hd (hls.at h1) (k _ hls)
  | lload_n q =>
    simp [xlen] at hlen; subst hlen
    obtain ⟨x, h1, rfl, rfl, rfl⟩ := xldl_inv h
    exact lv_lload_n hx hb hd rfl (hls.at h1) (k _ hls)
  | lload q =>
    simp [xlen] at hlen; subst hlen
    obtain ⟨x, h1, rfl, rfl, rfl⟩ := xldl_inv h
    exact lv_lload hx hb hd (hls.at h1) (k _ hls)
  | aload_n q =>
    simp [xlen] at hlen; subst hlen
    obtain ⟨v, h1, h2, rfl, rfl, rfl⟩ := xlda_inv h
    rcases h2 with rfl | ⟨x, rfl⟩
    · exact lv_aload_nN hx hb hd rfl (hls.at h1) (k _ hls)
    · exact lv_aload_n hx hb hd rfl (hls.at h1) (k _ hls)
  | aload q =>
    simp [xlen] at hlen; subst hlen
    obtain ⟨v, h1, h2, rfl, rfl, rfl⟩ := xlda_inv h
    rcases h2 with rfl | ⟨x, rfl⟩
    · exact lv_aloadN hx hb hd (hls.at h1) (k _ hls)
    · exact lv_aload hx hb hd (hls.at h1) (k _ hls)
  | istore_n q =>
    simp [xlen] at hlen; subst hlen
    obtain ⟨x, hi, rfl, rfl, rfl⟩ := xsti_inv h
    obtain ⟨lv, h1, h2⟩ := hls
    exact lv_istore_n hx hb hd rfl h1 hi rfl (fun ls' h => k ls' (xhas.st1 h2 h))
  | istore q =>
    simp [xlen] at hlen; subst hlen
    obtain ⟨x, hi, rfl, rfl, rfl⟩ := xsti_inv h
    obtain ⟨lv, h1, h2⟩ := hls
    exact lv_istore hx hb hd h1 hi rfl (fun ls' h => k ls' (xhas.st1 h2 h))
  | lstore_n q =>
    simp [xlen] at hlen; subst hlen
    obtain ⟨x, hi, rfl, rfl, rfl⟩ := xstl_inv h
    obtain ⟨lv, h1, h2⟩ := hls
    exact lv_lstore_n hx hb hd rfl h1 hi rfl (fun ls' h => k ls' (xhas.st2 h2 h))
  | lstore q =>
    simp [xlen] at hlen; subst hlen
    obtain ⟨x, hi, rfl, rfl, rfl⟩ := xstl_inv h
    obtain ⟨lv, h1, h2⟩ := hls
    exact lv_lstore hx hb hd h1 hi rfl (fun ls' h => k ls' (xhas.st2 h2 h))
  | astore_n q =>
    simp [xlen] at hlen; subst hlen
    obtain ⟨v, hi, hv, rfl, rfl, rfl⟩ := xsta_inv h
    obtain ⟨lv, h1, h2⟩ := hls
    rcases hv with rfl | ⟨x, rfl⟩
    · exact lv_astore_nN hx hb hd rfl h1 hi rfl (fun ls' h => k ls' (xhas.st1 h2 h))
    · exact lv_astore_n hx hb hd rfl h1 hi rfl (fun ls' h => k ls' (xhas.st1 h2 h))
  | astore q =>
    simp [xlen] at hlen; subst hlen
    obtain ⟨v, hi, hv, rfl, rfl, rfl⟩ := xsta_inv h
    obtain ⟨lv, h1, h2⟩ := hls
    rcases hv with rfl | ⟨x, rfl⟩
    · exact lv_astoreN hx hb hd h1 hi rfl (fun ls' h => k ls' (xhas.st1 h2 h))
    · exact lv_astore hx hb hd h1 hi rfl (fun ls' h => k ls' (xhas.st1 h2 h))
  | iinc i q =>
    simp [xlen] at hlen; subst hlen
    obtain ⟨x, hi, hx1, rfl, rfl, rfl⟩ := xinc_inv h
    obtain ⟨lv, h1, h2⟩ := hls
    obtain ⟨j, hj⟩ := List.getElem?_of_mem (h2 i _ hx1)
    exact lv_iinc hx hb hd h1 hj rfl hi rfl (fun ls' h => k ls' (xhas.st1 h2 h))
  | iadd =>
    simp [xlen] at hlen; subst hlen
    obtain ⟨x, y, r, rfl, rfl, rfl, rfl⟩ := xoi_inv h
    exact lv_iadd hx hb hd (k _ hls)
  | isub =>
    simp [xlen] at hlen; subst hlen
    obtain ⟨x, y, r, rfl, rfl, rfl, rfl⟩ := xoi_inv h
    exact lv_isub hx hb hd (k _ hls)
  | imul =>
    simp [xlen] at hlen; subst hlen
    obtain ⟨x, y, r, rfl, rfl, rfl, rfl⟩ := xoi_inv h
    exact lv_imul hx hb hd (k _ hls)
  | iand =>
    simp [xlen] at hlen; subst hlen
    obtain ⟨x, y, r, rfl, rfl, rfl, rfl⟩ := xoi_inv h
    exact lv_iand hx hb hd (k _ hls)
  | ior =>
    simp [xlen] at hlen; subst hlen
    obtain ⟨x, y, r, rfl, rfl, rfl, rfl⟩ := xoi_inv h
    exact lv_ior hx hb hd (k _ hls)
  | ixor =>
    simp [xlen] at hlen; subst hlen
    obtain ⟨x, y, r, rfl, rfl, rfl, rfl⟩ := xoi_inv h
    exact lv_ixor hx hb hd (k _ hls)
  | ishl =>
    simp [xlen] at hlen; subst hlen
    obtain ⟨x, y, r, rfl, rfl, rfl, rfl⟩ := xoi_inv h
    exact lv_ishl hx hb hd (k _ hls)
  | ishr =>
    simp [xlen] at hlen; subst hlen
    obtain ⟨x, y, r, rfl, rfl, rfl, rfl⟩ := xoi_inv h
    exact lv_ishr hx hb hd (k _ hls)
  | idiv =>
    simp [xlen] at hlen; subst hlen
    obtain ⟨x, y, r, hy, rfl, rfl, rfl, rfl⟩ := xoz_inv h
    exact lv_idiv hx hb hd hy (k _ hls)
  | irem =>
    simp [xlen] at hlen; subst hlen
    obtain ⟨x, y, r, hy, rfl, rfl, rfl, rfl⟩ := xoz_inv h
    exact lv_irem hx hb hd hy (k _ hls)
  | ladd =>
    simp [xlen] at hlen; subst hlen
    obtain ⟨x, y, r, rfl, rfl, rfl, rfl⟩ := xol_inv h
    exact lv_ladd hx hb hd (k _ hls)
  | lsub =>
    simp [xlen] at hlen; subst hlen
    obtain ⟨x, y, r, rfl, rfl, rfl, rfl⟩ := xol_inv h
    exact lv_lsub hx hb hd (k _ hls)
  | land =>
    simp [xlen] at hlen; subst hlen
    obtain ⟨x, y, r, rfl, rfl, rfl, rfl⟩ := xol_inv h
    exact lv_land hx hb hd (k _ hls)
  | lor =>
    simp [xlen] at hlen; subst hlen
    obtain ⟨x, y, r, rfl, rfl, rfl, rfl⟩ := xol_inv h
    exact lv_lor hx hb hd (k _ hls)
  | lshl =>
    simp [xlen] at hlen; subst hlen
    obtain ⟨x, y, r, rfl, rfl, rfl, rfl⟩ := xos_inv h
    exact lv_lshl hx hb hd rfl (k _ hls)
  | lushr =>
    simp [xlen] at hlen; subst hlen
    obtain ⟨x, y, r, rfl, rfl, rfl, rfl⟩ := xos_inv h
    exact lv_lushr hx hb hd rfl (k _ hls)
  | lneg =>
    simp [xlen] at hlen; subst hlen
    obtain ⟨x, r, rfl, rfl, rfl, rfl⟩ := xul_inv h
    exact lv_lneg hx hb hd (k _ hls)
  | i2l =>
    simp [xlen] at hlen; subst hlen
    obtain ⟨x, r, rfl, rfl, rfl, rfl⟩ := xui_inv h
    exact lv_i2l hx hb hd rfl (k _ hls)
  | i2b =>
    simp [xlen] at hlen; subst hlen
    obtain ⟨x, r, rfl, rfl, rfl, rfl⟩ := xui_inv h
    exact lv_i2b hx hb hd rfl (k _ hls)
  | l2i =>
    simp [xlen] at hlen; subst hlen
    obtain ⟨x, r, rfl, rfl, rfl, rfl⟩ := xul_inv h
    exact lv_l2i hx hb hd rfl (k _ hls)
  | lcmp =>
    simp [xlen] at hlen; subst hlen
    obtain ⟨x, y, r, rfl, rfl, rfl, rfl⟩ := xlc_inv h
    exact W.lcmp hx hb hd (k _ hls)
  | dup =>
    simp [xlen] at hlen; subst hlen
    obtain ⟨v, r, hv, rfl, rfl, rfl, rfl⟩ := xdp_inv h
    exact lv_dup hx hb hd hv (k _ hls)
  | dup_x1 =>
    simp [xlen] at hlen; subst hlen
    obtain ⟨v, u, r, hv, hu, rfl, rfl, rfl, rfl⟩ := xdx1_inv h
    exact lv_dup_x1 hx hb hd hv hu (k _ hls)
  | dup_x2 =>
    simp [xlen] at hlen; subst hlen
    obtain ⟨v, u, t, r, hv, hu, ht, rfl, rfl, rfl, rfl⟩ := xdx2_inv h
    exact lv_dup_x2 hx hb hd hv hu ht (k _ hls)
  | dup2 =>
    simp [xlen] at hlen; subst hlen
    obtain ⟨v, u, r, hv, hu, rfl, rfl, rfl, rfl⟩ := xd2_inv h
    exact lv_dup2_11 hx hb hd hv hu (k _ hls)
  | pop =>
    simp [xlen] at hlen; subst hlen
    obtain ⟨v, r, hv, rfl, rfl, rfl, rfl⟩ := xpp_inv h
    exact lv_pop hx hb hd hv (k _ hls)
  | goto off =>
    simp [xlen] at hlen; subst hlen
    obtain ⟨rfl, rfl, tgt, ht, rfl⟩ := xgo_inv (h : xgo true pc off lo st = some (pc', lo', st'))
    exact lv_goto hx hb hd ht ((xtwo k hls).1 rfl)
  | ifCond cnd off =>
    simp [xlen] at hlen; subst hlen
    have h : xif cnd pc off lo st = some (pc', lo', st') := h
    unfold xif at h
    split at h
    · rename_i x r
      obtain ⟨rfl, rfl, tgt, ht, rfl⟩ := xgo_inv h
      have K := xtwo k hls
      cases cnd
      · exact lv_if_eq hx hb hd ht (fun q => K.1 (by simpa [xcd] using q)) (fun q => K.2 (by simpa [xcd] using q))
      · exact lv_if_ne hx hb hd ht (fun q => K.1 (by simpa [xcd] using q)) (fun q => K.2 (by simpa [xcd] using q))
      · exact lv_if_lt hx hb hd ht (fun q => K.1 (by simpa [xcd] using q)) (fun q => K.2 (by simpa [xcd] using q))
      · exact lv_if_ge hx hb hd ht (fun q => K.1 (by simpa [xcd] using q)) (fun q => K.2 (by simpa [xcd] using q))
      · exact lv_if_gt hx hb hd ht (fun q => K.1 (by simpa [xcd] using q)) (fun q => K.2 (by simpa [xcd] using q))
      · exact lv_if_le hx hb hd ht (fun q => K.1 (by simpa [xcd] using q)) (fun q => K.2 (by simpa [xcd] using q))
    · cases h
  | if_icmp cnd off =>
    simp [xlen] at hlen; subst hlen
    have h : xic cnd pc off lo st = some (pc', lo', st') := h
    unfold xic at h
    split at h
    · rename_i y x r
      obtain ⟨rfl, rfl, tgt, ht, rfl⟩ := xgo_inv h
      have K := xtwo k hls
      cases cnd
      · exact lv_icmp_eq hx hb hd ht (fun q => K.1 (by simpa [xcd] using q)) (fun q => K.2 (by simpa [xcd] using q))
      · exact lv_icmp_ne hx hb hd ht (fun q => K.1 (by simpa [xcd] using q)) (fun q => K.2 (by simpa [xcd] using q))
      · exact lv_icmp_lt hx hb hd ht (fun q => K.1 (by simpa [xcd] using q)) (fun q => K.2 (by simpa [xcd] using q))
      · exact lv_icmp_ge hx hb hd ht (fun q => K.1 (by simpa [xcd] using q)) (fun q => K.2 (by simpa [xcd] using q))
      · exact lv_icmp_gt hx hb hd ht (fun q => K.1 (by simpa [xcd] using q)) (fun q => K.2 (by simpa [xcd] using q))
      · exact lv_icmp_le hx hb hd ht (fun q => K.1 (by simpa [xcd] using q)) (fun q => K.2 (by simpa [xcd] using q))
    · cases h
  | ifnull off =>
    simp [xlen] at hlen; subst hlen
    have h : xnl true pc off lo st = some (pc', lo', st') := h
    unfold xnl at h
    split at h
    · obtain ⟨rfl, rfl, tgt, ht, rfl⟩ := xgo_inv h
      exact lv_ifnullN hx hb hd ht ((xtwo k hls).1 rfl)
    · obtain ⟨rfl, rfl, tgt, ht, rfl⟩ := xgo_inv h
      exact lv_ifnull hx hb hd ((xtwo k hls).2 rfl)
    · cases h
  | ifnonnull off =>
    simp [xlen] at hlen; subst hlen
    have h : xnl false pc off lo st = some (pc', lo', st') := h
    unfold xnl at h
    split at h
    · obtain ⟨rfl, rfl, tgt, ht, rfl⟩ := xgo_inv h
      exact lv_ifnonnullN hx hb hd ((xtwo k hls).2 rfl)
    · obtain ⟨rfl, rfl, tgt, ht, rfl⟩ := xgo_inv h
      exact lv_ifnonnull hx hb hd ht ((xtwo k hls).1 rfl)
    · cases h
  | tableswitch dflt a b offs =>
    have h : xtsw dflt a b offs pc lo st = some (pc', lo', st') := h
    unfold xtsw at h
    split at h
    · rename_i x r
      split at h
      · rename_i hc
        obtain ⟨rfl, rfl, tgt, ht, rfl⟩ := xgo_inv h
        exact lv_tableOut hx hb hd hc ht ((xtwo k hls).1 rfl)
      · rename_i hc
        split at h
        · rename_i off ho
          obtain ⟨rfl, rfl, tgt, ht, rfl⟩ := xgo_inv h
          exact lv_tableIn hx hb hd (fun q => hc (Or.inl q)) (fun q => hc (Or.inr q)) ho ht ((xtwo k hls).1 rfl)
        · cases h
    · cases h
  | _ => exact absurd h (by simp [xpure])
end XP
