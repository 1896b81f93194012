/-! walking the small machine: WP, and what each instruction asks -/
theorem exec_mono : ∀ (n d : Nat) (m : xY) (pc : Nat) (lo : xL) (st : List Value) (M : xM) (z w : Nat) (r : xR), exec n d m pc lo st M z w = some r → exec (n + 1) d m pc lo st M z w = some r := by
  intro n
  induction n with
  | zero => intro d m pc lo st M z w r h; cases h
  | succ n ih =>
    intro d m pc lo st M z w r h
    unfold exec at h ⊢
    cases hd : decode m.2.2.2.1 pc with
    | error e => simp only [hd] at h; cases h
    | ok q =>
      obtain ⟨ins, len⟩ := q
      simp only [hd] at h ⊢
      by_cases hlen : xlen ins len = true
      · rw [if_pos hlen] at h ⊢
        cases hf : xpure m.2.2.2.2.1 ins pc lo st with
        | some f => simp only [hf] at h ⊢; exact ih _ _ _ _ _ _ _ _ _ h
        | none =>
          simp only [hf] at h ⊢
          cases hg : xmem m ins pc lo st M with
          | some g => simp only [hg] at h ⊢; exact ih _ _ _ _ _ _ _ _ _ h
          | none =>
            simp only [hg] at h ⊢
            cases hk : xmak m ins pc st with
            | some g => simp only [hk] at h ⊢; exact ih _ _ _ _ _ _ _ _ _ h
            | none =>
              simp only [hk] at h ⊢
              cases hv : xret m ins st with
              | some v => simp only [hv] at h ⊢; exact h
              | none =>
                simp only [hv] at h ⊢
                cases d with
                | zero => cases h
                | succ d =>
                  simp only at h ⊢
                  cases hr : xlib m ins st with
                  | some r' =>
                    simp only [hr] at h ⊢
                    by_cases h8 : xcat r' ≤ 8
                    · rw [if_pos h8] at h ⊢; exact ih _ _ _ _ _ _ _ _ _ h
                    · rw [if_neg h8] at h; cases h
                  | none =>
                    simp only [hr] at h ⊢
                    cases hc : xinv m ins st M with
                    | none => simp only [hc] at h; cases h
                    | some cc =>
                      simp only [hc] at h ⊢
                      by_cases hk : xcat cc.2.2 ≤ 8 ∧ (xsl cc.2.1).length ≤ cc.1.2.2.2.2.1
                      · rw [if_pos hk] at h ⊢
                        cases hq : exec n d cc.1 0 (xent cc.2.1 cc.1.2.2.2.2.1) [] M z w with
                        | none => simp only [hq] at h; cases h
                        | some q => simp only [hq] at h; rw [ih _ _ _ _ _ _ _ _ _ hq]; exact ih _ _ _ _ _ _ _ _ _ h
                      · rw [if_neg hk] at h; cases h
      · rw [if_neg hlen] at h; cases h
theorem exec_le {n k d : Nat} {m : xY} {pc : Nat} {lo : xL} {st : List Value} {M : xM} {z w : Nat} {r : xR} (h : exec n d m pc lo st M z w = some r) (hk : n ≤ k) : exec k d m pc lo st M z w = some r := by
  induction hk with
  | refl => exact h
  | step _ ih => exact exec_mono _ _ _ _ _ _ _ _ _ _ ih
/-- from this frame on the machine comes to an end of which Q holds -/
def WP (d : Nat) (m : xY) (pc : Nat) (lo : xL) (st : List Value) (M : xM) (z w : Nat) (Q : Option Value → xM → Nat → Nat → Prop) : Prop :=
  ∃ (n : Nat) (r : xR), exec n d m pc lo st M z w = some r ∧ Q r.1 r.2.1 r.2.2.1 r.2.2.2
section WPS
variable {d : Nat} {m : xY} {pc len : Nat} {lo : xL} {st : List Value} {M : xM} {z w : Nat} {Q : Option Value → xM → Nat → Nat → Prop} {ins : Instr}
theorem WP.imp {Q' : Option Value → xM → Nat → Nat → Prop} (h : WP d m pc lo st M z w Q) (hq : ∀ v M' z' w', Q v M' z' w' → Q' v M' z' w') : WP d m pc lo st M z w Q' := by
  obtain ⟨n, r, h1, h2⟩ := h
  exact ⟨n, r, h1, hq _ _ _ _ h2⟩
/-- an end that is known is the only one -/
theorem WP.det {v : Option Value} {M' : xM} {z' w' : Nat} (h : WP d m pc lo st M z w (fun v1 M1 z1 w1 => v1 = v ∧ M1 = M' ∧ z1 = z' ∧ w1 = w')) : WP d m pc lo st M z w Q ↔ Q v M' z' w' := by
  obtain ⟨n, r, h1, h2, h3, h4, h5⟩ := h
  constructor
  · rintro ⟨k, r2, g1, g2⟩
    have e1 := exec_le h1 (Nat.le_max_left n k)
    have e2 := exec_le g1 (Nat.le_max_right n k)
    rw [e1] at e2
    cases e2
    rw [h2, h3, h4, h5] at g2
    exact g2
  · intro h
    exact ⟨n, r, h1, by rw [h2, h3, h4, h5]; exact h⟩
theorem wp_pure {pc' : Nat} {lo' : xL} {st' : List Value} (hd : decode m.2.2.2.1 pc = .ok (ins, len)) (hl : xlen ins len = true) (hp : xpure m.2.2.2.2.1 ins pc lo st = some (pc', lo', st')) : WP d m pc lo st M z w Q ↔ WP d m pc' lo' st' M z w Q := by
  have key : ∀ n, exec (n + 1) d m pc lo st M z w = exec n d m pc' lo' st' M z w := by
    intro n
    conv => lhs; unfold exec
    simp only [hd, hl, hp, if_true]
  constructor
  · rintro ⟨n, r, h1, h2⟩
    cases n with
    | zero => cases h1
    | succ n => exact ⟨n, r, by rw [← key]; exact h1, h2⟩
  · rintro ⟨n, r, h1, h2⟩
    exact ⟨n + 1, r, by rw [key]; exact h1, h2⟩
theorem wp_mem {pc' : Nat} {lo' : xL} {st' : List Value} {M' : xM} (hd : decode m.2.2.2.1 pc = .ok (ins, len)) (hl : xlen ins len = true) (hp : xpure m.2.2.2.2.1 ins pc lo st = none) (hm : xmem m ins pc lo st M = some ((pc', lo', st'), M')) : WP d m pc lo st M z w Q ↔ WP d m pc' lo' st' M' z w Q := by
  have key : ∀ n, exec (n + 1) d m pc lo st M z w = exec n d m pc' lo' st' M' z w := by
    intro n
    conv => lhs; unfold exec
    simp only [hd, hl, hp, hm, if_true]
  constructor
  · rintro ⟨n, r, h1, h2⟩
    cases n with
    | zero => cases h1
    | succ n => exact ⟨n, r, by rw [← key]; exact h1, h2⟩
  · rintro ⟨n, r, h1, h2⟩
    exact ⟨n + 1, r, by rw [key]; exact h1, h2⟩
theorem wp_mak {pc' : Nat} {st' : List Value} {cl : xC} (hd : decode m.2.2.2.1 pc = .ok (ins, len)) (hl : xlen ins len = true) (hp : xpure m.2.2.2.2.1 ins pc lo st = none) (hm : xmem m ins pc lo st M = none) (hk : xmak m ins pc st = some (pc', st', cl)) : WP d m pc lo st M z w Q ↔ WP d m pc' lo (.ref z :: st') (xput M z cl) (z + 1) (w + cl.2.length) Q := by
  have key : ∀ n, exec (n + 1) d m pc lo st M z w = exec n d m pc' lo (.ref z :: st') (xput M z cl) (z + 1) (w + cl.2.length) := by
    intro n
    conv => lhs; unfold exec
    simp only [hd, hl, hp, hm, hk, if_true]
  constructor
  · rintro ⟨n, r, h1, h2⟩
    cases n with
    | zero => cases h1
    | succ n => exact ⟨n, r, by rw [← key]; exact h1, h2⟩
  · rintro ⟨n, r, h1, h2⟩
    exact ⟨n + 1, r, by rw [key]; exact h1, h2⟩
theorem wp_ret {v : Option Value} (hd : decode m.2.2.2.1 pc = .ok (ins, len)) (hl : xlen ins len = true) (hp : xpure m.2.2.2.2.1 ins pc lo st = none) (hm : xmem m ins pc lo st M = none) (hk : xmak m ins pc st = none) (hv : xret m ins st = some v) : WP d m pc lo st M z w Q ↔ Q v M z w := by
  have key : ∀ n, exec (n + 1) d m pc lo st M z w = some (v, M, z, w) := by
    intro n
    conv => lhs; unfold exec
    simp only [hd, hl, hp, hm, hk, hv, if_true]
  constructor
  · rintro ⟨n, r, h1, h2⟩
    cases n with
    | zero => cases h1
    | succ n => rw [key] at h1; cases h1; exact h2
  · intro h
    exact ⟨1, _, key 0, h⟩
theorem wp_lib {r : List Value} (hd : decode m.2.2.2.1 pc = .ok (ins, len)) (hl : xlen ins len = true) (hp : xpure m.2.2.2.2.1 ins pc lo st = none) (hm : xmem m ins pc lo st M = none) (hk : xmak m ins pc st = none) (hv : xret m ins st = none) (hb : xlib m ins st = some r) (h8 : xcat r ≤ 8) : WP (d + 1) m pc lo st M z w Q ↔ WP (d + 1) m (pc + 3) lo r M z w Q := by
  have key : ∀ n, exec (n + 1) (d + 1) m pc lo st M z w = exec n (d + 1) m (pc + 3) lo r M z w := by
    intro n
    conv => lhs; unfold exec
    simp only [hd, hl, hp, hm, hk, hv, hb, h8, if_true]
  constructor
  · rintro ⟨n, r, h1, h2⟩
    cases n with
    | zero => cases h1
    | succ n => exact ⟨n, r, by rw [← key]; exact h1, h2⟩
  · rintro ⟨n, r, h1, h2⟩
    exact ⟨n + 1, r, by rw [key]; exact h1, h2⟩
theorem wp_call {y : xY} {as r : List Value} (hd : decode m.2.2.2.1 pc = .ok (ins, len)) (hl : xlen ins len = true) (hp : xpure m.2.2.2.2.1 ins pc lo st = none) (hm : xmem m ins pc lo st M = none) (hk : xmak m ins pc st = none) (hv : xret m ins st = none) (hb : xlib m ins st = none) (hi : xinv m ins st M = some (y, as, r)) (h8 : xcat r ≤ 8) (hln : (xsl as).length ≤ y.2.2.2.2.1) :
    WP (d + 1) m pc lo st M z w Q ↔ WP d y 0 (xent as y.2.2.2.2.1) [] M z w (fun v M' z' w' => WP (d + 1) m (pc + 3) lo (v.toList ++ r) M' z' w' Q) := by
  have key : ∀ n, exec (n + 1) (d + 1) m pc lo st M z w = (match exec n d y 0 (xent as y.2.2.2.2.1) [] M z w with
      | some q => exec n (d + 1) m (pc + 3) lo (q.1.toList ++ r) q.2.1 q.2.2.1 q.2.2.2
      | none => none) := by
    intro n
    conv => lhs; unfold exec
    simp only [hd, hl, hp, hm, hk, hv, hb, hi, h8, hln, if_true, and_self]
    rfl
  constructor
  · rintro ⟨n, r2, h1, h2⟩
    cases n with
    | zero => cases h1
    | succ n =>
      rw [key] at h1
      split at h1
      · rename_i q hq
        exact ⟨n, q, hq, n, r2, h1, h2⟩
      · cases h1
  · rintro ⟨n, q, h1, k, r2, h2, h3⟩
    refine ⟨max n k + 1, r2, ?_, h3⟩
    rw [key, exec_le h1 (Nat.le_max_left n k)]
    exact exec_le h2 (Nat.le_max_right n k)
end WPS
section WPT
variable {d : Nat} {m : xY} {pc len : Nat} {lo : xL} {st : List Value} {M : xM} {z w : Nat} {Q : Option Value → xM → Nat → Nat → Prop} {ins : Instr}
theorem wp_if (c : Prop) [Decidable c] {p1 p2 : Nat} {st' : List Value} (hd : decode m.2.2.2.1 pc = .ok (ins, len)) (hl : xlen ins len = true) (h1 : c → xpure m.2.2.2.2.1 ins pc lo st = some (p1, lo, st')) (h2 : ¬ c → xpure m.2.2.2.2.1 ins pc lo st = some (p2, lo, st')) : WP d m pc lo st M z w Q ↔ (if c then WP d m p1 lo st' M z w Q else WP d m p2 lo st' M z w Q) := by
  by_cases h : c
  · rw [if_pos h]; exact wp_pure hd hl (h1 h)
  · rw [if_neg h]; exact wp_pure hd hl (h2 h)
theorem wp_get {k t j a : Nat} {fs : List Value} {v : Value} (hd : decode m.2.2.2.1 pc = .ok (.getfield k, 3)) (hf : xfld m.1 k = some (t, j)) (h : M a = some (t, fs)) (hv : fs[j]? = some v) : WP d m pc lo (.ref a :: st) M z w Q ↔ WP d m (pc + 3) lo (v :: st) M z w Q :=
  wp_mem hd rfl rfl (by simp only [xmem, xgetf, hf, h, hv, if_true])
theorem xbool {x : Int32} (h : x = 0 ∨ x = 1) : narrow .boolean (.int x) = .int x ∧ fits .boolean (.int x) = true := by
  rcases h with rfl | rfl <;> exact ⟨rfl, rfl⟩
theorem wp_put {k t j a : Nat} {fs : List Value} {u v : Value} (hd : decode m.2.2.2.1 pc = .ok (.putfield k, 3)) (hf : xfld m.1 k = some (t, j)) (h : M a = some (t, fs)) (hu : fs[j]? = some u) (hv : narrow (xTyp t j) v = v ∧ fits (xTyp t j) v = true) (hq : xfin t j = false ∨ (m.2.2.1.name = "<init>" ∧ m.1 = t)) : WP d m pc lo (v :: .ref a :: st) M z w Q ↔ WP d m (pc + 3) lo st (xput M a (t, fs.set j v)) z w Q := by
  have hl : j < fs.length := (List.getElem?_eq_some_iff.mp hu).1
  exact wp_mem hd rfl rfl (by simp only [xmem, xputf, hf, h]; rw [if_pos ⟨trivial, hl, hv.1, hv.2, hq⟩])
theorem xclamp {i : Int32} {k : Nat} (hi : i.toInt = (k : Int)) : ¬ i < 0 ∧ i.toNatClampNeg = k := by
  constructor
  · intro h
    have := Int32.lt_iff_toInt_lt.mp h
    rw [hi, Int32.toInt_zero] at this
    omega
  · show i.toInt.toNat = k
    rw [hi]; rfl
theorem xald_at {ts : List Nat} {a t k : Nat} {i : Int32} {l : List Value} {v : Value} (ht : t ∈ ts) (h : M a = some (t, l)) (hi : i.toInt = (k : Int)) (hv : l[k]? = some v) : xald ts pc lo (.int i :: .ref a :: st) M = some ((pc + 1, lo, v :: st), M) := by
  obtain ⟨h0, h1⟩ := xclamp hi
  simp only [xald, h, h1, hv]
  rw [if_pos ⟨ht, h0⟩]
theorem xast_at {a t k : Nat} {f : Value → Option Value} {i : Int32} {l : List Value} {v u : Value} (h : M a = some (t, l)) (hf : f v = some u) (hi : i.toInt = (k : Int)) (hk : k < l.length) : xast t f pc lo (v :: .int i :: .ref a :: st) M = some ((pc + 1, lo, st), xput M a (t, l.set k u)) := by
  obtain ⟨h0, h1⟩ := xclamp hi
  simp only [xast, h, hf, h1]
  rw [if_pos ⟨trivial, h0, hk⟩]
theorem xaas_at {a t q k : Nat} {i : Int32} {l fs : List Value} (ht : t = 23 ∨ t = 24) (h : M a = some (t, l)) (hq : M q = some (xtag t, fs)) (hi : i.toInt = (k : Int)) (hk : k < l.length) : xaas pc lo (.ref q :: .int i :: .ref a :: st) M = some ((pc + 1, lo, st), xput M a (t, l.set k (.ref q))) := by
  obtain ⟨h0, h1⟩ := xclamp hi
  simp only [xaas, h, hq, h1]
  rw [if_pos ⟨ht, trivial, h0, hk⟩]
theorem wp_nwa {at' : ArrayType} {t k : Nat} {v : Value} {i : Int32} (hd : decode m.2.2.2.1 pc = .ok (.newarray at', 2)) (ha : xarr at' = some (t, v)) (hi : i.toInt = (k : Int)) (hk : k ≤ 1000000) : WP d m pc lo (.int i :: st) M z w Q ↔ WP d m (pc + 2) lo (.ref z :: st) (xput M z (t, List.replicate k v)) (z + 1) (w + k) Q := by
  obtain ⟨h0, h1⟩ := xclamp hi
  have := wp_mak (d := d) (m := m) (lo := lo) (M := M) (z := z) (w := w) (Q := Q) (st := .int i :: st) (st' := st) (pc' := pc + 2) (cl := (t, List.replicate k v)) hd rfl rfl rfl (by simp only [xmak, ha, h1]; rw [if_pos ⟨h0, hk⟩])
  simpa using this
theorem wp_nwr {q t k : Nat} {i : Int32} (hd : decode m.2.2.2.1 pc = .ok (.anewarray q, 3)) (ha : xanw m.1 q = some t) (hi : i.toInt = (k : Int)) (hk : k ≤ 1000000) : WP d m pc lo (.int i :: st) M z w Q ↔ WP d m (pc + 3) lo (.ref z :: st) (xput M z (t, List.replicate k .null)) (z + 1) (w + k) Q := by
  obtain ⟨h0, h1⟩ := xclamp hi
  have := wp_mak (d := d) (m := m) (lo := lo) (M := M) (z := z) (w := w) (Q := Q) (st := .int i :: st) (st' := st) (pc' := pc + 3) (cl := (t, List.replicate k .null)) hd rfl rfl rfl (by simp only [xmak, ha, h1]; rw [if_pos ⟨h0, hk⟩])
  simpa using this
theorem wp_cs {k i : Nat} {y : xY} {as r : List Value} (hd : decode m.2.2.2.1 pc = .ok (.invokestatic k, 3)) (hc : xcal m.1 k = some (0, i)) (hy : xMs[i]? = some y) (hb : ¬ (m.1 = 4 ∧ (k = 46 ∨ k = 112 ∨ k = 40))) (hst : st = as.reverse ++ r) (hn : as.length = y.2.1) (h8 : xcat r ≤ 8) (hln : (xsl as).length ≤ y.2.2.2.2.1) :
    WP (d + 1) m pc lo st M z w Q ↔ WP d y 0 (xent as y.2.2.2.2.1) [] M z w (fun v M' z' w' => WP (d + 1) m (pc + 3) lo (v.toList ++ r) M' z' w' Q) := by
  subst hst
  have ht : (as.reverse ++ r).take y.2.1 = as.reverse := List.take_left' (by rw [List.length_reverse]; exact hn)
  have hdr : (as.reverse ++ r).drop y.2.1 = r := List.drop_left' (by rw [List.length_reverse]; exact hn)
  refine wp_call hd rfl rfl rfl rfl rfl ?_ ?_ h8 hln
  · simp only [xlib]
    rw [if_neg (fun h => hb ⟨h.1, Or.inl h.2⟩), if_neg (fun h => hb ⟨h.1, Or.inr (Or.inl h.2)⟩), if_neg (fun h => hb ⟨h.1, Or.inr (Or.inr h.2)⟩)]
  · simp only [xinv, hc, hy, ht, hdr, List.reverse_reverse]
    rw [if_pos (by rw [List.length_append, List.length_reverse]; omega)]
theorem wp_cv {k i b : Nat} {y : xY} {as r fs : List Value} (hd : decode m.2.2.2.1 pc = .ok (.invokevirtual k, 3)) (hc : xcal m.1 k = some (1, i)) (hy : xMs[i]? = some y) (h : M b = some (y.1, fs)) (hst : st = as.reverse ++ .ref b :: r) (hn : as.length = y.2.1) (h8 : xcat r ≤ 8) (hln : (xsl (.ref b :: as)).length ≤ y.2.2.2.2.1) :
    WP (d + 1) m pc lo st M z w Q ↔ WP d y 0 (xent (.ref b :: as) y.2.2.2.2.1) [] M z w (fun v M' z' w' => WP (d + 1) m (pc + 3) lo (v.toList ++ r) M' z' w' Q) := by
  subst hst
  have ht : (as.reverse ++ .ref b :: r).take y.2.1 = as.reverse := List.take_left' (by rw [List.length_reverse]; exact hn)
  have hdr : (as.reverse ++ .ref b :: r).drop y.2.1 = .ref b :: r := List.drop_left' (by rw [List.length_reverse]; exact hn)
  refine wp_call hd rfl rfl rfl rfl rfl rfl ?_ h8 hln
  simp only [xinv, hc, hy, ht, hdr, h, List.reverse_reverse]
  rw [if_pos ⟨trivial, by rw [List.length_append, List.length_reverse]; omega⟩]
theorem wp_ci {k i q b : Nat} {y : xY} {as r : List Value} (hd : decode m.2.2.2.1 pc = .ok (.invokespecial k, 3)) (hc : xcal m.1 k = some (q, i)) (hy : xMs[i]? = some y) (hq : q = 2 ∨ q = 3) (ho : xobj m.1 k = false) (hst : st = as.reverse ++ .ref b :: r) (hn : as.length = y.2.1) (h8 : xcat r ≤ 8) (hln : (xsl (.ref b :: as)).length ≤ y.2.2.2.2.1) :
    WP (d + 1) m pc lo st M z w Q ↔ WP d y 0 (xent (.ref b :: as) y.2.2.2.2.1) [] M z w (fun v M' z' w' => WP (d + 1) m (pc + 3) lo (v.toList ++ r) M' z' w' Q) := by
  subst hst
  have ht : (as.reverse ++ .ref b :: r).take y.2.1 = as.reverse := List.take_left' (by rw [List.length_reverse]; exact hn)
  have hdr : (as.reverse ++ .ref b :: r).drop y.2.1 = .ref b :: r := List.drop_left' (by rw [List.length_reverse]; exact hn)
  refine wp_call hd rfl rfl rfl rfl rfl ?_ ?_ h8 hln
  · simp only [xlib, ho]; rfl
  · simp only [xinv, hc, hy, ht, hdr, List.reverse_reverse]
    rw [if_pos ⟨hq, by rw [List.length_append, List.length_reverse]; omega⟩]
theorem xret_i {x : Int32} (h : m.2.2.2.2.2 = some .int) : xret m .ireturn [.int x] = some (some (.int x)) := by
  simp only [xret, h]
  exact if_pos rfl
theorem wp_ite {c : Prop} [Decidable c] {a b : Int32} : (if c then WP d m pc lo (.int a :: st) M z w Q else WP d m pc lo (.int b :: st) M z w Q) ↔ WP d m pc lo (.int (if c then a else b) :: st) M z w Q := by
  by_cases h : c <;> simp [h]
theorem xk_i {x : Int32} : xk (some (.int x)) = some (.int x) := rfl
theorem xk_l {x : Int64} : xk (some (.long x)) = none := rfl
theorem xk_a {x : Nat} : xk (some (.ref x)) = some (.ref x) := rfl
theorem xk_n : xk (some .null) = some .null := rfl
theorem xk_0 : xk none = none := rfl
theorem lcmp_eq {x y : Int64} : lg_cmp x y = nI 0 ↔ x = y := by
  show lg_cmp x y = 0 ↔ x = y
  unfold lg_cmp
  by_cases h : x > y
  · rw [if_pos h]; constructor
    · intro q; exact absurd q (by decide)
    · rintro rfl; exact (Int64.lt_irrefl h).elim
  · rw [if_neg h]
    by_cases h2 : x = y
    · rw [if_pos h2]; exact ⟨fun _ => h2, fun _ => rfl⟩
    · rw [if_neg h2]; exact ⟨fun q => absurd q (by decide), fun q => absurd q h2⟩
theorem lcmp_lt {x y : Int64} : lg_cmp x y < nI 0 ↔ x < y := by
  show lg_cmp x y < 0 ↔ x < y
  unfold lg_cmp
  by_cases h : x > y
  · rw [if_pos h]; exact ⟨fun q => absurd q (by decide), fun q => absurd h (by have h1 := Int64.lt_iff_toInt_lt.mp q; intro h2; have h3 := Int64.lt_iff_toInt_lt.mp h2; omega)⟩
  · rw [if_neg h]
    by_cases h2 : x = y
    · rw [if_pos h2]; exact ⟨fun q => absurd q (by decide), fun q => absurd q (by rw [h2]; exact fun q => Int64.lt_irrefl q)⟩
    · rw [if_neg h2]
      refine ⟨fun _ => ?_, fun _ => by decide⟩
      rw [Int64.lt_iff_toInt_lt]
      have h3 : ¬ y.toInt < x.toInt := fun q => h (Int64.lt_iff_toInt_lt.mpr q)
      have h4 : ¬ x.toInt = y.toInt := fun q => h2 (Int64.toInt_inj.mp q)
      omega
theorem lcmp_ge {x y : Int64} : nI 0 ≤ lg_cmp x y ↔ y ≤ x := by
  show 0 ≤ lg_cmp x y ↔ y ≤ x
  have h : lg_cmp x y < 0 ↔ x < y := @lcmp_lt x y
  rw [Int64.lt_iff_toInt_lt, Int32.lt_iff_toInt_lt, Int32.toInt_zero] at h
  rw [Int64.le_iff_toInt_le, Int32.le_iff_toInt_le, Int32.toInt_zero]
  omega
theorem lcmp_gt {x y : Int64} : nI 0 < lg_cmp x y ↔ y < x := by
  show 0 < lg_cmp x y ↔ y < x
  have h1 : lg_cmp x y < 0 ↔ x < y := @lcmp_lt x y
  have h2 : lg_cmp x y = 0 ↔ x = y := @lcmp_eq x y
  rw [← Int32.toInt_inj, Int32.toInt_zero, ← Int64.toInt_inj] at h2
  rw [Int64.lt_iff_toInt_lt, Int32.lt_iff_toInt_lt, Int32.toInt_zero] at h1
  rw [Int64.lt_iff_toInt_lt, Int32.lt_iff_toInt_lt, Int32.toInt_zero]
  omega
theorem lcmp_le {x y : Int64} : lg_cmp x y ≤ nI 0 ↔ x ≤ y := by
  show lg_cmp x y ≤ 0 ↔ x ≤ y
  have h1 : 0 < lg_cmp x y ↔ y < x := @lcmp_gt x y
  rw [Int64.lt_iff_toInt_lt, Int32.lt_iff_toInt_lt, Int32.toInt_zero] at h1
  rw [Int64.le_iff_toInt_le, Int32.le_iff_toInt_le, Int32.toInt_zero]
  omega
end WPT
