/-! how a table is read, as mathematics -/
def bD : List Nat → Option (Nat × List Nat)
  | [] => none
  | b :: r => some (b, r)
def vD : List Nat → Option (Nat × List Nat)
  | [] => none
  | b0 :: l0 => if b0 < 128 then some (b0, l0) else match l0 with
    | [] => none
    | b1 :: l1 => if b1 < 128 then (if b1 = 0 then none else some (b0 % 128 + 128 * b1, l1)) else match l1 with
      | [] => none
      | b2 :: l2 => if b2 < 128 then (if b2 = 0 then none else some (b0 % 128 + 128 * (b1 % 128) + 16384 * b2, l2)) else none
/-- symbols into a key, from place i on -/
def kD : Nat → Nat → Nat → List Nat → Option (Nat × List Nat)
  | 0, _, acc, l => some (acc, l)
  | _ + 1, _, _, [] => none
  | n + 1, i, acc, b :: l => if 1 ≤ b ∧ b ≤ 31 then kD n (i + 1) (acc + b * 2 ^ (5 * (11 - i))) l else none
def kpr (p : Nat) : Nat → Nat
  | 0 => 0
  | i + 1 => kpr p i + sy p i * 2 ^ (5 * (11 - i))
/-- the good name that has the first symbols of another one and the next bytes -/
def nK (p sh n : Nat) (l : List Nat) : Option (Nat × List Nat) := if 12 < sh + n then none else (kD n sh (kpr p sh) l).bind fun q => if gk q.1 = true then some q else none
def cD (kind : Nat) (l : List Nat) : Option (Int × List Nat) :=
  if kind = 0 then some (0, l)
  else if kind = 1 then (vD l).bind fun q => if 1 ≤ q.1 ∧ q.1 ≤ 65535 then some ((q.1 : Int), q.2) else none
  else if kind = 2 then (vD l).bind fun q => (nK 0 0 q.1 q.2).bind fun k => some (-(k.1 : Int), k.2)
  else none
def nD (l : List Nat) : Option (Nat × List Nat) := (vD l).bind fun q => if q.1 ≤ 65535 then some q else none
def rD (i p lw hg : Nat) (l : List Nat) : Option (arec × List Nat) :=
  (vD l).bind fun sh => (vD sh.2).bind fun hd => if 1 ≤ hd.1 / 4 then
  (nK p sh.1 (hd.1 / 4) hd.2).bind fun k => if sh.1 = shd i p k.1 ∧ p < k.1 then
  (vD k.2).bind fun dt => if lw + dt.1 ≤ hg then
  (cD (hd.1 % 4) dt.2).bind fun c => some ((k.1, lw + dt.1, c.1), c.2) else none else none else none
/-- pt: the time of the entry before -/
def eD (i p pt lw hg : Nat) (l : List Nat) : Option (aent × List Nat) :=
  (vD l).bind fun sh => (vD sh.2).bind fun n => (nK p sh.1 n.1 n.2).bind fun k => if sh.1 = shd i p k.1 ∧ p ≤ k.1 then
  (vD k.2).bind fun tm => if lw ≤ tm.1 ∧ tm.1 ≤ hg then (if i = 0 ∨ k.1 ≠ p ∨ tm.1 < pt then
  (nD tm.2).bind fun o => (nD o.2).bind fun nw => some ((k.1, tm.1, o.1, nw.1), nw.2) else none) else none else none
def rsD (lw hg : Nat) : Nat → Nat → Nat → List Nat → Option (List arec × List Nat)
  | 0, _, _, l => some ([], l)
  | n + 1, i, p, l => (rD i p lw hg l).bind fun r => (rsD lw hg n (i + 1) r.1.1 r.2).bind fun q => some (r.1 :: q.1, q.2)
def esD (lw hg : Nat) : Nat → Nat → Nat → Nat → List Nat → Option (List aent × List Nat)
  | 0, _, _, _, l => some ([], l)
  | n + 1, i, p, pt, l => (eD i p pt lw hg l).bind fun e => (esD lw hg n (i + 1) e.1.1 e.1.2.1 e.2).bind fun q => some (e.1 :: q.1, q.2)
abbrev atab : Type := Nat × Nat × List arec × List aent
/-- all but the two bytes of the CHECK -/
def hD (l : List Nat) : Option (atab × List Nat) :=
  (bD l).bind fun b => if b.1 = 82 then (vD b.2).bind fun lw => (vD lw.2).bind fun hg => if 1 ≤ lw.1 ∧ lw.1 ≤ hg.1 ∧ hg.1 ≤ 2000 then
  (vD hg.2).bind fun cn => if cn.1 ≤ 30 then (rsD lw.1 hg.1 cn.1 0 0 cn.2).bind fun R => (vD R.2).bind fun lg => if lg.1 ≤ 40 then
  (esD lw.1 hg.1 lg.1 0 0 0 lg.2).bind fun E => some ((lw.1, hg.1, R.1, E.1), E.2) else none else none else none else none
/-- what the bytes of a well formed table say -/
def pT (bs : List Nat) : Option atab := (hD (bs.take (bs.length - 2))).bind fun q => if q.2 = [] ∧ crc (bs.take (bs.length - 2)) = bs.getD (bs.length - 2) 0 * 256 + bs.getD (bs.length - 1) 0 then some q.1 else none
/-- what a step of reading leaves: rel of its value and the rest, or a failure -/
def PR {α : Type} (p : List Nat → Option (α × List Nat)) (ps : Option (List Nat)) (rel : α → Prop) (ps' : Option (List Nat)) : Prop := match ps.bind p with
  | some q => rel q.1 ∧ ps' = some q.2
  | none => ps' = none
theorem PR.no {α : Type} {p : List Nat → Option (α × List Nat)} {rel : α → Prop} {ps' : Option (List Nat)} (h : PR p none rel ps') : ps' = none := h
theorem PR.so {α : Type} {p : List Nat → Option (α × List Nat)} {l : List Nat} {rel : α → Prop} {ps' : Option (List Nat)} (h : PR p (some l) rel ps') : (∃ q, p l = some q ∧ rel q.1 ∧ ps' = some q.2) ∨ (p l = none ∧ ps' = none) := by
  unfold PR at h
  rw [Option.bind_some] at h
  cases hq : p l with
  | none => rw [hq] at h; exact Or.inr ⟨rfl, h⟩
  | some q => rw [hq] at h; exact Or.inl ⟨q, rfl, h⟩
theorem vD_lt {l : List Nat} {q : Nat × List Nat} (h : vD l = some q) : q.1 < 2097152 := by
  unfold vD at h
  split at h
  · cases h
  · split at h
    · cases h; show _ < _; omega
    · split at h
      · cases h
      · split at h
        · split at h
          · cases h
          · cases h; show _ < _; omega
        · split at h
          · cases h
          · split at h
            · split at h
              · cases h
              · cases h; show _ < _; omega
            · cases h
