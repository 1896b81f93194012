/-! how a table is written, as mathematics -/
def vE (n : Nat) : List Nat := if n < 128 then [n] else if n < 16384 then [n % 128 + 128, n / 128] else [n % 128 + 128, n / 128 % 128 + 128, n / 16384]
def syms (k : Nat) : Nat → Nat → List Nat
  | _, 0 => []
  | i, n + 1 => sy k i :: syms k (i + 1) n
/-- a record: key, time, content (0 absent, above 0 a number, below 0 the key of a link) -/
abbrev arec : Type := Nat × Nat × Int
/-- an entry: key, time, old, new -/
abbrev aent : Type := Nat × Nat × Nat × Nat
def knd (c : Int) : Nat := if c = 0 then 0 else if 0 < c then 1 else 2
def contE (c : Int) : List Nat := if c = 0 then [] else if 0 < c then vE c.toNat else vE (alk (-c).toNat (-c).toNat) ++ syms (-c).toNat 0 (alk (-c).toNat (-c).toNat)
def shd (i p k : Nat) : Nat := if i % 4 = 0 then 0 else alk p k
def recE (i p lw : Nat) (r : arec) : List Nat := vE (shd i p r.1) ++ vE (4 * (alk r.1 r.1 - shd i p r.1) + knd r.2.2) ++ syms r.1 (shd i p r.1) (alk r.1 r.1 - shd i p r.1) ++ vE (r.2.1 - lw) ++ contE r.2.2
def entE (i p : Nat) (e : aent) : List Nat := vE (shd i p e.1) ++ vE (alk e.1 e.1 - shd i p e.1) ++ syms e.1 (shd i p e.1) (alk e.1 e.1 - shd i p e.1) ++ vE e.2.1 ++ vE e.2.2.1 ++ vE e.2.2.2
def recsE (lw : Nat) : Nat → Nat → List arec → List Nat
  | _, _, [] => []
  | i, p, r :: rs => recE i p lw r ++ recsE lw (i + 1) r.1 rs
def entsE : Nat → Nat → List aent → List Nat
  | _, _, [] => []
  | i, p, e :: es => entE i p e ++ entsE (i + 1) e.1 es
def ser0 (lw hg : Nat) (R : List arec) (E : List aent) : List Nat := [82] ++ vE lw ++ vE hg ++ vE R.length ++ recsE lw 0 0 R ++ vE E.length ++ entsE 0 0 E
def ser (lw hg : Nat) (R : List arec) (E : List aent) : List Nat := ser0 lw hg R E ++ [crc (ser0 lw hg R E) / 256, crc (ser0 lw hg R E) % 256]
def rawC (c : Int) : Int64 := if 0 ≤ c then lN c.toNat else -(lN (-c).toNat)
def rawR (r : arec) : xrow := (lN r.1, nI r.2.1, rawC r.2.2)
def rawE (e : aent) : xrow := (lN e.1, nI e.2.1, lN (e.2.2.1 * 65536 + e.2.2.2))
def okC (c : Int) : Prop := c < 65536 ∧ -(2 ^ 60 : Int) < c
def okR (lw : Nat) (r : arec) : Prop := r.1 < 2 ^ 60 ∧ lw ≤ r.2.1 ∧ r.2.1 ≤ 2001 ∧ okC r.2.2
def okE (e : aent) : Prop := e.1 < 2 ^ 60 ∧ e.2.1 ≤ 2001 ∧ e.2.2.1 < 65536 ∧ e.2.2.2 < 65536
theorem alkN_self (a b : Nat) : ∀ n, alkN a b n ≤ alkN b b n
  | 0 => Nat.le_refl _
  | n + 1 => by
    unfold alkN
    have := alkN_self a b n
    by_cases h : a / 2 ^ (5 * n) % 32 = 0 ∨ a / 2 ^ (5 * n) % 32 ≠ b / 2 ^ (5 * n) % 32
    · rw [if_pos h]; omega
    · rw [if_neg h, if_neg (by rintro (q | q); exact h (Or.inl (by have : a / 2 ^ (5 * n) % 32 = b / 2 ^ (5 * n) % 32 := Classical.byContradiction fun z => h (Or.inr z); omega)); exact q rfl)]
      omega
theorem alk_self (a b : Nat) : alk a b ≤ alk b b := alkN_self a b 12
theorem shd_le (i p k : Nat) : shd i p k ≤ alk k k := by
  unfold shd
  split
  · omega
  · exact alk_self p k
theorem vE_b {n : Nat} (h : n < 2097152) : ∀ b ∈ vE n, b < 256 := by
  intro b hb
  unfold vE at hb
  split at hb
  · simp at hb; omega
  · split at hb
    · simp at hb; omega
    · simp at hb; omega
theorem nx_or (a b : Nat) : nI a ||| nI b = nI (a ||| b) := by
  apply Int32.toBitVec_inj.1
  show BitVec.ofNat 32 a ||| BitVec.ofNat 32 b = BitVec.ofNat 32 (a ||| b)
  apply BitVec.eq_of_getLsbD_eq
  intro i hi
  simp [hi]
theorem vbyte (n : Nat) : (nI n &&& nI 127) ||| nI 128 = nI (n % 128 + 128) := by
  rw [pk_and (nI n) 7 (by decide), nI_mod n, pk_tn (Nat.mod_lt _ (by decide)), nx_or]
  congr 1
  have h : n % 2 ^ 32 % 2 ^ 7 = n % 128 := by omega
  rw [h, Nat.or_comm]
  have := Nat.two_pow_add_eq_or_of_lt (i := 7) (b := n % 128) (by omega) 1
  rw [Nat.mul_one] at this
  rw [← this]
  omega
theorem vshr {n : Nat} (h : n < 2 ^ 31) : nI n >>> (nI 7 &&& 31) = nI (n / 128) := pk_shrN h (nI 7 &&& 31) 7 (by decide)
