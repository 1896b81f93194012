/-! the law: one call of the class, one of the reference -/
abbrev scrL (Ls : Nat) (xs : Nat → Int32) : List Value := (List.range Ls).map (fun j => Value.int (xs j))
theorem scr_at {Ls j : Nat} {xs : Nat → Int32} (h : j < Ls) : (scrL Ls xs)[j]? = some (.int (xs j)) := by
  rw [List.getElem?_map, List.getElem?_range h]
  rfl
def LwS (M : xM) (g : Nat → Int32) (A : Nat → Nat → Int32) (L : Nat → Nat → Int64) (x z w wb b Ls : Nat) (xs : Nat → Int32) (B : List (List Nat)) (tx : Option (List achg)) : Prop :=
  KAt (MM (AR M (x + 15) A L) (x + 15) g) x z w wb B tx ∧ StA g A B ∧ TxR g A L tx ∧ M b = some (30, scrL Ls xs) ∧ b < x ∧ Inv B ∧ ∀ cs, tx = some cs → okX cs
section WR
variable {d x m wb : Nat} {B : List (List Nat)} {tx : Option (List achg)} {M : xM} {g : Nat → Int32} {A : Nat → Nat → Int32} {L : Nat → Nat → Int64} {z w : Nat} {Q : Option Value → xM → Nat → Nat → Prop} {v u : Int64} {e k what : Int32}
theorem w_get (hK : KAt M x z w wb B tx) : WP (d + 3) mRS_get 0 [some (.ref x), some (.long v), none] [] M z w Q ↔ Q (some (.int (gtS B (kN v)))) M z w := by
  have h := c_RS_get (d := d) (Q := Q) (n := kN v) (kN_lt v) hK
  rwa [lN_kN] at h
theorem w_target (hK : KAt M x z w wb B tx) : WP (d + 3) mRS_target 0 [some (.ref x), some (.long v), none, none, none] [] M z w Q ↔ Q (some (.long (tgS B (kN v)))) M z w := by
  have h := c_RS_target (d := d) (Q := Q) (n := kN v) (kN_lt v) hK
  rwa [lN_kN] at h
theorem w_resolve (hK : KAt M x z w wb B tx) : WP (d + 3) mRS_resolve 0 [some (.ref x), some (.long v), none, none, none, none] [] M z w Q ↔ Q (some (.int (rsS B (kN v)))) M z w := by
  have h := c_RS_resolve (d := d) (Q := Q) (n := kN v) (kN_lt v) hK
  rwa [lN_kN] at h
theorem w_scan (hK : KAt M x z w wb B tx) (K : ∀ M', KAt M' x z w wb B tx → OnlyK M M' x → Q (some (.long (scS B (kN v) k))) M' z w) : WP (d + 3) mRS_scan 0 [some (.ref x), some (.long v), none, some (.int k), none, none, none, none, none] [] M z w Q := by
  have h := c_RS_scan (d := d) (Q := Q) (p := kN v) (k := k) (kN_lt v) hK K
  rwa [lN_kN] at h
theorem w_log (hK : KAt M x z w wb B tx) (K : ∀ M', KAt M' x z w wb B tx → OnlyK M M' x → Q (some (.int (lgS B (kN v) k what))) M' z w) : WP (d + 3) mRS_log 0 [some (.ref x), some (.long v), none, some (.int k), some (.int what), none, none, none, none, none] [] M z w Q := by
  have h := c_RS_log (d := d) (Q := Q) (n := kN v) (k := k) (what := what) (kN_lt v) hK K
  rwa [lN_kN] at h
theorem w_update (hK : KAt M x z w wb B tx) (K0 : ¬ (updR e k ∧ canA tx (gkey (kN v))) → Q (some (.int (nI 0))) M z w) (K1 : updR e k ∧ canA tx (gkey (kN v)) → ∀ M', KAt M' x z w wb B (putA tx (gkey (kN v)) e k.toInt) → OnlyK M M' x → Q (some (.int (nI 1))) M' z w) : WP (d + 3) mRS_update 0 [some (.ref x), some (.long v), none, some (.int e), some (.int k)] [] M z w Q := by
  have h := c_RS_update (d := d) (Q := Q) (n := kN v) (e := e) (v := k) (kN_lt v) hK K0 K1
  rwa [lN_kN] at h
theorem w_link (hK : KAt M x z w wb B tx) (K0 : ¬ (gkey (kN u) ≠ 0 ∧ gkey (kN u) ≠ gkey (kN v) ∧ canA tx (gkey (kN v))) → Q (some (.int (nI 0))) M z w) (K1 : gkey (kN u) ≠ 0 ∧ gkey (kN u) ≠ gkey (kN v) ∧ canA tx (gkey (kN v)) → ∀ M', KAt M' x z w wb B (putA tx (gkey (kN v)) (-1) (-(gkey (kN u) : Int))) → OnlyK M M' x → Q (some (.int (nI 1))) M' z w) : WP (d + 3) mRS_link 0 [some (.ref x), some (.long v), none, some (.long u), none, none, none, none, none] [] M z w Q := by
  have h := c_RS_link (d := d) (Q := Q) (n := kN v) (t := kN u) (kN_lt v) (kN_lt u) hK K0 K1
  rwa [lN_kN, lN_kN] at h
theorem y_get (h8 : B.length ≤ 8) (hS : StA g A B) (K : ∀ g' A' L', Fr FgV FaR FlR g g' A A' L L' → Q (some (.int (gtS B (kN v)))) (MM (AR M m A' L') m g') z w) : WP (d + 7) mMd_get 0 [some (.ref m), some (.long v), none, none] [] (MM (AR M m A L) m g) z w Q := by
  have h := c_Md_get (d := d) (m := m) (M := M) (n := kN v) (kN_lt v) h8 hS K
  rwa [lN_kN] at h
theorem y_target (h8 : B.length ≤ 8) (hS : StA g A B) (K : ∀ g' A' L', Fr FgV FaR FlR g g' A A' L L' → Q (some (.long (tgS B (kN v)))) (MM (AR M m A' L') m g') z w) : WP (d + 7) mMd_target 0 [some (.ref m), some (.long v), none, none] [] (MM (AR M m A L) m g) z w Q := by
  have h := c_Md_target (d := d) (m := m) (M := M) (n := kN v) (kN_lt v) h8 hS K
  rwa [lN_kN] at h
theorem y_resolve (h8 : B.length ≤ 8) (hS : StA g A B) (K : ∀ g' A' L', Fr FgV FaR FlR g g' A A' L L' → Q (some (.int (rsS B (kN v)))) (MM (AR M m A' L') m g') z w) : WP (d + 7) mMd_resolve 0 [some (.ref m), some (.long v), none, none, none] [] (MM (AR M m A L) m g) z w Q := by
  have h := c_Md_resolve (d := d) (m := m) (M := M) (n := kN v) (kN_lt v) h8 hS K
  rwa [lN_kN] at h
theorem y_scan (h8 : B.length ≤ 8) (hS : StA g A B) (K : ∀ g' A' L', Fr FgV FaR FlR g g' A A' L L' → Q (some (.long (scS B (kN v) k))) (MM (AR M m A' L') m g') z w) : WP (d + 7) mMd_scan 0 [some (.ref m), some (.long v), none, some (.int k), none, none, none, none] [] (MM (AR M m A L) m g) z w Q := by
  have h := c_Md_scan (d := d) (m := m) (M := M) (p := kN v) (k := k) (kN_lt v) h8 hS K
  rwa [lN_kN] at h
theorem y_log (h8 : B.length ≤ 8) (hS : StA g A B) (K : ∀ g' A' L', Fr FgV FaR FlR g g' A A' L L' → Q (some (.int (lgS B (kN v) k what))) (MM (AR M m A' L') m g') z w) : WP (d + 7) mMd_log 0 [some (.ref m), some (.long v), none, some (.int k), some (.int what), none] [] (MM (AR M m A L) m g) z w Q := by
  have h := c_Md_log (d := d) (m := m) (M := M) (n := kN v) (k := k) (what := what) (kN_lt v) h8 hS K
  rwa [lN_kN] at h
theorem y_update (hT : TxR g A L tx) (hok : ∀ cs, tx = some cs → okX cs) (K0 : ¬ (updR e k ∧ canA tx (gkey (kN v))) → Q (some (.int (nI 0))) (MM (AR M m A L) m g) z w)
    (K1 : updR e k ∧ canA tx (gkey (kN v)) → ∀ g' A' L', TxR g' A' L' (putA tx (gkey (kN v)) e k.toInt) → Fr [4] [4, 5] [3, 6] g g' A A' L L' → Q (some (.int (nI 1))) (MM (AR M m A' L') m g') z w) :
    WP (d + 4) mMd_update 0 [some (.ref m), some (.long v), none, some (.int e), some (.int k)] [] (MM (AR M m A L) m g) z w Q := by
  have h := c_Md_update (d := d) (m := m) (M := M) (n := kN v) (e := e) (v := k) (kN_lt v) hT hok K0 K1
  rwa [lN_kN] at h
theorem y_link (hT : TxR g A L tx) (hok : ∀ cs, tx = some cs → okX cs) (K0 : ¬ (gkey (kN u) ≠ 0 ∧ gkey (kN u) ≠ gkey (kN v) ∧ canA tx (gkey (kN v))) → Q (some (.int (nI 0))) (MM (AR M m A L) m g) z w)
    (K1 : gkey (kN u) ≠ 0 ∧ gkey (kN u) ≠ gkey (kN v) ∧ canA tx (gkey (kN v)) → ∀ g' A' L', TxR g' A' L' (putA tx (gkey (kN v)) (-1) (-(gkey (kN u) : Int))) → Fr [4] [4, 5] [3, 6] g g' A A' L L' → Q (some (.int (nI 1))) (MM (AR M m A' L') m g') z w) :
    WP (d + 4) mMd_link 0 [some (.ref m), some (.long v), none, some (.long u), none] [] (MM (AR M m A L) m g) z w Q := by
  have h := c_Md_link (d := d) (m := m) (M := M) (n := kN v) (t := kN u) (kN_lt v) (kN_lt u) hT hok K0 K1
  rwa [lN_kN, lN_kN] at h
end WR
section LS1
variable {M M1 : xM} {g g' : Nat → Int32} {A A' : Nat → Nat → Int32} {L L' : Nat → Nat → Int64} {x z w wb b Ls : Nat} {xs : Nat → Int32} {B : List (List Nat)} {tx : Option (List achg)}
theorem MM_same {m : Nat} (h : ∀ q, m ≤ q → q ≤ m + 16 → M1 q = MM (AR M m A L) m g q) : M1 = MM (AR M1 m A L) m g := by
  funext q
  by_cases hq : m ≤ q ∧ q ≤ m + 16
  · rw [h q hq.1 hq.2]
    by_cases h1 : q = m
    · subst h1
      rw [MMc, MMc]
    · rw [MMn h1, MMn h1]
      unfold AR
      rw [if_pos (by omega), if_pos (by omega)]
  · rw [MMn (by omega), AR_ne (by omega)]
theorem LwS.cls (h : LwS M g A L x z w wb b Ls xs B tx) (hO : OnlyK (MM (AR M (x + 15) A L) (x + 15) g) M1 x) : M1 = MM (AR M1 (x + 15) A L) (x + 15) g ∧ M1 b = some (30, scrL Ls xs) := by
  obtain ⟨hK, hS, hT, hb0, hbx, hI, hX⟩ := h
  refine ⟨MM_same (fun q h1 h2 => hO q (Or.inr ⟨h1, by omega⟩)), ?_⟩
  rw [hO b (Or.inl hbx), MMn (by omega), AR_ne (by omega)]
  exact hb0
theorem LwS.mk {z1 w1 : Nat} {B1 : List (List Nat)} {tx1 : Option (List achg)} (hK : KAt (MM (AR M1 (x + 15) A L) (x + 15) g) x z1 w1 wb B1 tx1) (hS : StA g' A' B1) (hT : TxR g' A' L' tx1) (hb : M1 b = some (30, scrL Ls xs)) (hbx : b < x) (hI : Inv B1) (hX : ∀ cs, tx1 = some cs → okX cs) : LwS M1 g' A' L' x z1 w1 wb b Ls xs B1 tx1 :=
  ⟨hK.kept (fun q hq => by rw [MMn (by omega), AR_ne (by omega), MMn (by omega), AR_ne (by omega)]), hS, hT, hb, hbx, hI, hX⟩
end LS1
