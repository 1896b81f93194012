/-! the law: its cases -/
section LC
variable {M : xM} {g : Nat → Int32} {A : Nat → Nat → Int32} {L : Nat → Nat → Int64} {x z w wb b Ls i : Nat} {xs : Nat → Int32} {B : List (List Nat)} {tx : Option (List achg)} {Q : Option Value → xM → Nat → Nat → Prop}
theorem StA.v {g' : Nat → Int32} {A' : Nat → Nat → Int32} {L' : Nat → Nat → Int64} (h : StA g A B) (f : Fr FgV FaR FlR g g' A A' L L') : StA g' A' B := h.kept (f.1 2 (by decide)) (f.2.1 1 (by decide)) (f.2.1 2 (by decide))
theorem TxR.v {g' : Nat → Int32} {A' : Nat → Nat → Int32} {L' : Nat → Nat → Int64} (h : TxR g A L tx) (f : Fr FgV FaR FlR g g' A A' L L') : TxR g' A' L' tx := h.fr f (by decide) (by decide) (by decide) (by decide) (by decide) (by decide)
theorem TxR.mg {g' : Nat → Int32} {A' : Nat → Nat → Int32} {L' : Nat → Nat → Int64} (h : TxR g A L tx) (f : Fr FgM FaM FlR g g' A A' L L') : TxR g' A' L' tx := h.fr f (by decide) (by decide) (by decide) (by decide) (by decide) (by decide)
theorem StA.ch {g' : Nat → Int32} {A' : Nat → Nat → Int32} {L' : Nat → Nat → Int64} (h : StA g A B) (f : Fr [4] [4, 5] [3, 6] g g' A A' L L') : StA g' A' B := h.kept (f.1 2 (by decide)) (f.2.1 1 (by decide)) (f.2.1 2 (by decide))
set_option maxHeartbeats 2000000 in
theorem lw_5 (hL : LwS M g A L x z w wb b Ls xs B tx) (hi : i + 5 ≤ Ls) (hLs : Ls ≤ 2560) (nx : ∀ M g A L z w B tx, LwS M g A L x z w wb b Ls xs B tx → WP 11 mLw_law 816 [some (.ref b), some (.ref x), some (.ref (x + 15)), some (.int (nI i))] [] (MM (AR M (x + 15) A L) (x + 15) g) z w Q) : WP 11 mLw_law 325 [some (.ref b), some (.ref x), some (.ref (x + 15)), some (.int (nI i))] [] (MM (AR M (x + 15) A L) (x + 15) g) z w Q := by
  obtain ⟨hK, hS, hT, hb0, hbx, hI, hX⟩ := id hL
  have hb : MM (AR M (x + 15) A L) (x + 15) g b = some (30, scrL Ls xs) := (MMn (by omega)).trans ((AR_ne (by omega)).trans hb0)
  have h7 := hI.len
  have h8 : B.length ≤ 8 := by omega
  have t1 := nI_toInt (n := i + 1) (by omega)
  have v1 := scr_at (xs := xs) (Ls := Ls) (j := i + 1) (by omega)
  have t2 := nI_toInt (n := i + 2) (by omega)
  have v2 := scr_at (xs := xs) (Ls := Ls) (j := i + 2) (by omega)
  have t3 := nI_toInt (n := i + 3) (by omega)
  have v3 := scr_at (xs := xs) (Ls := Ls) (j := i + 3) (by omega)
  have t4 := nI_toInt (n := i + 4) (by omega)
  have v4 := scr_at (xs := xs) (Ls := Ls) (j := i + 4) (by omega)
  simp only [sLw_law_325, sLw_law_326, sLw_law_327, sLw_law_328, sLw_law_329, sLw_law_330s hb t1 v1, sLw_law_331, sLw_law_332, sLw_law_334, sLw_law_335, sLw_law_336, sLw_law_337, sLw_law_338, sLw_law_339s hb t2 v2, sLw_law_340, sLw_law_341, sLw_law_344, sLw_law_345, xk_i, xk_l, xk_a, xk_n, xk_0, Option.toList_some, Option.toList_none, List.cons_append, List.nil_append, nI_add]
  rw [sLw_law_346 hK.cell, w_get (d := 7) hK]
  simp only [sLw_law_349, sLw_law_350, sLw_law_351, sLw_law_352, sLw_law_353, sLw_law_354s hb t1 v1, sLw_law_355, sLw_law_356, sLw_law_358, sLw_law_359, sLw_law_360, sLw_law_361, sLw_law_362, sLw_law_363s hb t2 v2, sLw_law_364, sLw_law_365, sLw_law_368, sLw_law_369, xk_i, xk_l, xk_a, xk_n, xk_0, Option.toList_some, Option.toList_none, List.cons_append, List.nil_append, nI_add]
  rw [sLw_law_370 MMc]
  refine y_get (d := 3) h8 hS (fun g' A' L' hF => ?_)
  simp only [xk_i, xk_l, xk_a, xk_n, xk_0, Option.toList_some, Option.toList_none, List.cons_append, List.nil_append]
  rw [sLw_law_373, if_pos rfl]
  exact nx M g' A' L' z w B tx (LwS.mk hK (hS.v hF) (hT.v hF) hb0 hbx hI hX)
set_option maxHeartbeats 2000000 in
theorem lw_6 (hL : LwS M g A L x z w wb b Ls xs B tx) (hi : i + 5 ≤ Ls) (hLs : Ls ≤ 2560) (nx : ∀ M g A L z w B tx, LwS M g A L x z w wb b Ls xs B tx → WP 11 mLw_law 816 [some (.ref b), some (.ref x), some (.ref (x + 15)), some (.int (nI i))] [] (MM (AR M (x + 15) A L) (x + 15) g) z w Q) : WP 11 mLw_law 378 [some (.ref b), some (.ref x), some (.ref (x + 15)), some (.int (nI i))] [] (MM (AR M (x + 15) A L) (x + 15) g) z w Q := by
  obtain ⟨hK, hS, hT, hb0, hbx, hI, hX⟩ := id hL
  have hb : MM (AR M (x + 15) A L) (x + 15) g b = some (30, scrL Ls xs) := (MMn (by omega)).trans ((AR_ne (by omega)).trans hb0)
  have h7 := hI.len
  have h8 : B.length ≤ 8 := by omega
  have t1 := nI_toInt (n := i + 1) (by omega)
  have v1 := scr_at (xs := xs) (Ls := Ls) (j := i + 1) (by omega)
  have t2 := nI_toInt (n := i + 2) (by omega)
  have v2 := scr_at (xs := xs) (Ls := Ls) (j := i + 2) (by omega)
  have t3 := nI_toInt (n := i + 3) (by omega)
  have v3 := scr_at (xs := xs) (Ls := Ls) (j := i + 3) (by omega)
  have t4 := nI_toInt (n := i + 4) (by omega)
  have v4 := scr_at (xs := xs) (Ls := Ls) (j := i + 4) (by omega)
  simp only [sLw_law_378, sLw_law_379, sLw_law_380, sLw_law_381, sLw_law_382, sLw_law_383s hb t1 v1, sLw_law_384, sLw_law_385, sLw_law_387, sLw_law_388, sLw_law_389, sLw_law_390, sLw_law_391, sLw_law_392s hb t2 v2, sLw_law_393, sLw_law_394, sLw_law_397, sLw_law_398, xk_i, xk_l, xk_a, xk_n, xk_0, Option.toList_some, Option.toList_none, List.cons_append, List.nil_append, nI_add]
  rw [sLw_law_399 hK.cell, w_target (d := 7) hK]
  simp only [sLw_law_402, sLw_law_403, sLw_law_404, sLw_law_405, sLw_law_406, sLw_law_407s hb t1 v1, sLw_law_408, sLw_law_409, sLw_law_411, sLw_law_412, sLw_law_413, sLw_law_414, sLw_law_415, sLw_law_416s hb t2 v2, sLw_law_417, sLw_law_418, sLw_law_421, sLw_law_422, xk_i, xk_l, xk_a, xk_n, xk_0, Option.toList_some, Option.toList_none, List.cons_append, List.nil_append, nI_add]
  rw [sLw_law_423 MMc]
  refine y_target (d := 3) h8 hS (fun g' A' L' hF => ?_)
  simp only [xk_i, xk_l, xk_a, xk_n, xk_0, Option.toList_some, Option.toList_none, List.cons_append, List.nil_append]
  rw [sLw_law_426, sLw_law_427, if_pos (lcmp_eq.mpr rfl)]
  exact nx M g' A' L' z w B tx (LwS.mk hK (hS.v hF) (hT.v hF) hb0 hbx hI hX)
set_option maxHeartbeats 2000000 in
theorem lw_7 (hL : LwS M g A L x z w wb b Ls xs B tx) (hi : i + 5 ≤ Ls) (hLs : Ls ≤ 2560) (nx : ∀ M g A L z w B tx, LwS M g A L x z w wb b Ls xs B tx → WP 11 mLw_law 816 [some (.ref b), some (.ref x), some (.ref (x + 15)), some (.int (nI i))] [] (MM (AR M (x + 15) A L) (x + 15) g) z w Q) : WP 11 mLw_law 432 [some (.ref b), some (.ref x), some (.ref (x + 15)), some (.int (nI i))] [] (MM (AR M (x + 15) A L) (x + 15) g) z w Q := by
  obtain ⟨hK, hS, hT, hb0, hbx, hI, hX⟩ := id hL
  have hb : MM (AR M (x + 15) A L) (x + 15) g b = some (30, scrL Ls xs) := (MMn (by omega)).trans ((AR_ne (by omega)).trans hb0)
  have h7 := hI.len
  have h8 : B.length ≤ 8 := by omega
  have t1 := nI_toInt (n := i + 1) (by omega)
  have v1 := scr_at (xs := xs) (Ls := Ls) (j := i + 1) (by omega)
  have t2 := nI_toInt (n := i + 2) (by omega)
  have v2 := scr_at (xs := xs) (Ls := Ls) (j := i + 2) (by omega)
  have t3 := nI_toInt (n := i + 3) (by omega)
  have v3 := scr_at (xs := xs) (Ls := Ls) (j := i + 3) (by omega)
  have t4 := nI_toInt (n := i + 4) (by omega)
  have v4 := scr_at (xs := xs) (Ls := Ls) (j := i + 4) (by omega)
  simp only [sLw_law_432, sLw_law_433, sLw_law_434, sLw_law_435, sLw_law_436, sLw_law_437s hb t1 v1, sLw_law_438, sLw_law_439, sLw_law_441, sLw_law_442, sLw_law_443, sLw_law_444, sLw_law_445, sLw_law_446s hb t2 v2, sLw_law_447, sLw_law_448, sLw_law_451, sLw_law_452, xk_i, xk_l, xk_a, xk_n, xk_0, Option.toList_some, Option.toList_none, List.cons_append, List.nil_append, nI_add]
  rw [sLw_law_453 hK.cell, w_resolve (d := 7) hK]
  simp only [sLw_law_456, sLw_law_457, sLw_law_458, sLw_law_459, sLw_law_460, sLw_law_461s hb t1 v1, sLw_law_462, sLw_law_463, sLw_law_465, sLw_law_466, sLw_law_467, sLw_law_468, sLw_law_469, sLw_law_470s hb t2 v2, sLw_law_471, sLw_law_472, sLw_law_475, sLw_law_476, xk_i, xk_l, xk_a, xk_n, xk_0, Option.toList_some, Option.toList_none, List.cons_append, List.nil_append, nI_add]
  rw [sLw_law_477 MMc]
  refine y_resolve (d := 3) h8 hS (fun g' A' L' hF => ?_)
  simp only [xk_i, xk_l, xk_a, xk_n, xk_0, Option.toList_some, Option.toList_none, List.cons_append, List.nil_append]
  rw [sLw_law_480, if_pos rfl]
  exact nx M g' A' L' z w B tx (LwS.mk hK (hS.v hF) (hT.v hF) hb0 hbx hI hX)
set_option maxHeartbeats 2000000 in
theorem lw_12 (hL : LwS M g A L x z w wb b Ls xs B tx) (hi : i + 5 ≤ Ls) (hLs : Ls ≤ 2560) (nx : ∀ M g A L z w B tx, LwS M g A L x z w wb b Ls xs B tx → WP 11 mLw_law 816 [some (.ref b), some (.ref x), some (.ref (x + 15)), some (.int (nI i))] [] (MM (AR M (x + 15) A L) (x + 15) g) z w Q) : WP 11 mLw_law 658 [some (.ref b), some (.ref x), some (.ref (x + 15)), some (.int (nI i))] [] (MM (AR M (x + 15) A L) (x + 15) g) z w Q := by
  obtain ⟨hK, hS, hT, hb0, hbx, hI, hX⟩ := id hL
  have hb : MM (AR M (x + 15) A L) (x + 15) g b = some (30, scrL Ls xs) := (MMn (by omega)).trans ((AR_ne (by omega)).trans hb0)
  have h7 := hI.len
  have h8 : B.length ≤ 8 := by omega
  have t1 := nI_toInt (n := i + 1) (by omega)
  have v1 := scr_at (xs := xs) (Ls := Ls) (j := i + 1) (by omega)
  have t2 := nI_toInt (n := i + 2) (by omega)
  have v2 := scr_at (xs := xs) (Ls := Ls) (j := i + 2) (by omega)
  have t3 := nI_toInt (n := i + 3) (by omega)
  have v3 := scr_at (xs := xs) (Ls := Ls) (j := i + 3) (by omega)
  have t4 := nI_toInt (n := i + 4) (by omega)
  have v4 := scr_at (xs := xs) (Ls := Ls) (j := i + 4) (by omega)
  simp only [sLw_law_658, xk_i, xk_l, xk_a, xk_n, xk_0, Option.toList_some, Option.toList_none, List.cons_append, List.nil_append, nI_add]
  rw [sLw_law_659 hK.cell, c_RS_tables hK]
  simp only [sLw_law_662, xk_i, xk_l, xk_a, xk_n, xk_0, Option.toList_some, Option.toList_none, List.cons_append, List.nil_append, nI_add]
  rw [sLw_law_663 MMc]
  rw [c_Md_tables hS]
  simp only [xk_i, xk_l, xk_a, xk_n, xk_0, Option.toList_some, Option.toList_none, List.cons_append, List.nil_append]
  rw [sLw_law_666, if_pos rfl]
  exact nx M g A L z w B tx hL
set_option maxHeartbeats 2000000 in
theorem lw_13 (hL : LwS M g A L x z w wb b Ls xs B tx) (hi : i + 5 ≤ Ls) (hLs : Ls ≤ 2560) (nx : ∀ M g A L z w B tx, LwS M g A L x z w wb b Ls xs B tx → WP 11 mLw_law 816 [some (.ref b), some (.ref x), some (.ref (x + 15)), some (.int (nI i))] [] (MM (AR M (x + 15) A L) (x + 15) g) z w Q) : WP 11 mLw_law 671 [some (.ref b), some (.ref x), some (.ref (x + 15)), some (.int (nI i))] [] (MM (AR M (x + 15) A L) (x + 15) g) z w Q := by
  obtain ⟨hK, hS, hT, hb0, hbx, hI, hX⟩ := id hL
  have hb : MM (AR M (x + 15) A L) (x + 15) g b = some (30, scrL Ls xs) := (MMn (by omega)).trans ((AR_ne (by omega)).trans hb0)
  have h7 := hI.len
  have h8 : B.length ≤ 8 := by omega
  have t1 := nI_toInt (n := i + 1) (by omega)
  have v1 := scr_at (xs := xs) (Ls := Ls) (j := i + 1) (by omega)
  have t2 := nI_toInt (n := i + 2) (by omega)
  have v2 := scr_at (xs := xs) (Ls := Ls) (j := i + 2) (by omega)
  have t3 := nI_toInt (n := i + 3) (by omega)
  have v3 := scr_at (xs := xs) (Ls := Ls) (j := i + 3) (by omega)
  have t4 := nI_toInt (n := i + 4) (by omega)
  have v4 := scr_at (xs := xs) (Ls := Ls) (j := i + 4) (by omega)
  simp only [sLw_law_671, sLw_law_672, sLw_law_673, sLw_law_674, sLw_law_675, sLw_law_676s hb t1 v1, xk_i, xk_l, xk_a, xk_n, xk_0, Option.toList_some, Option.toList_none, List.cons_append, List.nil_append, nI_add]
  rw [sLw_law_677 hK.cell]
  refine c_RS_size (d := 9) hK ?_
  simp only [sLw_law_680, sLw_law_681, sLw_law_682, sLw_law_683, sLw_law_684, sLw_law_685s hb t1 v1, xk_i, xk_l, xk_a, xk_n, xk_0, Option.toList_some, Option.toList_none, List.cons_append, List.nil_append, nI_add]
  rw [sLw_law_686 MMc]
  rw [c_Md_size (d := 9) h8 hS]
  simp only [xk_i, xk_l, xk_a, xk_n, xk_0, Option.toList_some, Option.toList_none, List.cons_append, List.nil_append]
  rw [sLw_law_689, if_pos rfl]
  exact nx M g A L z w B tx hL
set_option maxHeartbeats 2000000 in
theorem lw_14 (hL : LwS M g A L x z w wb b Ls xs B tx) (hi : i + 5 ≤ Ls) (hLs : Ls ≤ 2560) (nx : ∀ M g A L z w B tx, LwS M g A L x z w wb b Ls xs B tx → WP 11 mLw_law 816 [some (.ref b), some (.ref x), some (.ref (x + 15)), some (.int (nI i))] [] (MM (AR M (x + 15) A L) (x + 15) g) z w Q) : WP 11 mLw_law 694 [some (.ref b), some (.ref x), some (.ref (x + 15)), some (.int (nI i))] [] (MM (AR M (x + 15) A L) (x + 15) g) z w Q := by
  obtain ⟨hK, hS, hT, hb0, hbx, hI, hX⟩ := id hL
  have hb : MM (AR M (x + 15) A L) (x + 15) g b = some (30, scrL Ls xs) := (MMn (by omega)).trans ((AR_ne (by omega)).trans hb0)
  have h7 := hI.len
  have h8 : B.length ≤ 8 := by omega
  have t1 := nI_toInt (n := i + 1) (by omega)
  have v1 := scr_at (xs := xs) (Ls := Ls) (j := i + 1) (by omega)
  have t2 := nI_toInt (n := i + 2) (by omega)
  have v2 := scr_at (xs := xs) (Ls := Ls) (j := i + 2) (by omega)
  have t3 := nI_toInt (n := i + 3) (by omega)
  have v3 := scr_at (xs := xs) (Ls := Ls) (j := i + 3) (by omega)
  have t4 := nI_toInt (n := i + 4) (by omega)
  have v4 := scr_at (xs := xs) (Ls := Ls) (j := i + 4) (by omega)
  simp only [sLw_law_694, sLw_law_695, sLw_law_696, sLw_law_697, sLw_law_698, sLw_law_699s hb t1 v1, sLw_law_700, sLw_law_701, sLw_law_702, sLw_law_703, sLw_law_704s hb t2 v2, xk_i, xk_l, xk_a, xk_n, xk_0, Option.toList_some, Option.toList_none, List.cons_append, List.nil_append, nI_add]
  rw [sLw_law_705 hK.cell]
  refine c_RS_byteAt (d := 9) hK ?_
  simp only [sLw_law_708, sLw_law_709, sLw_law_710, sLw_law_711, sLw_law_712, sLw_law_713s hb t1 v1, sLw_law_714, sLw_law_715, sLw_law_716, sLw_law_717, sLw_law_718s hb t2 v2, xk_i, xk_l, xk_a, xk_n, xk_0, Option.toList_some, Option.toList_none, List.cons_append, List.nil_append, nI_add]
  rw [sLw_law_719 MMc]
  rw [c_Md_byteAt (d := 9) h8 hS]
  simp only [xk_i, xk_l, xk_a, xk_n, xk_0, Option.toList_some, Option.toList_none, List.cons_append, List.nil_append]
  rw [sLw_law_722, if_pos rfl]
  exact nx M g A L z w B tx hL
set_option maxHeartbeats 2000000 in
theorem lw_16 (hL : LwS M g A L x z w wb b Ls xs B tx) (hi : i + 5 ≤ Ls) (hLs : Ls ≤ 2560) (nx : ∀ M g A L z w B tx, LwS M g A L x z w wb b Ls xs B tx → WP 11 mLw_law 816 [some (.ref b), some (.ref x), some (.ref (x + 15)), some (.int (nI i))] [] (MM (AR M (x + 15) A L) (x + 15) g) z w Q) : WP 11 mLw_law 770 [some (.ref b), some (.ref x), some (.ref (x + 15)), some (.int (nI i))] [] (MM (AR M (x + 15) A L) (x + 15) g) z w Q := by
  obtain ⟨hK, hS, hT, hb0, hbx, hI, hX⟩ := id hL
  have hb : MM (AR M (x + 15) A L) (x + 15) g b = some (30, scrL Ls xs) := (MMn (by omega)).trans ((AR_ne (by omega)).trans hb0)
  have h7 := hI.len
  have h8 : B.length ≤ 8 := by omega
  have t1 := nI_toInt (n := i + 1) (by omega)
  have v1 := scr_at (xs := xs) (Ls := Ls) (j := i + 1) (by omega)
  have t2 := nI_toInt (n := i + 2) (by omega)
  have v2 := scr_at (xs := xs) (Ls := Ls) (j := i + 2) (by omega)
  have t3 := nI_toInt (n := i + 3) (by omega)
  have v3 := scr_at (xs := xs) (Ls := Ls) (j := i + 3) (by omega)
  have t4 := nI_toInt (n := i + 4) (by omega)
  have v4 := scr_at (xs := xs) (Ls := Ls) (j := i + 4) (by omega)
  simp only [sLw_law_770, sLw_law_771, sLw_law_772, sLw_law_773, sLw_law_774, sLw_law_775s hb t1 v1, xk_i, xk_l, xk_a, xk_n, xk_0, Option.toList_some, Option.toList_none, List.cons_append, List.nil_append, nI_add]
  rw [sLw_law_776 hK.cell]
  refine c_RS_sound (d := 9) hK ?_
  simp only [sLw_law_779, sLw_law_780, sLw_law_781, sLw_law_782, sLw_law_783, sLw_law_784s hb t1 v1, xk_i, xk_l, xk_a, xk_n, xk_0, Option.toList_some, Option.toList_none, List.cons_append, List.nil_append, nI_add]
  rw [sLw_law_785 MMc]
  refine c_Md_sound (d := 5) h8 hS (fun g' A' L' hF => ?_)
  simp only [xk_i, xk_l, xk_a, xk_n, xk_0, Option.toList_some, Option.toList_none, List.cons_append, List.nil_append]
  rw [sLw_law_788, if_pos rfl]
  exact nx M g' A' L' z w B tx (LwS.mk hK (hS.v hF) (hT.v hF) hb0 hbx hI hX)
set_option maxHeartbeats 2000000 in
theorem lw_17 (hL : LwS M g A L x z w wb b Ls xs B tx) (hi : i + 5 ≤ Ls) (hLs : Ls ≤ 2560) (nx : ∀ M g A L z w B tx, LwS M g A L x z w wb b Ls xs B tx → WP 11 mLw_law 816 [some (.ref b), some (.ref x), some (.ref (x + 15)), some (.int (nI i))] [] (MM (AR M (x + 15) A L) (x + 15) g) z w Q) : WP 11 mLw_law 793 [some (.ref b), some (.ref x), some (.ref (x + 15)), some (.int (nI i))] [] (MM (AR M (x + 15) A L) (x + 15) g) z w Q := by
  obtain ⟨hK, hS, hT, hb0, hbx, hI, hX⟩ := id hL
  have hb : MM (AR M (x + 15) A L) (x + 15) g b = some (30, scrL Ls xs) := (MMn (by omega)).trans ((AR_ne (by omega)).trans hb0)
  have h7 := hI.len
  have h8 : B.length ≤ 8 := by omega
  have t1 := nI_toInt (n := i + 1) (by omega)
  have v1 := scr_at (xs := xs) (Ls := Ls) (j := i + 1) (by omega)
  have t2 := nI_toInt (n := i + 2) (by omega)
  have v2 := scr_at (xs := xs) (Ls := Ls) (j := i + 2) (by omega)
  have t3 := nI_toInt (n := i + 3) (by omega)
  have v3 := scr_at (xs := xs) (Ls := Ls) (j := i + 3) (by omega)
  have t4 := nI_toInt (n := i + 4) (by omega)
  have v4 := scr_at (xs := xs) (Ls := Ls) (j := i + 4) (by omega)
  simp only [sLw_law_793, sLw_law_794, sLw_law_795, sLw_law_796, sLw_law_797, sLw_law_798s hb t1 v1, xk_i, xk_l, xk_a, xk_n, xk_0, Option.toList_some, Option.toList_none, List.cons_append, List.nil_append, nI_add]
  rw [sLw_law_799 hK.cell]
  refine c_RS_records (d := 9) hK ?_
  simp only [sLw_law_802, sLw_law_803, sLw_law_804, sLw_law_805, sLw_law_806, sLw_law_807s hb t1 v1, xk_i, xk_l, xk_a, xk_n, xk_0, Option.toList_some, Option.toList_none, List.cons_append, List.nil_append, nI_add]
  rw [sLw_law_808 MMc]
  refine c_Md_records (d := 5) h8 hS (fun g' A' L' hF => ?_)
  simp only [xk_i, xk_l, xk_a, xk_n, xk_0, Option.toList_some, Option.toList_none, List.cons_append, List.nil_append]
  rw [sLw_law_811, if_pos rfl]
  exact nx M g' A' L' z w B tx (LwS.mk hK (hS.v hF) (hT.v hF) hb0 hbx hI hX)
set_option maxHeartbeats 2000000 in
theorem lw_8 (hL : LwS M g A L x z w wb b Ls xs B tx) (hi : i + 5 ≤ Ls) (hLs : Ls ≤ 2560) (nx : ∀ M g A L z w B tx, LwS M g A L x z w wb b Ls xs B tx → WP 11 mLw_law 816 [some (.ref b), some (.ref x), some (.ref (x + 15)), some (.int (nI i))] [] (MM (AR M (x + 15) A L) (x + 15) g) z w Q) : WP 11 mLw_law 485 [some (.ref b), some (.ref x), some (.ref (x + 15)), some (.int (nI i))] [] (MM (AR M (x + 15) A L) (x + 15) g) z w Q := by
  obtain ⟨hK, hS, hT, hb0, hbx, hI, hX⟩ := id hL
  have hb : MM (AR M (x + 15) A L) (x + 15) g b = some (30, scrL Ls xs) := (MMn (by omega)).trans ((AR_ne (by omega)).trans hb0)
  have h7 := hI.len
  have h8 : B.length ≤ 8 := by omega
  have t1 := nI_toInt (n := i + 1) (by omega)
  have v1 := scr_at (xs := xs) (Ls := Ls) (j := i + 1) (by omega)
  have t2 := nI_toInt (n := i + 2) (by omega)
  have v2 := scr_at (xs := xs) (Ls := Ls) (j := i + 2) (by omega)
  have t3 := nI_toInt (n := i + 3) (by omega)
  have v3 := scr_at (xs := xs) (Ls := Ls) (j := i + 3) (by omega)
  have t4 := nI_toInt (n := i + 4) (by omega)
  have v4 := scr_at (xs := xs) (Ls := Ls) (j := i + 4) (by omega)
  simp only [sLw_law_485, sLw_law_486, sLw_law_487, sLw_law_488, sLw_law_489, sLw_law_490s hb t1 v1, sLw_law_491, sLw_law_492, sLw_law_494, sLw_law_495, sLw_law_496, sLw_law_497, sLw_law_498, sLw_law_499s hb t2 v2, sLw_law_500, sLw_law_501, sLw_law_504, sLw_law_505, sLw_law_506, sLw_law_507, sLw_law_508, sLw_law_509, sLw_law_510s hb t3 v3, xk_i, xk_l, xk_a, xk_n, xk_0, Option.toList_some, Option.toList_none, List.cons_append, List.nil_append, nI_add]
  rw [sLw_law_511 hK.cell]
  refine w_scan (d := 7) hK (fun M1 hK1 hO1 => ?_)
  obtain ⟨e1, hb1⟩ := hL.cls hO1
  simp only [sLw_law_514, sLw_law_515, sLw_law_516, sLw_law_517, sLw_law_518, sLw_law_519s hb1 t1 v1, sLw_law_520, sLw_law_521, sLw_law_523, sLw_law_524, sLw_law_525, sLw_law_526, sLw_law_527, sLw_law_528s hb1 t2 v2, sLw_law_529, sLw_law_530, sLw_law_533, sLw_law_534, sLw_law_535, sLw_law_536, sLw_law_537, sLw_law_538, sLw_law_539s hb1 t3 v3, xk_i, xk_l, xk_a, xk_n, xk_0, Option.toList_some, Option.toList_none, List.cons_append, List.nil_append, nI_add]
  rw [e1] at hK1
  rw [e1, sLw_law_540 MMc]
  refine y_scan (d := 3) h8 hS (fun g' A' L' hF => ?_)
  simp only [xk_i, xk_l, xk_a, xk_n, xk_0, Option.toList_some, Option.toList_none, List.cons_append, List.nil_append]
  rw [sLw_law_543, sLw_law_544, if_pos (lcmp_eq.mpr rfl)]
  exact nx M1 g' A' L' z w B tx (LwS.mk hK1 (hS.v hF) (hT.v hF) hb1 hbx hI hX)
set_option maxHeartbeats 2000000 in
theorem lw_9 (hL : LwS M g A L x z w wb b Ls xs B tx) (hi : i + 5 ≤ Ls) (hLs : Ls ≤ 2560) (nx : ∀ M g A L z w B tx, LwS M g A L x z w wb b Ls xs B tx → WP 11 mLw_law 816 [some (.ref b), some (.ref x), some (.ref (x + 15)), some (.int (nI i))] [] (MM (AR M (x + 15) A L) (x + 15) g) z w Q) : WP 11 mLw_law 549 [some (.ref b), some (.ref x), some (.ref (x + 15)), some (.int (nI i))] [] (MM (AR M (x + 15) A L) (x + 15) g) z w Q := by
  obtain ⟨hK, hS, hT, hb0, hbx, hI, hX⟩ := id hL
  have hb : MM (AR M (x + 15) A L) (x + 15) g b = some (30, scrL Ls xs) := (MMn (by omega)).trans ((AR_ne (by omega)).trans hb0)
  have h7 := hI.len
  have h8 : B.length ≤ 8 := by omega
  have t1 := nI_toInt (n := i + 1) (by omega)
  have v1 := scr_at (xs := xs) (Ls := Ls) (j := i + 1) (by omega)
  have t2 := nI_toInt (n := i + 2) (by omega)
  have v2 := scr_at (xs := xs) (Ls := Ls) (j := i + 2) (by omega)
  have t3 := nI_toInt (n := i + 3) (by omega)
  have v3 := scr_at (xs := xs) (Ls := Ls) (j := i + 3) (by omega)
  have t4 := nI_toInt (n := i + 4) (by omega)
  have v4 := scr_at (xs := xs) (Ls := Ls) (j := i + 4) (by omega)
  simp only [sLw_law_549, sLw_law_550, sLw_law_551, sLw_law_552, sLw_law_553, sLw_law_554s hb t1 v1, sLw_law_555, sLw_law_556, sLw_law_558, sLw_law_559, sLw_law_560, sLw_law_561, sLw_law_562, sLw_law_563s hb t2 v2, sLw_law_564, sLw_law_565, sLw_law_568, sLw_law_569, sLw_law_570, sLw_law_571, sLw_law_572, sLw_law_573, sLw_law_574s hb t3 v3, sLw_law_575, sLw_law_576, sLw_law_577, sLw_law_578, sLw_law_579s hb t4 v4, xk_i, xk_l, xk_a, xk_n, xk_0, Option.toList_some, Option.toList_none, List.cons_append, List.nil_append, nI_add]
  rw [sLw_law_580 hK.cell]
  refine w_log (d := 7) hK (fun M1 hK1 hO1 => ?_)
  obtain ⟨e1, hb1⟩ := hL.cls hO1
  simp only [sLw_law_583, sLw_law_584, sLw_law_585, sLw_law_586, sLw_law_587, sLw_law_588s hb1 t1 v1, sLw_law_589, sLw_law_590, sLw_law_592, sLw_law_593, sLw_law_594, sLw_law_595, sLw_law_596, sLw_law_597s hb1 t2 v2, sLw_law_598, sLw_law_599, sLw_law_602, sLw_law_603, sLw_law_604, sLw_law_605, sLw_law_606, sLw_law_607, sLw_law_608s hb1 t3 v3, sLw_law_609, sLw_law_610, sLw_law_611, sLw_law_612, sLw_law_613s hb1 t4 v4, xk_i, xk_l, xk_a, xk_n, xk_0, Option.toList_some, Option.toList_none, List.cons_append, List.nil_append, nI_add]
  rw [e1] at hK1
  rw [e1, sLw_law_614 MMc]
  refine y_log (d := 3) h8 hS (fun g' A' L' hF => ?_)
  simp only [xk_i, xk_l, xk_a, xk_n, xk_0, Option.toList_some, Option.toList_none, List.cons_append, List.nil_append]
  rw [sLw_law_617, if_pos rfl]
  exact nx M1 g' A' L' z w B tx (LwS.mk hK1 (hS.v hF) (hT.v hF) hb1 hbx hI hX)
set_option maxHeartbeats 2000000 in
theorem lw_0 (hL : LwS M g A L x z w wb b Ls xs B tx) (hi : i + 5 ≤ Ls) (hLs : Ls ≤ 2560) (nx : ∀ M g A L z w B tx, LwS M g A L x z w wb b Ls xs B tx → WP 11 mLw_law 816 [some (.ref b), some (.ref x), some (.ref (x + 15)), some (.int (nI i))] [] (MM (AR M (x + 15) A L) (x + 15) g) z w Q) : WP 11 mLw_law 120 [some (.ref b), some (.ref x), some (.ref (x + 15)), some (.int (nI i))] [] (MM (AR M (x + 15) A L) (x + 15) g) z w Q := by
  obtain ⟨hK, hS, hT, hb0, hbx, hI, hX⟩ := id hL
  have hb : MM (AR M (x + 15) A L) (x + 15) g b = some (30, scrL Ls xs) := (MMn (by omega)).trans ((AR_ne (by omega)).trans hb0)
  have h7 := hI.len
  have h8 : B.length ≤ 8 := by omega
  have t1 := nI_toInt (n := i + 1) (by omega)
  have v1 := scr_at (xs := xs) (Ls := Ls) (j := i + 1) (by omega)
  have t2 := nI_toInt (n := i + 2) (by omega)
  have v2 := scr_at (xs := xs) (Ls := Ls) (j := i + 2) (by omega)
  have t3 := nI_toInt (n := i + 3) (by omega)
  have v3 := scr_at (xs := xs) (Ls := Ls) (j := i + 3) (by omega)
  have t4 := nI_toInt (n := i + 4) (by omega)
  have v4 := scr_at (xs := xs) (Ls := Ls) (j := i + 4) (by omega)
  rw [sLw_law_120, sLw_law_121 hK.cell]
  refine c_RS_begin hK (fun h => ?_) (fun h M1 hK1 hO1 => ?_)
  · simp only [sLw_law_124, xk_i, xk_l, xk_a, xk_n, xk_0, Option.toList_some, Option.toList_none, List.cons_append, List.nil_append]
    rw [sLw_law_125 MMc]
    refine c_Md_begin hT (fun _ => ?_) (fun h2 => ?_)
    · simp only [xk_i, xk_l, xk_a, xk_n, xk_0, Option.toList_some, Option.toList_none, List.cons_append, List.nil_append]
      rw [sLw_law_128, if_pos rfl]
      exact nx M g A L z w B tx hL
    · rw [h2] at h; cases h
  · obtain ⟨e1, hb1⟩ := hL.cls hO1
    simp only [sLw_law_124, xk_i, xk_l, xk_a, xk_n, xk_0, Option.toList_some, Option.toList_none, List.cons_append, List.nil_append]
    rw [e1] at hK1
    rw [e1, sLw_law_125 MMc]
    refine c_Md_begin hT (fun h2 => ?_) (fun _ g' hT' hF => ?_)
    · rw [h] at h2; cases h2
    · simp only [xk_i, xk_l, xk_a, xk_n, xk_0, Option.toList_some, Option.toList_none, List.cons_append, List.nil_append]
      rw [sLw_law_128, if_pos rfl]
      exact nx M1 g' A L z w B (some []) (LwS.mk hK1 (hS.kept (hF.1 2 (by decide)) rfl rfl) hT' hb1 hbx hI (fun cs q => by cases q; exact ⟨by simp, fun c hc => (by cases hc), List.Pairwise.nil⟩))
set_option maxHeartbeats 2000000 in
theorem lw_4 (hL : LwS M g A L x z w wb b Ls xs B tx) (hi : i + 5 ≤ Ls) (hLs : Ls ≤ 2560) (nx : ∀ M g A L z w B tx, LwS M g A L x z w wb b Ls xs B tx → WP 11 mLw_law 816 [some (.ref b), some (.ref x), some (.ref (x + 15)), some (.int (nI i))] [] (MM (AR M (x + 15) A L) (x + 15) g) z w Q) : WP 11 mLw_law 312 [some (.ref b), some (.ref x), some (.ref (x + 15)), some (.int (nI i))] [] (MM (AR M (x + 15) A L) (x + 15) g) z w Q := by
  obtain ⟨hK, hS, hT, hb0, hbx, hI, hX⟩ := id hL
  have hb : MM (AR M (x + 15) A L) (x + 15) g b = some (30, scrL Ls xs) := (MMn (by omega)).trans ((AR_ne (by omega)).trans hb0)
  have h7 := hI.len
  have h8 : B.length ≤ 8 := by omega
  have t1 := nI_toInt (n := i + 1) (by omega)
  have v1 := scr_at (xs := xs) (Ls := Ls) (j := i + 1) (by omega)
  have t2 := nI_toInt (n := i + 2) (by omega)
  have v2 := scr_at (xs := xs) (Ls := Ls) (j := i + 2) (by omega)
  have t3 := nI_toInt (n := i + 3) (by omega)
  have v3 := scr_at (xs := xs) (Ls := Ls) (j := i + 3) (by omega)
  have t4 := nI_toInt (n := i + 4) (by omega)
  have v4 := scr_at (xs := xs) (Ls := Ls) (j := i + 4) (by omega)
  rw [sLw_law_312, sLw_law_313 hK.cell]
  refine c_RS_abort hK (fun h => ?_) (fun cs h M1 hK1 hO1 => ?_)
  · simp only [sLw_law_316, xk_i, xk_l, xk_a, xk_n, xk_0, Option.toList_some, Option.toList_none, List.cons_append, List.nil_append]
    rw [sLw_law_317 MMc]
    refine c_Md_abort hT (fun _ => ?_) (fun cs h2 => ?_)
    · simp only [xk_i, xk_l, xk_a, xk_n, xk_0, Option.toList_some, Option.toList_none, List.cons_append, List.nil_append]
      rw [sLw_law_320, if_pos rfl]
      exact nx M g A L z w B tx hL
    · rw [h] at h2; cases h2
  · obtain ⟨e1, hb1⟩ := hL.cls hO1
    simp only [sLw_law_316, xk_i, xk_l, xk_a, xk_n, xk_0, Option.toList_some, Option.toList_none, List.cons_append, List.nil_append]
    rw [e1] at hK1
    rw [e1, sLw_law_317 MMc]
    refine c_Md_abort hT (fun h2 => ?_) (fun cs' h2 g' hT' hF => ?_)
    · rw [h] at h2; cases h2
    · rw [h] at h2
      cases h2
      simp only [xk_i, xk_l, xk_a, xk_n, xk_0, Option.toList_some, Option.toList_none, List.cons_append, List.nil_append]
      rw [sLw_law_320, if_pos rfl]
      exact nx M1 g' A L z w B none (LwS.mk hK1 (hS.kept (hF.1 2 (by decide)) rfl rfl) hT' hb1 hbx hI (fun cs q => (by cases q)))
set_option maxHeartbeats 2000000 in
theorem lw_1 (hL : LwS M g A L x z w wb b Ls xs B tx) (hi : i + 5 ≤ Ls) (hLs : Ls ≤ 2560) (nx : ∀ M g A L z w B tx, LwS M g A L x z w wb b Ls xs B tx → WP 11 mLw_law 816 [some (.ref b), some (.ref x), some (.ref (x + 15)), some (.int (nI i))] [] (MM (AR M (x + 15) A L) (x + 15) g) z w Q) : WP 11 mLw_law 133 [some (.ref b), some (.ref x), some (.ref (x + 15)), some (.int (nI i))] [] (MM (AR M (x + 15) A L) (x + 15) g) z w Q := by
  obtain ⟨hK, hS, hT, hb0, hbx, hI, hX⟩ := id hL
  have hb : MM (AR M (x + 15) A L) (x + 15) g b = some (30, scrL Ls xs) := (MMn (by omega)).trans ((AR_ne (by omega)).trans hb0)
  have h7 := hI.len
  have h8 : B.length ≤ 8 := by omega
  have t1 := nI_toInt (n := i + 1) (by omega)
  have v1 := scr_at (xs := xs) (Ls := Ls) (j := i + 1) (by omega)
  have t2 := nI_toInt (n := i + 2) (by omega)
  have v2 := scr_at (xs := xs) (Ls := Ls) (j := i + 2) (by omega)
  have t3 := nI_toInt (n := i + 3) (by omega)
  have v3 := scr_at (xs := xs) (Ls := Ls) (j := i + 3) (by omega)
  have t4 := nI_toInt (n := i + 4) (by omega)
  have v4 := scr_at (xs := xs) (Ls := Ls) (j := i + 4) (by omega)
  simp only [sLw_law_133, sLw_law_134, sLw_law_135, sLw_law_136, sLw_law_137, sLw_law_138s hb t1 v1, sLw_law_139, sLw_law_140, sLw_law_142, sLw_law_143, sLw_law_144, sLw_law_145, sLw_law_146, sLw_law_147s hb t2 v2, sLw_law_148, sLw_law_149, sLw_law_152, sLw_law_153, sLw_law_154, sLw_law_155, sLw_law_156, sLw_law_157, sLw_law_158s hb t3 v3, sLw_law_159, sLw_law_160, sLw_law_161, sLw_law_162, sLw_law_163s hb t4 v4, xk_i, xk_l, xk_a, xk_n, xk_0, Option.toList_some, Option.toList_none, List.cons_append, List.nil_append, nI_add]
  rw [sLw_law_164 hK.cell]
  refine w_update (d := 7) hK (fun h => ?_) (fun h M1 hK1 hO1 => ?_)
  · simp only [sLw_law_167, sLw_law_168, sLw_law_169, sLw_law_170, sLw_law_171, sLw_law_172s hb t1 v1, sLw_law_173, sLw_law_174, sLw_law_176, sLw_law_177, sLw_law_178, sLw_law_179, sLw_law_180, sLw_law_181s hb t2 v2, sLw_law_182, sLw_law_183, sLw_law_186, sLw_law_187, sLw_law_188, sLw_law_189, sLw_law_190, sLw_law_191, sLw_law_192s hb t3 v3, sLw_law_193, sLw_law_194, sLw_law_195, sLw_law_196, sLw_law_197s hb t4 v4, xk_i, xk_l, xk_a, xk_n, xk_0, Option.toList_some, Option.toList_none, List.cons_append, List.nil_append, nI_add]
    rw [sLw_law_198 MMc]
    refine y_update (d := 6) hT hX (fun _ => ?_) (fun h2 => absurd h2 h)
    simp only [xk_i, xk_l, xk_a, xk_n, xk_0, Option.toList_some, Option.toList_none, List.cons_append, List.nil_append]
    rw [sLw_law_201, if_pos rfl]
    exact nx M g A L z w B tx hL
  · obtain ⟨e1, hb1⟩ := hL.cls hO1
    simp only [sLw_law_167, sLw_law_168, sLw_law_169, sLw_law_170, sLw_law_171, sLw_law_172s hb1 t1 v1, sLw_law_173, sLw_law_174, sLw_law_176, sLw_law_177, sLw_law_178, sLw_law_179, sLw_law_180, sLw_law_181s hb1 t2 v2, sLw_law_182, sLw_law_183, sLw_law_186, sLw_law_187, sLw_law_188, sLw_law_189, sLw_law_190, sLw_law_191, sLw_law_192s hb1 t3 v3, sLw_law_193, sLw_law_194, sLw_law_195, sLw_law_196, sLw_law_197s hb1 t4 v4, xk_i, xk_l, xk_a, xk_n, xk_0, Option.toList_some, Option.toList_none, List.cons_append, List.nil_append, nI_add]
    rw [e1] at hK1
    rw [e1, sLw_law_198 MMc]
    refine y_update (d := 6) hT hX (fun h2 => absurd h h2) (fun _ g' A' L' hT' hF => ?_)
    simp only [xk_i, xk_l, xk_a, xk_n, xk_0, Option.toList_some, Option.toList_none, List.cons_append, List.nil_append]
    rw [sLw_law_201, if_pos rfl]
    refine nx M1 g' A' L' z w B _ (LwS.mk hK1 (hS.ch hF) hT' hb1 hbx hI (fun cs q => ?_))
    obtain ⟨⟨hu1, hu2⟩, cs0, hc1, hc2, hc3, hc4⟩ := h
    unfold putA at q
    rw [hc1, Option.map_some] at q
    cases q
    refine (hX cs0 hc1).put hc3 hc4 (gkey_GK (gkey_GN.mp hc2)).1 ?_ ?_
    · have a1 := hu2.1
      have a2 := hu2.2
      rw [Int32.le_iff_toInt_le] at a1 a2
      have e0 : (nI 0).toInt = 0 := rfl
      have e5 : (nI 65535).toInt = 65535 := by decide
      rw [e0] at a1
      rw [e5] at a2
      generalize (xs (i + 4)).toInt = y at a1 a2
      by_cases hy : y = 0
      · exact Or.inl hy
      · exact Or.inr (Or.inl ⟨by omega, by omega⟩)
    · have a1 := hu1.1
      rw [Int32.le_iff_toInt_le] at a1
      exact a1
set_option maxHeartbeats 2000000 in
theorem lw_2 (hL : LwS M g A L x z w wb b Ls xs B tx) (hi : i + 5 ≤ Ls) (hLs : Ls ≤ 2560) (nx : ∀ M g A L z w B tx, LwS M g A L x z w wb b Ls xs B tx → WP 11 mLw_law 816 [some (.ref b), some (.ref x), some (.ref (x + 15)), some (.int (nI i))] [] (MM (AR M (x + 15) A L) (x + 15) g) z w Q) : WP 11 mLw_law 206 [some (.ref b), some (.ref x), some (.ref (x + 15)), some (.int (nI i))] [] (MM (AR M (x + 15) A L) (x + 15) g) z w Q := by
  obtain ⟨hK, hS, hT, hb0, hbx, hI, hX⟩ := id hL
  have hb : MM (AR M (x + 15) A L) (x + 15) g b = some (30, scrL Ls xs) := (MMn (by omega)).trans ((AR_ne (by omega)).trans hb0)
  have h7 := hI.len
  have h8 : B.length ≤ 8 := by omega
  have t1 := nI_toInt (n := i + 1) (by omega)
  have v1 := scr_at (xs := xs) (Ls := Ls) (j := i + 1) (by omega)
  have t2 := nI_toInt (n := i + 2) (by omega)
  have v2 := scr_at (xs := xs) (Ls := Ls) (j := i + 2) (by omega)
  have t3 := nI_toInt (n := i + 3) (by omega)
  have v3 := scr_at (xs := xs) (Ls := Ls) (j := i + 3) (by omega)
  have t4 := nI_toInt (n := i + 4) (by omega)
  have v4 := scr_at (xs := xs) (Ls := Ls) (j := i + 4) (by omega)
  simp only [sLw_law_206, sLw_law_207, sLw_law_208, sLw_law_209, sLw_law_210, sLw_law_211s hb t1 v1, sLw_law_212, sLw_law_213, sLw_law_215, sLw_law_216, sLw_law_217, sLw_law_218, sLw_law_219, sLw_law_220s hb t2 v2, sLw_law_221, sLw_law_222, sLw_law_225, sLw_law_226, sLw_law_227, sLw_law_228, sLw_law_229, sLw_law_230, sLw_law_231s hb t3 v3, sLw_law_232, sLw_law_233, sLw_law_235, sLw_law_236, sLw_law_237, sLw_law_238, sLw_law_239, sLw_law_240s hb t4 v4, sLw_law_241, sLw_law_242, sLw_law_245, sLw_law_246, xk_i, xk_l, xk_a, xk_n, xk_0, Option.toList_some, Option.toList_none, List.cons_append, List.nil_append, nI_add]
  rw [sLw_law_247 hK.cell]
  refine w_link (d := 7) hK (fun h => ?_) (fun h M1 hK1 hO1 => ?_)
  · simp only [sLw_law_250, sLw_law_251, sLw_law_252, sLw_law_253, sLw_law_254, sLw_law_255s hb t1 v1, sLw_law_256, sLw_law_257, sLw_law_259, sLw_law_260, sLw_law_261, sLw_law_262, sLw_law_263, sLw_law_264s hb t2 v2, sLw_law_265, sLw_law_266, sLw_law_269, sLw_law_270, sLw_law_271, sLw_law_272, sLw_law_273, sLw_law_274, sLw_law_275s hb t3 v3, sLw_law_276, sLw_law_277, sLw_law_279, sLw_law_280, sLw_law_281, sLw_law_282, sLw_law_283, sLw_law_284s hb t4 v4, sLw_law_285, sLw_law_286, sLw_law_289, sLw_law_290, xk_i, xk_l, xk_a, xk_n, xk_0, Option.toList_some, Option.toList_none, List.cons_append, List.nil_append, nI_add]
    rw [sLw_law_291 MMc]
    refine y_link (d := 6) hT hX (fun _ => ?_) (fun h2 => absurd h2 h)
    simp only [xk_i, xk_l, xk_a, xk_n, xk_0, Option.toList_some, Option.toList_none, List.cons_append, List.nil_append]
    rw [sLw_law_294, if_pos rfl]
    exact nx M g A L z w B tx hL
  · obtain ⟨e1, hb1⟩ := hL.cls hO1
    simp only [sLw_law_250, sLw_law_251, sLw_law_252, sLw_law_253, sLw_law_254, sLw_law_255s hb1 t1 v1, sLw_law_256, sLw_law_257, sLw_law_259, sLw_law_260, sLw_law_261, sLw_law_262, sLw_law_263, sLw_law_264s hb1 t2 v2, sLw_law_265, sLw_law_266, sLw_law_269, sLw_law_270, sLw_law_271, sLw_law_272, sLw_law_273, sLw_law_274, sLw_law_275s hb1 t3 v3, sLw_law_276, sLw_law_277, sLw_law_279, sLw_law_280, sLw_law_281, sLw_law_282, sLw_law_283, sLw_law_284s hb1 t4 v4, sLw_law_285, sLw_law_286, sLw_law_289, sLw_law_290, xk_i, xk_l, xk_a, xk_n, xk_0, Option.toList_some, Option.toList_none, List.cons_append, List.nil_append, nI_add]
    rw [e1] at hK1
    rw [e1, sLw_law_291 MMc]
    refine y_link (d := 6) hT hX (fun h2 => absurd h h2) (fun _ g' A' L' hT' hF => ?_)
    simp only [xk_i, xk_l, xk_a, xk_n, xk_0, Option.toList_some, Option.toList_none, List.cons_append, List.nil_append]
    rw [sLw_law_294, if_pos rfl]
    refine nx M1 g' A' L' z w B _ (LwS.mk hK1 (hS.ch hF) hT' hb1 hbx hI (fun cs q => ?_))
    obtain ⟨hu1, hu2, cs0, hc1, hc2, hc3, hc4⟩ := h
    unfold putA at q
    rw [hc1, Option.map_some] at q
    cases q
    have hG := (gkey_GK (gkey_GN.mp hu1)).1
    have hpos := hG.pos
    refine (hX cs0 hc1).put hc3 hc4 (gkey_GK (gkey_GN.mp hc2)).1 (Or.inr (Or.inr ⟨by omega, ?_⟩)) (by decide)
    rw [Int.neg_neg, Int.toNat_natCast]
    exact hG
set_option maxHeartbeats 2000000 in
theorem lw_15 (hL : LwS M g A L x z w wb b Ls xs B tx) (hi : i + 5 ≤ Ls) (hLs : Ls ≤ 2560) (nx : ∀ M g A L z w B tx, LwS M g A L x z w wb b Ls xs B tx → WP 11 mLw_law 816 [some (.ref b), some (.ref x), some (.ref (x + 15)), some (.int (nI i))] [] (MM (AR M (x + 15) A L) (x + 15) g) z w Q) : WP 11 mLw_law 727 [some (.ref b), some (.ref x), some (.ref (x + 15)), some (.int (nI i))] [] (MM (AR M (x + 15) A L) (x + 15) g) z w Q := by
  obtain ⟨hK, hS, hT, hb0, hbx, hI, hX⟩ := id hL
  have hb : MM (AR M (x + 15) A L) (x + 15) g b = some (30, scrL Ls xs) := (MMn (by omega)).trans ((AR_ne (by omega)).trans hb0)
  have h7 := hI.len
  have h8 : B.length ≤ 8 := by omega
  have t1 := nI_toInt (n := i + 1) (by omega)
  have v1 := scr_at (xs := xs) (Ls := Ls) (j := i + 1) (by omega)
  have t2 := nI_toInt (n := i + 2) (by omega)
  have v2 := scr_at (xs := xs) (Ls := Ls) (j := i + 2) (by omega)
  have t3 := nI_toInt (n := i + 3) (by omega)
  have v3 := scr_at (xs := xs) (Ls := Ls) (j := i + 3) (by omega)
  have t4 := nI_toInt (n := i + 4) (by omega)
  have v4 := scr_at (xs := xs) (Ls := Ls) (j := i + 4) (by omega)
  simp only [sLw_law_727, sLw_law_728, sLw_law_729, sLw_law_730, sLw_law_731, sLw_law_732s hb t1 v1, sLw_law_733, sLw_law_734, sLw_law_735, sLw_law_736, sLw_law_737s hb t2 v2, sLw_law_738, sLw_law_739, sLw_law_740, sLw_law_741, sLw_law_742s hb t3 v3, xk_i, xk_l, xk_a, xk_n, xk_0, Option.toList_some, Option.toList_none, List.cons_append, List.nil_append, nI_add]
  rw [sLw_law_743 hK.cell]
  refine c_RS_damage (d := 3) hK (fun l hl => by have := hI.all l hl; omega) (fun h => ?_) (fun h M1 hK1 hO1 => ?_)
  · simp only [sLw_law_746, sLw_law_747, sLw_law_748, sLw_law_749, sLw_law_750, sLw_law_751s hb t1 v1, sLw_law_752, sLw_law_753, sLw_law_754, sLw_law_755, sLw_law_756s hb t2 v2, sLw_law_757, sLw_law_758, sLw_law_759, sLw_law_760, sLw_law_761s hb t3 v3, xk_i, xk_l, xk_a, xk_n, xk_0, Option.toList_some, Option.toList_none, List.cons_append, List.nil_append, nI_add]
    rw [sLw_law_762 MMc]
    refine c_Md_damage (d := 8) h8 hS (fun _ => ?_) (fun h2 => absurd h2 h)
    simp only [xk_i, xk_l, xk_a, xk_n, xk_0, Option.toList_some, Option.toList_none, List.cons_append, List.nil_append]
    rw [sLw_law_765, if_pos rfl]
    exact nx M g A L z w B tx hL
  · obtain ⟨e1, hb1⟩ := hL.cls hO1
    simp only [sLw_law_746, sLw_law_747, sLw_law_748, sLw_law_749, sLw_law_750, sLw_law_751s hb1 t1 v1, sLw_law_752, sLw_law_753, sLw_law_754, sLw_law_755, sLw_law_756s hb1 t2 v2, sLw_law_757, sLw_law_758, sLw_law_759, sLw_law_760, sLw_law_761s hb1 t3 v3, xk_i, xk_l, xk_a, xk_n, xk_0, Option.toList_some, Option.toList_none, List.cons_append, List.nil_append, nI_add]
    rw [e1] at hK1
    rw [e1, sLw_law_762 MMc]
    refine c_Md_damage (d := 8) h8 hS (fun h2 => absurd h h2) (fun _ A' hS' hF => ?_)
    simp only [xk_i, xk_l, xk_a, xk_n, xk_0, Option.toList_some, Option.toList_none, List.cons_append, List.nil_append]
    rw [sLw_law_765, if_pos rfl]
    exact nx M1 g A' L z w _ tx (LwS.mk hK1 hS' (hT.fr hF (by decide) (by decide) (by decide) (by decide) (by decide) (by decide)) hb1 hbx (hI.dm h) hX)
set_option maxHeartbeats 2000000 in
theorem lw_10 (hL : LwS M g A L x z w wb b Ls xs B tx) (hi : i + 5 ≤ Ls) (hLs : Ls ≤ 2560) (nx : ∀ M g A L z w B tx, LwS M g A L x z w wb b Ls xs B tx → WP 11 mLw_law 816 [some (.ref b), some (.ref x), some (.ref (x + 15)), some (.int (nI i))] [] (MM (AR M (x + 15) A L) (x + 15) g) z w Q) : WP 11 mLw_law 622 [some (.ref b), some (.ref x), some (.ref (x + 15)), some (.int (nI i))] [] (MM (AR M (x + 15) A L) (x + 15) g) z w Q := by
  obtain ⟨hK, hS, hT, hb0, hbx, hI, hX⟩ := id hL
  have hb : MM (AR M (x + 15) A L) (x + 15) g b = some (30, scrL Ls xs) := (MMn (by omega)).trans ((AR_ne (by omega)).trans hb0)
  have h7 := hI.len
  have h8 : B.length ≤ 8 := by omega
  have t1 := nI_toInt (n := i + 1) (by omega)
  have v1 := scr_at (xs := xs) (Ls := Ls) (j := i + 1) (by omega)
  have t2 := nI_toInt (n := i + 2) (by omega)
  have v2 := scr_at (xs := xs) (Ls := Ls) (j := i + 2) (by omega)
  have t3 := nI_toInt (n := i + 3) (by omega)
  have v3 := scr_at (xs := xs) (Ls := Ls) (j := i + 3) (by omega)
  have t4 := nI_toInt (n := i + 4) (by omega)
  have v4 := scr_at (xs := xs) (Ls := Ls) (j := i + 4) (by omega)
  simp only [sLw_law_622, xk_i, xk_l, xk_a, xk_n, xk_0, Option.toList_some, Option.toList_none, List.cons_append, List.nil_append, nI_add]
  rw [sLw_law_623 hK.cell]
  refine c_RS_compact (d := 5) hK h8 (fun hv => ?_) (fun hB => ?_) (fun TT hv hB hf M1 z1 w1 hK1 hO1 => ?_) (fun TT hv hB hf M1 z1 w1 hK1 hO1 => ?_)
  · simp only [sLw_law_626, xk_i, xk_l, xk_a, xk_n, xk_0, Option.toList_some, Option.toList_none, List.cons_append, List.nil_append, nI_add]
    rw [sLw_law_627 MMc]
    refine c_Md_compact (d := 2) h8 hS (fun _ g' A' L' hF => ?_) (fun hB => ?_) (fun TT hv2 => ?_) (fun TT hv2 => ?_)
    · simp only [xk_i, xk_l, xk_a, xk_n, xk_0, Option.toList_some, Option.toList_none, List.cons_append, List.nil_append]
      rw [sLw_law_630, if_pos rfl]
      exact nx M g' A' L' z w B tx (LwS.mk hK (hS.v hF) (hT.v hF) hb0 hbx hI hX)
    · rw [hB] at hv; cases hv
    · rw [hv] at hv2; cases hv2
    · rw [hv] at hv2; cases hv2
  · simp only [sLw_law_626, xk_i, xk_l, xk_a, xk_n, xk_0, Option.toList_some, Option.toList_none, List.cons_append, List.nil_append, nI_add]
    rw [sLw_law_627 MMc]
    refine c_Md_compact (d := 2) h8 hS (fun hv => ?_) (fun _ g' A' L' hF => ?_) (fun TT _ hB2 => absurd hB hB2) (fun TT _ hB2 => absurd hB hB2)
    · rw [hB] at hv; cases hv
    · simp only [xk_i, xk_l, xk_a, xk_n, xk_0, Option.toList_some, Option.toList_none, List.cons_append, List.nil_append]
      rw [sLw_law_630, if_pos rfl]
      exact nx M g' A' L' z w B tx (LwS.mk hK (hS.v hF) (hT.v hF) hb0 hbx hI hX)
  · obtain ⟨e1, hb1⟩ := hL.cls hO1
    simp only [sLw_law_626, xk_i, xk_l, xk_a, xk_n, xk_0, Option.toList_some, Option.toList_none, List.cons_append, List.nil_append, nI_add]
    rw [e1] at hK1
    rw [e1, sLw_law_627 MMc]
    refine c_Md_compact (d := 2) h8 hS (fun hv2 => ?_) (fun hB2 => absurd hB2 hB) (fun TT2 hv2 _ hf2 g' A' L' hS' hF => ?_) (fun TT2 hv2 _ hf2 => ?_)
    · rw [hv] at hv2; cases hv2
    · rw [hv] at hv2; cases hv2
      simp only [xk_i, xk_l, xk_a, xk_n, xk_0, Option.toList_some, Option.toList_none, List.cons_append, List.nil_append]
      rw [sLw_law_630, if_pos rfl]
      exact nx M1 g' A' L' z1 w1 _ tx (LwS.mk hK1 hS' (hT.mg hF) hb1 hbx (Inv.one (ser_3 _) hf.2.2) hX)
    · rw [hv] at hv2; cases hv2
      exact absurd hf hf2
  · obtain ⟨e1, hb1⟩ := hL.cls hO1
    simp only [sLw_law_626, xk_i, xk_l, xk_a, xk_n, xk_0, Option.toList_some, Option.toList_none, List.cons_append, List.nil_append, nI_add]
    rw [e1] at hK1
    rw [e1, sLw_law_627 MMc]
    refine c_Md_compact (d := 2) h8 hS (fun hv2 => ?_) (fun hB2 => absurd hB2 hB) (fun TT2 hv2 _ hf2 => ?_) (fun TT2 hv2 _ hf2 g' A' L' hS' hF => ?_)
    · rw [hv] at hv2; cases hv2
    · rw [hv] at hv2; cases hv2
      exact absurd hf2 hf
    · simp only [xk_i, xk_l, xk_a, xk_n, xk_0, Option.toList_some, Option.toList_none, List.cons_append, List.nil_append]
      rw [sLw_law_630, if_pos rfl]
      exact nx M1 g' A' L' z1 w1 B tx (LwS.mk hK1 hS' (hT.mg hF) hb1 hbx hI hX)
set_option maxHeartbeats 2000000 in
theorem lw_11 (hL : LwS M g A L x z w wb b Ls xs B tx) (hi : i + 5 ≤ Ls) (hLs : Ls ≤ 2560) (nx : ∀ M g A L z w B tx, LwS M g A L x z w wb b Ls xs B tx → WP 11 mLw_law 816 [some (.ref b), some (.ref x), some (.ref (x + 15)), some (.int (nI i))] [] (MM (AR M (x + 15) A L) (x + 15) g) z w Q) : WP 11 mLw_law 635 [some (.ref b), some (.ref x), some (.ref (x + 15)), some (.int (nI i))] [] (MM (AR M (x + 15) A L) (x + 15) g) z w Q := by
  obtain ⟨hK, hS, hT, hb0, hbx, hI, hX⟩ := id hL
  have hb : MM (AR M (x + 15) A L) (x + 15) g b = some (30, scrL Ls xs) := (MMn (by omega)).trans ((AR_ne (by omega)).trans hb0)
  have h7 := hI.len
  have h8 : B.length ≤ 8 := by omega
  have t1 := nI_toInt (n := i + 1) (by omega)
  have v1 := scr_at (xs := xs) (Ls := Ls) (j := i + 1) (by omega)
  have t2 := nI_toInt (n := i + 2) (by omega)
  have v2 := scr_at (xs := xs) (Ls := Ls) (j := i + 2) (by omega)
  have t3 := nI_toInt (n := i + 3) (by omega)
  have v3 := scr_at (xs := xs) (Ls := Ls) (j := i + 3) (by omega)
  have t4 := nI_toInt (n := i + 4) (by omega)
  have v4 := scr_at (xs := xs) (Ls := Ls) (j := i + 4) (by omega)
  simp only [sLw_law_635, sLw_law_636, sLw_law_637, sLw_law_638, sLw_law_639, sLw_law_640s hb t1 v1, xk_i, xk_l, xk_a, xk_n, xk_0, Option.toList_some, Option.toList_none, List.cons_append, List.nil_append, nI_add]
  rw [sLw_law_641 hK.cell]
  refine c_RS_expire (d := 5) hK h8 (fun hv => ?_) (fun hB => ?_) (fun TT hv hB hf M1 z1 w1 hK1 hO1 => ?_) (fun TT hv hB hf M1 z1 w1 hK1 hO1 => ?_)
  · simp only [sLw_law_644, sLw_law_645, sLw_law_646, sLw_law_647, sLw_law_648, sLw_law_649s hb t1 v1, xk_i, xk_l, xk_a, xk_n, xk_0, Option.toList_some, Option.toList_none, List.cons_append, List.nil_append, nI_add]
    rw [sLw_law_650 MMc]
    refine c_Md_expire (d := 2) h8 hS (fun _ g' A' L' hF => ?_) (fun hB => ?_) (fun TT hv2 => ?_) (fun TT hv2 => ?_)
    · simp only [xk_i, xk_l, xk_a, xk_n, xk_0, Option.toList_some, Option.toList_none, List.cons_append, List.nil_append]
      rw [sLw_law_653, if_pos rfl]
      exact nx M g' A' L' z w B tx (LwS.mk hK (hS.v hF) (hT.v hF) hb0 hbx hI hX)
    · rw [hB] at hv; cases hv
    · rw [hv] at hv2; cases hv2
    · rw [hv] at hv2; cases hv2
  · simp only [sLw_law_644, sLw_law_645, sLw_law_646, sLw_law_647, sLw_law_648, sLw_law_649s hb t1 v1, xk_i, xk_l, xk_a, xk_n, xk_0, Option.toList_some, Option.toList_none, List.cons_append, List.nil_append, nI_add]
    rw [sLw_law_650 MMc]
    refine c_Md_expire (d := 2) h8 hS (fun hv => ?_) (fun _ g' A' L' hF => ?_) (fun TT _ hB2 => absurd hB hB2) (fun TT _ hB2 => absurd hB hB2)
    · rw [hB] at hv; cases hv
    · simp only [xk_i, xk_l, xk_a, xk_n, xk_0, Option.toList_some, Option.toList_none, List.cons_append, List.nil_append]
      rw [sLw_law_653, if_pos rfl]
      exact nx M g' A' L' z w B tx (LwS.mk hK (hS.v hF) (hT.v hF) hb0 hbx hI hX)
  · obtain ⟨e1, hb1⟩ := hL.cls hO1
    simp only [sLw_law_644, sLw_law_645, sLw_law_646, sLw_law_647, sLw_law_648, sLw_law_649s hb1 t1 v1, xk_i, xk_l, xk_a, xk_n, xk_0, Option.toList_some, Option.toList_none, List.cons_append, List.nil_append, nI_add]
    rw [e1] at hK1
    rw [e1, sLw_law_650 MMc]
    refine c_Md_expire (d := 2) h8 hS (fun hv2 => ?_) (fun hB2 => absurd hB2 hB) (fun TT2 hv2 _ hf2 g' A' L' hS' hF => ?_) (fun TT2 hv2 _ hf2 => ?_)
    · rw [hv] at hv2; cases hv2
    · rw [hv] at hv2; cases hv2
      simp only [xk_i, xk_l, xk_a, xk_n, xk_0, Option.toList_some, Option.toList_none, List.cons_append, List.nil_append]
      rw [sLw_law_653, if_pos rfl]
      exact nx M1 g' A' L' z1 w1 _ tx (LwS.mk hK1 hS' (hT.mg hF) hb1 hbx (Inv.one (ser_3 _) hf.2.2) hX)
    · rw [hv] at hv2; cases hv2
      exact absurd hf hf2
  · obtain ⟨e1, hb1⟩ := hL.cls hO1
    simp only [sLw_law_644, sLw_law_645, sLw_law_646, sLw_law_647, sLw_law_648, sLw_law_649s hb1 t1 v1, xk_i, xk_l, xk_a, xk_n, xk_0, Option.toList_some, Option.toList_none, List.cons_append, List.nil_append, nI_add]
    rw [e1] at hK1
    rw [e1, sLw_law_650 MMc]
    refine c_Md_expire (d := 2) h8 hS (fun hv2 => ?_) (fun hB2 => absurd hB2 hB) (fun TT2 hv2 _ hf2 => ?_) (fun TT2 hv2 _ hf2 g' A' L' hS' hF => ?_)
    · rw [hv] at hv2; cases hv2
    · rw [hv] at hv2; cases hv2
      exact absurd hf2 hf
    · simp only [xk_i, xk_l, xk_a, xk_n, xk_0, Option.toList_some, Option.toList_none, List.cons_append, List.nil_append]
      rw [sLw_law_653, if_pos rfl]
      exact nx M1 g' A' L' z1 w1 B tx (LwS.mk hK1 hS' (hT.mg hF) hb1 hbx hI hX)
set_option maxHeartbeats 2000000 in
theorem lw_3 (hL : LwS M g A L x z w wb b Ls xs B tx) (hi : i + 5 ≤ Ls) (hLs : Ls ≤ 2560) (nx : ∀ M g A L z w B tx, LwS M g A L x z w wb b Ls xs B tx → WP 11 mLw_law 816 [some (.ref b), some (.ref x), some (.ref (x + 15)), some (.int (nI i))] [] (MM (AR M (x + 15) A L) (x + 15) g) z w Q) : WP 11 mLw_law 299 [some (.ref b), some (.ref x), some (.ref (x + 15)), some (.int (nI i))] [] (MM (AR M (x + 15) A L) (x + 15) g) z w Q := by
  obtain ⟨hK, hS, hT, hb0, hbx, hI, hX⟩ := id hL
  have hb : MM (AR M (x + 15) A L) (x + 15) g b = some (30, scrL Ls xs) := (MMn (by omega)).trans ((AR_ne (by omega)).trans hb0)
  have h7 := hI.len
  have h8 : B.length ≤ 8 := by omega
  have t1 := nI_toInt (n := i + 1) (by omega)
  have v1 := scr_at (xs := xs) (Ls := Ls) (j := i + 1) (by omega)
  have t2 := nI_toInt (n := i + 2) (by omega)
  have v2 := scr_at (xs := xs) (Ls := Ls) (j := i + 2) (by omega)
  have t3 := nI_toInt (n := i + 3) (by omega)
  have v3 := scr_at (xs := xs) (Ls := Ls) (j := i + 3) (by omega)
  have t4 := nI_toInt (n := i + 4) (by omega)
  have v4 := scr_at (xs := xs) (Ls := Ls) (j := i + 4) (by omega)
  rw [sLw_law_299, sLw_law_300 hK.cell]
  have hnoX : ∀ cs, (none : Option (List achg)) = some cs → okX cs := fun cs q => (by cases q)
  refine c_RS_commit (d := 4) hK h7 (fun cs q => ⟨(hX cs q).1, fun c hc => ((hX cs q).2.1 c hc).1⟩) (fun l hl => (hI.all l hl).2) (fun h => ?_) (fun h hv => ?_) (fun cs TT h hv hc M1 hK1 hO1 => ?_) (fun cs TT j h hv hc hu M1 hK1 hO1 => ?_) (fun cs TT j h hv hc hu hl M1 z1 w1 hK1 hO1 => ?_) (fun cs TT h hv hc hu hl hf M1 z1 w1 hK1 hO1 => ?_) (fun cs TT h hv hc hu hl hf hlen hp M1 z1 w1 hK1 hO1 => ?_)
  · simp only [sLw_law_303, xk_i, xk_l, xk_a, xk_n, xk_0, Option.toList_some, Option.toList_none, List.cons_append, List.nil_append]
    rw [sLw_law_304 MMc]
    refine c_Md_commit (d := 3) h7 hS hT hX (fun h2 => ?_) (fun h2 hv2 g' A' L' hF => ?_) (fun cs2 TT2 h2 hv2 hc2 g' A' L' hS' hT' => ?_) (fun cs2 TT2 j2 h2 hv2 hc2 hu2 g' A' L' hS' hT' => ?_) (fun cs2 TT2 j2 h2 hv2 hc2 hu2 hl2 g' A' L' hS' hT' => ?_) (fun cs2 TT2 h2 hv2 hc2 hu2 hl2 hf2 g' A' L' hS' hT' => ?_) (fun cs2 TT2 h2 hv2 hc2 hu2 hl2 hf2 hlen2 g' A' L' hS' hT' => ?_)
    · simp only [xk_i, xk_l, xk_a, xk_n, xk_0, Option.toList_some, Option.toList_none, List.cons_append, List.nil_append]
      rw [sLw_law_307, if_pos rfl]
      exact nx M g A L z w B tx hL
    · exact absurd h h2
    · rw [h] at h2; cases h2
    · rw [h] at h2; cases h2
    · rw [h] at h2; cases h2
    · rw [h] at h2; cases h2
    · rw [h] at h2; cases h2
  · simp only [sLw_law_303, xk_i, xk_l, xk_a, xk_n, xk_0, Option.toList_some, Option.toList_none, List.cons_append, List.nil_append]
    rw [sLw_law_304 MMc]
    refine c_Md_commit (d := 3) h7 hS hT hX (fun h2 => ?_) (fun h2 hv2 g' A' L' hF => ?_) (fun cs2 TT2 h2 hv2 hc2 g' A' L' hS' hT' => ?_) (fun cs2 TT2 j2 h2 hv2 hc2 hu2 g' A' L' hS' hT' => ?_) (fun cs2 TT2 j2 h2 hv2 hc2 hu2 hl2 g' A' L' hS' hT' => ?_) (fun cs2 TT2 h2 hv2 hc2 hu2 hl2 hf2 g' A' L' hS' hT' => ?_) (fun cs2 TT2 h2 hv2 hc2 hu2 hl2 hf2 hlen2 g' A' L' hS' hT' => ?_)
    · exact absurd h2 h
    · simp only [xk_i, xk_l, xk_a, xk_n, xk_0, Option.toList_some, Option.toList_none, List.cons_append, List.nil_append]
      rw [sLw_law_307, if_pos rfl]
      exact nx M g' A' L' z w B tx (LwS.mk hK (hS.v hF) (hT.v hF) hb0 hbx hI hX)
    · rw [hv] at hv2; cases hv2
    · rw [hv] at hv2; cases hv2
    · rw [hv] at hv2; cases hv2
    · rw [hv] at hv2; cases hv2
    · rw [hv] at hv2; cases hv2
  · obtain ⟨e1, hb1⟩ := hL.cls hO1
    simp only [sLw_law_303, xk_i, xk_l, xk_a, xk_n, xk_0, Option.toList_some, Option.toList_none, List.cons_append, List.nil_append]
    rw [e1] at hK1
    rw [e1, sLw_law_304 MMc]
    refine c_Md_commit (d := 3) h7 hS hT hX (fun h2 => ?_) (fun h2 hv2 g' A' L' hF => ?_) (fun cs2 TT2 h2 hv2 hc2 g' A' L' hS' hT' => ?_) (fun cs2 TT2 j2 h2 hv2 hc2 hu2 g' A' L' hS' hT' => ?_) (fun cs2 TT2 j2 h2 hv2 hc2 hu2 hl2 g' A' L' hS' hT' => ?_) (fun cs2 TT2 h2 hv2 hc2 hu2 hl2 hf2 g' A' L' hS' hT' => ?_) (fun cs2 TT2 h2 hv2 hc2 hu2 hl2 hf2 hlen2 g' A' L' hS' hT' => ?_)
    · rw [h] at h2; cases h2
    · rw [hv] at hv2; cases hv2
    · rw [h] at h2
      cases h2
      rw [hv] at hv2
      cases hv2
      simp only [xk_i, xk_l, xk_a, xk_n, xk_0, Option.toList_some, Option.toList_none, List.cons_append, List.nil_append]
      rw [sLw_law_307, if_pos rfl]
      exact nx M1 g' A' L' z w B none (LwS.mk hK1 hS' hT' hb1 hbx hI hnoX)
    · rw [h] at h2
      cases h2
      rw [hv] at hv2
      cases hv2
      exact absurd hc hc2
    · rw [h] at h2
      cases h2
      rw [hv] at hv2
      cases hv2
      exact absurd hc hc2
    · rw [h] at h2
      cases h2
      rw [hv] at hv2
      cases hv2
      exact absurd hc hc2
    · rw [h] at h2
      cases h2
      rw [hv] at hv2
      cases hv2
      exact absurd hc hc2
  · obtain ⟨e1, hb1⟩ := hL.cls hO1
    simp only [sLw_law_303, xk_i, xk_l, xk_a, xk_n, xk_0, Option.toList_some, Option.toList_none, List.cons_append, List.nil_append]
    rw [e1] at hK1
    rw [e1, sLw_law_304 MMc]
    refine c_Md_commit (d := 3) h7 hS hT hX (fun h2 => ?_) (fun h2 hv2 g' A' L' hF => ?_) (fun cs2 TT2 h2 hv2 hc2 g' A' L' hS' hT' => ?_) (fun cs2 TT2 j2 h2 hv2 hc2 hu2 g' A' L' hS' hT' => ?_) (fun cs2 TT2 j2 h2 hv2 hc2 hu2 hl2 g' A' L' hS' hT' => ?_) (fun cs2 TT2 h2 hv2 hc2 hu2 hl2 hf2 g' A' L' hS' hT' => ?_) (fun cs2 TT2 h2 hv2 hc2 hu2 hl2 hf2 hlen2 g' A' L' hS' hT' => ?_)
    · rw [h] at h2; cases h2
    · rw [hv] at hv2; cases hv2
    · rw [h] at h2
      cases h2
      rw [hv] at hv2
      cases hv2
      exact absurd hc2 hc
    · rw [h] at h2
      cases h2
      rw [hv] at hv2
      cases hv2
      rw [hu] at hu2
      cases hu2
      simp only [xk_i, xk_l, xk_a, xk_n, xk_0, Option.toList_some, Option.toList_none, List.cons_append, List.nil_append]
      rw [sLw_law_307, if_pos rfl]
      exact nx M1 g' A' L' z w B none (LwS.mk hK1 hS' hT' hb1 hbx hI hnoX)
    · rw [h] at h2
      cases h2
      rw [hv] at hv2
      cases hv2
      rw [hu] at hu2; cases hu2
    · rw [h] at h2
      cases h2
      rw [hv] at hv2
      cases hv2
      rw [hu] at hu2; cases hu2
    · rw [h] at h2
      cases h2
      rw [hv] at hv2
      cases hv2
      rw [hu] at hu2; cases hu2
  · obtain ⟨e1, hb1⟩ := hL.cls hO1
    simp only [sLw_law_303, xk_i, xk_l, xk_a, xk_n, xk_0, Option.toList_some, Option.toList_none, List.cons_append, List.nil_append]
    rw [e1] at hK1
    rw [e1, sLw_law_304 MMc]
    refine c_Md_commit (d := 3) h7 hS hT hX (fun h2 => ?_) (fun h2 hv2 g' A' L' hF => ?_) (fun cs2 TT2 h2 hv2 hc2 g' A' L' hS' hT' => ?_) (fun cs2 TT2 j2 h2 hv2 hc2 hu2 g' A' L' hS' hT' => ?_) (fun cs2 TT2 j2 h2 hv2 hc2 hu2 hl2 g' A' L' hS' hT' => ?_) (fun cs2 TT2 h2 hv2 hc2 hu2 hl2 hf2 g' A' L' hS' hT' => ?_) (fun cs2 TT2 h2 hv2 hc2 hu2 hl2 hf2 hlen2 g' A' L' hS' hT' => ?_)
    · rw [h] at h2; cases h2
    · rw [hv] at hv2; cases hv2
    · rw [h] at h2
      cases h2
      rw [hv] at hv2
      cases hv2
      exact absurd hc2 hc
    · rw [h] at h2
      cases h2
      rw [hv] at hv2
      cases hv2
      rw [hu] at hu2; cases hu2
    · rw [h] at h2
      cases h2
      rw [hv] at hv2
      cases hv2
      rw [hl] at hl2
      cases hl2
      simp only [xk_i, xk_l, xk_a, xk_n, xk_0, Option.toList_some, Option.toList_none, List.cons_append, List.nil_append]
      rw [sLw_law_307, if_pos rfl]
      exact nx M1 g' A' L' z1 w1 B none (LwS.mk hK1 hS' hT' hb1 hbx hI hnoX)
    · rw [h] at h2
      cases h2
      rw [hv] at hv2
      cases hv2
      rw [hl] at hl2; cases hl2
    · rw [h] at h2
      cases h2
      rw [hv] at hv2
      cases hv2
      rw [hl] at hl2; cases hl2
  · obtain ⟨e1, hb1⟩ := hL.cls hO1
    simp only [sLw_law_303, xk_i, xk_l, xk_a, xk_n, xk_0, Option.toList_some, Option.toList_none, List.cons_append, List.nil_append]
    rw [e1] at hK1
    rw [e1, sLw_law_304 MMc]
    refine c_Md_commit (d := 3) h7 hS hT hX (fun h2 => ?_) (fun h2 hv2 g' A' L' hF => ?_) (fun cs2 TT2 h2 hv2 hc2 g' A' L' hS' hT' => ?_) (fun cs2 TT2 j2 h2 hv2 hc2 hu2 g' A' L' hS' hT' => ?_) (fun cs2 TT2 j2 h2 hv2 hc2 hu2 hl2 g' A' L' hS' hT' => ?_) (fun cs2 TT2 h2 hv2 hc2 hu2 hl2 hf2 g' A' L' hS' hT' => ?_) (fun cs2 TT2 h2 hv2 hc2 hu2 hl2 hf2 hlen2 g' A' L' hS' hT' => ?_)
    · rw [h] at h2; cases h2
    · rw [hv] at hv2; cases hv2
    · rw [h] at h2
      cases h2
      rw [hv] at hv2
      cases hv2
      exact absurd hc2 hc
    · rw [h] at h2
      cases h2
      rw [hv] at hv2
      cases hv2
      rw [hu] at hu2; cases hu2
    · rw [h] at h2
      cases h2
      rw [hv] at hv2
      cases hv2
      rw [hl] at hl2; cases hl2
    · rw [h] at h2
      cases h2
      rw [hv] at hv2
      cases hv2
      simp only [xk_i, xk_l, xk_a, xk_n, xk_0, Option.toList_some, Option.toList_none, List.cons_append, List.nil_append]
      rw [sLw_law_307, if_pos rfl]
      exact nx M1 g' A' L' z1 w1 B none (LwS.mk hK1 hS' hT' hb1 hbx hI hnoX)
    · rw [h] at h2
      cases h2
      rw [hv] at hv2
      cases hv2
      exact absurd hf (fun q => q.elim hf2 (fun q => q hlen2))
  · obtain ⟨e1, hb1⟩ := hL.cls hO1
    simp only [sLw_law_303, xk_i, xk_l, xk_a, xk_n, xk_0, Option.toList_some, Option.toList_none, List.cons_append, List.nil_append]
    rw [e1] at hK1
    rw [e1, sLw_law_304 MMc]
    refine c_Md_commit (d := 3) h7 hS hT hX (fun h2 => ?_) (fun h2 hv2 g' A' L' hF => ?_) (fun cs2 TT2 h2 hv2 hc2 g' A' L' hS' hT' => ?_) (fun cs2 TT2 j2 h2 hv2 hc2 hu2 g' A' L' hS' hT' => ?_) (fun cs2 TT2 j2 h2 hv2 hc2 hu2 hl2 g' A' L' hS' hT' => ?_) (fun cs2 TT2 h2 hv2 hc2 hu2 hl2 hf2 g' A' L' hS' hT' => ?_) (fun cs2 TT2 h2 hv2 hc2 hu2 hl2 hf2 hlen2 g' A' L' hS' hT' => ?_)
    · rw [h] at h2; cases h2
    · rw [hv] at hv2; cases hv2
    · rw [h] at h2
      cases h2
      rw [hv] at hv2
      cases hv2
      exact absurd hc2 hc
    · rw [h] at h2
      cases h2
      rw [hv] at hv2
      cases hv2
      rw [hu] at hu2; cases hu2
    · rw [h] at h2
      cases h2
      rw [hv] at hv2
      cases hv2
      rw [hl] at hl2; cases hl2
    · rw [h] at h2
      cases h2
      rw [hv] at hv2
      cases hv2
      exact absurd hf2 hf
    · rw [h] at h2
      cases h2
      rw [hv] at hv2
      cases hv2
      simp only [xk_i, xk_l, xk_a, xk_n, xk_0, Option.toList_some, Option.toList_none, List.cons_append, List.nil_append]
      rw [sLw_law_307, if_pos rfl]
      exact nx M1 g' A' L' z1 w1 _ none (LwS.mk hK1 hS' hT' hb1 hbx (hI.cm hv (hX _ h) hc hf) hnoX)
end LC
