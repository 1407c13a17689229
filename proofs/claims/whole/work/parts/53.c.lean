/-! the start: the words, the tables, the first cells -/
set_option maxRecDepth 100000 in
theorem zNW_in : ∀ w ∈ zNW, w ∈ lw_tbl := (List.forall_mem_cons.mpr ⟨(zm_1 (List.mem_of_getElem? (i := 70) (by decide +kernel))), (List.forall_mem_cons.mpr ⟨(zm_1 (List.mem_of_getElem? (i := 68) (by decide +kernel))), (List.forall_mem_cons.mpr ⟨(zm_1 (List.mem_of_getElem? (i := 64) (by decide +kernel))), (List.forall_mem_cons.mpr ⟨(zm_1 (List.mem_of_getElem? (i := 116) (by decide +kernel))), (List.forall_mem_cons.mpr ⟨(zm_1 (List.mem_of_getElem? (i := 118) (by decide +kernel))), (List.forall_mem_cons.mpr ⟨(zm_1 (List.mem_of_getElem? (i := 120) (by decide +kernel))), (List.forall_mem_cons.mpr ⟨(zm_1 (List.mem_of_getElem? (i := 122) (by decide +kernel))), (List.forall_mem_cons.mpr ⟨(zm_1 (List.mem_of_getElem? (i := 124) (by decide +kernel))), (List.forall_mem_cons.mpr ⟨(zm_1 (List.mem_of_getElem? (i := 126) (by decide +kernel))), (List.forall_mem_cons.mpr ⟨(zm_1 (List.mem_of_getElem? (i := 128) (by decide +kernel))), (List.forall_mem_cons.mpr ⟨(zm_1 (List.mem_of_getElem? (i := 130) (by decide +kernel))), (List.forall_mem_cons.mpr ⟨(zm_1 (List.mem_of_getElem? (i := 40) (by decide +kernel))), (List.forall_mem_cons.mpr ⟨(zm_1 (List.mem_of_getElem? (i := 42) (by decide +kernel))), (List.forall_mem_cons.mpr ⟨(zm_1 (List.mem_of_getElem? (i := 45) (by decide +kernel))), (List.forall_mem_cons.mpr ⟨(zm_1 (List.mem_of_getElem? (i := 26) (by decide +kernel))), (List.forall_mem_cons.mpr ⟨(zm_1 (List.mem_of_getElem? (i := 100) (by decide +kernel))), (List.forall_mem_cons.mpr ⟨(zm_1 (List.mem_of_getElem? (i := 66) (by decide +kernel))), (List.forall_mem_cons.mpr ⟨(zm_2 (List.mem_of_getElem? (i := 11) (by decide +kernel))), (List.forall_mem_cons.mpr ⟨(zm_2 (List.mem_of_getElem? (i := 13) (by decide +kernel))), (List.forall_mem_cons.mpr ⟨(zm_1 (List.mem_of_getElem? (i := 231) (by decide +kernel))), (List.forall_mem_cons.mpr ⟨(zm_1 (List.mem_of_getElem? (i := 43) (by decide +kernel))), (List.forall_mem_cons.mpr ⟨(zm_1 (List.mem_of_getElem? (i := 20) (by decide +kernel))), (List.forall_mem_cons.mpr ⟨(zm_1 (List.mem_of_getElem? (i := 35) (by decide +kernel))), (List.forall_mem_cons.mpr ⟨(zm_1 (List.mem_of_getElem? (i := 93) (by decide +kernel))), (List.forall_mem_cons.mpr ⟨(zm_1 (List.mem_of_getElem? (i := 110) (by decide +kernel))), (List.forall_mem_cons.mpr ⟨(zm_2 (List.mem_of_getElem? (i := 90) (by decide +kernel))), (List.forall_mem_cons.mpr ⟨(zm_2 (List.mem_of_getElem? (i := 73) (by decide +kernel))), (List.forall_mem_cons.mpr ⟨(zm_2 (List.mem_of_getElem? (i := 81) (by decide +kernel))), (fun _ h => absurd h List.not_mem_nil)⟩)⟩)⟩)⟩)⟩)⟩)⟩)⟩)⟩)⟩)⟩)⟩)⟩)⟩)⟩)⟩)⟩)⟩)⟩)⟩)⟩)⟩)⟩)⟩)⟩)⟩)⟩)⟩)
set_option maxRecDepth 100000 in
set_option maxHeartbeats 4000000 in
theorem zE_zKL {s : State} {b : Nat} (hs : ∀ c ∈ flatC (Jvm.Cond.and given_1 narrow_1), c.before #[Value.ref b] s = true) (hts : ∀ w ∈ lw_tbl, w.before #[Value.ref b] s = true) : zTb "KIND_LETTERS" "[C" .char 5 zKL (fun q : Nat => s.heap.size ≤ q) s s.heap := by
  have hA : ∀ a : Nat, a < s.heap.size → ¬ (fun q : Nat => s.heap.size ≤ q) a := fun a h => Nat.not_le.mpr h
  obtain ⟨t, ht, hT⟩ := va_Tof (A := fun q : Nat => s.heap.size ≤ q) (tm := (Term.static "PegField" "KIND_LETTERS" "[C")) (ty := .char) (N := 5) (f := fun j => .int (zKL j)) (by decide) (hs (.arrayOf (Term.static "PegField" "KIND_LETTERS" "[C") .char) (by decide +kernel)) (va_eqt (hs (.eq (.length (Term.static "PegField" "KIND_LETTERS" "[C")) (.int 5)) (by decide +kernel))) (fun j hj => by
    rcases (show j = 0 ∨ j = 1 ∨ j = 2 ∨ j = 3 ∨ j = 4 by omega) with rfl | rfl | rfl | rfl | rfl
    · exact va_eqt (z := 112) (hs (.eq (.elem (Term.static "PegField" "KIND_LETTERS" "[C") (.int 0)) (.int (112 : Int32))) (by decide +kernel))
    · exact va_eqt (z := 120) (hs (.eq (.elem (Term.static "PegField" "KIND_LETTERS" "[C") (.int 1)) (.int (120 : Int32))) (by decide +kernel))
    · exact va_eqt (z := 115) (hs (.eq (.elem (Term.static "PegField" "KIND_LETTERS" "[C") (.int 2)) (.int (115 : Int32))) (by decide +kernel))
    · exact va_eqt (z := 102) (hs (.eq (.elem (Term.static "PegField" "KIND_LETTERS" "[C") (.int 3)) (.int (102 : Int32))) (by decide +kernel))
    · exact va_eqt (z := 98) (hs (.eq (.elem (Term.static "PegField" "KIND_LETTERS" "[C") (.int 4)) (.int (98 : Int32))) (by decide +kernel))) hA
  exact ⟨t, va_Zof (hts (.laysStatic "PegField" "KIND_LETTERS" "[C") (zm_1 (List.mem_of_getElem? (i := 232) (by decide +kernel)))) (hts (.initialized "PegField") (zm_1 (List.mem_of_getElem? (i := 1) (by decide +kernel)))) ht hA, hT⟩
set_option maxRecDepth 100000 in
set_option maxHeartbeats 4000000 in
theorem zE_zTA {s : State} {b : Nat} (hs : ∀ c ∈ flatC (Jvm.Cond.and given_1 narrow_1), c.before #[Value.ref b] s = true) (hts : ∀ w ∈ lw_tbl, w.before #[Value.ref b] s = true) : zTb "TAKEN_AS" "[I" .int 5 zTA (fun q : Nat => s.heap.size ≤ q) s s.heap := by
  have hA : ∀ a : Nat, a < s.heap.size → ¬ (fun q : Nat => s.heap.size ≤ q) a := fun a h => Nat.not_le.mpr h
  obtain ⟨t, ht, hT⟩ := va_Tof (A := fun q : Nat => s.heap.size ≤ q) (tm := (Term.static "PegField" "TAKEN_AS" "[I")) (ty := .int) (N := 5) (f := fun j => .int (zTA j)) (by decide) (hs (.arrayOf (Term.static "PegField" "TAKEN_AS" "[I") .int) (by decide +kernel)) (va_eqt (hs (.eq (.length (Term.static "PegField" "TAKEN_AS" "[I")) (.int 5)) (by decide +kernel))) (fun j hj => by
    rcases (show j = 0 ∨ j = 1 ∨ j = 2 ∨ j = 3 ∨ j = 4 by omega) with rfl | rfl | rfl | rfl | rfl
    · exact va_eqt (z := 31) (hs (.eq (.elem (Term.static "PegField" "TAKEN_AS" "[I") (.int 0)) (.int (31 : Int32))) (by decide +kernel))
    · exact va_eqt (z := 18) (hs (.eq (.elem (Term.static "PegField" "TAKEN_AS" "[I") (.int 1)) (.int (18 : Int32))) (by decide +kernel))
    · exact va_eqt (z := 4) (hs (.eq (.elem (Term.static "PegField" "TAKEN_AS" "[I") (.int 2)) (.int (4 : Int32))) (by decide +kernel))
    · exact va_eqt (z := 8) (hs (.eq (.elem (Term.static "PegField" "TAKEN_AS" "[I") (.int 3)) (.int (8 : Int32))) (by decide +kernel))
    · exact va_eqt (z := 16) (hs (.eq (.elem (Term.static "PegField" "TAKEN_AS" "[I") (.int 4)) (.int (16 : Int32))) (by decide +kernel))) hA
  exact ⟨t, va_Zof (hts (.laysStatic "PegField" "TAKEN_AS" "[I") (zm_2 (List.mem_of_getElem? (i := 112) (by decide +kernel)))) (hts (.initialized "PegField") (zm_1 (List.mem_of_getElem? (i := 1) (by decide +kernel)))) ht hA, hT⟩
set_option maxRecDepth 100000 in
set_option maxHeartbeats 4000000 in
theorem zE_zWC {s : State} {b : Nat} (hs : ∀ c ∈ flatC (Jvm.Cond.and given_1 narrow_1), c.before #[Value.ref b] s = true) (hts : ∀ w ∈ lw_tbl, w.before #[Value.ref b] s = true) : zTb "WHO_COULD" "[I" .int 4 zWC (fun q : Nat => s.heap.size ≤ q) s s.heap := by
  have hA : ∀ a : Nat, a < s.heap.size → ¬ (fun q : Nat => s.heap.size ≤ q) a := fun a h => Nat.not_le.mpr h
  obtain ⟨t, ht, hT⟩ := va_Tof (A := fun q : Nat => s.heap.size ≤ q) (tm := (Term.static "PegField" "WHO_COULD" "[I")) (ty := .int) (N := 4) (f := fun j => .int (zWC j)) (by decide) (hs (.arrayOf (Term.static "PegField" "WHO_COULD" "[I") .int) (by decide +kernel)) (va_eqt (hs (.eq (.length (Term.static "PegField" "WHO_COULD" "[I")) (.int 4)) (by decide +kernel))) (fun j hj => by
    rcases (show j = 0 ∨ j = 1 ∨ j = 2 ∨ j = 3 by omega) with rfl | rfl | rfl | rfl
    · exact va_eqt (z := 29) (hs (.eq (.elem (Term.static "PegField" "WHO_COULD" "[I") (.int 0)) (.int (29 : Int32))) (by decide +kernel))
    · exact va_eqt (z := 18) (hs (.eq (.elem (Term.static "PegField" "WHO_COULD" "[I") (.int 1)) (.int (18 : Int32))) (by decide +kernel))
    · exact va_eqt (z := 27) (hs (.eq (.elem (Term.static "PegField" "WHO_COULD" "[I") (.int 2)) (.int (27 : Int32))) (by decide +kernel))
    · exact va_eqt (z := 23) (hs (.eq (.elem (Term.static "PegField" "WHO_COULD" "[I") (.int 3)) (.int (23 : Int32))) (by decide +kernel))) hA
  exact ⟨t, va_Zof (hts (.laysStatic "PegField" "WHO_COULD" "[I") (zm_2 (List.mem_of_getElem? (i := 85) (by decide +kernel)))) (hts (.initialized "PegField") (zm_1 (List.mem_of_getElem? (i := 1) (by decide +kernel)))) ht hA, hT⟩
set_option maxRecDepth 100000 in
set_option maxHeartbeats 4000000 in
theorem zE_zRS {s : State} {b : Nat} (hs : ∀ c ∈ flatC (Jvm.Cond.and given_1 narrow_1), c.before #[Value.ref b] s = true) (hts : ∀ w ∈ lw_tbl, w.before #[Value.ref b] s = true) : zTb "ROW_STEPS" "[I" .int 8 zRS (fun q : Nat => s.heap.size ≤ q) s s.heap := by
  have hA : ∀ a : Nat, a < s.heap.size → ¬ (fun q : Nat => s.heap.size ≤ q) a := fun a h => Nat.not_le.mpr h
  obtain ⟨t, ht, hT⟩ := va_Tof (A := fun q : Nat => s.heap.size ≤ q) (tm := (Term.static "PegField" "ROW_STEPS" "[I")) (ty := .int) (N := 8) (f := fun j => .int (zRS j)) (by decide) (hs (.arrayOf (Term.static "PegField" "ROW_STEPS" "[I") .int) (by decide +kernel)) (va_eqt (hs (.eq (.length (Term.static "PegField" "ROW_STEPS" "[I")) (.int 8)) (by decide +kernel))) (fun j hj => by
    rcases (show j = 0 ∨ j = 1 ∨ j = 2 ∨ j = 3 ∨ j = 4 ∨ j = 5 ∨ j = 6 ∨ j = 7 by omega) with rfl | rfl | rfl | rfl | rfl | rfl | rfl | rfl
    · exact va_eqt (z := -1) (hs (.eq (.elem (Term.static "PegField" "ROW_STEPS" "[I") (.int 0)) (.int (-1 : Int32))) (by decide +kernel))
    · exact va_eqt (z := -1) (hs (.eq (.elem (Term.static "PegField" "ROW_STEPS" "[I") (.int 1)) (.int (-1 : Int32))) (by decide +kernel))
    · exact va_eqt (z := -1) (hs (.eq (.elem (Term.static "PegField" "ROW_STEPS" "[I") (.int 2)) (.int (-1 : Int32))) (by decide +kernel))
    · exact va_eqt (z := 0) (hs (.eq (.elem (Term.static "PegField" "ROW_STEPS" "[I") (.int 3)) (.int (0 : Int32))) (by decide +kernel))
    · exact va_eqt (z := 0) (hs (.eq (.elem (Term.static "PegField" "ROW_STEPS" "[I") (.int 4)) (.int (0 : Int32))) (by decide +kernel))
    · exact va_eqt (z := 1) (hs (.eq (.elem (Term.static "PegField" "ROW_STEPS" "[I") (.int 5)) (.int (1 : Int32))) (by decide +kernel))
    · exact va_eqt (z := 1) (hs (.eq (.elem (Term.static "PegField" "ROW_STEPS" "[I") (.int 6)) (.int (1 : Int32))) (by decide +kernel))
    · exact va_eqt (z := 1) (hs (.eq (.elem (Term.static "PegField" "ROW_STEPS" "[I") (.int 7)) (.int (1 : Int32))) (by decide +kernel))) hA
  exact ⟨t, va_Zof (hts (.laysStatic "PegField" "ROW_STEPS" "[I") (zm_2 (List.mem_of_getElem? (i := 12) (by decide +kernel)))) (hts (.initialized "PegField") (zm_1 (List.mem_of_getElem? (i := 1) (by decide +kernel)))) ht hA, hT⟩
set_option maxRecDepth 100000 in
set_option maxHeartbeats 4000000 in
theorem zE_zCS {s : State} {b : Nat} (hs : ∀ c ∈ flatC (Jvm.Cond.and given_1 narrow_1), c.before #[Value.ref b] s = true) (hts : ∀ w ∈ lw_tbl, w.before #[Value.ref b] s = true) : zTb "COLUMN_STEPS" "[I" .int 8 zCS (fun q : Nat => s.heap.size ≤ q) s s.heap := by
  have hA : ∀ a : Nat, a < s.heap.size → ¬ (fun q : Nat => s.heap.size ≤ q) a := fun a h => Nat.not_le.mpr h
  obtain ⟨t, ht, hT⟩ := va_Tof (A := fun q : Nat => s.heap.size ≤ q) (tm := (Term.static "PegField" "COLUMN_STEPS" "[I")) (ty := .int) (N := 8) (f := fun j => .int (zCS j)) (by decide) (hs (.arrayOf (Term.static "PegField" "COLUMN_STEPS" "[I") .int) (by decide +kernel)) (va_eqt (hs (.eq (.length (Term.static "PegField" "COLUMN_STEPS" "[I")) (.int 8)) (by decide +kernel))) (fun j hj => by
    rcases (show j = 0 ∨ j = 1 ∨ j = 2 ∨ j = 3 ∨ j = 4 ∨ j = 5 ∨ j = 6 ∨ j = 7 by omega) with rfl | rfl | rfl | rfl | rfl | rfl | rfl | rfl
    · exact va_eqt (z := -1) (hs (.eq (.elem (Term.static "PegField" "COLUMN_STEPS" "[I") (.int 0)) (.int (-1 : Int32))) (by decide +kernel))
    · exact va_eqt (z := 0) (hs (.eq (.elem (Term.static "PegField" "COLUMN_STEPS" "[I") (.int 1)) (.int (0 : Int32))) (by decide +kernel))
    · exact va_eqt (z := 1) (hs (.eq (.elem (Term.static "PegField" "COLUMN_STEPS" "[I") (.int 2)) (.int (1 : Int32))) (by decide +kernel))
    · exact va_eqt (z := -1) (hs (.eq (.elem (Term.static "PegField" "COLUMN_STEPS" "[I") (.int 3)) (.int (-1 : Int32))) (by decide +kernel))
    · exact va_eqt (z := 1) (hs (.eq (.elem (Term.static "PegField" "COLUMN_STEPS" "[I") (.int 4)) (.int (1 : Int32))) (by decide +kernel))
    · exact va_eqt (z := -1) (hs (.eq (.elem (Term.static "PegField" "COLUMN_STEPS" "[I") (.int 5)) (.int (-1 : Int32))) (by decide +kernel))
    · exact va_eqt (z := 0) (hs (.eq (.elem (Term.static "PegField" "COLUMN_STEPS" "[I") (.int 6)) (.int (0 : Int32))) (by decide +kernel))
    · exact va_eqt (z := 1) (hs (.eq (.elem (Term.static "PegField" "COLUMN_STEPS" "[I") (.int 7)) (.int (1 : Int32))) (by decide +kernel))) hA
  exact ⟨t, va_Zof (hts (.laysStatic "PegField" "COLUMN_STEPS" "[I") (zm_2 (List.mem_of_getElem? (i := 14) (by decide +kernel)))) (hts (.initialized "PegField") (zm_1 (List.mem_of_getElem? (i := 1) (by decide +kernel)))) ht hA, hT⟩
set_option maxRecDepth 100000 in
set_option maxHeartbeats 4000000 in
theorem zE_zWG {s : State} {b : Nat} (hs : ∀ c ∈ flatC (Jvm.Cond.and given_1 narrow_1), c.before #[Value.ref b] s = true) (hts : ∀ w ∈ lw_tbl, w.before #[Value.ref b] s = true) : zTb "WHO_GOES" "[I" .int 8 zWG (fun q : Nat => s.heap.size ≤ q) s s.heap := by
  have hA : ∀ a : Nat, a < s.heap.size → ¬ (fun q : Nat => s.heap.size ≤ q) a := fun a h => Nat.not_le.mpr h
  obtain ⟨t, ht, hT⟩ := va_Tof (A := fun q : Nat => s.heap.size ≤ q) (tm := (Term.static "PegField" "WHO_GOES" "[I")) (ty := .int) (N := 8) (f := fun j => .int (zWG j)) (by decide) (hs (.arrayOf (Term.static "PegField" "WHO_GOES" "[I") .int) (by decide +kernel)) (va_eqt (hs (.eq (.length (Term.static "PegField" "WHO_GOES" "[I")) (.int 8)) (by decide +kernel))) (fun j hj => by
    rcases (show j = 0 ∨ j = 1 ∨ j = 2 ∨ j = 3 ∨ j = 4 ∨ j = 5 ∨ j = 6 ∨ j = 7 by omega) with rfl | rfl | rfl | rfl | rfl | rfl | rfl | rfl
    · exact va_eqt (z := 18) (hs (.eq (.elem (Term.static "PegField" "WHO_GOES" "[I") (.int 0)) (.int (18 : Int32))) (by decide +kernel))
    · exact va_eqt (z := 29) (hs (.eq (.elem (Term.static "PegField" "WHO_GOES" "[I") (.int 1)) (.int (29 : Int32))) (by decide +kernel))
    · exact va_eqt (z := 18) (hs (.eq (.elem (Term.static "PegField" "WHO_GOES" "[I") (.int 2)) (.int (18 : Int32))) (by decide +kernel))
    · exact va_eqt (z := 29) (hs (.eq (.elem (Term.static "PegField" "WHO_GOES" "[I") (.int 3)) (.int (29 : Int32))) (by decide +kernel))
    · exact va_eqt (z := 29) (hs (.eq (.elem (Term.static "PegField" "WHO_GOES" "[I") (.int 4)) (.int (29 : Int32))) (by decide +kernel))
    · exact va_eqt (z := 18) (hs (.eq (.elem (Term.static "PegField" "WHO_GOES" "[I") (.int 5)) (.int (18 : Int32))) (by decide +kernel))
    · exact va_eqt (z := 29) (hs (.eq (.elem (Term.static "PegField" "WHO_GOES" "[I") (.int 6)) (.int (29 : Int32))) (by decide +kernel))
    · exact va_eqt (z := 18) (hs (.eq (.elem (Term.static "PegField" "WHO_GOES" "[I") (.int 7)) (.int (18 : Int32))) (by decide +kernel))) hA
  exact ⟨t, va_Zof (hts (.laysStatic "PegField" "WHO_GOES" "[I") (zm_2 (List.mem_of_getElem? (i := 77) (by decide +kernel)))) (hts (.initialized "PegField") (zm_1 (List.mem_of_getElem? (i := 1) (by decide +kernel)))) ht hA, hT⟩
theorem z_env {s : State} {b : Nat} (hgv : (Jvm.Cond.and given_1 narrow_1).before #[Value.ref b] s = true) (hts : ∀ w ∈ lw_tbl, w.before #[Value.ref b] s = true) : zEnv (fun q : Nat => s.heap.size ≤ q) s s.heap := by
  have hs := flat_of_before _ hgv
  exact ⟨⟨zE_zKL hs hts, zE_zTA hs hts, zE_zWC hs hts, zE_zRS hs hts, zE_zCS hs hts, zE_zWG hs hts⟩, fun w hw => va_Nw.of (zNW_tab w hw) (hts w (zNW_in w hw)), va_AO.of (hts (.arrayOver (.object RX1)) (zm_1 (List.mem_of_getElem? (i := 150) (by decide +kernel))))⟩
set_option maxRecDepth 100000 in
theorem z_known {s : State} {b : Nat} (hts : ∀ w ∈ lw_tbl, w.before #[Value.ref b] s = true) : ∃ (D : va_G) (cI cB cO : ClassId), va_K D vwCl (zTY cI cB cO) s := by
  obtain ⟨c0, iS0, hKn0⟩ := u_known (C := RX0) (T := TX0) (N := 4) (n := 4) hts inX0 (hts (.instantiable RX0 4) (zm_1 (List.mem_of_getElem? (i := 34) (by decide +kernel))))
  obtain ⟨c1, iS1, hKn1⟩ := u_known (C := RX1) (T := TX1) (N := 9) (n := 9) hts inX1 (hts (.instantiable RX1 9) (zm_1 (List.mem_of_getElem? (i := 109) (by decide +kernel))))
  obtain ⟨c2, iS2, hKn2⟩ := u_known (C := RX2) (T := TX2) (N := 2) (n := 2) hts inX2 (hts (.instantiable RX2 2) (zm_1 (List.mem_of_getElem? (i := 19) (by decide +kernel))))
  obtain ⟨c3, iS3, hKn3⟩ := u_known (C := RX3) (T := TX3) (N := 3) (n := 3) hts inX3 (hts (.instantiable RX3 3) (zm_1 (List.mem_of_getElem? (i := 92) (by decide +kernel))))
  obtain ⟨c4, iS4, hKn4⟩ := u_known (C := RX4) (T := TX4) (N := 8) (n := 8) hts inX4 (hts (.instantiable RX4 8) (zm_1 (List.mem_of_getElem? (i := 57) (by decide +kernel))))
  obtain ⟨c5, iS5, hKn5⟩ := u_known (C := RX5) (T := TX5) (N := 13) (n := 13) hts inX5 (hts (.instantiable RX5 13) (zm_1 (List.mem_of_getElem? (i := 11) (by decide +kernel))))
  obtain ⟨c6, iS6, hKn6⟩ := u_known (C := RX6) (T := TX6) (N := 40) (n := 40) hts inX6 (hts (.instantiable RX6 40) (zm_3 (List.mem_of_getElem? (i := 47) (by decide +kernel))))
  obtain ⟨cI, kI, coI, hI1, hI2, hI3⟩ := Cond.arrayClass_spec (hts (.arrayClass .int) (zm_1 (List.mem_of_getElem? (i := 32) (by decide +kernel))))
  obtain ⟨cB, kB, coB, hB1, hB2, hB3⟩ := Cond.arrayClass_spec (hts (.arrayClass .byte) (zm_3 (List.mem_of_getElem? (i := 173) (by decide +kernel))))
  obtain ⟨coO, cO, kO, hO1, hO2, hO3, hO4, hO5⟩ := Cond.arrayOver_spec (hts (.arrayOver (.object RX1)) (zm_1 (List.mem_of_getElem? (i := 150) (by decide +kernel))))
  refine ⟨(fun k => match k with | 0 => c0 | 1 => c1 | 2 => c2 | 3 => c3 | 4 => c4 | 5 => c5 | _ => c6, fun k => match k with | 0 => iS0 | 1 => iS1 | 2 => iS2 | 3 => iS3 | 4 => iS4 | 5 => iS5 | _ => iS6), cI, cB, cO, fun k q hq => ?_, fun k q hq => ?_⟩
  · match k, hq with
    | 0, hq => cases hq; exact hKn0
    | 1, hq => cases hq; exact hKn1
    | 2, hq => cases hq; exact hKn2
    | 3, hq => cases hq; exact hKn3
    | 4, hq => cases hq; exact hKn4
    | 5, hq => cases hq; exact hKn5
    | 6, hq => cases hq; exact hKn6
    | k + 7, hq => cases hq
  · match k, hq with
    | 0, hq => cases hq; exact ⟨fun n z => ⟨(fun k h => (by cases h)), kI, hI2, coI, hI3⟩, hI1⟩
    | 1, hq => cases hq; exact ⟨fun n z => ⟨(fun k h => (by cases h)), kB, hB2, coB, hB3⟩, hB1⟩
    | 2, hq => cases hq; exact ⟨fun n z => ⟨(fun k h => (by cases h)), kO, hO3, coO, hO4⟩, kO, coO, hO3, hO4, hO1, hO5⟩
    | k + 3, hq => cases hq
theorem yIV_0 : yIV 0 0 0 0 (fun _ => 0) (fun _ => 0) (fun _ _ => 0) (fun _ => 0) (fun _ _ => 0) (fun _ => 0) (fun _ _ => 0) (fun _ => 0) (fun _ _ => 0) (fun _ => 0) (fun _ _ => 0) (fun _ => 0) (fun _ _ => 0) (fun _ _ => 0) (fun _ => 0) (fun _ _ => 0) := by
  have v : ∀ {Q : Nat → Prop}, ∀ p, p < 0 → Q p := fun p hp => absurd hp (Nat.not_lt_zero p)
  refine ⟨Or.inl ⟨rfl, rfl, rfl, rfl⟩, ⟨rfl, rfl, rfl, fun q d hq => absurd hq (Nat.not_lt_zero q)⟩, ⟨rfl, rfl, rfl, rfl, rfl⟩, ⟨⟨rfl, Nat.zero_le 8, v, ⟨v, fun p p' hp => absurd hp (Nat.not_lt_zero p)⟩, fun q hq => absurd hq (Nat.not_lt_zero q), rfl⟩, ⟨0, by decide, rfl⟩, ⟨0, by decide, rfl⟩, rfl, rfl, v, v⟩, ⟨0, by decide, rfl, rfl⟩, ⟨0, by decide, rfl, rfl, v⟩, ⟨0, by decide, rfl, rfl, v⟩, Or.inl ⟨rfl, Or.inl rfl⟩, Or.inl rfl⟩
