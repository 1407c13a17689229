/-! constructors -/
theorem kS_X0_init : yX0_init.cls ≠ "java/lang/invoke/MethodHandle" ∧ yX0_init.cls ≠ "java/lang/invoke/VarHandle" ∧ (parseMethodDescriptor yX0_init.desc).map (fun d => d.parameters.length) = some 0 := by decide +kernel
set_option maxHeartbeats 8000000 in
set_option maxRecDepth 100000 in
theorem k_X0_init (l : Launch) (D : va_G) (cI cB cO : ClassId) (o : Nat) (sz : Nat) : Met l yX0_init wsX0_init ({ frames := 1, cells := 1, slots := 96, locals := 12 } : Room) (va_Pc [.ref o] (zPre D (zTY cI cB cO) [(o, .inr (0, [.int 0, .int 0, .int 0, .null]))] sz)) (va_Qv (fun (_ : Nat → Nat) => True) (fun u => zPost D (zTY cI cB cO) (zwG cI o u (fun _ => 0) (fun _ _ => 0)) (va_A [(o, .inr (0, [.int 0, .int 0, .int 0, .null]))] sz)) (va_A [(o, .inr (0, [.int 0, .int 0, .int 0, .null]))] sz)) 1 96 (va_A [(o, .inr (0, [.int 0, .int 0, .int 0, .null]))] sz) := by
  refine zmet_c (cc := cX0_init) (maxL := 1) (mc := 1) (ms := 96) (w1 := fun (u : Nat → Nat) => zwG cI o u (fun _ => 0) (fun _ _ => 0)) (by decide) rfl (Nat.le_of_ble_eq_true rfl) rfl rfl ?_
  intro p e s m args below meth c R Q A ls hx hb hts hown hml hin hK hP hD hE hA hS hRf hRl hRc hRs hl hq
  have hown : s.vm.findClass RX0 = some m.cls := hown
  have hl : lv_has ls 1 [(0, .ref o)] := hl
  refine lv_aload_n hx hb dX0_init_0 rfl (lv_at hl 0 rfl) ?_
  refine W.objInit hx hb hown (hts (.methodLink RX0 3 objectInit) (by decide +kernel)) (hts (.instanceMethod objectInit) (by decide +kernel)) (hts _ (List.mem_of_getElem? (i := 3) rfl)) rfl (by rw [hml]; exact hl.1) rfl dX0_init_1 (Nat.le_trans (Nat.le_of_ble_eq_true rfl) hRf) (Nat.le_trans (Nat.le_of_ble_eq_true rfl) hRl) ?_
  refine W.eq (g2 := F0 m 4 ls []) rfl ?_
  refine lv_aload_n hx hb dX0_init_4 rfl (lv_at hl 0 rfl) ?_
  refine lv_bipush (v := (96 : Int32)) hx hb dX0_init_5 (by decide) ?_
  refine va_newa (atype := .int) (ty := .int) (a0 := (96, .inl (fun _ => 0))) (N' := 96) hx hb (hts (.arrayClass .int) (by decide +kernel)) rfl hK hP hD hS hA (fun _ => rfl) (by decide) (by decide) (by decide) (Nat.le_trans (Nat.le_of_ble_eq_true rfl) hRc) (Nat.le_trans (Nat.le_of_ble_eq_true rfl) hRs) dX0_init_7 (fun q1 cA9 H hK9 hP hD hS => ?_)
  have e9 := zsameI hK9
  subst e9
  have hP : va_P D vwCl ([(o, .inr (0, [.int 0, .int 0, .int 0, .null])), (q1, .inl (cI, 96, .inl (fun _ => 0)))] : va_W) H := hP
  have hD : va_D A ([(o, .inr (0, [.int 0, .int 0, .int 0, .null])), (q1, .inl (cI, 96, .inl (fun _ => 0)))] : va_W) := hD
  clear hK9
  refine W.widen (k := 1) (n := 96) (Nat.le_of_ble_eq_true rfl) (Nat.le_of_ble_eq_true rfl) ?_
  refine va_putF (D := D) (ci := 0) (v := .ref q1) (ty := .array .int) (C := RX0) (T := TX0) (N := 4) hx hb hts (by decide +kernel) tyX0 tyX0_ok nmX0 hown hK hP hD hS 0 rfl rfl 3 (by decide) (hts (.fieldLink RX0 9 "PegField$Grid" "beside" "[I") (by decide +kernel)) (fun _ h9 => h9) rfl hin rfl (by decide +kernel) rfl rfl (Nat.le_of_ble_eq_true rfl) dX0_init_9 (fun H locs hP hD hS => ?_)
  have hP : va_P D vwCl ([(o, .inr (0, [.int 0, .int 0, .int 0, .ref q1])), (q1, .inl (cI, 96, .inl (fun _ => 0)))] : va_W) H := hP
  have hD : va_D A ([(o, .inr (0, [.int 0, .int 0, .int 0, .ref q1])), (q1, .inl (cI, 96, .inl (fun _ => 0)))] : va_W) := hD
  exact hq (fun k => if k = 3 then q1 else 0) (hP.sub [0, 1] rfl) (hD.sub [0, 1] rfl rfl) hS dX0_init_12
theorem kS_X1_init : yX1_init.cls ≠ "java/lang/invoke/MethodHandle" ∧ yX1_init.cls ≠ "java/lang/invoke/VarHandle" ∧ (parseMethodDescriptor yX1_init.desc).map (fun d => d.parameters.length) = some 0 := by decide +kernel
set_option maxHeartbeats 8000000 in
set_option maxRecDepth 100000 in
theorem k_X1_init (l : Launch) (D : va_G) (cI cB cO : ClassId) (o : Nat) (sz : Nat) : Met l yX1_init wsX1_init ({ frames := 1, cells := 0, slots := 0, locals := 12 } : Room) (va_Pc [.ref o] (zPre D (zTY cI cB cO) [(o, .inr (1, [.int 0, .int 0, .int 0, .int 0, .int 0, .int 0, .int 0, .int 0, .int 0]))] sz)) (va_Qv (fun (_ : Nat → Nat) => True) (fun u => zPost D (zTY cI cB cO) (zwO o (fun _ => 0)) (va_A [(o, .inr (1, [.int 0, .int 0, .int 0, .int 0, .int 0, .int 0, .int 0, .int 0, .int 0]))] sz)) (va_A [(o, .inr (1, [.int 0, .int 0, .int 0, .int 0, .int 0, .int 0, .int 0, .int 0, .int 0]))] sz)) 0 0 (va_A [(o, .inr (1, [.int 0, .int 0, .int 0, .int 0, .int 0, .int 0, .int 0, .int 0, .int 0]))] sz) := by
  refine zmet_c (cc := cX1_init) (maxL := 1) (mc := 0) (ms := 0) (w1 := fun (u : Nat → Nat) => zwO o (fun _ => 0)) (by decide) rfl (Nat.le_of_ble_eq_true rfl) rfl rfl ?_
  intro p e s m args below meth c R Q A ls hx hb hts hown hml hin hK hP hD hE hA hS hRf hRl hRc hRs hl hq
  have hown : s.vm.findClass RX1 = some m.cls := hown
  have hl : lv_has ls 1 [(0, .ref o)] := hl
  refine lv_aload_n hx hb dX1_init_0 rfl (lv_at hl 0 rfl) ?_
  refine W.objInit hx hb hown (hts (.methodLink RX1 3 objectInit) (by decide +kernel)) (hts (.instanceMethod objectInit) (by decide +kernel)) (hts _ (List.mem_of_getElem? (i := 3) rfl)) rfl (by rw [hml]; exact hl.1) rfl dX1_init_1 (Nat.le_trans (Nat.le_of_ble_eq_true rfl) hRf) (Nat.le_trans (Nat.le_of_ble_eq_true rfl) hRl) ?_
  refine W.eq (g2 := F0 m 4 ls []) rfl ?_
  exact hq (fun k => 0) (hP.sub [0] rfl) (hD.sub [0] rfl rfl) hS dX1_init_4
theorem kS_X2_init : yX2_init.cls ≠ "java/lang/invoke/MethodHandle" ∧ yX2_init.cls ≠ "java/lang/invoke/VarHandle" ∧ (parseMethodDescriptor yX2_init.desc).map (fun d => d.parameters.length) = some 0 := by decide +kernel
set_option maxHeartbeats 8000000 in
set_option maxRecDepth 100000 in
theorem k_X2_init (l : Launch) (D : va_G) (cI cB cO : ClassId) (o : Nat) (sz : Nat) : Met l yX2_init wsX2_init ({ frames := 1, cells := 1, slots := 18, locals := 12 } : Room) (va_Pc [.ref o] (zPre D (zTY cI cB cO) [(o, .inr (2, [.null, .int 0]))] sz)) (va_Qv (fun (_ : Nat → Nat) => True) (fun u => zPost D (zTY cI cB cO) (zwP cI o u (fun _ => 0) (fun _ _ => 0)) (va_A [(o, .inr (2, [.null, .int 0]))] sz)) (va_A [(o, .inr (2, [.null, .int 0]))] sz)) 1 18 (va_A [(o, .inr (2, [.null, .int 0]))] sz) := by
  refine zmet_c (cc := cX2_init) (maxL := 1) (mc := 1) (ms := 18) (w1 := fun (u : Nat → Nat) => zwP cI o u (fun _ => 0) (fun _ _ => 0)) (by decide) rfl (Nat.le_of_ble_eq_true rfl) rfl rfl ?_
  intro p e s m args below meth c R Q A ls hx hb hts hown hml hin hK hP hD hE hA hS hRf hRl hRc hRs hl hq
  have hown : s.vm.findClass RX2 = some m.cls := hown
  have hl : lv_has ls 1 [(0, .ref o)] := hl
  refine lv_aload_n hx hb dX2_init_0 rfl (lv_at hl 0 rfl) ?_
  refine W.objInit hx hb hown (hts (.methodLink RX2 3 objectInit) (by decide +kernel)) (hts (.instanceMethod objectInit) (by decide +kernel)) (hts _ (List.mem_of_getElem? (i := 3) rfl)) rfl (by rw [hml]; exact hl.1) rfl dX2_init_1 (Nat.le_trans (Nat.le_of_ble_eq_true rfl) hRf) (Nat.le_trans (Nat.le_of_ble_eq_true rfl) hRl) ?_
  refine W.eq (g2 := F0 m 4 ls []) rfl ?_
  refine lv_aload_n hx hb dX2_init_4 rfl (lv_at hl 0 rfl) ?_
  refine lv_bipush (v := (18 : Int32)) hx hb dX2_init_5 (by decide) ?_
  refine va_newa (atype := .int) (ty := .int) (a0 := (18, .inl (fun _ => 0))) (N' := 18) hx hb (hts (.arrayClass .int) (by decide +kernel)) rfl hK hP hD hS hA (fun _ => rfl) (by decide) (by decide) (by decide) (Nat.le_trans (Nat.le_of_ble_eq_true rfl) hRc) (Nat.le_trans (Nat.le_of_ble_eq_true rfl) hRs) dX2_init_7 (fun q1 cA9 H hK9 hP hD hS => ?_)
  have e9 := zsameI hK9
  subst e9
  have hP : va_P D vwCl ([(o, .inr (2, [.null, .int 0])), (q1, .inl (cI, 18, .inl (fun _ => 0)))] : va_W) H := hP
  have hD : va_D A ([(o, .inr (2, [.null, .int 0])), (q1, .inl (cI, 18, .inl (fun _ => 0)))] : va_W) := hD
  clear hK9
  refine W.widen (k := 1) (n := 18) (Nat.le_of_ble_eq_true rfl) (Nat.le_of_ble_eq_true rfl) ?_
  refine va_putF (D := D) (ci := 2) (v := .ref q1) (ty := .array .int) (C := RX2) (T := TX2) (N := 2) hx hb hts (by decide +kernel) tyX2 tyX2_ok nmX2 hown hK hP hD hS 0 rfl rfl 0 (by decide) (hts (.fieldLink RX2 9 "PegField$Page" "codes" "[I") (by decide +kernel)) (fun _ h9 => h9) rfl hin rfl (by decide +kernel) rfl rfl (Nat.le_of_ble_eq_true rfl) dX2_init_9 (fun H locs hP hD hS => ?_)
  have hP : va_P D vwCl ([(o, .inr (2, [.ref q1, .int 0])), (q1, .inl (cI, 18, .inl (fun _ => 0)))] : va_W) H := hP
  have hD : va_D A ([(o, .inr (2, [.ref q1, .int 0])), (q1, .inl (cI, 18, .inl (fun _ => 0)))] : va_W) := hD
  exact hq (fun k => if k = 0 then q1 else 0) (hP.sub [0, 1] rfl) (hD.sub [0, 1] rfl rfl) hS dX2_init_12
theorem kS_X3_init : yX3_init.cls ≠ "java/lang/invoke/MethodHandle" ∧ yX3_init.cls ≠ "java/lang/invoke/VarHandle" ∧ (parseMethodDescriptor yX3_init.desc).map (fun d => d.parameters.length) = some 0 := by decide +kernel
set_option maxHeartbeats 8000000 in
set_option maxRecDepth 100000 in
theorem k_X3_init (l : Launch) (D : va_G) (cI cB cO : ClassId) (o : Nat) (sz : Nat) : Met l yX3_init wsX3_init ({ frames := 1, cells := 2, slots := 12, locals := 12 } : Room) (va_Pc [.ref o] (zPre D (zTY cI cB cO) [(o, .inr (3, [.null, .null, .int 0]))] sz)) (va_Qv (fun (_ : Nat → Nat) => True) (fun u => zPost D (zTY cI cB cO) (zwQ cI o u (fun _ => 0) (fun _ _ => 0)) (va_A [(o, .inr (3, [.null, .null, .int 0]))] sz)) (va_A [(o, .inr (3, [.null, .null, .int 0]))] sz)) 2 12 (va_A [(o, .inr (3, [.null, .null, .int 0]))] sz) := by
  refine zmet_c (cc := cX3_init) (maxL := 1) (mc := 2) (ms := 12) (w1 := fun (u : Nat → Nat) => zwQ cI o u (fun _ => 0) (fun _ _ => 0)) (by decide) rfl (Nat.le_of_ble_eq_true rfl) rfl rfl ?_
  intro p e s m args below meth c R Q A ls hx hb hts hown hml hin hK hP hD hE hA hS hRf hRl hRc hRs hl hq
  have hown : s.vm.findClass RX3 = some m.cls := hown
  have hl : lv_has ls 1 [(0, .ref o)] := hl
  refine lv_aload_n hx hb dX3_init_0 rfl (lv_at hl 0 rfl) ?_
  refine W.objInit hx hb hown (hts (.methodLink RX3 3 objectInit) (by decide +kernel)) (hts (.instanceMethod objectInit) (by decide +kernel)) (hts _ (List.mem_of_getElem? (i := 3) rfl)) rfl (by rw [hml]; exact hl.1) rfl dX3_init_1 (Nat.le_trans (Nat.le_of_ble_eq_true rfl) hRf) (Nat.le_trans (Nat.le_of_ble_eq_true rfl) hRl) ?_
  refine W.eq (g2 := F0 m 4 ls []) rfl ?_
  refine lv_aload_n hx hb dX3_init_4 rfl (lv_at hl 0 rfl) ?_
  refine lv_bipush (v := (6 : Int32)) hx hb dX3_init_5 (by decide) ?_
  refine va_newa (atype := .int) (ty := .int) (a0 := (6, .inl (fun _ => 0))) (N' := 6) hx hb (hts (.arrayClass .int) (by decide +kernel)) rfl hK hP hD hS hA (fun _ => rfl) (by decide) (by decide) (by decide) (Nat.le_trans (Nat.le_of_ble_eq_true rfl) hRc) (Nat.le_trans (Nat.le_of_ble_eq_true rfl) hRs) dX3_init_7 (fun q1 cA9 H hK9 hP hD hS => ?_)
  have e9 := zsameI hK9
  subst e9
  have hP : va_P D vwCl ([(o, .inr (3, [.null, .null, .int 0])), (q1, .inl (cI, 6, .inl (fun _ => 0)))] : va_W) H := hP
  have hD : va_D A ([(o, .inr (3, [.null, .null, .int 0])), (q1, .inl (cI, 6, .inl (fun _ => 0)))] : va_W) := hD
  clear hK9
  refine W.widen (k := 1) (n := 6) (Nat.le_of_ble_eq_true rfl) (Nat.le_of_ble_eq_true rfl) ?_
  refine va_putF (D := D) (ci := 3) (v := .ref q1) (ty := .array .int) (C := RX3) (T := TX3) (N := 3) hx hb hts (by decide +kernel) tyX3 tyX3_ok nmX3 hown hK hP hD hS 0 rfl rfl 0 (by decide) (hts (.fieldLink RX3 9 "PegField$Seen" "pegs" "[I") (by decide +kernel)) (fun _ h9 => h9) rfl hin rfl (by decide +kernel) rfl rfl (Nat.le_of_ble_eq_true rfl) dX3_init_9 (fun H locs hP hD hS => ?_)
  have hP : va_P D vwCl ([(o, .inr (3, [.ref q1, .null, .int 0])), (q1, .inl (cI, 6, .inl (fun _ => 0)))] : va_W) H := hP
  have hD : va_D A ([(o, .inr (3, [.ref q1, .null, .int 0])), (q1, .inl (cI, 6, .inl (fun _ => 0)))] : va_W) := hD
  refine lv_aload_n hx hb dX3_init_12 rfl (lv_at hl 0 rfl) ?_
  refine lv_bipush (v := (6 : Int32)) hx hb dX3_init_13 (by decide) ?_
  refine va_newa (atype := .int) (ty := .int) (a0 := (6, .inl (fun _ => 0))) (N' := 6) hx hb (hts (.arrayClass .int) (by decide +kernel)) rfl hK hP hD hS hA (fun _ => rfl) (by decide) (by decide) (by decide) (Nat.le_trans (Nat.le_of_ble_eq_true rfl) hRc) (Nat.le_trans (Nat.le_of_ble_eq_true rfl) hRs) dX3_init_15 (fun q2 cA9 H hK9 hP hD hS => ?_)
  have e9 := zsameI hK9
  subst e9
  have hP : va_P D vwCl ([(o, .inr (3, [.ref q1, .null, .int 0])), (q1, .inl (cI, 6, .inl (fun _ => 0))), (q2, .inl (cI, 6, .inl (fun _ => 0)))] : va_W) H := hP
  have hD : va_D A ([(o, .inr (3, [.ref q1, .null, .int 0])), (q1, .inl (cI, 6, .inl (fun _ => 0))), (q2, .inl (cI, 6, .inl (fun _ => 0)))] : va_W) := hD
  clear hK9
  refine W.widen (k := 2) (n := 12) (Nat.le_of_ble_eq_true rfl) (Nat.le_of_ble_eq_true rfl) ?_
  refine va_putF (D := D) (ci := 3) (v := .ref q2) (ty := .array .int) (C := RX3) (T := TX3) (N := 3) hx hb hts (by decide +kernel) tyX3 tyX3_ok nmX3 hown hK hP hD hS 0 rfl rfl 1 (by decide) (hts (.fieldLink RX3 15 "PegField$Seen" "sorts" "[I") (by decide +kernel)) (fun _ h9 => h9) rfl hin rfl (by decide +kernel) rfl rfl (Nat.le_of_ble_eq_true rfl) dX3_init_17 (fun H locs hP hD hS => ?_)
  have hP : va_P D vwCl ([(o, .inr (3, [.ref q1, .ref q2, .int 0])), (q1, .inl (cI, 6, .inl (fun _ => 0))), (q2, .inl (cI, 6, .inl (fun _ => 0)))] : va_W) H := hP
  have hD : va_D A ([(o, .inr (3, [.ref q1, .ref q2, .int 0])), (q1, .inl (cI, 6, .inl (fun _ => 0))), (q2, .inl (cI, 6, .inl (fun _ => 0)))] : va_W) := hD
  exact hq (fun k => if k = 0 then q1 else if k = 1 then q2 else 0) (hP.sub [0, 1, 2] rfl) (hD.sub [0, 1, 2] rfl rfl) hS dX3_init_20
theorem kS_X4_init : yX4_init.cls ≠ "java/lang/invoke/MethodHandle" ∧ yX4_init.cls ≠ "java/lang/invoke/VarHandle" ∧ (parseMethodDescriptor yX4_init.desc).map (fun d => d.parameters.length) = some 1 := by decide +kernel
set_option maxHeartbeats 8000000 in
set_option maxRecDepth 100000 in
theorem k_X4_init (l : Launch) (D : va_G) (cI cB cO : ClassId) (o : Nat) (g : Nat) (sz : Nat) : Met l yX4_init wsX4_init ({ frames := 1, cells := 3, slots := 28, locals := 12 } : Room) (va_Pc [.ref o, .ref g] (zPre D (zTY cI cB cO) [(o, .inr (4, [.null, .int 0, .int 0, .int 0, .int 0, .null, .null, .null]))] sz)) (va_Qv (fun (_ : Nat → Nat) => True) (fun u => zPost D (zTY cI cB cO) (zwS cI o u g (fun _ => 0) (fun _ _ => 0)) (va_A [(o, .inr (4, [.null, .int 0, .int 0, .int 0, .int 0, .null, .null, .null]))] sz)) (va_A [(o, .inr (4, [.null, .int 0, .int 0, .int 0, .int 0, .null, .null, .null]))] sz)) 3 28 (va_A [(o, .inr (4, [.null, .int 0, .int 0, .int 0, .int 0, .null, .null, .null]))] sz) := by
  refine zmet_c (cc := cX4_init) (maxL := 2) (mc := 3) (ms := 28) (w1 := fun (u : Nat → Nat) => zwS cI o u g (fun _ => 0) (fun _ _ => 0)) (by decide) rfl (Nat.le_of_ble_eq_true rfl) rfl rfl ?_
  intro p e s m args below meth c R Q A ls hx hb hts hown hml hin hK hP hD hE hA hS hRf hRl hRc hRs hl hq
  have hown : s.vm.findClass RX4 = some m.cls := hown
  have hl : lv_has ls 2 [(0, .ref o), (1, .ref g)] := hl
  refine lv_aload_n hx hb dX4_init_0 rfl (lv_at hl 0 rfl) ?_
  refine W.objInit hx hb hown (hts (.methodLink RX4 3 objectInit) (by decide +kernel)) (hts (.instanceMethod objectInit) (by decide +kernel)) (hts _ (List.mem_of_getElem? (i := 3) rfl)) rfl (by rw [hml]; exact hl.1) rfl dX4_init_1 (Nat.le_trans (Nat.le_of_ble_eq_true rfl) hRf) (Nat.le_trans (Nat.le_of_ble_eq_true rfl) hRl) ?_
  refine W.eq (g2 := F0 m 4 ls []) rfl ?_
  refine lv_aload_n hx hb dX4_init_4 rfl (lv_at hl 0 rfl) ?_
  refine lv_bipush (v := (8 : Int32)) hx hb dX4_init_5 (by decide) ?_
  refine va_newa (atype := .int) (ty := .int) (a0 := (8, .inl (fun _ => 0))) (N' := 8) hx hb (hts (.arrayClass .int) (by decide +kernel)) rfl hK hP hD hS hA (fun _ => rfl) (by decide) (by decide) (by decide) (Nat.le_trans (Nat.le_of_ble_eq_true rfl) hRc) (Nat.le_trans (Nat.le_of_ble_eq_true rfl) hRs) dX4_init_7 (fun q1 cA9 H hK9 hP hD hS => ?_)
  have e9 := zsameI hK9
  subst e9
  have hP : va_P D vwCl ([(o, .inr (4, [.null, .int 0, .int 0, .int 0, .int 0, .null, .null, .null])), (q1, .inl (cI, 8, .inl (fun _ => 0)))] : va_W) H := hP
  have hD : va_D A ([(o, .inr (4, [.null, .int 0, .int 0, .int 0, .int 0, .null, .null, .null])), (q1, .inl (cI, 8, .inl (fun _ => 0)))] : va_W) := hD
  clear hK9
  refine W.widen (k := 1) (n := 8) (Nat.le_of_ble_eq_true rfl) (Nat.le_of_ble_eq_true rfl) ?_
  refine va_putF (D := D) (ci := 4) (v := .ref q1) (ty := .array .int) (C := RX4) (T := TX4) (N := 8) hx hb hts (by decide +kernel) tyX4 tyX4_ok nmX4 hown hK hP hD hS 0 rfl rfl 5 (by decide) (hts (.fieldLink RX4 9 "PegField$State" "kinds" "[I") (by decide +kernel)) (fun _ h9 => h9) rfl hin rfl (by decide +kernel) rfl rfl (Nat.le_of_ble_eq_true rfl) dX4_init_9 (fun H locs hP hD hS => ?_)
  have hP : va_P D vwCl ([(o, .inr (4, [.null, .int 0, .int 0, .int 0, .int 0, .ref q1, .null, .null])), (q1, .inl (cI, 8, .inl (fun _ => 0)))] : va_W) H := hP
  have hD : va_D A ([(o, .inr (4, [.null, .int 0, .int 0, .int 0, .int 0, .ref q1, .null, .null])), (q1, .inl (cI, 8, .inl (fun _ => 0)))] : va_W) := hD
  refine lv_aload_n hx hb dX4_init_12 rfl (lv_at hl 0 rfl) ?_
  refine lv_bipush (v := (8 : Int32)) hx hb dX4_init_13 (by decide) ?_
  refine va_newa (atype := .int) (ty := .int) (a0 := (8, .inl (fun _ => 0))) (N' := 8) hx hb (hts (.arrayClass .int) (by decide +kernel)) rfl hK hP hD hS hA (fun _ => rfl) (by decide) (by decide) (by decide) (Nat.le_trans (Nat.le_of_ble_eq_true rfl) hRc) (Nat.le_trans (Nat.le_of_ble_eq_true rfl) hRs) dX4_init_15 (fun q2 cA9 H hK9 hP hD hS => ?_)
  have e9 := zsameI hK9
  subst e9
  have hP : va_P D vwCl ([(o, .inr (4, [.null, .int 0, .int 0, .int 0, .int 0, .ref q1, .null, .null])), (q1, .inl (cI, 8, .inl (fun _ => 0))), (q2, .inl (cI, 8, .inl (fun _ => 0)))] : va_W) H := hP
  have hD : va_D A ([(o, .inr (4, [.null, .int 0, .int 0, .int 0, .int 0, .ref q1, .null, .null])), (q1, .inl (cI, 8, .inl (fun _ => 0))), (q2, .inl (cI, 8, .inl (fun _ => 0)))] : va_W) := hD
  clear hK9
  refine W.widen (k := 2) (n := 16) (Nat.le_of_ble_eq_true rfl) (Nat.le_of_ble_eq_true rfl) ?_
  refine va_putF (D := D) (ci := 4) (v := .ref q2) (ty := .array .int) (C := RX4) (T := TX4) (N := 8) hx hb hts (by decide +kernel) tyX4 tyX4_ok nmX4 hown hK hP hD hS 0 rfl rfl 6 (by decide) (hts (.fieldLink RX4 15 "PegField$State" "homes" "[I") (by decide +kernel)) (fun _ h9 => h9) rfl hin rfl (by decide +kernel) rfl rfl (Nat.le_of_ble_eq_true rfl) dX4_init_17 (fun H locs hP hD hS => ?_)
  have hP : va_P D vwCl ([(o, .inr (4, [.null, .int 0, .int 0, .int 0, .int 0, .ref q1, .ref q2, .null])), (q1, .inl (cI, 8, .inl (fun _ => 0))), (q2, .inl (cI, 8, .inl (fun _ => 0)))] : va_W) H := hP
  have hD : va_D A ([(o, .inr (4, [.null, .int 0, .int 0, .int 0, .int 0, .ref q1, .ref q2, .null])), (q1, .inl (cI, 8, .inl (fun _ => 0))), (q2, .inl (cI, 8, .inl (fun _ => 0)))] : va_W) := hD
  refine lv_aload_n hx hb dX4_init_20 rfl (lv_at hl 0 rfl) ?_
  refine lv_bipush (v := (12 : Int32)) hx hb dX4_init_21 (by decide) ?_
  refine va_newa (atype := .int) (ty := .int) (a0 := (12, .inl (fun _ => 0))) (N' := 12) hx hb (hts (.arrayClass .int) (by decide +kernel)) rfl hK hP hD hS hA (fun _ => rfl) (by decide) (by decide) (by decide) (Nat.le_trans (Nat.le_of_ble_eq_true rfl) hRc) (Nat.le_trans (Nat.le_of_ble_eq_true rfl) hRs) dX4_init_23 (fun q3 cA9 H hK9 hP hD hS => ?_)
  have e9 := zsameI hK9
  subst e9
  have hP : va_P D vwCl ([(o, .inr (4, [.null, .int 0, .int 0, .int 0, .int 0, .ref q1, .ref q2, .null])), (q1, .inl (cI, 8, .inl (fun _ => 0))), (q2, .inl (cI, 8, .inl (fun _ => 0))), (q3, .inl (cI, 12, .inl (fun _ => 0)))] : va_W) H := hP
  have hD : va_D A ([(o, .inr (4, [.null, .int 0, .int 0, .int 0, .int 0, .ref q1, .ref q2, .null])), (q1, .inl (cI, 8, .inl (fun _ => 0))), (q2, .inl (cI, 8, .inl (fun _ => 0))), (q3, .inl (cI, 12, .inl (fun _ => 0)))] : va_W) := hD
  clear hK9
  refine W.widen (k := 3) (n := 28) (Nat.le_of_ble_eq_true rfl) (Nat.le_of_ble_eq_true rfl) ?_
  refine va_putF (D := D) (ci := 4) (v := .ref q3) (ty := .array .int) (C := RX4) (T := TX4) (N := 8) hx hb hts (by decide +kernel) tyX4 tyX4_ok nmX4 hown hK hP hD hS 0 rfl rfl 7 (by decide) (hts (.fieldLink RX4 18 "PegField$State" "tenants" "[I") (by decide +kernel)) (fun _ h9 => h9) rfl hin rfl (by decide +kernel) rfl rfl (Nat.le_of_ble_eq_true rfl) dX4_init_25 (fun H locs hP hD hS => ?_)
  have hP : va_P D vwCl ([(o, .inr (4, [.null, .int 0, .int 0, .int 0, .int 0, .ref q1, .ref q2, .ref q3])), (q1, .inl (cI, 8, .inl (fun _ => 0))), (q2, .inl (cI, 8, .inl (fun _ => 0))), (q3, .inl (cI, 12, .inl (fun _ => 0)))] : va_W) H := hP
  have hD : va_D A ([(o, .inr (4, [.null, .int 0, .int 0, .int 0, .int 0, .ref q1, .ref q2, .ref q3])), (q1, .inl (cI, 8, .inl (fun _ => 0))), (q2, .inl (cI, 8, .inl (fun _ => 0))), (q3, .inl (cI, 12, .inl (fun _ => 0)))] : va_W) := hD
  refine lv_aload_n hx hb dX4_init_28 rfl (lv_at hl 0 rfl) ?_
  refine lv_aload_n hx hb dX4_init_29 rfl (lv_at hl 1 rfl) ?_
  refine va_putF (D := D) (ci := 4) (v := .ref g) (ty := .object "PegField$Grid") (C := RX4) (T := TX4) (N := 8) hx hb hts (by decide +kernel) tyX4 tyX4_ok nmX4 hown hK hP hD hS 0 rfl rfl 0 (by decide) (hts (.fieldLink RX4 21 "PegField$State" "grid" "LPegField$Grid;") (by decide +kernel)) (fun _ h9 => h9) rfl hin rfl (by decide +kernel) rfl rfl (Nat.le_of_ble_eq_true rfl) dX4_init_30 (fun H locs hP hD hS => ?_)
  have hP : va_P D vwCl ([(o, .inr (4, [.ref g, .int 0, .int 0, .int 0, .int 0, .ref q1, .ref q2, .ref q3])), (q1, .inl (cI, 8, .inl (fun _ => 0))), (q2, .inl (cI, 8, .inl (fun _ => 0))), (q3, .inl (cI, 12, .inl (fun _ => 0)))] : va_W) H := hP
  have hD : va_D A ([(o, .inr (4, [.ref g, .int 0, .int 0, .int 0, .int 0, .ref q1, .ref q2, .ref q3])), (q1, .inl (cI, 8, .inl (fun _ => 0))), (q2, .inl (cI, 8, .inl (fun _ => 0))), (q3, .inl (cI, 12, .inl (fun _ => 0)))] : va_W) := hD
  exact hq (fun k => if k = 5 then q1 else if k = 6 then q2 else if k = 7 then q3 else 0) (hP.sub [0, 1, 2, 3] rfl) (hD.sub [0, 1, 2, 3] rfl rfl) hS dX4_init_33
