set_option maxHeartbeats 4000000 in
set_option maxRecDepth 100000 in
theorem c_X1_begin (l : Launch) (D : va_G) (cI cB cO : ClassId) (Oo : Nat) (Os : Nat → Int32)  (Os' : Nat → Int32) (sz : Nat) (h : fX1_begin Os = some Os') : Met l yX1_begin wsX1_begin ({ frames := 0, cells := 0, slots := 0, locals := 0 } : Room) (va_Pc [.ref Oo] (zPre D (zTY cI cB cO) (zwO Oo Os) sz)) (va_Qv (fun (_ : Unit) => True) (fun _ => zPost D (zTY cI cB cO) (zwO Oo Os') (va_A (zwO Oo Os) sz)) (va_A (zwO Oo Os) sz)) 0 0 (va_A (zwO Oo Os) sz) := by
  unfold fX1_begin at h
  refine zmet_v (cc := cX1_begin) (maxL := 1) (by decide) rfl (Nat.le_of_ble_eq_true rfl) rfl rfl ?_
  intro p e s m args below meth c R Q A ls hx hb hts hown hml hK hP hD hE hA hS hRf hRl hl hq
  have hown : s.vm.findClass RX1 = some m.cls := hown
  have hl : lv_has ls 1 [(0, .ref Oo)] := hl
  have inX1 : ∀ w ∈ u_ws RX1 TX1 9, w ∈ wsX1_begin := by decide +kernel
  have lk9 : (Cond.fieldLink RX1 9 "PegField$Outcome" "choices" "I").before args s = true := hts _ (by decide +kernel)
  have lk15 : (Cond.fieldLink RX1 15 "PegField$Outcome" "fewest" "I").before args s = true := hts _ (by decide +kernel)
  have lk18 : (Cond.fieldLink RX1 18 "PegField$Outcome" "first" "I").before args s = true := hts _ (by decide +kernel)
  have lk21 : (Cond.fieldLink RX1 21 "PegField$Outcome" "ways" "I").before args s = true := hts _ (by decide +kernel)
  have lk24 : (Cond.fieldLink RX1 24 "PegField$Outcome" "longest" "I").before args s = true := hts _ (by decide +kernel)
  have lk27 : (Cond.fieldLink RX1 27 "PegField$Outcome" "shortest" "I").before args s = true := hts _ (by decide +kernel)
  have lk30 : (Cond.fieldLink RX1 30 "PegField$Outcome" "alone" "I").before args s = true := hts _ (by decide +kernel)
  have lk33 : (Cond.fieldLink RX1 33 "PegField$Outcome" "winning" "I").before args s = true := hts _ (by decide +kernel)
  have lk36 : (Cond.fieldLink RX1 36 "PegField$Outcome" "mean" "I").before args s = true := hts _ (by decide +kernel)
  refine lv_aload_n hx hb dX1_begin_0 rfl (lv_at hl 0 rfl) ?_
  refine lv_iconst (v := (0 : Int32)) hx hb dX1_begin_1 (by decide) ?_
  refine va_put (D := D) (ci := 1) (v := .int (0 : Int32)) (ty := .int) (C := RX1) (T := TX1) (N := 9) hx hb hts inX1 tyX1 tyX1_ok nmX1 hown hK hP hD hS 0 rfl rfl 0 (by decide) lk9 (fun _ h9 => h9) rfl (by decide +kernel) rfl rfl (Nat.le_of_ble_eq_true rfl) dX1_begin_2 (fun H locs hP hD hS => ?_)
  have hset : ∀ v9 : Int32, (zwO Oo Os).set 0 (Oo, .inr (1, ([.int (Os 0), .int (Os 1), .int (Os 2), .int (Os 3), .int (Os 4), .int (Os 5), .int (Os 6), .int (Os 7), .int (Os 8)] : List Value).set 0 (.int v9))) = (zwO Oo (upd Os 0 v9)) := fun _ => rfl
  obtain ⟨Os_1, eOs_1, hP, hD⟩ : ∃ y9, y9 = (upd Os 0 (0 : Int32)) ∧ va_P D vwCl (zwO Oo y9) H ∧ va_D A (zwO Oo y9) := ⟨_, rfl, zsetP (hset _) hP, zsetD (hset _) hD⟩
  have h := zlt_s h eOs_1
  clear hset
  refine lv_aload_n hx hb dX1_begin_5 rfl (lv_at hl 0 rfl) ?_
  refine lv_iconst (v := (0 : Int32)) hx hb dX1_begin_6 (by decide) ?_
  refine va_put (D := D) (ci := 1) (v := .int (0 : Int32)) (ty := .int) (C := RX1) (T := TX1) (N := 9) hx hb hts inX1 tyX1 tyX1_ok nmX1 hown hK hP hD hS 0 rfl rfl 1 (by decide) lk15 (fun _ h9 => h9) rfl (by decide +kernel) rfl rfl (Nat.le_of_ble_eq_true rfl) dX1_begin_7 (fun H locs hP hD hS => ?_)
  have hset : ∀ v9 : Int32, (zwO Oo Os_1).set 0 (Oo, .inr (1, ([.int (Os_1 0), .int (Os_1 1), .int (Os_1 2), .int (Os_1 3), .int (Os_1 4), .int (Os_1 5), .int (Os_1 6), .int (Os_1 7), .int (Os_1 8)] : List Value).set 1 (.int v9))) = (zwO Oo (upd Os_1 1 v9)) := fun _ => rfl
  obtain ⟨Os_2, eOs_2, hP, hD⟩ : ∃ y9, y9 = (upd Os_1 1 (0 : Int32)) ∧ va_P D vwCl (zwO Oo y9) H ∧ va_D A (zwO Oo y9) := ⟨_, rfl, zsetP (hset _) hP, zsetD (hset _) hD⟩
  have h := zlt_s h eOs_2
  clear hset
  refine lv_aload_n hx hb dX1_begin_10 rfl (lv_at hl 0 rfl) ?_
  refine lv_iconst (v := (-1 : Int32)) hx hb dX1_begin_11 (by decide) ?_
  refine va_put (D := D) (ci := 1) (v := .int (-1 : Int32)) (ty := .int) (C := RX1) (T := TX1) (N := 9) hx hb hts inX1 tyX1 tyX1_ok nmX1 hown hK hP hD hS 0 rfl rfl 2 (by decide) lk18 (fun _ h9 => h9) rfl (by decide +kernel) rfl rfl (Nat.le_of_ble_eq_true rfl) dX1_begin_12 (fun H locs hP hD hS => ?_)
  have hset : ∀ v9 : Int32, (zwO Oo Os_2).set 0 (Oo, .inr (1, ([.int (Os_2 0), .int (Os_2 1), .int (Os_2 2), .int (Os_2 3), .int (Os_2 4), .int (Os_2 5), .int (Os_2 6), .int (Os_2 7), .int (Os_2 8)] : List Value).set 2 (.int v9))) = (zwO Oo (upd Os_2 2 v9)) := fun _ => rfl
  obtain ⟨Os_3, eOs_3, hP, hD⟩ : ∃ y9, y9 = (upd Os_2 2 (-1 : Int32)) ∧ va_P D vwCl (zwO Oo y9) H ∧ va_D A (zwO Oo y9) := ⟨_, rfl, zsetP (hset _) hP, zsetD (hset _) hD⟩
  have h := zlt_s h eOs_3
  clear hset
  refine lv_aload_n hx hb dX1_begin_15 rfl (lv_at hl 0 rfl) ?_
  refine lv_iconst (v := (0 : Int32)) hx hb dX1_begin_16 (by decide) ?_
  refine va_put (D := D) (ci := 1) (v := .int (0 : Int32)) (ty := .int) (C := RX1) (T := TX1) (N := 9) hx hb hts inX1 tyX1 tyX1_ok nmX1 hown hK hP hD hS 0 rfl rfl 3 (by decide) lk21 (fun _ h9 => h9) rfl (by decide +kernel) rfl rfl (Nat.le_of_ble_eq_true rfl) dX1_begin_17 (fun H locs hP hD hS => ?_)
  have hset : ∀ v9 : Int32, (zwO Oo Os_3).set 0 (Oo, .inr (1, ([.int (Os_3 0), .int (Os_3 1), .int (Os_3 2), .int (Os_3 3), .int (Os_3 4), .int (Os_3 5), .int (Os_3 6), .int (Os_3 7), .int (Os_3 8)] : List Value).set 3 (.int v9))) = (zwO Oo (upd Os_3 3 v9)) := fun _ => rfl
  obtain ⟨Os_4, eOs_4, hP, hD⟩ : ∃ y9, y9 = (upd Os_3 3 (0 : Int32)) ∧ va_P D vwCl (zwO Oo y9) H ∧ va_D A (zwO Oo y9) := ⟨_, rfl, zsetP (hset _) hP, zsetD (hset _) hD⟩
  have h := zlt_s h eOs_4
  clear hset
  refine lv_aload_n hx hb dX1_begin_20 rfl (lv_at hl 0 rfl) ?_
  refine lv_iconst (v := (0 : Int32)) hx hb dX1_begin_21 (by decide) ?_
  refine va_put (D := D) (ci := 1) (v := .int (0 : Int32)) (ty := .int) (C := RX1) (T := TX1) (N := 9) hx hb hts inX1 tyX1 tyX1_ok nmX1 hown hK hP hD hS 0 rfl rfl 4 (by decide) lk24 (fun _ h9 => h9) rfl (by decide +kernel) rfl rfl (Nat.le_of_ble_eq_true rfl) dX1_begin_22 (fun H locs hP hD hS => ?_)
  have hset : ∀ v9 : Int32, (zwO Oo Os_4).set 0 (Oo, .inr (1, ([.int (Os_4 0), .int (Os_4 1), .int (Os_4 2), .int (Os_4 3), .int (Os_4 4), .int (Os_4 5), .int (Os_4 6), .int (Os_4 7), .int (Os_4 8)] : List Value).set 4 (.int v9))) = (zwO Oo (upd Os_4 4 v9)) := fun _ => rfl
  obtain ⟨Os_5, eOs_5, hP, hD⟩ : ∃ y9, y9 = (upd Os_4 4 (0 : Int32)) ∧ va_P D vwCl (zwO Oo y9) H ∧ va_D A (zwO Oo y9) := ⟨_, rfl, zsetP (hset _) hP, zsetD (hset _) hD⟩
  have h := zlt_s h eOs_5
  clear hset
  refine lv_aload_n hx hb dX1_begin_25 rfl (lv_at hl 0 rfl) ?_
  refine lv_iconst (v := (0 : Int32)) hx hb dX1_begin_26 (by decide) ?_
  refine va_put (D := D) (ci := 1) (v := .int (0 : Int32)) (ty := .int) (C := RX1) (T := TX1) (N := 9) hx hb hts inX1 tyX1 tyX1_ok nmX1 hown hK hP hD hS 0 rfl rfl 5 (by decide) lk27 (fun _ h9 => h9) rfl (by decide +kernel) rfl rfl (Nat.le_of_ble_eq_true rfl) dX1_begin_27 (fun H locs hP hD hS => ?_)
  have hset : ∀ v9 : Int32, (zwO Oo Os_5).set 0 (Oo, .inr (1, ([.int (Os_5 0), .int (Os_5 1), .int (Os_5 2), .int (Os_5 3), .int (Os_5 4), .int (Os_5 5), .int (Os_5 6), .int (Os_5 7), .int (Os_5 8)] : List Value).set 5 (.int v9))) = (zwO Oo (upd Os_5 5 v9)) := fun _ => rfl
  obtain ⟨Os_6, eOs_6, hP, hD⟩ : ∃ y9, y9 = (upd Os_5 5 (0 : Int32)) ∧ va_P D vwCl (zwO Oo y9) H ∧ va_D A (zwO Oo y9) := ⟨_, rfl, zsetP (hset _) hP, zsetD (hset _) hD⟩
  have h := zlt_s h eOs_6
  clear hset
  refine lv_aload_n hx hb dX1_begin_30 rfl (lv_at hl 0 rfl) ?_
  refine lv_iconst (v := (0 : Int32)) hx hb dX1_begin_31 (by decide) ?_
  refine va_put (D := D) (ci := 1) (v := .int (0 : Int32)) (ty := .int) (C := RX1) (T := TX1) (N := 9) hx hb hts inX1 tyX1 tyX1_ok nmX1 hown hK hP hD hS 0 rfl rfl 6 (by decide) lk30 (fun _ h9 => h9) rfl (by decide +kernel) rfl rfl (Nat.le_of_ble_eq_true rfl) dX1_begin_32 (fun H locs hP hD hS => ?_)
  have hset : ∀ v9 : Int32, (zwO Oo Os_6).set 0 (Oo, .inr (1, ([.int (Os_6 0), .int (Os_6 1), .int (Os_6 2), .int (Os_6 3), .int (Os_6 4), .int (Os_6 5), .int (Os_6 6), .int (Os_6 7), .int (Os_6 8)] : List Value).set 6 (.int v9))) = (zwO Oo (upd Os_6 6 v9)) := fun _ => rfl
  obtain ⟨Os_7, eOs_7, hP, hD⟩ : ∃ y9, y9 = (upd Os_6 6 (0 : Int32)) ∧ va_P D vwCl (zwO Oo y9) H ∧ va_D A (zwO Oo y9) := ⟨_, rfl, zsetP (hset _) hP, zsetD (hset _) hD⟩
  have h := zlt_s h eOs_7
  clear hset
  refine lv_aload_n hx hb dX1_begin_35 rfl (lv_at hl 0 rfl) ?_
  refine lv_iconst (v := (-1 : Int32)) hx hb dX1_begin_36 (by decide) ?_
  refine va_put (D := D) (ci := 1) (v := .int (-1 : Int32)) (ty := .int) (C := RX1) (T := TX1) (N := 9) hx hb hts inX1 tyX1 tyX1_ok nmX1 hown hK hP hD hS 0 rfl rfl 7 (by decide) lk33 (fun _ h9 => h9) rfl (by decide +kernel) rfl rfl (Nat.le_of_ble_eq_true rfl) dX1_begin_37 (fun H locs hP hD hS => ?_)
  have hset : ∀ v9 : Int32, (zwO Oo Os_7).set 0 (Oo, .inr (1, ([.int (Os_7 0), .int (Os_7 1), .int (Os_7 2), .int (Os_7 3), .int (Os_7 4), .int (Os_7 5), .int (Os_7 6), .int (Os_7 7), .int (Os_7 8)] : List Value).set 7 (.int v9))) = (zwO Oo (upd Os_7 7 v9)) := fun _ => rfl
  obtain ⟨Os_8, eOs_8, hP, hD⟩ : ∃ y9, y9 = (upd Os_7 7 (-1 : Int32)) ∧ va_P D vwCl (zwO Oo y9) H ∧ va_D A (zwO Oo y9) := ⟨_, rfl, zsetP (hset _) hP, zsetD (hset _) hD⟩
  have h := zlt_s h eOs_8
  clear hset
  refine lv_aload_n hx hb dX1_begin_40 rfl (lv_at hl 0 rfl) ?_
  refine lv_iconst (v := (0 : Int32)) hx hb dX1_begin_41 (by decide) ?_
  refine va_put (D := D) (ci := 1) (v := .int (0 : Int32)) (ty := .int) (C := RX1) (T := TX1) (N := 9) hx hb hts inX1 tyX1 tyX1_ok nmX1 hown hK hP hD hS 0 rfl rfl 8 (by decide) lk36 (fun _ h9 => h9) rfl (by decide +kernel) rfl rfl (Nat.le_of_ble_eq_true rfl) dX1_begin_42 (fun H locs hP hD hS => ?_)
  have hset : ∀ v9 : Int32, (zwO Oo Os_8).set 0 (Oo, .inr (1, ([.int (Os_8 0), .int (Os_8 1), .int (Os_8 2), .int (Os_8 3), .int (Os_8 4), .int (Os_8 5), .int (Os_8 6), .int (Os_8 7), .int (Os_8 8)] : List Value).set 8 (.int v9))) = (zwO Oo (upd Os_8 8 v9)) := fun _ => rfl
  obtain ⟨Os_9, eOs_9, hP, hD⟩ : ∃ y9, y9 = (upd Os_8 8 (0 : Int32)) ∧ va_P D vwCl (zwO Oo y9) H ∧ va_D A (zwO Oo y9) := ⟨_, rfl, zsetP (hset _) hP, zsetD (hset _) hD⟩
  have h := zlt_s h eOs_9
  clear hset
  cases zend h
  exact hq hP hD hS dX1_begin_45
set_option maxHeartbeats 4000000 in
set_option maxRecDepth 100000 in
theorem c_X1_take (l : Launch) (D : va_G) (cI cB cO : ClassId) (Oo : Nat) (Uo : Nat) (Os : Nat → Int32) (Us : Nat → Int32) (a0 : Int32) (Os' : Nat → Int32) (sz : Nat) (h : fX1_take Os Us a0 = some Os') : Met l yX1_take wsX1_take ({ frames := 1, cells := 0, slots := 0, locals := 30 } : Room) (va_Pc [.ref Oo, .int a0, .ref Uo] (zPre D (zTY cI cB cO) (zfOO cI cO Oo Uo Os Us) sz)) (va_Qv (fun (_ : Unit) => True) (fun _ => zPost D (zTY cI cB cO) (zfOO cI cO Oo Uo Os' Us) (va_A (zfOO cI cO Oo Uo Os Us) sz)) (va_A (zfOO cI cO Oo Uo Os Us) sz)) 0 0 (va_A (zfOO cI cO Oo Uo Os Us) sz) := by
  unfold fX1_take at h
  refine zmet_v (cc := cX1_take) (maxL := 3) (by decide) rfl (Nat.le_of_ble_eq_true rfl) rfl rfl ?_
  intro p e s m args below meth c R Q A ls hx hb hts hown hml hK hP hD hE hA hS hRf hRl hl hq
  have hown : s.vm.findClass RX1 = some m.cls := hown
  have hl : lv_has ls 3 [(0, .ref Oo), (1, .int a0), (2, .ref Uo)] := hl
  have inX1 : ∀ w ∈ u_ws RX1 TX1 9, w ∈ wsX1_take := by decide +kernel
  have lk9 : (Cond.fieldLink RX1 9 "PegField$Outcome" "choices" "I").before args s = true := hts _ (by decide +kernel)
  have lk15 : (Cond.fieldLink RX1 15 "PegField$Outcome" "fewest" "I").before args s = true := hts _ (by decide +kernel)
  have lk18 : (Cond.fieldLink RX1 18 "PegField$Outcome" "first" "I").before args s = true := hts _ (by decide +kernel)
  have lk27 : (Cond.fieldLink RX1 27 "PegField$Outcome" "shortest" "I").before args s = true := hts _ (by decide +kernel)
  have lk24 : (Cond.fieldLink RX1 24 "PegField$Outcome" "longest" "I").before args s = true := hts _ (by decide +kernel)
  have lk21 : (Cond.fieldLink RX1 21 "PegField$Outcome" "ways" "I").before args s = true := hts _ (by decide +kernel)
  have lk30 : (Cond.fieldLink RX1 30 "PegField$Outcome" "alone" "I").before args s = true := hts _ (by decide +kernel)
  have lk33 : (Cond.fieldLink RX1 33 "PegField$Outcome" "winning" "I").before args s = true := hts _ (by decide +kernel)
  have lk36 : (Cond.fieldLink RX1 36 "PegField$Outcome" "mean" "I").before args s = true := hts _ (by decide +kernel)
  refine lv_aload_n hx hb dX1_take_0 rfl (lv_at hl 0 rfl) ?_
  refine va_get (D := D) (ci := 1) (v := .int (Os 0)) (C := RX1) (T := TX1) (N := 9) hx hb hts inX1 hown hK hP 0 rfl rfl 0 (by decide) lk9 (fun _ h9 => h9) rfl dX1_take_1 ?_
  obtain ⟨Os_31, j14, h⟩ := zb1_s h
  have K31 : ∀ (H : Heap) (locs : List Loc) (ls : Array Slot), va_P D vwCl (zfOO cI cO Oo Uo Os_31 Us) H → va_D A (zfOO cI cO Oo Uo Os_31 Us) → va_S A s.heap H locs → lv_has ls 3 [(0, .ref Oo), (1, .int a0), (2, .ref Uo)] → W p l e R s m args below meth c H locs 0 0 Q (F0 m 31 ls []) := by
    intro H locs ls hP hD hS hl
    refine lv_aload_n hx hb dX1_take_31 rfl (lv_at hl 0 rfl) ?_
    refine va_get (D := D) (ci := 1) (v := .int (Os_31 0)) (C := RX1) (T := TX1) (N := 9) hx hb hts inX1 hown hK hP 0 rfl rfl 0 (by decide) lk9 (fun _ h9 => h9) rfl dX1_take_32 ?_
    obtain ⟨Os_61, j10, h⟩ := zb1_s h
    have K61 : ∀ (H : Heap) (locs : List Loc) (ls : Array Slot), va_P D vwCl (zfOO cI cO Oo Uo Os_61 Us) H → va_D A (zfOO cI cO Oo Uo Os_61 Us) → va_S A s.heap H locs → lv_has ls 3 [(0, .ref Oo), (1, .int a0), (2, .ref Uo)] → W p l e R s m args below meth c H locs 0 0 Q (F0 m 61 ls []) := by
      intro H locs ls hP hD hS hl
      refine lv_aload_n hx hb dX1_take_61 rfl (lv_at hl 0 rfl) ?_
      refine lv_aload_n hx hb dX1_take_62 rfl (lv_at hl 0 rfl) ?_
      refine va_get (D := D) (ci := 1) (v := .int (Os_61 4)) (C := RX1) (T := TX1) (N := 9) hx hb hts inX1 hown hK hP 0 rfl rfl 4 (by decide) lk24 (fun _ h9 => h9) rfl dX1_take_63 ?_
      refine lv_aload_n hx hb dX1_take_66 rfl (lv_at hl 2 rfl) ?_
      refine va_get (D := D) (ci := 1) (v := .int (Us 4)) (C := RX1) (T := TX1) (N := 9) hx hb hts inX1 hown hK hP 1 rfl rfl 4 (by decide) lk24 (fun _ h9 => h9) rfl dX1_take_67 ?_
      refine lv_iconst (v := (1 : Int32)) hx hb dX1_take_70 (by decide) ?_
      refine lv_iadd hx hb dX1_take_71 ?_
      refine va_mmax hx hb (hml.trans hl.1.symm) hown (hts (.methodLink RX1 39 Lib.Math.max.name) (by decide +kernel)) (hts (.static Lib.Math.max.name) (by decide +kernel)) (hts (.initialized "java/lang/Math") (by decide +kernel)) (hts (.code Lib.Math.max.name Lib.Math.max.code 2 (some .int)) (by decide +kernel)) (Nat.le_trans (Nat.le_of_ble_eq_true rfl) hRf) (Nat.le_trans (Nat.le_of_ble_eq_true rfl) hRl) (Nat.zero_le _) (Nat.zero_le _) dX1_take_72 ?_
      refine va_put (D := D) (ci := 1) (v := .int (if (Os_61 4) < ((Us 4) + (1 : Int32)) then ((Us 4) + (1 : Int32)) else (Os_61 4))) (ty := .int) (C := RX1) (T := TX1) (N := 9) hx hb hts inX1 tyX1 tyX1_ok nmX1 hown hK hP hD hS 0 rfl rfl 4 (by decide) lk24 (fun _ h9 => h9) rfl (by decide +kernel) rfl rfl (Nat.le_of_ble_eq_true rfl) dX1_take_75 (fun H locs hP hD hS => ?_)
      have hset : ∀ v9 : Int32, (zfOO cI cO Oo Uo Os_61 Us).set 0 (Oo, .inr (1, ([.int (Os_61 0), .int (Os_61 1), .int (Os_61 2), .int (Os_61 3), .int (Os_61 4), .int (Os_61 5), .int (Os_61 6), .int (Os_61 7), .int (Os_61 8)] : List Value).set 4 (.int v9))) = (zfOO cI cO Oo Uo (upd Os_61 4 v9) Us) := fun _ => rfl
      obtain ⟨Os_1, eOs_1, hP, hD⟩ : ∃ y9, y9 = (upd Os_61 4 (if (Os_61 4) < ((Us 4) + (1 : Int32)) then ((Us 4) + (1 : Int32)) else (Os_61 4))) ∧ va_P D vwCl (zfOO cI cO Oo Uo y9 Us) H ∧ va_D A (zfOO cI cO Oo Uo y9 Us) := ⟨_, rfl, zsetP (hset _) hP, zsetD (hset _) hD⟩
      have h := zlt_s h eOs_1
      clear hset
      refine lv_aload_n hx hb dX1_take_78 rfl (lv_at hl 0 rfl) ?_
      refine lv_dup hx hb dX1_take_79 rfl ?_
      refine va_get (D := D) (ci := 1) (v := .int (Os_1 3)) (C := RX1) (T := TX1) (N := 9) hx hb hts inX1 hown hK hP 0 rfl rfl 3 (by decide) lk21 (fun _ h9 => h9) rfl dX1_take_80 ?_
      refine lv_aload_n hx hb dX1_take_83 rfl (lv_at hl 2 rfl) ?_
      refine va_get (D := D) (ci := 1) (v := .int (Us 3)) (C := RX1) (T := TX1) (N := 9) hx hb hts inX1 hown hK hP 1 rfl rfl 3 (by decide) lk21 (fun _ h9 => h9) rfl dX1_take_84 ?_
      refine lv_iadd hx hb dX1_take_87 ?_
      refine va_put (D := D) (ci := 1) (v := .int ((Os_1 3) + (Us 3))) (ty := .int) (C := RX1) (T := TX1) (N := 9) hx hb hts inX1 tyX1 tyX1_ok nmX1 hown hK hP hD hS 0 rfl rfl 3 (by decide) lk21 (fun _ h9 => h9) rfl (by decide +kernel) rfl rfl (Nat.le_of_ble_eq_true rfl) dX1_take_88 (fun H locs hP hD hS => ?_)
      have hset : ∀ v9 : Int32, (zfOO cI cO Oo Uo Os_1 Us).set 0 (Oo, .inr (1, ([.int (Os_1 0), .int (Os_1 1), .int (Os_1 2), .int (Os_1 3), .int (Os_1 4), .int (Os_1 5), .int (Os_1 6), .int (Os_1 7), .int (Os_1 8)] : List Value).set 3 (.int v9))) = (zfOO cI cO Oo Uo (upd Os_1 3 v9) Us) := fun _ => rfl
      obtain ⟨Os_2, eOs_2, hP, hD⟩ : ∃ y9, y9 = (upd Os_1 3 ((Os_1 3) + (Us 3))) ∧ va_P D vwCl (zfOO cI cO Oo Uo y9 Us) H ∧ va_D A (zfOO cI cO Oo Uo y9 Us) := ⟨_, rfl, zsetP (hset _) hP, zsetD (hset _) hD⟩
      have h := zlt_s h eOs_2
      clear hset
      refine lv_aload_n hx hb dX1_take_91 rfl (lv_at hl 0 rfl) ?_
      refine lv_dup hx hb dX1_take_92 rfl ?_
      refine va_get (D := D) (ci := 1) (v := .int (Os_2 6)) (C := RX1) (T := TX1) (N := 9) hx hb hts inX1 hown hK hP 0 rfl rfl 6 (by decide) lk30 (fun _ h9 => h9) rfl dX1_take_93 ?_
      refine lv_aload_n hx hb dX1_take_96 rfl (lv_at hl 2 rfl) ?_
      refine va_get (D := D) (ci := 1) (v := .int (Us 6)) (C := RX1) (T := TX1) (N := 9) hx hb hts inX1 hown hK hP 1 rfl rfl 6 (by decide) lk30 (fun _ h9 => h9) rfl dX1_take_97 ?_
      refine lv_ior hx hb dX1_take_100 ?_
      refine va_put (D := D) (ci := 1) (v := .int ((Os_2 6) ||| (Us 6))) (ty := .int) (C := RX1) (T := TX1) (N := 9) hx hb hts inX1 tyX1 tyX1_ok nmX1 hown hK hP hD hS 0 rfl rfl 6 (by decide) lk30 (fun _ h9 => h9) rfl (by decide +kernel) rfl rfl (Nat.le_of_ble_eq_true rfl) dX1_take_101 (fun H locs hP hD hS => ?_)
      have hset : ∀ v9 : Int32, (zfOO cI cO Oo Uo Os_2 Us).set 0 (Oo, .inr (1, ([.int (Os_2 0), .int (Os_2 1), .int (Os_2 2), .int (Os_2 3), .int (Os_2 4), .int (Os_2 5), .int (Os_2 6), .int (Os_2 7), .int (Os_2 8)] : List Value).set 6 (.int v9))) = (zfOO cI cO Oo Uo (upd Os_2 6 v9) Us) := fun _ => rfl
      obtain ⟨Os_3, eOs_3, hP, hD⟩ : ∃ y9, y9 = (upd Os_2 6 ((Os_2 6) ||| (Us 6))) ∧ va_P D vwCl (zfOO cI cO Oo Uo y9 Us) H ∧ va_D A (zfOO cI cO Oo Uo y9 Us) := ⟨_, rfl, zsetP (hset _) hP, zsetD (hset _) hD⟩
      have h := zlt_s h eOs_3
      clear hset
      refine lv_aload_n hx hb dX1_take_104 rfl (lv_at hl 0 rfl) ?_
      refine va_get (D := D) (ci := 1) (v := .int (Os_3 7)) (C := RX1) (T := TX1) (N := 9) hx hb hts inX1 hown hK hP 0 rfl rfl 7 (by decide) lk33 (fun _ h9 => h9) rfl dX1_take_105 ?_
      refine lv_iconst (v := (-1 : Int32)) hx hb dX1_take_108 (by decide) ?_
      obtain ⟨Os_125, j6, h⟩ := zb1_s h
      have K125 : ∀ (H : Heap) (locs : List Loc) (ls : Array Slot), va_P D vwCl (zfOO cI cO Oo Uo Os_125 Us) H → va_D A (zfOO cI cO Oo Uo Os_125 Us) → va_S A s.heap H locs → lv_has ls 3 [(0, .ref Oo), (2, .ref Uo)] → W p l e R s m args below meth c H locs 0 0 Q (F0 m 125 ls []) := by
        intro H locs ls hP hD hS hl
        refine lv_aload_n hx hb dX1_take_125 rfl (lv_at hl 0 rfl) ?_
        refine lv_dup hx hb dX1_take_126 rfl ?_
        refine va_get (D := D) (ci := 1) (v := .int (Os_125 8)) (C := RX1) (T := TX1) (N := 9) hx hb hts inX1 hown hK hP 0 rfl rfl 8 (by decide) lk36 (fun _ h9 => h9) rfl dX1_take_127 ?_
        refine lv_aload_n hx hb dX1_take_130 rfl (lv_at hl 1 rfl) ?_
        refine va_get (D := D) (ci := 1) (v := .int (Us 8)) (C := RX1) (T := TX1) (N := 9) hx hb hts inX1 hown hK hP 1 rfl rfl 8 (by decide) lk36 (fun _ h9 => h9) rfl dX1_take_131 ?_
        refine lv_iadd hx hb dX1_take_134 ?_
        refine va_put (D := D) (ci := 1) (v := .int ((Os_125 8) + (Us 8))) (ty := .int) (C := RX1) (T := TX1) (N := 9) hx hb hts inX1 tyX1 tyX1_ok nmX1 hown hK hP hD hS 0 rfl rfl 8 (by decide) lk36 (fun _ h9 => h9) rfl (by decide +kernel) rfl rfl (Nat.le_of_ble_eq_true rfl) dX1_take_135 (fun H locs hP hD hS => ?_)
        have hset : ∀ v9 : Int32, (zfOO cI cO Oo Uo Os_125 Us).set 0 (Oo, .inr (1, ([.int (Os_125 0), .int (Os_125 1), .int (Os_125 2), .int (Os_125 3), .int (Os_125 4), .int (Os_125 5), .int (Os_125 6), .int (Os_125 7), .int (Os_125 8)] : List Value).set 8 (.int v9))) = (zfOO cI cO Oo Uo (upd Os_125 8 v9) Us) := fun _ => rfl
        obtain ⟨Os_4, eOs_4, hP, hD⟩ : ∃ y9, y9 = (upd Os_125 8 ((Os_125 8) + (Us 8))) ∧ va_P D vwCl (zfOO cI cO Oo Uo y9 Us) H ∧ va_D A (zfOO cI cO Oo Uo y9 Us) := ⟨_, rfl, zsetP (hset _) hP, zsetD (hset _) hD⟩
        have h := zlt_s h eOs_4
        clear hset
        refine lv_aload_n hx hb dX1_take_138 rfl (lv_at hl 0 rfl) ?_
        refine lv_dup hx hb dX1_take_139 rfl ?_
        refine va_get (D := D) (ci := 1) (v := .int (Os_4 0)) (C := RX1) (T := TX1) (N := 9) hx hb hts inX1 hown hK hP 0 rfl rfl 0 (by decide) lk9 (fun _ h9 => h9) rfl dX1_take_140 ?_
        refine lv_iconst (v := (1 : Int32)) hx hb dX1_take_143 (by decide) ?_
        refine lv_iadd hx hb dX1_take_144 ?_
        refine va_put (D := D) (ci := 1) (v := .int ((Os_4 0) + (1 : Int32))) (ty := .int) (C := RX1) (T := TX1) (N := 9) hx hb hts inX1 tyX1 tyX1_ok nmX1 hown hK hP hD hS 0 rfl rfl 0 (by decide) lk9 (fun _ h9 => h9) rfl (by decide +kernel) rfl rfl (Nat.le_of_ble_eq_true rfl) dX1_take_145 (fun H locs hP hD hS => ?_)
        have hset : ∀ v9 : Int32, (zfOO cI cO Oo Uo Os_4 Us).set 0 (Oo, .inr (1, ([.int (Os_4 0), .int (Os_4 1), .int (Os_4 2), .int (Os_4 3), .int (Os_4 4), .int (Os_4 5), .int (Os_4 6), .int (Os_4 7), .int (Os_4 8)] : List Value).set 0 (.int v9))) = (zfOO cI cO Oo Uo (upd Os_4 0 v9) Us) := fun _ => rfl
        obtain ⟨Os_5, eOs_5, hP, hD⟩ : ∃ y9, y9 = (upd Os_4 0 ((Os_4 0) + (1 : Int32))) ∧ va_P D vwCl (zfOO cI cO Oo Uo y9 Us) H ∧ va_D A (zfOO cI cO Oo Uo y9 Us) := ⟨_, rfl, zsetP (hset _) hP, zsetD (hset _) hD⟩
        have h := zlt_s h eOs_5
        clear hset
        cases zend h
        exact hq hP hD hS dX1_take_148
      clear h
      have h := j6
      clear j6
      refine lv_icmp_ne (tgt := 125) hx hb dX1_take_109 (by decide) (fun c7 => ?_) (fun c7 => ?_)
      · have h := zif_f c7 h
        cases zend h
        exact K125 _ _ _ hP hD hS (lv_sub hl [0, 2] rfl)
      · have h := zif_t c7 h
        refine lv_aload_n hx hb dX1_take_112 rfl (lv_at hl 2 rfl) ?_
        refine va_get (D := D) (ci := 1) (v := .int (Us 7)) (C := RX1) (T := TX1) (N := 9) hx hb hts inX1 hown hK hP 1 rfl rfl 7 (by decide) lk33 (fun _ h9 => h9) rfl dX1_take_113 ?_
        refine lv_iconst (v := (-1 : Int32)) hx hb dX1_take_116 (by decide) ?_
        refine lv_icmp_ne (tgt := 125) hx hb dX1_take_117 (by decide) (fun c8 => ?_) (fun c8 => ?_)
        · have h := zif_f c8 h
          cases zend h
          exact K125 _ _ _ hP hD hS (lv_sub hl [0, 2] rfl)
        · have h := zif_t c8 h
          refine lv_aload_n hx hb dX1_take_120 rfl (lv_at hl 0 rfl) ?_
          refine lv_iload_n hx hb dX1_take_121 rfl (lv_at hl 1 rfl) ?_
          refine va_put (D := D) (ci := 1) (v := .int a0) (ty := .int) (C := RX1) (T := TX1) (N := 9) hx hb hts inX1 tyX1 tyX1_ok nmX1 hown hK hP hD hS 0 rfl rfl 7 (by decide) lk33 (fun _ h9 => h9) rfl (by decide +kernel) rfl rfl (Nat.le_of_ble_eq_true rfl) dX1_take_122 (fun H locs hP hD hS => ?_)
          have hset : ∀ v9 : Int32, (zfOO cI cO Oo Uo Os_3 Us).set 0 (Oo, .inr (1, ([.int (Os_3 0), .int (Os_3 1), .int (Os_3 2), .int (Os_3 3), .int (Os_3 4), .int (Os_3 5), .int (Os_3 6), .int (Os_3 7), .int (Os_3 8)] : List Value).set 7 (.int v9))) = (zfOO cI cO Oo Uo (upd Os_3 7 v9) Us) := fun _ => rfl
          obtain ⟨Os_9, eOs_9, hP, hD⟩ : ∃ y9, y9 = (upd Os_3 7 a0) ∧ va_P D vwCl (zfOO cI cO Oo Uo y9 Us) H ∧ va_D A (zfOO cI cO Oo Uo y9 Us) := ⟨_, rfl, zsetP (hset _) hP, zsetD (hset _) hD⟩
          have h := zlt_s h eOs_9
          clear hset
          cases zend h
          exact K125 _ _ _ hP hD hS (lv_sub hl [0, 2] rfl)
    clear h
    have h := j10
    clear j10
    obtain ⟨J51, eJ51, h⟩ := zjn_s h
    have K51 : ∀ (u : Unit), J51 u = some Os_61 → ∀ (H : Heap) (locs : List Loc) (ls : Array Slot), va_P D vwCl (zfOO cI cO Oo Uo Os_31 Us) H → va_D A (zfOO cI cO Oo Uo Os_31 Us) → va_S A s.heap H locs → lv_has ls 3 [(0, .ref Oo), (1, .int a0), (2, .ref Uo)] → W p l e R s m args below meth c H locs 0 0 Q (F0 m 51 ls []) := by
      subst eJ51
      intro u h H locs ls hP hD hS hl
      refine lv_aload_n hx hb dX1_take_51 rfl (lv_at hl 0 rfl) ?_
      refine lv_aload_n hx hb dX1_take_52 rfl (lv_at hl 2 rfl) ?_
      refine va_get (D := D) (ci := 1) (v := .int (Us 5)) (C := RX1) (T := TX1) (N := 9) hx hb hts inX1 hown hK hP 1 rfl rfl 5 (by decide) lk27 (fun _ h9 => h9) rfl dX1_take_53 ?_
      refine lv_iconst (v := (1 : Int32)) hx hb dX1_take_56 (by decide) ?_
      refine lv_iadd hx hb dX1_take_57 ?_
      refine va_put (D := D) (ci := 1) (v := .int ((Us 5) + (1 : Int32))) (ty := .int) (C := RX1) (T := TX1) (N := 9) hx hb hts inX1 tyX1 tyX1_ok nmX1 hown hK hP hD hS 0 rfl rfl 5 (by decide) lk27 (fun _ h9 => h9) rfl (by decide +kernel) rfl rfl (Nat.le_of_ble_eq_true rfl) dX1_take_58 (fun H locs hP hD hS => ?_)
      have hset : ∀ v9 : Int32, (zfOO cI cO Oo Uo Os_31 Us).set 0 (Oo, .inr (1, ([.int (Os_31 0), .int (Os_31 1), .int (Os_31 2), .int (Os_31 3), .int (Os_31 4), .int (Os_31 5), .int (Os_31 6), .int (Os_31 7), .int (Os_31 8)] : List Value).set 5 (.int v9))) = (zfOO cI cO Oo Uo (upd Os_31 5 v9) Us) := fun _ => rfl
      obtain ⟨Os_11, eOs_11, hP, hD⟩ : ∃ y9, y9 = (upd Os_31 5 ((Us 5) + (1 : Int32))) ∧ va_P D vwCl (zfOO cI cO Oo Uo y9 Us) H ∧ va_D A (zfOO cI cO Oo Uo y9 Us) := ⟨_, rfl, zsetP (hset _) hP, zsetD (hset _) hD⟩
      have h := zlt_s h eOs_11
      clear hset
      cases zend h
      exact K61 _ _ _ hP hD hS (lv_sub hl [0, 1, 2] rfl)
    clear eJ51
    refine lv_if_eq (tgt := 51) hx hb dX1_take_35 (by decide) (fun c12 => ?_) (fun c12 => ?_)
    · have h := zif_t c12 h
      exact K51 _ h _ _ _ hP hD hS (lv_sub hl [0, 1, 2] rfl)
    · have h := zif_f c12 h
      refine lv_aload_n hx hb dX1_take_38 rfl (lv_at hl 2 rfl) ?_
      refine va_get (D := D) (ci := 1) (v := .int (Us 5)) (C := RX1) (T := TX1) (N := 9) hx hb hts inX1 hown hK hP 1 rfl rfl 5 (by decide) lk27 (fun _ h9 => h9) rfl dX1_take_39 ?_
      refine lv_iconst (v := (1 : Int32)) hx hb dX1_take_42 (by decide) ?_
      refine lv_iadd hx hb dX1_take_43 ?_
      refine lv_aload_n hx hb dX1_take_44 rfl (lv_at hl 0 rfl) ?_
      refine va_get (D := D) (ci := 1) (v := .int (Os_31 5)) (C := RX1) (T := TX1) (N := 9) hx hb hts inX1 hown hK hP 0 rfl rfl 5 (by decide) lk27 (fun _ h9 => h9) rfl dX1_take_45 ?_
      refine lv_icmp_ge (tgt := 61) hx hb dX1_take_48 (by decide) (fun c13 => ?_) (fun c13 => ?_)
      · have h := zif_t c13 h
        cases zend h
        exact K61 _ _ _ hP hD hS (lv_sub hl [0, 1, 2] rfl)
      · have h := zif_f c13 h
        exact K51 _ h _ _ _ hP hD hS (lv_sub hl [0, 1, 2] rfl)
  clear h
  have h := j14
  clear j14
  obtain ⟨J18, eJ18, h⟩ := zjn_s h
  have K18 : ∀ (u : Unit), J18 u = some Os_31 → ∀ (H : Heap) (locs : List Loc) (ls : Array Slot), va_P D vwCl (zfOO cI cO Oo Uo Os Us) H → va_D A (zfOO cI cO Oo Uo Os Us) → va_S A s.heap H locs → lv_has ls 3 [(0, .ref Oo), (1, .int a0), (2, .ref Uo)] → W p l e R s m args below meth c H locs 0 0 Q (F0 m 18 ls []) := by
    subst eJ18
    intro u h H locs ls hP hD hS hl
    refine lv_aload_n hx hb dX1_take_18 rfl (lv_at hl 0 rfl) ?_
    refine lv_aload_n hx hb dX1_take_19 rfl (lv_at hl 2 rfl) ?_
    refine va_get (D := D) (ci := 1) (v := .int (Us 1)) (C := RX1) (T := TX1) (N := 9) hx hb hts inX1 hown hK hP 1 rfl rfl 1 (by decide) lk15 (fun _ h9 => h9) rfl dX1_take_20 ?_
    refine va_put (D := D) (ci := 1) (v := .int (Us 1)) (ty := .int) (C := RX1) (T := TX1) (N := 9) hx hb hts inX1 tyX1 tyX1_ok nmX1 hown hK hP hD hS 0 rfl rfl 1 (by decide) lk15 (fun _ h9 => h9) rfl (by decide +kernel) rfl rfl (Nat.le_of_ble_eq_true rfl) dX1_take_23 (fun H locs hP hD hS => ?_)
    have hset : ∀ v9 : Int32, (zfOO cI cO Oo Uo Os Us).set 0 (Oo, .inr (1, ([.int (Os 0), .int (Os 1), .int (Os 2), .int (Os 3), .int (Os 4), .int (Os 5), .int (Os 6), .int (Os 7), .int (Os 8)] : List Value).set 1 (.int v9))) = (zfOO cI cO Oo Uo (upd Os 1 v9) Us) := fun _ => rfl
    obtain ⟨Os_15, eOs_15, hP, hD⟩ : ∃ y9, y9 = (upd Os 1 (Us 1)) ∧ va_P D vwCl (zfOO cI cO Oo Uo y9 Us) H ∧ va_D A (zfOO cI cO Oo Uo y9 Us) := ⟨_, rfl, zsetP (hset _) hP, zsetD (hset _) hD⟩
    have h := zlt_s h eOs_15
    clear hset
    refine lv_aload_n hx hb dX1_take_26 rfl (lv_at hl 0 rfl) ?_
    refine lv_iload_n hx hb dX1_take_27 rfl (lv_at hl 1 rfl) ?_
    refine va_put (D := D) (ci := 1) (v := .int a0) (ty := .int) (C := RX1) (T := TX1) (N := 9) hx hb hts inX1 tyX1 tyX1_ok nmX1 hown hK hP hD hS 0 rfl rfl 2 (by decide) lk18 (fun _ h9 => h9) rfl (by decide +kernel) rfl rfl (Nat.le_of_ble_eq_true rfl) dX1_take_28 (fun H locs hP hD hS => ?_)
    have hset : ∀ v9 : Int32, (zfOO cI cO Oo Uo Os_15 Us).set 0 (Oo, .inr (1, ([.int (Os_15 0), .int (Os_15 1), .int (Os_15 2), .int (Os_15 3), .int (Os_15 4), .int (Os_15 5), .int (Os_15 6), .int (Os_15 7), .int (Os_15 8)] : List Value).set 2 (.int v9))) = (zfOO cI cO Oo Uo (upd Os_15 2 v9) Us) := fun _ => rfl
    obtain ⟨Os_16, eOs_16, hP, hD⟩ : ∃ y9, y9 = (upd Os_15 2 a0) ∧ va_P D vwCl (zfOO cI cO Oo Uo y9 Us) H ∧ va_D A (zfOO cI cO Oo Uo y9 Us) := ⟨_, rfl, zsetP (hset _) hP, zsetD (hset _) hD⟩
    have h := zlt_s h eOs_16
    clear hset
    cases zend h
    exact K31 _ _ _ hP hD hS (lv_sub hl [0, 1, 2] rfl)
  clear eJ18
  refine lv_if_eq (tgt := 18) hx hb dX1_take_4 (by decide) (fun c17 => ?_) (fun c17 => ?_)
  · have h := zif_t c17 h
    exact K18 _ h _ _ _ hP hD hS (lv_sub hl [0, 1, 2] rfl)
  · have h := zif_f c17 h
    refine lv_aload_n hx hb dX1_take_7 rfl (lv_at hl 2 rfl) ?_
    refine va_get (D := D) (ci := 1) (v := .int (Us 1)) (C := RX1) (T := TX1) (N := 9) hx hb hts inX1 hown hK hP 1 rfl rfl 1 (by decide) lk15 (fun _ h9 => h9) rfl dX1_take_8 ?_
    refine lv_aload_n hx hb dX1_take_11 rfl (lv_at hl 0 rfl) ?_
    refine va_get (D := D) (ci := 1) (v := .int (Os 1)) (C := RX1) (T := TX1) (N := 9) hx hb hts inX1 hown hK hP 0 rfl rfl 1 (by decide) lk15 (fun _ h9 => h9) rfl dX1_take_12 ?_
    refine lv_icmp_ge (tgt := 31) hx hb dX1_take_15 (by decide) (fun c18 => ?_) (fun c18 => ?_)
    · have h := zif_t c18 h
      cases zend h
      exact K31 _ _ _ hP hD hS (lv_sub hl [0, 1, 2] rfl)
    · have h := zif_f c18 h
      exact K18 _ h _ _ _ hP hD hS (lv_sub hl [0, 1, 2] rfl)
set_option maxHeartbeats 4000000 in
set_option maxRecDepth 100000 in
theorem c_X1_end (l : Launch) (D : va_G) (cI cB cO : ClassId) (Oo : Nat) (Os : Nat → Int32) (a0 : Int32) (a1 : Int32) (Os' : Nat → Int32) (sz : Nat) (h : fX1_end Os a0 a1 = some Os') : Met l yX1_end wsX1_end ({ frames := 0, cells := 0, slots := 0, locals := 0 } : Room) (va_Pc [.ref Oo, .int a0, .int a1] (zPre D (zTY cI cB cO) (zwO Oo Os) sz)) (va_Qv (fun (_ : Unit) => True) (fun _ => zPost D (zTY cI cB cO) (zwO Oo Os') (va_A (zwO Oo Os) sz)) (va_A (zwO Oo Os) sz)) 0 0 (va_A (zwO Oo Os) sz) := by
  unfold fX1_end at h
  refine zmet_v (cc := cX1_end) (maxL := 3) (by decide) rfl (Nat.le_of_ble_eq_true rfl) rfl rfl ?_
  intro p e s m args below meth c R Q A ls hx hb hts hown hml hK hP hD hE hA hS hRf hRl hl hq
  have hown : s.vm.findClass RX1 = some m.cls := hown
  have hl : lv_has ls 3 [(0, .ref Oo), (1, .int a0), (2, .int a1)] := hl
  have inX1 : ∀ w ∈ u_ws RX1 TX1 9, w ∈ wsX1_end := by decide +kernel
  have lk9 : (Cond.fieldLink RX1 9 "PegField$Outcome" "choices" "I").before args s = true := hts _ (by decide +kernel)
  have lk15 : (Cond.fieldLink RX1 15 "PegField$Outcome" "fewest" "I").before args s = true := hts _ (by decide +kernel)
  have lk21 : (Cond.fieldLink RX1 21 "PegField$Outcome" "ways" "I").before args s = true := hts _ (by decide +kernel)
  have lk30 : (Cond.fieldLink RX1 30 "PegField$Outcome" "alone" "I").before args s = true := hts _ (by decide +kernel)
  have lk36 : (Cond.fieldLink RX1 36 "PegField$Outcome" "mean" "I").before args s = true := hts _ (by decide +kernel)
  refine lv_aload_n hx hb dX1_end_0 rfl (lv_at hl 0 rfl) ?_
  refine va_get (D := D) (ci := 1) (v := .int (Os 0)) (C := RX1) (T := TX1) (N := 9) hx hb hts inX1 hown hK hP 0 rfl rfl 0 (by decide) lk9 (fun _ h9 => h9) rfl dX1_end_1 ?_
  refine lv_if_le (tgt := 23) hx hb dX1_end_4 (by decide) (fun c1 => ?_) (fun c1 => ?_)
  · have h := zif_t c1 h
    refine lv_aload_n hx hb dX1_end_23 rfl (lv_at hl 0 rfl) ?_
    refine lv_iload_n hx hb dX1_end_24 rfl (lv_at hl 1 rfl) ?_
    refine va_put (D := D) (ci := 1) (v := .int a0) (ty := .int) (C := RX1) (T := TX1) (N := 9) hx hb hts inX1 tyX1 tyX1_ok nmX1 hown hK hP hD hS 0 rfl rfl 1 (by decide) lk15 (fun _ h9 => h9) rfl (by decide +kernel) rfl rfl (Nat.le_of_ble_eq_true rfl) dX1_end_25 (fun H locs hP hD hS => ?_)
    have hset : ∀ v9 : Int32, (zwO Oo Os).set 0 (Oo, .inr (1, ([.int (Os 0), .int (Os 1), .int (Os 2), .int (Os 3), .int (Os 4), .int (Os 5), .int (Os 6), .int (Os 7), .int (Os 8)] : List Value).set 1 (.int v9))) = (zwO Oo (upd Os 1 v9)) := fun _ => rfl
    obtain ⟨Os_2, eOs_2, hP, hD⟩ : ∃ y9, y9 = (upd Os 1 a0) ∧ va_P D vwCl (zwO Oo y9) H ∧ va_D A (zwO Oo y9) := ⟨_, rfl, zsetP (hset _) hP, zsetD (hset _) hD⟩
    have h := zlt_s h eOs_2
    clear hset
    refine lv_aload_n hx hb dX1_end_28 rfl (lv_at hl 0 rfl) ?_
    refine lv_iconst (v := (1 : Int32)) hx hb dX1_end_29 (by decide) ?_
    refine va_put (D := D) (ci := 1) (v := .int (1 : Int32)) (ty := .int) (C := RX1) (T := TX1) (N := 9) hx hb hts inX1 tyX1 tyX1_ok nmX1 hown hK hP hD hS 0 rfl rfl 3 (by decide) lk21 (fun _ h9 => h9) rfl (by decide +kernel) rfl rfl (Nat.le_of_ble_eq_true rfl) dX1_end_30 (fun H locs hP hD hS => ?_)
    have hset : ∀ v9 : Int32, (zwO Oo Os_2).set 0 (Oo, .inr (1, ([.int (Os_2 0), .int (Os_2 1), .int (Os_2 2), .int (Os_2 3), .int (Os_2 4), .int (Os_2 5), .int (Os_2 6), .int (Os_2 7), .int (Os_2 8)] : List Value).set 3 (.int v9))) = (zwO Oo (upd Os_2 3 v9)) := fun _ => rfl
    obtain ⟨Os_3, eOs_3, hP, hD⟩ : ∃ y9, y9 = (upd Os_2 3 (1 : Int32)) ∧ va_P D vwCl (zwO Oo y9) H ∧ va_D A (zwO Oo y9) := ⟨_, rfl, zsetP (hset _) hP, zsetD (hset _) hD⟩
    have h := zlt_s h eOs_3
    clear hset
    refine lv_aload_n hx hb dX1_end_33 rfl (lv_at hl 0 rfl) ?_
    refine lv_iload_n hx hb dX1_end_34 rfl (lv_at hl 2 rfl) ?_
    refine va_put (D := D) (ci := 1) (v := .int a1) (ty := .int) (C := RX1) (T := TX1) (N := 9) hx hb hts inX1 tyX1 tyX1_ok nmX1 hown hK hP hD hS 0 rfl rfl 6 (by decide) lk30 (fun _ h9 => h9) rfl (by decide +kernel) rfl rfl (Nat.le_of_ble_eq_true rfl) dX1_end_35 (fun H locs hP hD hS => ?_)
    have hset : ∀ v9 : Int32, (zwO Oo Os_3).set 0 (Oo, .inr (1, ([.int (Os_3 0), .int (Os_3 1), .int (Os_3 2), .int (Os_3 3), .int (Os_3 4), .int (Os_3 5), .int (Os_3 6), .int (Os_3 7), .int (Os_3 8)] : List Value).set 6 (.int v9))) = (zwO Oo (upd Os_3 6 v9)) := fun _ => rfl
    obtain ⟨Os_4, eOs_4, hP, hD⟩ : ∃ y9, y9 = (upd Os_3 6 a1) ∧ va_P D vwCl (zwO Oo y9) H ∧ va_D A (zwO Oo y9) := ⟨_, rfl, zsetP (hset _) hP, zsetD (hset _) hD⟩
    have h := zlt_s h eOs_4
    clear hset
    refine lv_aload_n hx hb dX1_end_38 rfl (lv_at hl 0 rfl) ?_
    refine lv_sipush (v := (1000 : Int32)) hx hb dX1_end_39 (by decide) ?_
    refine lv_iload_n hx hb dX1_end_42 rfl (lv_at hl 1 rfl) ?_
    refine lv_imul hx hb dX1_end_43 ?_
    refine va_put (D := D) (ci := 1) (v := .int ((1000 : Int32) * a0)) (ty := .int) (C := RX1) (T := TX1) (N := 9) hx hb hts inX1 tyX1 tyX1_ok nmX1 hown hK hP hD hS 0 rfl rfl 8 (by decide) lk36 (fun _ h9 => h9) rfl (by decide +kernel) rfl rfl (Nat.le_of_ble_eq_true rfl) dX1_end_44 (fun H locs hP hD hS => ?_)
    have hset : ∀ v9 : Int32, (zwO Oo Os_4).set 0 (Oo, .inr (1, ([.int (Os_4 0), .int (Os_4 1), .int (Os_4 2), .int (Os_4 3), .int (Os_4 4), .int (Os_4 5), .int (Os_4 6), .int (Os_4 7), .int (Os_4 8)] : List Value).set 8 (.int v9))) = (zwO Oo (upd Os_4 8 v9)) := fun _ => rfl
    obtain ⟨Os_5, eOs_5, hP, hD⟩ : ∃ y9, y9 = (upd Os_4 8 ((1000 : Int32) * a0)) ∧ va_P D vwCl (zwO Oo y9) H ∧ va_D A (zwO Oo y9) := ⟨_, rfl, zsetP (hset _) hP, zsetD (hset _) hD⟩
    have h := zlt_s h eOs_5
    clear hset
    cases zend h
    exact hq hP hD hS dX1_end_47
  · have h := zif_f c1 h
    refine lv_aload_n hx hb dX1_end_7 rfl (lv_at hl 0 rfl) ?_
    refine lv_dup hx hb dX1_end_8 rfl ?_
    refine va_get (D := D) (ci := 1) (v := .int (Os 8)) (C := RX1) (T := TX1) (N := 9) hx hb hts inX1 hown hK hP 0 rfl rfl 8 (by decide) lk36 (fun _ h9 => h9) rfl dX1_end_9 ?_
    refine lv_aload_n hx hb dX1_end_12 rfl (lv_at hl 0 rfl) ?_
    refine va_get (D := D) (ci := 1) (v := .int (Os 0)) (C := RX1) (T := TX1) (N := 9) hx hb hts inX1 hown hK hP 0 rfl rfl 0 (by decide) lk9 (fun _ h9 => h9) rfl dX1_end_13 ?_
    obtain ⟨z6, h⟩ := zck_s h
    refine lv_idiv hx hb dX1_end_16 (zne_s z6) ?_
    refine va_put (D := D) (ci := 1) (v := .int ((Os 8) / (Os 0))) (ty := .int) (C := RX1) (T := TX1) (N := 9) hx hb hts inX1 tyX1 tyX1_ok nmX1 hown hK hP hD hS 0 rfl rfl 8 (by decide) lk36 (fun _ h9 => h9) rfl (by decide +kernel) rfl rfl (Nat.le_of_ble_eq_true rfl) dX1_end_17 (fun H locs hP hD hS => ?_)
    have hset : ∀ v9 : Int32, (zwO Oo Os).set 0 (Oo, .inr (1, ([.int (Os 0), .int (Os 1), .int (Os 2), .int (Os 3), .int (Os 4), .int (Os 5), .int (Os 6), .int (Os 7), .int (Os 8)] : List Value).set 8 (.int v9))) = (zwO Oo (upd Os 8 v9)) := fun _ => rfl
    obtain ⟨Os_7, eOs_7, hP, hD⟩ : ∃ y9, y9 = (upd Os 8 ((Os 8) / (Os 0))) ∧ va_P D vwCl (zwO Oo y9) H ∧ va_D A (zwO Oo y9) := ⟨_, rfl, zsetP (hset _) hP, zsetD (hset _) hD⟩
    have h := zlt_s h eOs_7
    clear hset
    refine lv_goto (tgt := 47) hx hb dX1_end_20 (by decide) ?_
    cases zend h
    exact hq hP hD hS dX1_end_47
