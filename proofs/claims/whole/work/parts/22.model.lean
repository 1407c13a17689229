set_option maxHeartbeats 4000000 in
set_option maxRecDepth 100000 in
theorem c_X6_within (l : Launch) (D : va_G) (cI cB cO : ClassId)   (a0 : Int32) (a1 : Int32) (a2 : Int32) (rv : Int32) (sz : Nat) (h : fX6_within a0 a1 a2 = some rv) : Met l yX6_within wsX6_within ({ frames := 0, cells := 0, slots := 0, locals := 0 } : Room) (va_Pc [.int a0, .int a1, .int a2] (zPre D (zTY cI cB cO) ([] : va_W) sz)) (va_Qi (fun r (_ : Unit) => r = rv) (fun _ => zPost D (zTY cI cB cO) ([] : va_W) (va_A ([] : va_W) sz)) (va_A ([] : va_W) sz)) 0 0 (va_A ([] : va_W) sz) := by
  unfold fX6_within at h
  refine zmet_z (cc := cX6_within) (maxL := 3) (by decide) rfl (Nat.le_of_ble_eq_true rfl) rfl rfl ?_
  intro p e s m args below meth c R Q A ls hx hb hts hown hml hK hP hD hE hA hS hRf hRl hl hq
  have hown : s.vm.findClass RX6 = some m.cls := hown
  have hl : lv_has ls 3 [(0, .int a0), (1, .int a1), (2, .int a2)] := hl
  refine lv_iload_n hx hb dX6_within_0 rfl (lv_at hl 0 rfl) ?_
  refine lv_iload_n hx hb dX6_within_1 rfl (lv_at hl 1 rfl) ?_
  refine lv_icmp_lt (tgt := 14) hx hb dX6_within_2 (by decide) (fun c1 => ?_) (fun c1 => ?_)
  · have h := zif_t c1 h
    refine lv_iconst (v := (0 : Int32)) hx hb dX6_within_14 (by decide) ?_
    cases zend h
    exact hq hP hD hS (by decide) dX6_within_15
  · have h := zif_f c1 h
    refine lv_iload_n hx hb dX6_within_5 rfl (lv_at hl 0 rfl) ?_
    refine lv_iload_n hx hb dX6_within_6 rfl (lv_at hl 2 rfl) ?_
    refine lv_icmp_gt (tgt := 14) hx hb dX6_within_7 (by decide) (fun c2 => ?_) (fun c2 => ?_)
    · have h := zif_t c2 h
      refine lv_iconst (v := (0 : Int32)) hx hb dX6_within_14 (by decide) ?_
      cases zend h
      exact hq hP hD hS (by decide) dX6_within_15
    · have h := zif_f c2 h
      refine lv_iconst (v := (1 : Int32)) hx hb dX6_within_10 (by decide) ?_
      refine lv_goto (tgt := 15) hx hb dX6_within_11 (by decide) ?_
      cases zend h
      exact hq hP hD hS (by decide) dX6_within_15
set_option maxHeartbeats 4000000 in
set_option maxRecDepth 100000 in
theorem c_X6_isIn (l : Launch) (D : va_G) (cI cB cO : ClassId)   (a0 : Int32) (a1 : Int32) (rv : Int32) (sz : Nat) (h : fX6_isIn a0 a1 = some rv) : Met l yX6_isIn wsX6_isIn ({ frames := 0, cells := 0, slots := 0, locals := 0 } : Room) (va_Pc [.int a0, .int a1] (zPre D (zTY cI cB cO) ([] : va_W) sz)) (va_Qi (fun r (_ : Unit) => r = rv) (fun _ => zPost D (zTY cI cB cO) ([] : va_W) (va_A ([] : va_W) sz)) (va_A ([] : va_W) sz)) 0 0 (va_A ([] : va_W) sz) := by
  unfold fX6_isIn at h
  refine zmet_z (cc := cX6_isIn) (maxL := 2) (by decide) rfl (Nat.le_of_ble_eq_true rfl) rfl rfl ?_
  intro p e s m args below meth c R Q A ls hx hb hts hown hml hK hP hD hE hA hS hRf hRl hl hq
  have hown : s.vm.findClass RX6 = some m.cls := hown
  have hl : lv_has ls 2 [(0, .int a0), (1, .int a1)] := hl
  refine lv_iload_n hx hb dX6_isIn_0 rfl (lv_at hl 0 rfl) ?_
  refine lv_iload_n hx hb dX6_isIn_1 rfl (lv_at hl 1 rfl) ?_
  refine lv_ishr hx hb dX6_isIn_2 ?_
  refine lv_iconst (v := (1 : Int32)) hx hb dX6_isIn_3 (by decide) ?_
  refine lv_iand hx hb dX6_isIn_4 ?_
  refine lv_iconst (v := (1 : Int32)) hx hb dX6_isIn_5 (by decide) ?_
  refine lv_icmp_ne (tgt := 13) hx hb dX6_isIn_6 (by decide) (fun c1 => ?_) (fun c1 => ?_)
  · have h := zif_f c1 h
    refine lv_iconst (v := (0 : Int32)) hx hb dX6_isIn_13 (by decide) ?_
    cases zend h
    exact hq hP hD hS (by decide) dX6_isIn_14
  · have h := zif_t c1 h
    refine lv_iconst (v := (1 : Int32)) hx hb dX6_isIn_9 (by decide) ?_
    refine lv_goto (tgt := 14) hx hb dX6_isIn_10 (by decide) ?_
    cases zend h
    exact hq hP hD hS (by decide) dX6_isIn_14
set_option maxHeartbeats 4000000 in
set_option maxRecDepth 100000 in
theorem c_X6_size (l : Launch) (D : va_G) (cI cB cO : ClassId)   (a0 : Int32) (rv : Int32) (sz : Nat) (h : fX6_size a0 = some rv) : Met l yX6_size wsX6_size ({ frames := 0, cells := 0, slots := 0, locals := 0 } : Room) (va_Pc [.int a0] (zPre D (zTY cI cB cO) ([] : va_W) sz)) (va_Qi (fun r (_ : Unit) => r = rv) (fun _ => zPost D (zTY cI cB cO) ([] : va_W) (va_A ([] : va_W) sz)) (va_A ([] : va_W) sz)) 0 0 (va_A ([] : va_W) sz) := by
  unfold fX6_size at h
  refine zmet_i (cc := cX6_size) (maxL := 3) (by decide) rfl (Nat.le_of_ble_eq_true rfl) rfl rfl ?_
  intro p e s m args below meth c R Q A ls hx hb hts hown hml hK hP hD hE hA hS hRf hRl hl hq
  have hown : s.vm.findClass RX6 = some m.cls := hown
  have hl : lv_has ls 3 [(0, .int a0)] := hl
  refine lv_iconst (v := (0 : Int32)) hx hb dX6_size_0 (by decide) ?_
  refine lv_istore_n (lv' := [(1, .int (0 : Int32)), (0, .int a0)]) hx hb dX6_size_1 rfl hl (by decide) rfl (fun ls hl => ?_)
  refine lv_iconst (v := (0 : Int32)) hx hb dX6_size_2 (by decide) ?_
  refine lv_istore_n (lv' := [(2, .int (0 : Int32)), (1, .int (0 : Int32)), (0, .int a0)]) hx hb dX6_size_3 rfl hl (by decide) rfl (fun ls hl => ?_)
  obtain ⟨x1_24x4, i4, h⟩ := zb1_s h
  have KX24 : ∀ (H : Heap) (locs : List Loc) (ls : Array Slot), va_P D vwCl ([] : va_W) H → va_D A ([] : va_W) → va_S A s.heap H locs → lv_has ls 3 [(1, .int x1_24x4)] → W p l e R s m args below meth c H locs 0 0 Q (F0 m 24 ls []) := by
    intro H locs ls hP hD hS hl
    refine lv_iload_n hx hb dX6_size_24 rfl (lv_at hl 0 rfl) ?_
    cases zend h
    exact hq hP hD hS dX6_size_25
  clear h
  refine zi2_ind (P := (fun (x1_4h : Int32) (x2_4h : Int32) => ∀ (H : Heap) (locs : List Loc) (ls : Array Slot), va_P D vwCl ([] : va_W) H → va_D A ([] : va_W) → va_S A s.heap H locs → lv_has ls 3 [(0, .int a0), (1, .int x1_4h), (2, .int x2_4h)] → W p l e R s m args below meth c H locs 0 0 Q (F0 m 4 ls []))) ?_ i4 _ _ _ hP hD hS (lv_sub hl [2, 1, 0] rfl)
  clear i4 hP hD hS hl
  intro x1_4h x2_4h z4 h zl4 zr4 H locs ls hP hD hS hl
  refine lv_iload_n hx hb dX6_size_4 rfl (lv_at hl 2 rfl) ?_
  refine lv_bipush (v := (12 : Int32)) hx hb dX6_size_5 (by decide) ?_
  refine lv_icmp_ge (tgt := 24) hx hb dX6_size_7 (by decide) (fun c2 => ?_) (fun c2 => ?_)
  · have h := zif_t c2 h
    cases zr4 _ (zend h).symm
    exact KX24 _ _ _ hP hD hS (lv_sub hl [1] rfl)
  · have h := zif_f c2 h
    refine lv_iload_n hx hb dX6_size_10 rfl (lv_at hl 1 rfl) ?_
    refine lv_iload_n hx hb dX6_size_11 rfl (lv_at hl 0 rfl) ?_
    refine lv_iload_n hx hb dX6_size_12 rfl (lv_at hl 2 rfl) ?_
    refine lv_ishr hx hb dX6_size_13 ?_
    refine lv_iconst (v := (1 : Int32)) hx hb dX6_size_14 (by decide) ?_
    refine lv_iand hx hb dX6_size_15 ?_
    refine lv_iadd hx hb dX6_size_16 ?_
    refine lv_topi (fun x1_3 ex1_3 => ?_)
    have h := zlt_s h ex1_3
    refine lv_istore_n (lv' := [(1, .int x1_3), (0, .int a0), (2, .int x2_4h)]) hx hb dX6_size_17 rfl hl (by decide) rfl (fun ls hl => ?_)
    refine lv_iinc (v := (x2_4h + (1 : Int32))) (lv' := [(2, .int (x2_4h + (1 : Int32))), (1, .int x1_3), (0, .int a0)]) hx hb dX6_size_18 hl (k := 2) rfl rfl (by decide) rfl (fun ls hl => ?_)
    refine lv_goto (tgt := 4) hx hb dX6_size_21 (by decide) ?_
    exact zl4 _ _ (zend h).symm _ _ _ hP hD hS (lv_sub hl [2, 1, 0] rfl)
set_option maxHeartbeats 4000000 in
set_option maxRecDepth 100000 in
theorem c_X6_letter (l : Launch) (D : va_G) (cI cB cO : ClassId) (Mo : Nat) (Mp : Nat → Nat) (Ms : Nat → Int32) (Mj : Nat → Int64) (Ma : Nat → Nat → Int32) (a0 : Int32) (rv : Int32) (Ms' : Nat → Int32) (Ma' : Nat → Nat → Int32) (sz : Nat) (h : fX6_letter Ms Ma a0 = some (rv, Ms', Ma')) : Met l yX6_letter wsX6_letter ({ frames := 1, cells := 0, slots := 0, locals := 22 } : Room) (va_Pc [.ref Mo, .int a0] (zPre D (zTY cI cB cO) (zwM cI cB Mo Mp Ms Mj Ma) sz)) (va_Qi (fun r (_ : Unit) => r = rv) (fun _ => zPost D (zTY cI cB cO) (zwM cI cB Mo Mp Ms' Mj Ma') (va_A (zwM cI cB Mo Mp Ms Mj Ma) sz)) (va_A (zwM cI cB Mo Mp Ms Mj Ma) sz)) 0 0 (va_A (zwM cI cB Mo Mp Ms Mj Ma) sz) := by
  unfold fX6_letter at h
  refine zmet_i (cc := cX6_letter) (maxL := 2) (by decide) rfl (Nat.le_of_ble_eq_true rfl) rfl rfl ?_
  intro p e s m args below meth c R Q A ls hx hb hts hown hml hK hP hD hE hA hS hRf hRl hl hq
  have hown : s.vm.findClass RX6 = some m.cls := hown
  have hl : lv_has ls 2 [(0, .ref Mo), (1, .int a0)] := hl
  have inX6 : ∀ w ∈ u_ws RX6 TX6 40, w ∈ wsX6_letter := by decide +kernel
  have lk81 : (Cond.fieldLink RX6 81 "PegFieldModel" "pageLength" "I").before args s = true := hts _ (by decide +kernel)
  have lk25 : (Cond.fieldLink RX6 25 "PegFieldModel" "page" "[B").before args s = true := hts _ (by decide +kernel)
  refine lv_iload_n hx hb dX6_letter_0 rfl (lv_at hl 1 rfl) ?_
  refine lv_bipush (v := (32 : Int32)) hx hb dX6_letter_1 (by decide) ?_
  refine lv_bipush (v := (126 : Int32)) hx hb dX6_letter_3 (by decide) ?_
  obtain ⟨r1, g2, h⟩ := zb1_s h
  have hFc := va_free (wc := ([] : va_W)) hD hS hA [] rfl
  refine zcp_i (va_runS (As := [.int a0, .int (32 : Int32), .int (126 : Int32)]) (rest := []) ⟨hx, hb, hml, hown, hts⟩ (c_X6_within l D cI cB cO a0 (32 : Int32) (126 : Int32) _ _ g2) (va_cwS 3 hts gX6_letter_X6_within rfl rfl rfl kS_X6_within ⟨Nat.le_trans (Nat.le_of_ble_eq_true rfl) hRf, Nat.le_trans (Nat.le_of_ble_eq_true rfl) hRl⟩) (zpreS hK hP hD hS hE hFc [] (rfl) rfl [.int a0, .int (32 : Int32), .int (126 : Int32)]) rfl rfl hl.1 rfl (lv_room (Nat.le_of_ble_eq_true rfl)) dX6_letter_5 ⟨Nat.zero_le _, Nat.zero_le _⟩) hP hD hS hFc [] (rfl) (fun H locs hP hS => ?_)
  clear hFc
  refine lv_if_ne (tgt := 14) hx hb dX6_letter_8 (by decide) (fun c3 => ?_) (fun c3 => ?_)
  · have h := zif_f c3 h
    refine lv_aload_n hx hb dX6_letter_14 rfl (lv_at hl 0 rfl) ?_
    refine va_get (D := D) (ci := 6) (v := .int (Ms 13)) (C := RX6) (T := TX6) (N := 40) hx hb hts inX6 hown hK hP 0 rfl rfl 13 (by decide) lk81 (fun _ h9 => h9) rfl dX6_letter_15 ?_
    refine lv_bipush (v := (18 : Int32)) hx hb dX6_letter_18 (by decide) ?_
    refine lv_icmp_ne (tgt := 26) hx hb dX6_letter_20 (by decide) (fun c4 => ?_) (fun c4 => ?_)
    · have h := zif_f c4 h
      refine lv_aload_n hx hb dX6_letter_26 rfl (lv_at hl 0 rfl) ?_
      refine va_get (D := D) (ci := 6) (v := .ref (Mp 14)) (C := RX6) (T := TX6) (N := 40) hx hb hts inX6 hown hK hP 0 rfl rfl 14 (by decide) lk25 (fun _ h9 => h9) rfl dX6_letter_27 ?_
      refine lv_aload_n hx hb dX6_letter_30 rfl (lv_at hl 0 rfl) ?_
      refine va_get (D := D) (ci := 6) (v := .int (Ms 13)) (C := RX6) (T := TX6) (N := 40) hx hb hts inX6 hown hK hP 0 rfl rfl 13 (by decide) lk81 (fun _ h9 => h9) rfl dX6_letter_31 ?_
      refine lv_iload_n hx hb dX6_letter_34 rfl (lv_at hl 1 rfl) ?_
      refine lv_i2b (v := (a0).toInt8.toInt32) hx hb dX6_letter_35 rfl ?_
      obtain ⟨z5, h⟩ := zck_s h
      refine va_bast hx hb hK hP hD hS 6 1 rfl rfl (zin_s z5) dX6_letter_36 (fun H locs hP hD hS => ?_)
      have hset : ∀ v9 : Nat → Int32, (zwM cI cB Mo Mp Ms Mj Ma).set 6 ((Mp 14), .inl (cB, 18, .inl v9)) = (zwM cI cB Mo Mp Ms Mj (va_up Ma 14 v9)) := fun _ => rfl
      obtain ⟨Ma_6, eMa_6, hP, hD⟩ : ∃ y9, y9 = (va_up Ma 14 (upd (Ma 14) ((Ms 13)).toNatClampNeg (vp_nar .byte (a0).toInt8.toInt32))) ∧ va_P D vwCl (zwM cI cB Mo Mp Ms Mj y9) H ∧ va_D A (zwM cI cB Mo Mp Ms Mj y9) := ⟨_, rfl, zsetP (hset _) hP, zsetD (hset _) hD⟩
      have h := zlt_s h eMa_6
      clear hset
      refine lv_aload_n hx hb dX6_letter_37 rfl (lv_at hl 0 rfl) ?_
      refine lv_dup hx hb dX6_letter_38 rfl ?_
      refine va_get (D := D) (ci := 6) (v := .int (Ms 13)) (C := RX6) (T := TX6) (N := 40) hx hb hts inX6 hown hK hP 0 rfl rfl 13 (by decide) lk81 (fun _ h9 => h9) rfl dX6_letter_39 ?_
      refine lv_iconst (v := (1 : Int32)) hx hb dX6_letter_42 (by decide) ?_
      refine lv_iadd hx hb dX6_letter_43 ?_
      refine va_put (D := D) (ci := 6) (v := .int ((Ms 13) + (1 : Int32))) (ty := .int) (C := RX6) (T := TX6) (N := 40) hx hb hts inX6 tyX6 tyX6_ok nmX6 hown hK hP hD hS 0 rfl rfl 13 (by decide) lk81 (fun _ h9 => h9) rfl (by decide +kernel) rfl rfl (Nat.le_of_ble_eq_true rfl) dX6_letter_44 (fun H locs hP hD hS => ?_)
      have hset : ∀ v9 : Int32, (zwM cI cB Mo Mp Ms Mj Ma_6).set 0 (Mo, .inr (6, ([.int (Ms 0), .int (Ms 1), .int (Ms 2), .int (Ms 3), .int (Ms 4), .ref (Mp 5), .ref (Mp 6), .int (Ms 7), .int (Ms 8), .int (Ms 9), .ref (Mp 10), .ref (Mp 11), .ref (Mp 12), .int (Ms 13), .ref (Mp 14), .int (Ms 15), .int (Ms 16), .ref (Mp 17), .ref (Mp 18), .ref (Mp 19), .ref (Mp 20), .ref (Mp 21), .ref (Mp 22), .ref (Mp 23), .ref (Mp 24), .ref (Mp 25), .ref (Mp 26), .ref (Mp 27), .long (Mj 28), .int (Ms 29), .int (Ms 30), .int (Ms 31), .int (Ms 32), .int (Ms 33), .ref (Mp 34), .ref (Mp 35), .ref (Mp 36), .ref (Mp 37), .ref (Mp 38), .long (Mj 39)] : List Value).set 13 (.int v9))) = (zwM cI cB Mo Mp (upd Ms 13 v9) Mj Ma_6) := fun _ => rfl
      obtain ⟨Ms_7, eMs_7, hP, hD⟩ : ∃ y9, y9 = (upd Ms 13 ((Ms 13) + (1 : Int32))) ∧ va_P D vwCl (zwM cI cB Mo Mp y9 Mj Ma_6) H ∧ va_D A (zwM cI cB Mo Mp y9 Mj Ma_6) := ⟨_, rfl, zsetP (hset _) hP, zsetD (hset _) hD⟩
      have h := zlt_s h eMs_7
      clear hset
      refine lv_aload_n hx hb dX6_letter_47 rfl (lv_at hl 0 rfl) ?_
      refine va_get (D := D) (ci := 6) (v := .int (Ms_7 13)) (C := RX6) (T := TX6) (N := 40) hx hb hts inX6 hown hK hP 0 rfl rfl 13 (by decide) lk81 (fun _ h9 => h9) rfl dX6_letter_48 ?_
      cases zend h
      exact hq hP hD hS dX6_letter_51
    · have h := zif_t c4 h
      refine lv_bipush (v := (-104 : Int32)) hx hb dX6_letter_23 (by decide) ?_
      cases zend h
      exact hq hP hD hS dX6_letter_25
  · have h := zif_t c3 h
    refine lv_bipush (v := (-102 : Int32)) hx hb dX6_letter_11 (by decide) ?_
    cases zend h
    exact hq hP hD hS dX6_letter_13
set_option maxHeartbeats 4000000 in
set_option maxRecDepth 100000 in
theorem c_X6_blank (l : Launch) (D : va_G) (cI cB cO : ClassId) (Mo : Nat) (Mp : Nat → Nat) (Ms : Nat → Int32) (Mj : Nat → Int64) (Ma : Nat → Nat → Int32)  (rv : Int32) (Ms' : Nat → Int32) (sz : Nat) (h : fX6_blank Ms = some (rv, Ms')) : Met l yX6_blank wsX6_blank ({ frames := 0, cells := 0, slots := 0, locals := 0 } : Room) (va_Pc [.ref Mo] (zPre D (zTY cI cB cO) (zwM cI cB Mo Mp Ms Mj Ma) sz)) (va_Qi (fun r (_ : Unit) => r = rv) (fun _ => zPost D (zTY cI cB cO) (zwM cI cB Mo Mp Ms' Mj Ma) (va_A (zwM cI cB Mo Mp Ms Mj Ma) sz)) (va_A (zwM cI cB Mo Mp Ms Mj Ma) sz)) 0 0 (va_A (zwM cI cB Mo Mp Ms Mj Ma) sz) := by
  unfold fX6_blank at h
  refine zmet_i (cc := cX6_blank) (maxL := 2) (by decide) rfl (Nat.le_of_ble_eq_true rfl) rfl rfl ?_
  intro p e s m args below meth c R Q A ls hx hb hts hown hml hK hP hD hE hA hS hRf hRl hl hq
  have hown : s.vm.findClass RX6 = some m.cls := hown
  have hl : lv_has ls 2 [(0, .ref Mo)] := hl
  have inX6 : ∀ w ∈ u_ws RX6 TX6 40, w ∈ wsX6_blank := by decide +kernel
  have lk81 : (Cond.fieldLink RX6 81 "PegFieldModel" "pageLength" "I").before args s = true := hts _ (by decide +kernel)
  refine lv_aload_n hx hb dX6_blank_0 rfl (lv_at hl 0 rfl) ?_
  refine va_get (D := D) (ci := 6) (v := .int (Ms 13)) (C := RX6) (T := TX6) (N := 40) hx hb hts inX6 hown hK hP 0 rfl rfl 13 (by decide) lk81 (fun _ h9 => h9) rfl dX6_blank_1 ?_
  refine lv_topi (fun x1_1 ex1_1 => ?_)
  have h := zlt_s h ex1_1
  refine lv_istore_n (lv' := [(1, .int x1_1), (0, .ref Mo)]) hx hb dX6_blank_4 rfl hl (by decide) rfl (fun ls hl => ?_)
  refine lv_aload_n hx hb dX6_blank_5 rfl (lv_at hl 1 rfl) ?_
  refine lv_iconst (v := (0 : Int32)) hx hb dX6_blank_6 (by decide) ?_
  refine va_put (D := D) (ci := 6) (v := .int (0 : Int32)) (ty := .int) (C := RX6) (T := TX6) (N := 40) hx hb hts inX6 tyX6 tyX6_ok nmX6 hown hK hP hD hS 0 rfl rfl 13 (by decide) lk81 (fun _ h9 => h9) rfl (by decide +kernel) rfl rfl (Nat.le_of_ble_eq_true rfl) dX6_blank_7 (fun H locs hP hD hS => ?_)
  have hset : ∀ v9 : Int32, (zwM cI cB Mo Mp Ms Mj Ma).set 0 (Mo, .inr (6, ([.int (Ms 0), .int (Ms 1), .int (Ms 2), .int (Ms 3), .int (Ms 4), .ref (Mp 5), .ref (Mp 6), .int (Ms 7), .int (Ms 8), .int (Ms 9), .ref (Mp 10), .ref (Mp 11), .ref (Mp 12), .int (Ms 13), .ref (Mp 14), .int (Ms 15), .int (Ms 16), .ref (Mp 17), .ref (Mp 18), .ref (Mp 19), .ref (Mp 20), .ref (Mp 21), .ref (Mp 22), .ref (Mp 23), .ref (Mp 24), .ref (Mp 25), .ref (Mp 26), .ref (Mp 27), .long (Mj 28), .int (Ms 29), .int (Ms 30), .int (Ms 31), .int (Ms 32), .int (Ms 33), .ref (Mp 34), .ref (Mp 35), .ref (Mp 36), .ref (Mp 37), .ref (Mp 38), .long (Mj 39)] : List Value).set 13 (.int v9))) = (zwM cI cB Mo Mp (upd Ms 13 v9) Mj Ma) := fun _ => rfl
  obtain ⟨Ms_2, eMs_2, hP, hD⟩ : ∃ y9, y9 = (upd Ms 13 (0 : Int32)) ∧ va_P D vwCl (zwM cI cB Mo Mp y9 Mj Ma) H ∧ va_D A (zwM cI cB Mo Mp y9 Mj Ma) := ⟨_, rfl, zsetP (hset _) hP, zsetD (hset _) hD⟩
  have h := zlt_s h eMs_2
  clear hset
  refine lv_iload_n hx hb dX6_blank_10 rfl (lv_at hl 0 rfl) ?_
  cases zend h
  exact hq hP hD hS dX6_blank_11
set_option maxHeartbeats 4000000 in
set_option maxRecDepth 100000 in
theorem c_X6_kindBy (l : Launch) (D : va_G) (cI cB cO : ClassId)   (a0 : Int32) (rv : Int32) (sz : Nat) (h : fX6_kindBy a0 = some rv) : Met l yX6_kindBy wsX6_kindBy ({ frames := 0, cells := 0, slots := 0, locals := 0 } : Room) (va_Pc [.int a0] (zPre D (zTY cI cB cO) ([] : va_W) sz)) (va_Qi (fun r (_ : Unit) => r = rv) (fun _ => zPost D (zTY cI cB cO) ([] : va_W) (va_A ([] : va_W) sz)) (va_A ([] : va_W) sz)) 0 0 (va_A ([] : va_W) sz) := by
  unfold fX6_kindBy at h
  refine zmet_i (cc := cX6_kindBy) (maxL := 1) (by decide) rfl (Nat.le_of_ble_eq_true rfl) rfl rfl ?_
  intro p e s m args below meth c R Q A ls hx hb hts hown hml hK hP hD hE hA hS hRf hRl hl hq
  have hown : s.vm.findClass RX6 = some m.cls := hown
  have hl : lv_has ls 1 [(0, .int a0)] := hl
  refine lv_iload_n hx hb dX6_kindBy_0 rfl (lv_at hl 0 rfl) ?_
  by_cases c1 : a0 = (98 : Int32)
  · have h := zif_t c1 h
    refine lv_lookup (tgt := 60) (off := 59) hx hb dX6_kindBy_1 (by decide) (by rw [c1]; decide) (by decide) ?_
    refine lv_iconst (v := (4 : Int32)) hx hb dX6_kindBy_60 (by decide) ?_
    cases zend h
    exact hq hP hD hS dX6_kindBy_61
  · have h := zif_f c1 h
    by_cases c2 : a0 = (102 : Int32)
    · have h := zif_t c2 h
      refine lv_lookup (tgt := 58) (off := 57) hx hb dX6_kindBy_1 (by decide) (by rw [c2]; decide) (by decide) ?_
      refine lv_iconst (v := (3 : Int32)) hx hb dX6_kindBy_58 (by decide) ?_
      cases zend h
      exact hq hP hD hS dX6_kindBy_59
    · have h := zif_f c2 h
      by_cases c3 : a0 = (112 : Int32)
      · have h := zif_t c3 h
        refine lv_lookup (tgt := 52) (off := 51) hx hb dX6_kindBy_1 (by decide) (by rw [c3]; decide) (by decide) ?_
        refine lv_iconst (v := (0 : Int32)) hx hb dX6_kindBy_52 (by decide) ?_
        cases zend h
        exact hq hP hD hS dX6_kindBy_53
      · have h := zif_f c3 h
        by_cases c4 : a0 = (115 : Int32)
        · have h := zif_t c4 h
          refine lv_lookup (tgt := 56) (off := 55) hx hb dX6_kindBy_1 (by decide) (by rw [c4]; decide) (by decide) ?_
          refine lv_iconst (v := (2 : Int32)) hx hb dX6_kindBy_56 (by decide) ?_
          cases zend h
          exact hq hP hD hS dX6_kindBy_57
        · have h := zif_f c4 h
          by_cases c5 : a0 = (120 : Int32)
          · have h := zif_t c5 h
            refine lv_lookup (tgt := 54) (off := 53) hx hb dX6_kindBy_1 (by decide) (by rw [c5]; decide) (by decide) ?_
            refine lv_iconst (v := (1 : Int32)) hx hb dX6_kindBy_54 (by decide) ?_
            cases zend h
            exact hq hP hD hS dX6_kindBy_55
          · have h := zif_f c5 h
            have nc1 := zne_i (k := 98) (98 : Int32) (by decide) c1
            have nc2 := zne_i (k := 102) (102 : Int32) (by decide) c2
            have nc3 := zne_i (k := 112) (112 : Int32) (by decide) c3
            have nc4 := zne_i (k := 115) (115 : Int32) (by decide) c4
            have nc5 := zne_i (k := 120) (120 : Int32) (by decide) c5
            refine lv_lookup (tgt := 62) (off := 61) hx hb dX6_kindBy_1 (by decide) (zlk [(98, 59), (102, 57), (112, 51), (115, 55), (120, 53)] 61 _ (List.forall_mem_cons.mpr ⟨nc1, (List.forall_mem_cons.mpr ⟨nc2, (List.forall_mem_cons.mpr ⟨nc3, (List.forall_mem_cons.mpr ⟨nc4, (List.forall_mem_cons.mpr ⟨nc5, (fun _ h => absurd h List.not_mem_nil)⟩)⟩)⟩)⟩)⟩)) (by decide) ?_
            refine lv_iconst (v := (-1 : Int32)) hx hb dX6_kindBy_62 (by decide) ?_
            cases zend h
            exact hq hP hD hS dX6_kindBy_63
set_option maxHeartbeats 4000000 in
set_option maxRecDepth 100000 in
theorem c_X6_at (l : Launch) (D : va_G) (cI cB cO : ClassId) (Mo : Nat) (Mp : Nat → Nat) (Ms : Nat → Int32) (Mj : Nat → Int64) (Ma : Nat → Nat → Int32) (a0 : Int32) (rv : Int32) (sz : Nat) (h : fX6_at Ms Ma a0 = some rv) : Met l yX6_at wsX6_at ({ frames := 0, cells := 0, slots := 0, locals := 0 } : Room) (va_Pc [.ref Mo, .int a0] (zPre D (zTY cI cB cO) (zwM cI cB Mo Mp Ms Mj Ma) sz)) (va_Qi (fun r (_ : Unit) => r = rv) (fun _ => zPost D (zTY cI cB cO) (zwM cI cB Mo Mp Ms Mj Ma) (va_A (zwM cI cB Mo Mp Ms Mj Ma) sz)) (va_A (zwM cI cB Mo Mp Ms Mj Ma) sz)) 0 0 (va_A (zwM cI cB Mo Mp Ms Mj Ma) sz) := by
  unfold fX6_at at h
  refine zmet_i (cc := cX6_at) (maxL := 2) (by decide) rfl (Nat.le_of_ble_eq_true rfl) rfl rfl ?_
  intro p e s m args below meth c R Q A ls hx hb hts hown hml hK hP hD hE hA hS hRf hRl hl hq
  have hown : s.vm.findClass RX6 = some m.cls := hown
  have hl : lv_has ls 2 [(0, .ref Mo), (1, .int a0)] := hl
  have inX6 : ∀ w ∈ u_ws RX6 TX6 40, w ∈ wsX6_at := by decide +kernel
  have lk81 : (Cond.fieldLink RX6 81 "PegFieldModel" "pageLength" "I").before args s = true := hts _ (by decide +kernel)
  have lk25 : (Cond.fieldLink RX6 25 "PegFieldModel" "page" "[B").before args s = true := hts _ (by decide +kernel)
  refine lv_iload_n hx hb dX6_at_0 rfl (lv_at hl 1 rfl) ?_
  refine lv_aload_n hx hb dX6_at_1 rfl (lv_at hl 0 rfl) ?_
  refine va_get (D := D) (ci := 6) (v := .int (Ms 13)) (C := RX6) (T := TX6) (N := 40) hx hb hts inX6 hown hK hP 0 rfl rfl 13 (by decide) lk81 (fun _ h9 => h9) rfl dX6_at_2 ?_
  refine lv_icmp_ge (tgt := 17) hx hb dX6_at_5 (by decide) (fun c1 => ?_) (fun c1 => ?_)
  · have h := zif_t c1 h
    refine lv_iconst (v := (0 : Int32)) hx hb dX6_at_17 (by decide) ?_
    cases zend h
    exact hq hP hD hS dX6_at_18
  · have h := zif_f c1 h
    refine lv_aload_n hx hb dX6_at_8 rfl (lv_at hl 0 rfl) ?_
    refine va_get (D := D) (ci := 6) (v := .ref (Mp 14)) (C := RX6) (T := TX6) (N := 40) hx hb hts inX6 hown hK hP 0 rfl rfl 14 (by decide) lk25 (fun _ h9 => h9) rfl dX6_at_9 ?_
    refine lv_iload_n hx hb dX6_at_12 rfl (lv_at hl 1 rfl) ?_
    obtain ⟨z2, h⟩ := zck_s h
    refine va_bald hx hb hK hP 6 1 rfl rfl (zin_s z2) dX6_at_13 ?_
    refine lv_goto (tgt := 18) hx hb dX6_at_14 (by decide) ?_
    cases zend h
    exact hq hP hD hS dX6_at_18
set_option maxHeartbeats 4000000 in
set_option maxRecDepth 100000 in
theorem c_X6_readPlaces (l : Launch) (D : va_G) (cI cB cO : ClassId) (Mo : Nat) (Mp : Nat → Nat) (Ms : Nat → Int32) (Mj : Nat → Int64) (Ma : Nat → Nat → Int32) (a0 : Int32) (rv : Int32) (Ms' : Nat → Int32) (sz : Nat) (h : fX6_readPlaces Ms Ma a0 = some (rv, Ms')) : Met l yX6_readPlaces wsX6_readPlaces ({ frames := 1, cells := 0, slots := 0, locals := 21 } : Room) (va_Pc [.ref Mo, .int a0] (zPre D (zTY cI cB cO) (zwM cI cB Mo Mp Ms Mj Ma) sz)) (va_Qi (fun r (_ : Unit) => r = rv) (fun _ => zPost D (zTY cI cB cO) (zwM cI cB Mo Mp Ms' Mj Ma) (va_A (zwM cI cB Mo Mp Ms Mj Ma) sz)) (va_A (zwM cI cB Mo Mp Ms Mj Ma) sz)) 0 0 (va_A (zwM cI cB Mo Mp Ms Mj Ma) sz) := by
  unfold fX6_readPlaces at h
  refine zmet_i (cc := cX6_readPlaces) (maxL := 4) (by decide) rfl (Nat.le_of_ble_eq_true rfl) rfl rfl ?_
  intro p e s m args below meth c R Q A ls hx hb hts hown hml hK hP hD hE hA hS hRf hRl hl hq
  have hown : s.vm.findClass RX6 = some m.cls := hown
  have hl : lv_has ls 4 [(0, .ref Mo), (1, .int a0)] := hl
  have inX6 : ∀ w ∈ u_ws RX6 TX6 40, w ∈ wsX6_readPlaces := by decide +kernel
  have lk92 : (Cond.fieldLink RX6 92 "PegFieldModel" "newPegs" "I").before args s = true := hts _ (by decide +kernel)
  have lk81 : (Cond.fieldLink RX6 81 "PegFieldModel" "pageLength" "I").before args s = true := hts _ (by decide +kernel)
  have lk95 : (Cond.fieldLink RX6 95 "PegFieldModel" "isWhole" "Z").before args s = true := hts _ (by decide +kernel)
  refine lv_iconst (v := (3 : Int32)) hx hb dX6_readPlaces_0 (by decide) ?_
  refine lv_istore_n (lv' := [(2, .int (3 : Int32)), (0, .ref Mo), (1, .int a0)]) hx hb dX6_readPlaces_1 rfl hl (by decide) rfl (fun ls hl => ?_)
  obtain ⟨y1, i26, h1y1, h2y1⟩ := zbs_s h
  clear h
  have KX64 : ∀ (x2_64x2 : Int32) (Ms_64x2 : Nat → Int32), y1 = (.inl (x2_64x2, Ms_64x2)) → ∀ (H : Heap) (locs : List Loc) (ls : Array Slot), va_P D vwCl (zwM cI cB Mo Mp Ms_64x2 Mj Ma) H → va_D A (zwM cI cB Mo Mp Ms_64x2 Mj Ma) → va_S A s.heap H locs → lv_has ls 4 [(2, .int x2_64x2)] → W p l e R s m args below meth c H locs 0 0 Q (F0 m 64 ls []) := by
    intro x2_64x2 Ms_64x2 ey1 H locs ls hP hD hS hl
    have h := h1y1 _ ey1
    simp only [zu2] at h
    refine lv_iload_n hx hb dX6_readPlaces_64 rfl (lv_at hl 0 rfl) ?_
    cases zend h
    exact hq hP hD hS dX6_readPlaces_65
  have KX90 : ∀ (x2_90x2 : Int32) (Ms_90x2 : Nat → Int32), y1 = (.inr (x2_90x2, Ms_90x2)) → ∀ (H : Heap) (locs : List Loc) (ls : Array Slot), va_P D vwCl (zwM cI cB Mo Mp Ms_90x2 Mj Ma) H → va_D A (zwM cI cB Mo Mp Ms_90x2 Mj Ma) → va_S A s.heap H locs → lv_has ls 4 [(0, .ref Mo), (2, .int x2_90x2)] → W p l e R s m args below meth c H locs 0 0 Q (F0 m 90 ls []) := by
    intro x2_90x2 Ms_90x2 ey1 H locs ls hP hD hS hl
    have h := h2y1 _ ey1
    simp only [zu2] at h
    refine lv_aload_n hx hb dX6_readPlaces_90 rfl (lv_at hl 0 rfl) ?_
    refine lv_aload_n hx hb dX6_readPlaces_91 rfl (lv_at hl 0 rfl) ?_
    refine va_get (D := D) (ci := 6) (v := .int (Ms_90x2 16)) (C := RX6) (T := TX6) (N := 40) hx hb hts inX6 hown hK hP 0 rfl rfl 16 (by decide) lk92 (fun _ h9 => h9) rfl dX6_readPlaces_92 ?_
    obtain ⟨v111, j23, h⟩ := zb1_s h
    have K111 : ∀ (H : Heap) (locs : List Loc) (ls : Array Slot), va_P D vwCl (zwM cI cB Mo Mp Ms_90x2 Mj Ma) H → va_D A (zwM cI cB Mo Mp Ms_90x2 Mj Ma) → va_S A s.heap H locs → lv_has ls 4 [(2, .int x2_90x2)] → W p l e R s m args below meth c H locs 0 0 Q (F0 m 111 ls [.int v111, .ref Mo]) := by
      intro H locs ls hP hD hS hl
      obtain ⟨z21, h⟩ := zck_s h
      refine va_put (D := D) (ci := 6) (v := .int v111) (ty := .boolean) (C := RX6) (T := TX6) (N := 40) hx hb hts inX6 tyX6 tyX6_ok nmX6 hown hK hP hD hS 0 rfl rfl 15 (by decide) lk95 (fun _ h9 => h9) rfl (by decide +kernel) (zbo_s z21) (zbo_f z21) (Nat.le_of_ble_eq_true rfl) dX6_readPlaces_111 (fun H locs hP hD hS => ?_)
      have hset : ∀ v9 : Int32, (zwM cI cB Mo Mp Ms_90x2 Mj Ma).set 0 (Mo, .inr (6, ([.int (Ms_90x2 0), .int (Ms_90x2 1), .int (Ms_90x2 2), .int (Ms_90x2 3), .int (Ms_90x2 4), .ref (Mp 5), .ref (Mp 6), .int (Ms_90x2 7), .int (Ms_90x2 8), .int (Ms_90x2 9), .ref (Mp 10), .ref (Mp 11), .ref (Mp 12), .int (Ms_90x2 13), .ref (Mp 14), .int (Ms_90x2 15), .int (Ms_90x2 16), .ref (Mp 17), .ref (Mp 18), .ref (Mp 19), .ref (Mp 20), .ref (Mp 21), .ref (Mp 22), .ref (Mp 23), .ref (Mp 24), .ref (Mp 25), .ref (Mp 26), .ref (Mp 27), .long (Mj 28), .int (Ms_90x2 29), .int (Ms_90x2 30), .int (Ms_90x2 31), .int (Ms_90x2 32), .int (Ms_90x2 33), .ref (Mp 34), .ref (Mp 35), .ref (Mp 36), .ref (Mp 37), .ref (Mp 38), .long (Mj 39)] : List Value).set 15 (.int v9))) = (zwM cI cB Mo Mp (upd Ms_90x2 15 v9) Mj Ma) := fun _ => rfl
      obtain ⟨Ms_22, eMs_22, hP, hD⟩ : ∃ y9, y9 = (upd Ms_90x2 15 v111) ∧ va_P D vwCl (zwM cI cB Mo Mp y9 Mj Ma) H ∧ va_D A (zwM cI cB Mo Mp y9 Mj Ma) := ⟨_, rfl, zsetP (hset _) hP, zsetD (hset _) hD⟩
      have h := zlt_s h eMs_22
      clear hset
      refine lv_iload_n hx hb dX6_readPlaces_114 rfl (lv_at hl 0 rfl) ?_
      cases zend h
      exact hq hP hD hS dX6_readPlaces_115
    clear h
    have h := j23
    clear j23
    obtain ⟨J110, eJ110, h⟩ := zjn_s h
    have K110 : ∀ (u : Unit), J110 u = some v111 → ∀ (H : Heap) (locs : List Loc) (ls : Array Slot), va_P D vwCl (zwM cI cB Mo Mp Ms_90x2 Mj Ma) H → va_D A (zwM cI cB Mo Mp Ms_90x2 Mj Ma) → va_S A s.heap H locs → lv_has ls 4 [(2, .int x2_90x2)] → W p l e R s m args below meth c H locs 0 0 Q (F0 m 110 ls [.ref Mo]) := by
      subst eJ110
      intro u h H locs ls hP hD hS hl
      refine lv_iconst (v := (0 : Int32)) hx hb dX6_readPlaces_110 (by decide) ?_
      cases zend h
      exact K111 _ _ _ hP hD hS (lv_sub hl [0] rfl)
    clear eJ110
    refine lv_if_le (tgt := 110) hx hb dX6_readPlaces_95 (by decide) (fun c24 => ?_) (fun c24 => ?_)
    · have h := zif_t c24 h
      exact K110 _ h _ _ _ hP hD hS (lv_sub hl [1] rfl)
    · have h := zif_f c24 h
      refine lv_iload_n hx hb dX6_readPlaces_98 rfl (lv_at hl 1 rfl) ?_
      refine lv_aload_n hx hb dX6_readPlaces_99 rfl (lv_at hl 0 rfl) ?_
      refine va_get (D := D) (ci := 6) (v := .int (Ms_90x2 13)) (C := RX6) (T := TX6) (N := 40) hx hb hts inX6 hown hK hP 0 rfl rfl 13 (by decide) lk81 (fun _ h9 => h9) rfl dX6_readPlaces_100 ?_
      refine lv_icmp_ne (tgt := 110) hx hb dX6_readPlaces_103 (by decide) (fun c25 => ?_) (fun c25 => ?_)
      · have h := zif_f c25 h
        exact K110 _ h _ _ _ hP hD hS (lv_sub hl [1] rfl)
      · have h := zif_t c25 h
        refine lv_iconst (v := (1 : Int32)) hx hb dX6_readPlaces_106 (by decide) ?_
        refine lv_goto (tgt := 111) hx hb dX6_readPlaces_107 (by decide) ?_
        cases zend h
        exact K111 _ _ _ hP hD hS (lv_sub hl [1] rfl)
  refine zi2_ind (P := (fun (x2_2h : Int32) (Ms_2h : Nat → Int32) => ∀ (H : Heap) (locs : List Loc) (ls : Array Slot), va_P D vwCl (zwM cI cB Mo Mp Ms_2h Mj Ma) H → va_D A (zwM cI cB Mo Mp Ms_2h Mj Ma) → va_S A s.heap H locs → lv_has ls 4 [(0, .ref Mo), (1, .int a0), (2, .int x2_2h)] → W p l e R s m args below meth c H locs 0 0 Q (F0 m 2 ls []))) ?_ i26 _ _ _ hP hD hS (lv_sub hl [1, 2, 0] rfl)
  clear i26 hP hD hS hl
  intro x2_2h Ms_2h z2 h zl2 zr2 H locs ls hP hD hS hl
  refine lv_iload_n hx hb dX6_readPlaces_2 rfl (lv_at hl 2 rfl) ?_
  refine lv_iconst (v := (3 : Int32)) hx hb dX6_readPlaces_3 (by decide) ?_
  refine lv_iload_n hx hb dX6_readPlaces_4 rfl (lv_at hl 1 rfl) ?_
  refine lv_iadd hx hb dX6_readPlaces_5 ?_
  refine lv_icmp_ge (tgt := 90) hx hb dX6_readPlaces_6 (by decide) (fun c2 => ?_) (fun c2 => ?_)
  · have h := zif_t c2 h
    exact KX90 _ _ (zr2 _ (zend h).symm).symm _ _ _ hP hD hS (lv_sub hl [0, 2] rfl)
  · have h := zif_f c2 h
    refine lv_aload_n hx hb dX6_readPlaces_9 rfl (lv_at hl 0 rfl) ?_
    refine lv_iload_n hx hb dX6_readPlaces_10 rfl (lv_at hl 2 rfl) ?_
    obtain ⟨r3, g4, h⟩ := zb1_s h
    have hFc := va_free (wc := (zwM cI cB Mo Mp Ms_2h Mj Ma)) hD hS hA [0, 1, 2, 3, 4, 5, 6, 7, 8, 9, 10, 11, 12, 13, 14, 15, 16, 17, 18, 19, 20, 21, 22] (zC_53 (cI := cI) (cB := cB) (cO := cO))
    refine zcp_i (va_runV (As := [.int x2_2h]) (rest := []) ⟨hx, hb, hml, hown, hts⟩ (c_X6_at l D cI cB cO Mo Mp Ms_2h Mj Ma x2_2h _ _ g4) (cwV 1 hts gX6_readPlaces_X6_at rfl rfl rfl kV_X6_at ⟨Nat.le_trans (Nat.le_of_ble_eq_true rfl) hRf, Nat.le_trans (Nat.le_of_ble_eq_true rfl) hRl⟩) (zpreV hK hP hD hS hE hFc [0, 1, 2, 3, 4, 5, 6, 7, 8, 9, 10, 11, 12, 13, 14, 15, 16, 17, 18, 19, 20, 21, 22] (zC_53 (cI := cI) (cB := cB) (cO := cO)) rfl 0 (ci := 6) rfl rfl [.int x2_2h]) rfl rfl hl.1 rfl (lv_room (Nat.le_of_ble_eq_true rfl)) dX6_readPlaces_11 ⟨Nat.zero_le _, Nat.zero_le _⟩) hP hD hS hFc [0, 1, 2, 3, 4, 5, 6, 7, 8, 9, 10, 11, 12, 13, 14, 15, 16, 17, 18, 19, 20, 21, 22] (zC_53 (cI := cI) (cB := cB) (cO := cO)) (fun H locs hP hS => ?_)
    clear hFc
    obtain ⟨r5, g6, h⟩ := zb1_s h
    have hFc := va_free (wc := ([] : va_W)) hD hS hA [] rfl
    refine zcp_i (va_runS (As := [.int r3]) (rest := []) ⟨hx, hb, hml, hown, hts⟩ (c_X6_kindBy l D cI cB cO r3 _ _ g6) (va_cwS 1 hts gX6_readPlaces_X6_kindBy rfl rfl rfl kS_X6_kindBy ⟨Nat.le_trans (Nat.le_of_ble_eq_true rfl) hRf, Nat.le_trans (Nat.le_of_ble_eq_true rfl) hRl⟩) (zpreS hK hP hD hS hE hFc [] (rfl) rfl [.int r3]) rfl rfl hl.1 rfl (lv_room (Nat.le_of_ble_eq_true rfl)) dX6_readPlaces_14 ⟨Nat.zero_le _, Nat.zero_le _⟩) hP hD hS hFc [] (rfl) (fun H locs hP hS => ?_)
    clear hFc
    refine lv_iconst (v := (-1 : Int32)) hx hb dX6_readPlaces_17 (by decide) ?_
    obtain ⟨v26, j19, h⟩ := zb1_s h
    have K26 : ∀ (H : Heap) (locs : List Loc) (ls : Array Slot), va_P D vwCl (zwM cI cB Mo Mp Ms_2h Mj Ma) H → va_D A (zwM cI cB Mo Mp Ms_2h Mj Ma) → va_S A s.heap H locs → lv_has ls 4 [(0, .ref Mo), (1, .int a0), (2, .int x2_2h)] → W p l e R s m args below meth c H locs 0 0 Q (F0 m 26 ls [.int v26]) := by
      intro H locs ls hP hD hS hl
      refine lv_istore_n (lv' := [(3, .int v26), (0, .ref Mo), (1, .int a0), (2, .int x2_2h)]) hx hb dX6_readPlaces_26 rfl hl (by decide) rfl (fun ls hl => ?_)
      refine lv_iload_n hx hb dX6_readPlaces_27 rfl (lv_at hl 0 rfl) ?_
      obtain ⟨J51, eJ51, h⟩ := zjn_s h
      have K51 : ∀ (u : Unit), J51 u = some z2 → ∀ (H : Heap) (locs : List Loc) (ls : Array Slot), va_P D vwCl (zwM cI cB Mo Mp Ms_2h Mj Ma) H → va_D A (zwM cI cB Mo Mp Ms_2h Mj Ma) → va_S A s.heap H locs → lv_has ls 4 [(0, .ref Mo), (1, .int a0), (2, .int x2_2h), (3, .int v26)] → W p l e R s m args below meth c H locs 0 0 Q (F0 m 51 ls []) := by
        subst eJ51
        intro u h H locs ls hP hD hS hl
        refine lv_iload_n hx hb dX6_readPlaces_51 rfl (lv_at hl 3 rfl) ?_
        obtain ⟨J66, eJ66, h⟩ := zjn_s h
        have K66 : ∀ (u : Unit), J66 u = some z2 → ∀ (H : Heap) (locs : List Loc) (ls : Array Slot), va_P D vwCl (zwM cI cB Mo Mp Ms_2h Mj Ma) H → va_D A (zwM cI cB Mo Mp Ms_2h Mj Ma) → va_S A s.heap H locs → lv_has ls 4 [(0, .ref Mo), (1, .int a0), (2, .int x2_2h), (3, .int v26)] → W p l e R s m args below meth c H locs 0 0 Q (F0 m 66 ls []) := by
          subst eJ66
          intro u h H locs ls hP hD hS hl
          refine lv_aload_n hx hb dX6_readPlaces_66 rfl (lv_at hl 0 rfl) ?_
          refine lv_dup hx hb dX6_readPlaces_67 rfl ?_
          refine va_get (D := D) (ci := 6) (v := .int (Ms_2h 16)) (C := RX6) (T := TX6) (N := 40) hx hb hts inX6 hown hK hP 0 rfl rfl 16 (by decide) lk92 (fun _ h9 => h9) rfl dX6_readPlaces_68 ?_
          refine lv_iload_n hx hb dX6_readPlaces_71 rfl (lv_at hl 3 rfl) ?_
          obtain ⟨v80, j8, h⟩ := zb1_s h
          have K80 : ∀ (H : Heap) (locs : List Loc) (ls : Array Slot), va_P D vwCl (zwM cI cB Mo Mp Ms_2h Mj Ma) H → va_D A (zwM cI cB Mo Mp Ms_2h Mj Ma) → va_S A s.heap H locs → lv_has ls 4 [(0, .ref Mo), (1, .int a0), (2, .int x2_2h)] → W p l e R s m args below meth c H locs 0 0 Q (F0 m 80 ls [.int v80, .int (Ms_2h 16), .ref Mo]) := by
            intro H locs ls hP hD hS hl
            refine lv_iadd hx hb dX6_readPlaces_80 ?_
            refine va_put (D := D) (ci := 6) (v := .int ((Ms_2h 16) + v80)) (ty := .int) (C := RX6) (T := TX6) (N := 40) hx hb hts inX6 tyX6 tyX6_ok nmX6 hown hK hP hD hS 0 rfl rfl 16 (by decide) lk92 (fun _ h9 => h9) rfl (by decide +kernel) rfl rfl (Nat.le_of_ble_eq_true rfl) dX6_readPlaces_81 (fun H locs hP hD hS => ?_)
            have hset : ∀ v9 : Int32, (zwM cI cB Mo Mp Ms_2h Mj Ma).set 0 (Mo, .inr (6, ([.int (Ms_2h 0), .int (Ms_2h 1), .int (Ms_2h 2), .int (Ms_2h 3), .int (Ms_2h 4), .ref (Mp 5), .ref (Mp 6), .int (Ms_2h 7), .int (Ms_2h 8), .int (Ms_2h 9), .ref (Mp 10), .ref (Mp 11), .ref (Mp 12), .int (Ms_2h 13), .ref (Mp 14), .int (Ms_2h 15), .int (Ms_2h 16), .ref (Mp 17), .ref (Mp 18), .ref (Mp 19), .ref (Mp 20), .ref (Mp 21), .ref (Mp 22), .ref (Mp 23), .ref (Mp 24), .ref (Mp 25), .ref (Mp 26), .ref (Mp 27), .long (Mj 28), .int (Ms_2h 29), .int (Ms_2h 30), .int (Ms_2h 31), .int (Ms_2h 32), .int (Ms_2h 33), .ref (Mp 34), .ref (Mp 35), .ref (Mp 36), .ref (Mp 37), .ref (Mp 38), .long (Mj 39)] : List Value).set 16 (.int v9))) = (zwM cI cB Mo Mp (upd Ms_2h 16 v9) Mj Ma) := fun _ => rfl
            obtain ⟨Ms_7, eMs_7, hP, hD⟩ : ∃ y9, y9 = (upd Ms_2h 16 ((Ms_2h 16) + v80)) ∧ va_P D vwCl (zwM cI cB Mo Mp y9 Mj Ma) H ∧ va_D A (zwM cI cB Mo Mp y9 Mj Ma) := ⟨_, rfl, zsetP (hset _) hP, zsetD (hset _) hD⟩
            have h := zlt_s h eMs_7
            clear hset
            refine lv_iinc (v := (x2_2h + (1 : Int32))) (lv' := [(2, .int (x2_2h + (1 : Int32))), (0, .ref Mo), (1, .int a0)]) hx hb dX6_readPlaces_84 hl (k := 2) rfl rfl (by decide) rfl (fun ls hl => ?_)
            refine lv_goto (tgt := 2) hx hb dX6_readPlaces_87 (by decide) ?_
            exact zl2 _ _ (zend h).symm _ _ _ hP hD hS (lv_sub hl [1, 2, 0] rfl)
          clear h
          have h := j8
          clear j8
          refine lv_if_eq (tgt := 79) hx hb dX6_readPlaces_72 (by decide) (fun c9 => ?_) (fun c9 => ?_)
          · have h := zif_t c9 h
            refine lv_iconst (v := (0 : Int32)) hx hb dX6_readPlaces_79 (by decide) ?_
            cases zend h
            exact K80 _ _ _ hP hD hS (lv_sub hl [0, 1, 2] rfl)
          · have h := zif_f c9 h
            refine lv_iconst (v := (1 : Int32)) hx hb dX6_readPlaces_75 (by decide) ?_
            refine lv_goto (tgt := 80) hx hb dX6_readPlaces_76 (by decide) ?_
            cases zend h
            exact K80 _ _ _ hP hD hS (lv_sub hl [0, 1, 2] rfl)
        clear eJ66
        refine lv_if_eq (tgt := 66) hx hb dX6_readPlaces_52 (by decide) (fun c10 => ?_) (fun c10 => ?_)
        · have h := zif_t c10 h
          exact K66 _ h _ _ _ hP hD hS (lv_sub hl [0, 1, 2, 3] rfl)
        · have h := zif_f c10 h
          refine lv_aload_n hx hb dX6_readPlaces_55 rfl (lv_at hl 0 rfl) ?_
          refine va_get (D := D) (ci := 6) (v := .int (Ms_2h 16)) (C := RX6) (T := TX6) (N := 40) hx hb hts inX6 hown hK hP 0 rfl rfl 16 (by decide) lk92 (fun _ h9 => h9) rfl dX6_readPlaces_56 ?_
          refine lv_bipush (v := (7 : Int32)) hx hb dX6_readPlaces_59 (by decide) ?_
          refine lv_icmp_ne (tgt := 66) hx hb dX6_readPlaces_61 (by decide) (fun c11 => ?_) (fun c11 => ?_)
          · have h := zif_f c11 h
            exact K66 _ h _ _ _ hP hD hS (lv_sub hl [0, 1, 2, 3] rfl)
          · have h := zif_t c11 h
            exact KX64 _ _ (zr2 _ (zend h).symm).symm _ _ _ hP hD hS (lv_sub hl [2] rfl)
      clear eJ51
      refine lv_if_ne (tgt := 51) hx hb dX6_readPlaces_28 (by decide) (fun c12 => ?_) (fun c12 => ?_)
      · have h := zif_f c12 h
        exact K51 _ h _ _ _ hP hD hS (lv_sub hl [1, 2, 3, 0] rfl)
      · have h := zif_t c12 h
        refine lv_aload_n hx hb dX6_readPlaces_31 rfl (lv_at hl 1 rfl) ?_
        refine lv_iload_n hx hb dX6_readPlaces_32 rfl (lv_at hl 3 rfl) ?_
        obtain ⟨r13, g14, h⟩ := zb1_s h
        have hFc := va_free (wc := (zwM cI cB Mo Mp Ms_2h Mj Ma)) hD hS hA [0, 1, 2, 3, 4, 5, 6, 7, 8, 9, 10, 11, 12, 13, 14, 15, 16, 17, 18, 19, 20, 21, 22] (zC_53 (cI := cI) (cB := cB) (cO := cO))
        refine zcp_i (va_runV (As := [.int x2_2h]) (rest := []) ⟨hx, hb, hml, hown, hts⟩ (c_X6_at l D cI cB cO Mo Mp Ms_2h Mj Ma x2_2h _ _ g14) (cwV 1 hts gX6_readPlaces_X6_at rfl rfl rfl kV_X6_at ⟨Nat.le_trans (Nat.le_of_ble_eq_true rfl) hRf, Nat.le_trans (Nat.le_of_ble_eq_true rfl) hRl⟩) (zpreV hK hP hD hS hE hFc [0, 1, 2, 3, 4, 5, 6, 7, 8, 9, 10, 11, 12, 13, 14, 15, 16, 17, 18, 19, 20, 21, 22] (zC_53 (cI := cI) (cB := cB) (cO := cO)) rfl 0 (ci := 6) rfl rfl [.int x2_2h]) rfl rfl hl.1 rfl (lv_room (Nat.le_of_ble_eq_true rfl)) dX6_readPlaces_33 ⟨Nat.zero_le _, Nat.zero_le _⟩) hP hD hS hFc [0, 1, 2, 3, 4, 5, 6, 7, 8, 9, 10, 11, 12, 13, 14, 15, 16, 17, 18, 19, 20, 21, 22] (zC_53 (cI := cI) (cB := cB) (cO := cO)) (fun H locs hP hS => ?_)
        clear hFc
        refine lv_bipush (v := (46 : Int32)) hx hb dX6_readPlaces_36 (by decide) ?_
        refine lv_icmp_eq (tgt := 51) hx hb dX6_readPlaces_38 (by decide) (fun c15 => ?_) (fun c15 => ?_)
        · have h := zif_t c15 h
          exact K51 _ h _ _ _ hP hD hS (lv_sub hl [1, 2, 3, 0] rfl)
        · have h := zif_f c15 h
          refine lv_aload_n hx hb dX6_readPlaces_41 rfl (lv_at hl 1 rfl) ?_
          refine lv_iload_n hx hb dX6_readPlaces_42 rfl (lv_at hl 3 rfl) ?_
          obtain ⟨r16, g17, h⟩ := zb1_s h
          have hFc := va_free (wc := (zwM cI cB Mo Mp Ms_2h Mj Ma)) hD hS hA [0, 1, 2, 3, 4, 5, 6, 7, 8, 9, 10, 11, 12, 13, 14, 15, 16, 17, 18, 19, 20, 21, 22] (zC_53 (cI := cI) (cB := cB) (cO := cO))
          refine zcp_i (va_runV (As := [.int x2_2h]) (rest := []) ⟨hx, hb, hml, hown, hts⟩ (c_X6_at l D cI cB cO Mo Mp Ms_2h Mj Ma x2_2h _ _ g17) (cwV 1 hts gX6_readPlaces_X6_at rfl rfl rfl kV_X6_at ⟨Nat.le_trans (Nat.le_of_ble_eq_true rfl) hRf, Nat.le_trans (Nat.le_of_ble_eq_true rfl) hRl⟩) (zpreV hK hP hD hS hE hFc [0, 1, 2, 3, 4, 5, 6, 7, 8, 9, 10, 11, 12, 13, 14, 15, 16, 17, 18, 19, 20, 21, 22] (zC_53 (cI := cI) (cB := cB) (cO := cO)) rfl 0 (ci := 6) rfl rfl [.int x2_2h]) rfl rfl hl.1 rfl (lv_room (Nat.le_of_ble_eq_true rfl)) dX6_readPlaces_43 ⟨Nat.zero_le _, Nat.zero_le _⟩) hP hD hS hFc [0, 1, 2, 3, 4, 5, 6, 7, 8, 9, 10, 11, 12, 13, 14, 15, 16, 17, 18, 19, 20, 21, 22] (zC_53 (cI := cI) (cB := cB) (cO := cO)) (fun H locs hP hS => ?_)
          clear hFc
          refine lv_bipush (v := (35 : Int32)) hx hb dX6_readPlaces_46 (by decide) ?_
          refine lv_icmp_ne (tgt := 64) hx hb dX6_readPlaces_48 (by decide) (fun c18 => ?_) (fun c18 => ?_)
          · have h := zif_f c18 h
            exact KX64 _ _ (zr2 _ (zend h).symm).symm _ _ _ hP hD hS (lv_sub hl [3] rfl)
          · have h := zif_t c18 h
            exact K51 _ h _ _ _ hP hD hS (lv_sub hl [1, 2, 3, 0] rfl)
    clear h
    have h := j19
    clear j19
    refine lv_icmp_eq (tgt := 25) hx hb dX6_readPlaces_18 (by decide) (fun c20 => ?_) (fun c20 => ?_)
    · have h := zif_t c20 h
      refine lv_iconst (v := (0 : Int32)) hx hb dX6_readPlaces_25 (by decide) ?_
      cases zend h
      exact K26 _ _ _ hP hD hS (lv_sub hl [0, 1, 2] rfl)
    · have h := zif_f c20 h
      refine lv_iconst (v := (1 : Int32)) hx hb dX6_readPlaces_21 (by decide) ?_
      refine lv_goto (tgt := 26) hx hb dX6_readPlaces_22 (by decide) ?_
      cases zend h
      exact K26 _ _ _ hP hD hS (lv_sub hl [0, 1, 2] rfl)
set_option maxHeartbeats 4000000 in
set_option maxRecDepth 100000 in
theorem c_X6_read (l : Launch) (D : va_G) (cI cB cO : ClassId) (Mo : Nat) (Mp : Nat → Nat) (Ms : Nat → Int32) (Mj : Nat → Int64) (Ma : Nat → Nat → Int32)  (rv : Int32) (Ms' : Nat → Int32) (sz : Nat) (h : fX6_read Ms Ma = some (rv, Ms')) : Met l yX6_read wsX6_read ({ frames := 2, cells := 0, slots := 0, locals := 44 } : Room) (va_Pc [.ref Mo] (zPre D (zTY cI cB cO) (zwM cI cB Mo Mp Ms Mj Ma) sz)) (va_Qi (fun r (_ : Unit) => r = rv) (fun _ => zPost D (zTY cI cB cO) (zwM cI cB Mo Mp Ms' Mj Ma) (va_A (zwM cI cB Mo Mp Ms Mj Ma) sz)) (va_A (zwM cI cB Mo Mp Ms Mj Ma) sz)) 0 0 (va_A (zwM cI cB Mo Mp Ms Mj Ma) sz) := by
  unfold fX6_read at h
  refine zmet_i (cc := cX6_read) (maxL := 3) (by decide) rfl (Nat.le_of_ble_eq_true rfl) rfl rfl ?_
  intro p e s m args below meth c R Q A ls hx hb hts hown hml hK hP hD hE hA hS hRf hRl hl hq
  have hown : s.vm.findClass RX6 = some m.cls := hown
  have hl : lv_has ls 3 [(0, .ref Mo)] := hl
  have inX6 : ∀ w ∈ u_ws RX6 TX6 40, w ∈ wsX6_read := by decide +kernel
  have lk95 : (Cond.fieldLink RX6 95 "PegFieldModel" "isWhole" "Z").before args s = true := hts _ (by decide +kernel)
  have lk92 : (Cond.fieldLink RX6 92 "PegFieldModel" "newPegs" "I").before args s = true := hts _ (by decide +kernel)
  refine lv_aload_n hx hb dX6_read_0 rfl (lv_at hl 0 rfl) ?_
  refine lv_iconst (v := (0 : Int32)) hx hb dX6_read_1 (by decide) ?_
  refine va_put (D := D) (ci := 6) (v := .int (0 : Int32)) (ty := .boolean) (C := RX6) (T := TX6) (N := 40) hx hb hts inX6 tyX6 tyX6_ok nmX6 hown hK hP hD hS 0 rfl rfl 15 (by decide) lk95 (fun _ h9 => h9) rfl (by decide +kernel) (by decide) (by decide) (Nat.le_of_ble_eq_true rfl) dX6_read_2 (fun H locs hP hD hS => ?_)
  have hset : ∀ v9 : Int32, (zwM cI cB Mo Mp Ms Mj Ma).set 0 (Mo, .inr (6, ([.int (Ms 0), .int (Ms 1), .int (Ms 2), .int (Ms 3), .int (Ms 4), .ref (Mp 5), .ref (Mp 6), .int (Ms 7), .int (Ms 8), .int (Ms 9), .ref (Mp 10), .ref (Mp 11), .ref (Mp 12), .int (Ms 13), .ref (Mp 14), .int (Ms 15), .int (Ms 16), .ref (Mp 17), .ref (Mp 18), .ref (Mp 19), .ref (Mp 20), .ref (Mp 21), .ref (Mp 22), .ref (Mp 23), .ref (Mp 24), .ref (Mp 25), .ref (Mp 26), .ref (Mp 27), .long (Mj 28), .int (Ms 29), .int (Ms 30), .int (Ms 31), .int (Ms 32), .int (Ms 33), .ref (Mp 34), .ref (Mp 35), .ref (Mp 36), .ref (Mp 37), .ref (Mp 38), .long (Mj 39)] : List Value).set 15 (.int v9))) = (zwM cI cB Mo Mp (upd Ms 15 v9) Mj Ma) := fun _ => rfl
  obtain ⟨Ms_1, eMs_1, hP, hD⟩ : ∃ y9, y9 = (upd Ms 15 (0 : Int32)) ∧ va_P D vwCl (zwM cI cB Mo Mp y9 Mj Ma) H ∧ va_D A (zwM cI cB Mo Mp y9 Mj Ma) := ⟨_, rfl, zsetP (hset _) hP, zsetD (hset _) hD⟩
  have h := zlt_s h eMs_1
  clear hset
  refine lv_aload_n hx hb dX6_read_5 rfl (lv_at hl 0 rfl) ?_
  refine lv_iconst (v := (0 : Int32)) hx hb dX6_read_6 (by decide) ?_
  refine va_put (D := D) (ci := 6) (v := .int (0 : Int32)) (ty := .int) (C := RX6) (T := TX6) (N := 40) hx hb hts inX6 tyX6 tyX6_ok nmX6 hown hK hP hD hS 0 rfl rfl 16 (by decide) lk92 (fun _ h9 => h9) rfl (by decide +kernel) rfl rfl (Nat.le_of_ble_eq_true rfl) dX6_read_7 (fun H locs hP hD hS => ?_)
  have hset : ∀ v9 : Int32, (zwM cI cB Mo Mp Ms_1 Mj Ma).set 0 (Mo, .inr (6, ([.int (Ms_1 0), .int (Ms_1 1), .int (Ms_1 2), .int (Ms_1 3), .int (Ms_1 4), .ref (Mp 5), .ref (Mp 6), .int (Ms_1 7), .int (Ms_1 8), .int (Ms_1 9), .ref (Mp 10), .ref (Mp 11), .ref (Mp 12), .int (Ms_1 13), .ref (Mp 14), .int (Ms_1 15), .int (Ms_1 16), .ref (Mp 17), .ref (Mp 18), .ref (Mp 19), .ref (Mp 20), .ref (Mp 21), .ref (Mp 22), .ref (Mp 23), .ref (Mp 24), .ref (Mp 25), .ref (Mp 26), .ref (Mp 27), .long (Mj 28), .int (Ms_1 29), .int (Ms_1 30), .int (Ms_1 31), .int (Ms_1 32), .int (Ms_1 33), .ref (Mp 34), .ref (Mp 35), .ref (Mp 36), .ref (Mp 37), .ref (Mp 38), .long (Mj 39)] : List Value).set 16 (.int v9))) = (zwM cI cB Mo Mp (upd Ms_1 16 v9) Mj Ma) := fun _ => rfl
  obtain ⟨Ms_2, eMs_2, hP, hD⟩ : ∃ y9, y9 = (upd Ms_1 16 (0 : Int32)) ∧ va_P D vwCl (zwM cI cB Mo Mp y9 Mj Ma) H ∧ va_D A (zwM cI cB Mo Mp y9 Mj Ma) := ⟨_, rfl, zsetP (hset _) hP, zsetD (hset _) hD⟩
  have h := zlt_s h eMs_2
  clear hset
  refine lv_aload_n hx hb dX6_read_10 rfl (lv_at hl 0 rfl) ?_
  refine lv_iconst (v := (0 : Int32)) hx hb dX6_read_11 (by decide) ?_
  obtain ⟨r3, g4, h⟩ := zb1_s h
  have hFc := va_free (wc := (zwM cI cB Mo Mp Ms_2 Mj Ma)) hD hS hA [0, 1, 2, 3, 4, 5, 6, 7, 8, 9, 10, 11, 12, 13, 14, 15, 16, 17, 18, 19, 20, 21, 22] (zC_53 (cI := cI) (cB := cB) (cO := cO))
  refine zcp_i (va_runV (As := [.int (0 : Int32)]) (rest := []) ⟨hx, hb, hml, hown, hts⟩ (c_X6_at l D cI cB cO Mo Mp Ms_2 Mj Ma (0 : Int32) _ _ g4) (cwV 1 hts gX6_read_X6_at rfl rfl rfl kV_X6_at ⟨Nat.le_trans (Nat.le_of_ble_eq_true rfl) hRf, Nat.le_trans (Nat.le_of_ble_eq_true rfl) hRl⟩) (zpreV hK hP hD hS hE hFc [0, 1, 2, 3, 4, 5, 6, 7, 8, 9, 10, 11, 12, 13, 14, 15, 16, 17, 18, 19, 20, 21, 22] (zC_53 (cI := cI) (cB := cB) (cO := cO)) rfl 0 (ci := 6) rfl rfl [.int (0 : Int32)]) rfl rfl hl.1 rfl (lv_room (Nat.le_of_ble_eq_true rfl)) dX6_read_12 ⟨Nat.zero_le _, Nat.zero_le _⟩) hP hD hS hFc [0, 1, 2, 3, 4, 5, 6, 7, 8, 9, 10, 11, 12, 13, 14, 15, 16, 17, 18, 19, 20, 21, 22] (zC_53 (cI := cI) (cB := cB) (cO := cO)) (fun H locs hP hS => ?_)
  clear hFc
  refine lv_bipush (v := (48 : Int32)) hx hb dX6_read_15 (by decide) ?_
  refine lv_isub hx hb dX6_read_17 ?_
  refine lv_topi (fun x1_5 ex1_5 => ?_)
  have h := zlt_s h ex1_5
  refine lv_istore_n (lv' := [(1, .int x1_5), (0, .ref Mo)]) hx hb dX6_read_18 rfl hl (by decide) rfl (fun ls hl => ?_)
  refine lv_aload_n hx hb dX6_read_19 rfl (lv_at hl 1 rfl) ?_
  refine lv_iconst (v := (1 : Int32)) hx hb dX6_read_20 (by decide) ?_
  obtain ⟨r6, g7, h⟩ := zb1_s h
  have hFc := va_free (wc := (zwM cI cB Mo Mp Ms_2 Mj Ma)) hD hS hA [0, 1, 2, 3, 4, 5, 6, 7, 8, 9, 10, 11, 12, 13, 14, 15, 16, 17, 18, 19, 20, 21, 22] (zC_53 (cI := cI) (cB := cB) (cO := cO))
  refine zcp_i (va_runV (As := [.int (1 : Int32)]) (rest := []) ⟨hx, hb, hml, hown, hts⟩ (c_X6_at l D cI cB cO Mo Mp Ms_2 Mj Ma (1 : Int32) _ _ g7) (cwV 1 hts gX6_read_X6_at rfl rfl rfl kV_X6_at ⟨Nat.le_trans (Nat.le_of_ble_eq_true rfl) hRf, Nat.le_trans (Nat.le_of_ble_eq_true rfl) hRl⟩) (zpreV hK hP hD hS hE hFc [0, 1, 2, 3, 4, 5, 6, 7, 8, 9, 10, 11, 12, 13, 14, 15, 16, 17, 18, 19, 20, 21, 22] (zC_53 (cI := cI) (cB := cB) (cO := cO)) rfl 0 (ci := 6) rfl rfl [.int (1 : Int32)]) rfl rfl hl.1 rfl (lv_room (Nat.le_of_ble_eq_true rfl)) dX6_read_21 ⟨Nat.zero_le _, Nat.zero_le _⟩) hP hD hS hFc [0, 1, 2, 3, 4, 5, 6, 7, 8, 9, 10, 11, 12, 13, 14, 15, 16, 17, 18, 19, 20, 21, 22] (zC_53 (cI := cI) (cB := cB) (cO := cO)) (fun H locs hP hS => ?_)
  clear hFc
  refine lv_bipush (v := (48 : Int32)) hx hb dX6_read_24 (by decide) ?_
  refine lv_isub hx hb dX6_read_26 ?_
  refine lv_topi (fun x2_8 ex2_8 => ?_)
  have h := zlt_s h ex2_8
  refine lv_istore_n (lv' := [(2, .int x2_8), (1, .int x1_5), (0, .ref Mo)]) hx hb dX6_read_27 rfl hl (by decide) rfl (fun ls hl => ?_)
  refine lv_iload_n hx hb dX6_read_28 rfl (lv_at hl 1 rfl) ?_
  refine lv_iconst (v := (2 : Int32)) hx hb dX6_read_29 (by decide) ?_
  refine lv_iconst (v := (4 : Int32)) hx hb dX6_read_30 (by decide) ?_
  obtain ⟨r9, g10, h⟩ := zb1_s h
  have hFc := va_free (wc := ([] : va_W)) hD hS hA [] rfl
  refine zcp_i (va_runS (As := [.int x1_5, .int (2 : Int32), .int (4 : Int32)]) (rest := []) ⟨hx, hb, hml, hown, hts⟩ (c_X6_within l D cI cB cO x1_5 (2 : Int32) (4 : Int32) _ _ g10) (va_cwS 3 hts gX6_read_X6_within rfl rfl rfl kS_X6_within ⟨Nat.le_trans (Nat.le_of_ble_eq_true rfl) hRf, Nat.le_trans (Nat.le_of_ble_eq_true rfl) hRl⟩) (zpreS hK hP hD hS hE hFc [] (rfl) rfl [.int x1_5, .int (2 : Int32), .int (4 : Int32)]) rfl rfl hl.1 rfl (lv_room (Nat.le_of_ble_eq_true rfl)) dX6_read_31 ⟨Nat.zero_le _, Nat.zero_le _⟩) hP hD hS hFc [] (rfl) (fun H locs hP hS => ?_)
  clear hFc
  refine lv_if_ne (tgt := 39) hx hb dX6_read_34 (by decide) (fun c11 => ?_) (fun c11 => ?_)
  · have h := zif_f c11 h
    refine lv_iload_n hx hb dX6_read_39 rfl (lv_at hl 0 rfl) ?_
    refine lv_iconst (v := (2 : Int32)) hx hb dX6_read_40 (by decide) ?_
    refine lv_iconst (v := (4 : Int32)) hx hb dX6_read_41 (by decide) ?_
    obtain ⟨r12, g13, h⟩ := zb1_s h
    have hFc := va_free (wc := ([] : va_W)) hD hS hA [] rfl
    refine zcp_i (va_runS (As := [.int x2_8, .int (2 : Int32), .int (4 : Int32)]) (rest := []) ⟨hx, hb, hml, hown, hts⟩ (c_X6_within l D cI cB cO x2_8 (2 : Int32) (4 : Int32) _ _ g13) (va_cwS 3 hts gX6_read_X6_within rfl rfl rfl kS_X6_within ⟨Nat.le_trans (Nat.le_of_ble_eq_true rfl) hRf, Nat.le_trans (Nat.le_of_ble_eq_true rfl) hRl⟩) (zpreS hK hP hD hS hE hFc [] (rfl) rfl [.int x2_8, .int (2 : Int32), .int (4 : Int32)]) rfl rfl hl.1 rfl (lv_room (Nat.le_of_ble_eq_true rfl)) dX6_read_42 ⟨Nat.zero_le _, Nat.zero_le _⟩) hP hD hS hFc [] (rfl) (fun H locs hP hS => ?_)
    clear hFc
    refine lv_if_eq (tgt := 56) hx hb dX6_read_45 (by decide) (fun c14 => ?_) (fun c14 => ?_)
    · have h := zif_t c14 h
      refine lv_iconst (v := (1 : Int32)) hx hb dX6_read_56 (by decide) ?_
      cases zend h
      exact hq hP hD hS dX6_read_57
    · have h := zif_f c14 h
      refine lv_iload_n hx hb dX6_read_48 rfl (lv_at hl 1 rfl) ?_
      refine lv_iload_n hx hb dX6_read_49 rfl (lv_at hl 0 rfl) ?_
      refine lv_imul hx hb dX6_read_50 ?_
      refine lv_bipush (v := (12 : Int32)) hx hb dX6_read_51 (by decide) ?_
      refine lv_icmp_le (tgt := 58) hx hb dX6_read_53 (by decide) (fun c15 => ?_) (fun c15 => ?_)
      · have h := zif_t c15 h
        refine lv_aload_n hx hb dX6_read_58 rfl (lv_at hl 2 rfl) ?_
        refine lv_iconst (v := (2 : Int32)) hx hb dX6_read_59 (by decide) ?_
        obtain ⟨r16, g17, h⟩ := zb1_s h
        have hFc := va_free (wc := (zwM cI cB Mo Mp Ms_2 Mj Ma)) hD hS hA [0, 1, 2, 3, 4, 5, 6, 7, 8, 9, 10, 11, 12, 13, 14, 15, 16, 17, 18, 19, 20, 21, 22] (zC_53 (cI := cI) (cB := cB) (cO := cO))
        refine zcp_i (va_runV (As := [.int (2 : Int32)]) (rest := []) ⟨hx, hb, hml, hown, hts⟩ (c_X6_at l D cI cB cO Mo Mp Ms_2 Mj Ma (2 : Int32) _ _ g17) (cwV 1 hts gX6_read_X6_at rfl rfl rfl kV_X6_at ⟨Nat.le_trans (Nat.le_of_ble_eq_true rfl) hRf, Nat.le_trans (Nat.le_of_ble_eq_true rfl) hRl⟩) (zpreV hK hP hD hS hE hFc [0, 1, 2, 3, 4, 5, 6, 7, 8, 9, 10, 11, 12, 13, 14, 15, 16, 17, 18, 19, 20, 21, 22] (zC_53 (cI := cI) (cB := cB) (cO := cO)) rfl 0 (ci := 6) rfl rfl [.int (2 : Int32)]) rfl rfl hl.1 rfl (lv_room (Nat.le_of_ble_eq_true rfl)) dX6_read_60 ⟨Nat.zero_le _, Nat.zero_le _⟩) hP hD hS hFc [0, 1, 2, 3, 4, 5, 6, 7, 8, 9, 10, 11, 12, 13, 14, 15, 16, 17, 18, 19, 20, 21, 22] (zC_53 (cI := cI) (cB := cB) (cO := cO)) (fun H locs hP hS => ?_)
        clear hFc
        refine lv_bipush (v := (59 : Int32)) hx hb dX6_read_63 (by decide) ?_
        refine lv_icmp_eq (tgt := 70) hx hb dX6_read_65 (by decide) (fun c18 => ?_) (fun c18 => ?_)
        · have h := zif_t c18 h
          refine lv_aload_n hx hb dX6_read_70 rfl (lv_at hl 2 rfl) ?_
          refine lv_iload_n hx hb dX6_read_71 rfl (lv_at hl 1 rfl) ?_
          refine lv_iload_n hx hb dX6_read_72 rfl (lv_at hl 0 rfl) ?_
          refine lv_imul hx hb dX6_read_73 ?_
          obtain ⟨r19, Ms_20, g21, h⟩ := zb2_s h
          have hFc := va_free (wc := (zwM cI cB Mo Mp Ms_2 Mj Ma)) hD hS hA [0, 1, 2, 3, 4, 5, 6, 7, 8, 9, 10, 11, 12, 13, 14, 15, 16, 17, 18, 19, 20, 21, 22] (zC_54 (cI := cI) (cB := cB) (cO := cO))
          refine zcm_i (w2 := (zwM cI cB Mo Mp Ms_20 Mj Ma)) (va_runV (As := [.int (x1_5 * x2_8)]) (rest := []) ⟨hx, hb, hml, hown, hts⟩ (c_X6_readPlaces l D cI cB cO Mo Mp Ms_2 Mj Ma (x1_5 * x2_8) _ _ _ g21) (cwV 1 hts gX6_read_X6_readPlaces rfl rfl rfl kV_X6_readPlaces ⟨Nat.le_trans (Nat.le_of_ble_eq_true rfl) hRf, Nat.le_trans (Nat.le_of_ble_eq_true rfl) hRl⟩) (zpreV hK hP hD hS hE hFc [0, 1, 2, 3, 4, 5, 6, 7, 8, 9, 10, 11, 12, 13, 14, 15, 16, 17, 18, 19, 20, 21, 22] (zC_54 (cI := cI) (cB := cB) (cO := cO)) rfl 0 (ci := 6) rfl rfl [.int (x1_5 * x2_8)]) rfl rfl hl.1 rfl (lv_room (Nat.le_of_ble_eq_true rfl)) dX6_read_74 ⟨Nat.zero_le _, Nat.zero_le _⟩) hS hFc (fun H1 t h1 h2 h3 => zM_54 (cI := cI) (cB := cB) (cO := cO) hP hD h1 h2 h3) (fun H locs hP hD hS => ?_)
          clear hFc
          cases zend h
          exact hq hP hD hS dX6_read_77
        · have h := zif_f c18 h
          refine lv_iconst (v := (2 : Int32)) hx hb dX6_read_68 (by decide) ?_
          cases zend h
          exact hq hP hD hS dX6_read_69
      · have h := zif_f c15 h
        refine lv_iconst (v := (1 : Int32)) hx hb dX6_read_56 (by decide) ?_
        cases zend h
        exact hq hP hD hS dX6_read_57
  · have h := zif_t c11 h
    refine lv_iconst (v := (0 : Int32)) hx hb dX6_read_37 (by decide) ?_
    cases zend h
    exact hq hP hD hS dX6_read_38
set_option maxHeartbeats 4000000 in
set_option maxRecDepth 100000 in
theorem c_X6_fault (l : Launch) (D : va_G) (cI cB cO : ClassId) (Mo : Nat) (Mp : Nat → Nat) (Ms : Nat → Int32) (Mj : Nat → Int64) (Ma : Nat → Nat → Int32)  (rv : Int32) (Ms' : Nat → Int32) (sz : Nat) (h : fX6_fault Ms Ma = some (rv, Ms')) : Met l yX6_fault wsX6_fault ({ frames := 3, cells := 0, slots := 0, locals := 66 } : Room) (va_Pc [.ref Mo] (zPre D (zTY cI cB cO) (zwM cI cB Mo Mp Ms Mj Ma) sz)) (va_Qi (fun r (_ : Unit) => r = rv) (fun _ => zPost D (zTY cI cB cO) (zwM cI cB Mo Mp Ms' Mj Ma) (va_A (zwM cI cB Mo Mp Ms Mj Ma) sz)) (va_A (zwM cI cB Mo Mp Ms Mj Ma) sz)) 0 0 (va_A (zwM cI cB Mo Mp Ms Mj Ma) sz) := by
  unfold fX6_fault at h
  refine zmet_i (cc := cX6_fault) (maxL := 1) (by decide) rfl (Nat.le_of_ble_eq_true rfl) rfl rfl ?_
  intro p e s m args below meth c R Q A ls hx hb hts hown hml hK hP hD hE hA hS hRf hRl hl hq
  have hown : s.vm.findClass RX6 = some m.cls := hown
  have hl : lv_has ls 1 [(0, .ref Mo)] := hl
  refine lv_aload_n hx hb dX6_fault_0 rfl (lv_at hl 0 rfl) ?_
  obtain ⟨r1, Ms_2, g3, h⟩ := zb2_s h
  have hFc := va_free (wc := (zwM cI cB Mo Mp Ms Mj Ma)) hD hS hA [0, 1, 2, 3, 4, 5, 6, 7, 8, 9, 10, 11, 12, 13, 14, 15, 16, 17, 18, 19, 20, 21, 22] (zC_54 (cI := cI) (cB := cB) (cO := cO))
  refine zcm_i (w2 := (zwM cI cB Mo Mp Ms_2 Mj Ma)) (va_runV (As := []) (rest := []) ⟨hx, hb, hml, hown, hts⟩ (c_X6_read l D cI cB cO Mo Mp Ms Mj Ma _ _ _ g3) (cwV 0 hts gX6_fault_X6_read rfl rfl rfl kV_X6_read ⟨Nat.le_trans (Nat.le_of_ble_eq_true rfl) hRf, Nat.le_trans (Nat.le_of_ble_eq_true rfl) hRl⟩) (zpreV hK hP hD hS hE hFc [0, 1, 2, 3, 4, 5, 6, 7, 8, 9, 10, 11, 12, 13, 14, 15, 16, 17, 18, 19, 20, 21, 22] (zC_54 (cI := cI) (cB := cB) (cO := cO)) rfl 0 (ci := 6) rfl rfl []) rfl rfl hl.1 rfl (lv_room (Nat.le_of_ble_eq_true rfl)) dX6_fault_1 ⟨Nat.zero_le _, Nat.zero_le _⟩) hS hFc (fun H1 t h1 h2 h3 => zM_54 (cI := cI) (cB := cB) (cO := cO) hP hD h1 h2 h3) (fun H locs hP hD hS => ?_)
  clear hFc
  cases zend h
  exact hq hP hD hS dX6_fault_4
set_option maxHeartbeats 4000000 in
set_option maxRecDepth 100000 in
theorem c_X6_places (l : Launch) (D : va_G) (cI cB cO : ClassId) (Mo : Nat) (Mp : Nat → Nat) (Ms : Nat → Int32) (Mj : Nat → Int64) (Ma : Nat → Nat → Int32)  (rv : Int32) (sz : Nat) (h : fX6_places Ms = some rv) : Met l yX6_places wsX6_places ({ frames := 0, cells := 0, slots := 0, locals := 0 } : Room) (va_Pc [.ref Mo] (zPre D (zTY cI cB cO) (zwM cI cB Mo Mp Ms Mj Ma) sz)) (va_Qi (fun r (_ : Unit) => r = rv) (fun _ => zPost D (zTY cI cB cO) (zwM cI cB Mo Mp Ms Mj Ma) (va_A (zwM cI cB Mo Mp Ms Mj Ma) sz)) (va_A (zwM cI cB Mo Mp Ms Mj Ma) sz)) 0 0 (va_A (zwM cI cB Mo Mp Ms Mj Ma) sz) := by
  unfold fX6_places at h
  refine zmet_i (cc := cX6_places) (maxL := 1) (by decide) rfl (Nat.le_of_ble_eq_true rfl) rfl rfl ?_
  intro p e s m args below meth c R Q A ls hx hb hts hown hml hK hP hD hE hA hS hRf hRl hl hq
  have hown : s.vm.findClass RX6 = some m.cls := hown
  have hl : lv_has ls 1 [(0, .ref Mo)] := hl
  have inX6 : ∀ w ∈ u_ws RX6 TX6 40, w ∈ wsX6_places := by decide +kernel
  have lk106 : (Cond.fieldLink RX6 106 "PegFieldModel" "high" "I").before args s = true := hts _ (by decide +kernel)
  have lk109 : (Cond.fieldLink RX6 109 "PegFieldModel" "wide" "I").before args s = true := hts _ (by decide +kernel)
  refine lv_aload_n hx hb dX6_places_0 rfl (lv_at hl 0 rfl) ?_
  refine va_get (D := D) (ci := 6) (v := .int (Ms 1)) (C := RX6) (T := TX6) (N := 40) hx hb hts inX6 hown hK hP 0 rfl rfl 1 (by decide) lk106 (fun _ h9 => h9) rfl dX6_places_1 ?_
  refine lv_aload_n hx hb dX6_places_4 rfl (lv_at hl 0 rfl) ?_
  refine va_get (D := D) (ci := 6) (v := .int (Ms 2)) (C := RX6) (T := TX6) (N := 40) hx hb hts inX6 hown hK hP 0 rfl rfl 2 (by decide) lk109 (fun _ h9 => h9) rfl dX6_places_5 ?_
  refine lv_imul hx hb dX6_places_8 ?_
  cases zend h
  exact hq hP hD hS dX6_places_9
set_option maxHeartbeats 4000000 in
set_option maxRecDepth 100000 in
theorem c_X6_board (l : Launch) (D : va_G) (cI cB cO : ClassId) (Mo : Nat) (Mp : Nat → Nat) (Ms : Nat → Int32) (Mj : Nat → Int64) (Ma : Nat → Nat → Int32)  (rv : Int32) (Ms' : Nat → Int32) (Ma' : Nat → Nat → Int32) (sz : Nat) (h : fX6_board Ms Ma = some (rv, Ms', Ma')) : Met l yX6_board wsX6_board ({ frames := 3, cells := 0, slots := 0, locals := 66 } : Room) (va_Pc [.ref Mo] (zPre D (zTY cI cB cO) (zwM cI cB Mo Mp Ms Mj Ma) sz)) (va_Qi (fun r (_ : Unit) => r = rv) (fun _ => zPost D (zTY cI cB cO) (zwM cI cB Mo Mp Ms' Mj Ma') (va_A (zwM cI cB Mo Mp Ms Mj Ma) sz)) (va_A (zwM cI cB Mo Mp Ms Mj Ma) sz)) 0 0 (va_A (zwM cI cB Mo Mp Ms Mj Ma) sz) := by
  unfold fX6_board at h
  refine zmet_i (cc := cX6_board) (maxL := 3) (by decide) rfl (Nat.le_of_ble_eq_true rfl) rfl rfl ?_
  intro p e s m args below meth c R Q A ls hx hb hts hown hml hK hP hD hE hA hS hRf hRl hl hq
  have hown : s.vm.findClass RX6 = some m.cls := hown
  have hl : lv_has ls 3 [(0, .ref Mo)] := hl
  have inX6 : ∀ w ∈ u_ws RX6 TX6 40, w ∈ wsX6_board := by decide +kernel
  have lk95 : (Cond.fieldLink RX6 95 "PegFieldModel" "isWhole" "Z").before args s = true := hts _ (by decide +kernel)
  have lk25 : (Cond.fieldLink RX6 25 "PegFieldModel" "page" "[B").before args s = true := hts _ (by decide +kernel)
  have lk106 : (Cond.fieldLink RX6 106 "PegFieldModel" "high" "I").before args s = true := hts _ (by decide +kernel)
  have lk109 : (Cond.fieldLink RX6 109 "PegFieldModel" "wide" "I").before args s = true := hts _ (by decide +kernel)
  have lk112 : (Cond.fieldLink RX6 112 "PegFieldModel" "holes" "I").before args s = true := hts _ (by decide +kernel)
  have lk115 : (Cond.fieldLink RX6 115 "PegFieldModel" "pegs" "I").before args s = true := hts _ (by decide +kernel)
  have lk7 : (Cond.fieldLink RX6 7 "PegFieldModel" "kindOf" "[I").before args s = true := hts _ (by decide +kernel)
  have lk13 : (Cond.fieldLink RX6 13 "PegFieldModel" "placeOf" "[I").before args s = true := hts _ (by decide +kernel)
  have lk121 : (Cond.fieldLink RX6 121 "PegFieldModel" "jumps" "I").before args s = true := hts _ (by decide +kernel)
  have lk124 : (Cond.fieldLink RX6 124 "PegFieldModel" "boards" "I").before args s = true := hts _ (by decide +kernel)
  have lk127 : (Cond.fieldLink RX6 127 "PegFieldModel" "seen" "I").before args s = true := hts _ (by decide +kernel)
  have lk81 : (Cond.fieldLink RX6 81 "PegFieldModel" "pageLength" "I").before args s = true := hts _ (by decide +kernel)
  refine lv_aload_n hx hb dX6_board_0 rfl (lv_at hl 0 rfl) ?_
  obtain ⟨r1, Ms_2, g3, h⟩ := zb2_s h
  have hFc := va_free (wc := (zwM cI cB Mo Mp Ms Mj Ma)) hD hS hA [0, 1, 2, 3, 4, 5, 6, 7, 8, 9, 10, 11, 12, 13, 14, 15, 16, 17, 18, 19, 20, 21, 22] (zC_54 (cI := cI) (cB := cB) (cO := cO))
  refine zcm_i (w2 := (zwM cI cB Mo Mp Ms_2 Mj Ma)) (va_runV (As := []) (rest := []) ⟨hx, hb, hml, hown, hts⟩ (c_X6_read l D cI cB cO Mo Mp Ms Mj Ma _ _ _ g3) (cwV 0 hts gX6_board_X6_read rfl rfl rfl kV_X6_read ⟨Nat.le_trans (Nat.le_of_ble_eq_true rfl) hRf, Nat.le_trans (Nat.le_of_ble_eq_true rfl) hRl⟩) (zpreV hK hP hD hS hE hFc [0, 1, 2, 3, 4, 5, 6, 7, 8, 9, 10, 11, 12, 13, 14, 15, 16, 17, 18, 19, 20, 21, 22] (zC_54 (cI := cI) (cB := cB) (cO := cO)) rfl 0 (ci := 6) rfl rfl []) rfl rfl hl.1 rfl (lv_room (Nat.le_of_ble_eq_true rfl)) dX6_board_1 ⟨Nat.zero_le _, Nat.zero_le _⟩) hS hFc (fun H1 t h1 h2 h3 => zM_54 (cI := cI) (cB := cB) (cO := cO) hP hD h1 h2 h3) (fun H locs hP hD hS => ?_)
  clear hFc
  refine lv_pop hx hb dX6_board_4 rfl ?_
  refine lv_aload_n hx hb dX6_board_5 rfl (lv_at hl 0 rfl) ?_
  refine va_get (D := D) (ci := 6) (v := .int (Ms_2 15)) (C := RX6) (T := TX6) (N := 40) hx hb hts inX6 hown hK hP 0 rfl rfl 15 (by decide) lk95 (fun _ h9 => h9) rfl dX6_board_6 ?_
  refine lv_if_ne (tgt := 15) hx hb dX6_board_9 (by decide) (fun c4 => ?_) (fun c4 => ?_)
  · have h := zif_f c4 h
    refine lv_aload_n hx hb dX6_board_15 rfl (lv_at hl 0 rfl) ?_
    refine lv_aload_n hx hb dX6_board_16 rfl (lv_at hl 0 rfl) ?_
    refine va_get (D := D) (ci := 6) (v := .ref (Mp 14)) (C := RX6) (T := TX6) (N := 40) hx hb hts inX6 hown hK hP 0 rfl rfl 14 (by decide) lk25 (fun _ h9 => h9) rfl dX6_board_17 ?_
    refine lv_iconst (v := (0 : Int32)) hx hb dX6_board_20 (by decide) ?_
    obtain ⟨z5, h⟩ := zck_s h
    refine va_bald hx hb hK hP 6 1 rfl rfl (zin_s z5) dX6_board_21 ?_
    refine lv_bipush (v := (48 : Int32)) hx hb dX6_board_22 (by decide) ?_
    refine lv_isub hx hb dX6_board_24 ?_
    refine va_put (D := D) (ci := 6) (v := .int (((Ma 14) ((0 : Int32)).toNatClampNeg) - (48 : Int32))) (ty := .int) (C := RX6) (T := TX6) (N := 40) hx hb hts inX6 tyX6 tyX6_ok nmX6 hown hK hP hD hS 0 rfl rfl 1 (by decide) lk106 (fun _ h9 => h9) rfl (by decide +kernel) rfl rfl (Nat.le_of_ble_eq_true rfl) dX6_board_25 (fun H locs hP hD hS => ?_)
    have hset : ∀ v9 : Int32, (zwM cI cB Mo Mp Ms_2 Mj Ma).set 0 (Mo, .inr (6, ([.int (Ms_2 0), .int (Ms_2 1), .int (Ms_2 2), .int (Ms_2 3), .int (Ms_2 4), .ref (Mp 5), .ref (Mp 6), .int (Ms_2 7), .int (Ms_2 8), .int (Ms_2 9), .ref (Mp 10), .ref (Mp 11), .ref (Mp 12), .int (Ms_2 13), .ref (Mp 14), .int (Ms_2 15), .int (Ms_2 16), .ref (Mp 17), .ref (Mp 18), .ref (Mp 19), .ref (Mp 20), .ref (Mp 21), .ref (Mp 22), .ref (Mp 23), .ref (Mp 24), .ref (Mp 25), .ref (Mp 26), .ref (Mp 27), .long (Mj 28), .int (Ms_2 29), .int (Ms_2 30), .int (Ms_2 31), .int (Ms_2 32), .int (Ms_2 33), .ref (Mp 34), .ref (Mp 35), .ref (Mp 36), .ref (Mp 37), .ref (Mp 38), .long (Mj 39)] : List Value).set 1 (.int v9))) = (zwM cI cB Mo Mp (upd Ms_2 1 v9) Mj Ma) := fun _ => rfl
    obtain ⟨Ms_6, eMs_6, hP, hD⟩ : ∃ y9, y9 = (upd Ms_2 1 (((Ma 14) ((0 : Int32)).toNatClampNeg) - (48 : Int32))) ∧ va_P D vwCl (zwM cI cB Mo Mp y9 Mj Ma) H ∧ va_D A (zwM cI cB Mo Mp y9 Mj Ma) := ⟨_, rfl, zsetP (hset _) hP, zsetD (hset _) hD⟩
    have h := zlt_s h eMs_6
    clear hset
    refine lv_aload_n hx hb dX6_board_28 rfl (lv_at hl 0 rfl) ?_
    refine lv_aload_n hx hb dX6_board_29 rfl (lv_at hl 0 rfl) ?_
    refine va_get (D := D) (ci := 6) (v := .ref (Mp 14)) (C := RX6) (T := TX6) (N := 40) hx hb hts inX6 hown hK hP 0 rfl rfl 14 (by decide) lk25 (fun _ h9 => h9) rfl dX6_board_30 ?_
    refine lv_iconst (v := (1 : Int32)) hx hb dX6_board_33 (by decide) ?_
    obtain ⟨z7, h⟩ := zck_s h
    refine va_bald hx hb hK hP 6 1 rfl rfl (zin_s z7) dX6_board_34 ?_
    refine lv_bipush (v := (48 : Int32)) hx hb dX6_board_35 (by decide) ?_
    refine lv_isub hx hb dX6_board_37 ?_
    refine va_put (D := D) (ci := 6) (v := .int (((Ma 14) ((1 : Int32)).toNatClampNeg) - (48 : Int32))) (ty := .int) (C := RX6) (T := TX6) (N := 40) hx hb hts inX6 tyX6 tyX6_ok nmX6 hown hK hP hD hS 0 rfl rfl 2 (by decide) lk109 (fun _ h9 => h9) rfl (by decide +kernel) rfl rfl (Nat.le_of_ble_eq_true rfl) dX6_board_38 (fun H locs hP hD hS => ?_)
    have hset : ∀ v9 : Int32, (zwM cI cB Mo Mp Ms_6 Mj Ma).set 0 (Mo, .inr (6, ([.int (Ms_6 0), .int (Ms_6 1), .int (Ms_6 2), .int (Ms_6 3), .int (Ms_6 4), .ref (Mp 5), .ref (Mp 6), .int (Ms_6 7), .int (Ms_6 8), .int (Ms_6 9), .ref (Mp 10), .ref (Mp 11), .ref (Mp 12), .int (Ms_6 13), .ref (Mp 14), .int (Ms_6 15), .int (Ms_6 16), .ref (Mp 17), .ref (Mp 18), .ref (Mp 19), .ref (Mp 20), .ref (Mp 21), .ref (Mp 22), .ref (Mp 23), .ref (Mp 24), .ref (Mp 25), .ref (Mp 26), .ref (Mp 27), .long (Mj 28), .int (Ms_6 29), .int (Ms_6 30), .int (Ms_6 31), .int (Ms_6 32), .int (Ms_6 33), .ref (Mp 34), .ref (Mp 35), .ref (Mp 36), .ref (Mp 37), .ref (Mp 38), .long (Mj 39)] : List Value).set 2 (.int v9))) = (zwM cI cB Mo Mp (upd Ms_6 2 v9) Mj Ma) := fun _ => rfl
    obtain ⟨Ms_8, eMs_8, hP, hD⟩ : ∃ y9, y9 = (upd Ms_6 2 (((Ma 14) ((1 : Int32)).toNatClampNeg) - (48 : Int32))) ∧ va_P D vwCl (zwM cI cB Mo Mp y9 Mj Ma) H ∧ va_D A (zwM cI cB Mo Mp y9 Mj Ma) := ⟨_, rfl, zsetP (hset _) hP, zsetD (hset _) hD⟩
    have h := zlt_s h eMs_8
    clear hset
    refine lv_aload_n hx hb dX6_board_41 rfl (lv_at hl 0 rfl) ?_
    refine lv_iconst (v := (0 : Int32)) hx hb dX6_board_42 (by decide) ?_
    refine va_put (D := D) (ci := 6) (v := .int (0 : Int32)) (ty := .int) (C := RX6) (T := TX6) (N := 40) hx hb hts inX6 tyX6 tyX6_ok nmX6 hown hK hP hD hS 0 rfl rfl 3 (by decide) lk112 (fun _ h9 => h9) rfl (by decide +kernel) rfl rfl (Nat.le_of_ble_eq_true rfl) dX6_board_43 (fun H locs hP hD hS => ?_)
    have hset : ∀ v9 : Int32, (zwM cI cB Mo Mp Ms_8 Mj Ma).set 0 (Mo, .inr (6, ([.int (Ms_8 0), .int (Ms_8 1), .int (Ms_8 2), .int (Ms_8 3), .int (Ms_8 4), .ref (Mp 5), .ref (Mp 6), .int (Ms_8 7), .int (Ms_8 8), .int (Ms_8 9), .ref (Mp 10), .ref (Mp 11), .ref (Mp 12), .int (Ms_8 13), .ref (Mp 14), .int (Ms_8 15), .int (Ms_8 16), .ref (Mp 17), .ref (Mp 18), .ref (Mp 19), .ref (Mp 20), .ref (Mp 21), .ref (Mp 22), .ref (Mp 23), .ref (Mp 24), .ref (Mp 25), .ref (Mp 26), .ref (Mp 27), .long (Mj 28), .int (Ms_8 29), .int (Ms_8 30), .int (Ms_8 31), .int (Ms_8 32), .int (Ms_8 33), .ref (Mp 34), .ref (Mp 35), .ref (Mp 36), .ref (Mp 37), .ref (Mp 38), .long (Mj 39)] : List Value).set 3 (.int v9))) = (zwM cI cB Mo Mp (upd Ms_8 3 v9) Mj Ma) := fun _ => rfl
    obtain ⟨Ms_9, eMs_9, hP, hD⟩ : ∃ y9, y9 = (upd Ms_8 3 (0 : Int32)) ∧ va_P D vwCl (zwM cI cB Mo Mp y9 Mj Ma) H ∧ va_D A (zwM cI cB Mo Mp y9 Mj Ma) := ⟨_, rfl, zsetP (hset _) hP, zsetD (hset _) hD⟩
    have h := zlt_s h eMs_9
    clear hset
    refine lv_aload_n hx hb dX6_board_46 rfl (lv_at hl 0 rfl) ?_
    refine lv_iconst (v := (0 : Int32)) hx hb dX6_board_47 (by decide) ?_
    refine va_put (D := D) (ci := 6) (v := .int (0 : Int32)) (ty := .int) (C := RX6) (T := TX6) (N := 40) hx hb hts inX6 tyX6 tyX6_ok nmX6 hown hK hP hD hS 0 rfl rfl 4 (by decide) lk115 (fun _ h9 => h9) rfl (by decide +kernel) rfl rfl (Nat.le_of_ble_eq_true rfl) dX6_board_48 (fun H locs hP hD hS => ?_)
    have hset : ∀ v9 : Int32, (zwM cI cB Mo Mp Ms_9 Mj Ma).set 0 (Mo, .inr (6, ([.int (Ms_9 0), .int (Ms_9 1), .int (Ms_9 2), .int (Ms_9 3), .int (Ms_9 4), .ref (Mp 5), .ref (Mp 6), .int (Ms_9 7), .int (Ms_9 8), .int (Ms_9 9), .ref (Mp 10), .ref (Mp 11), .ref (Mp 12), .int (Ms_9 13), .ref (Mp 14), .int (Ms_9 15), .int (Ms_9 16), .ref (Mp 17), .ref (Mp 18), .ref (Mp 19), .ref (Mp 20), .ref (Mp 21), .ref (Mp 22), .ref (Mp 23), .ref (Mp 24), .ref (Mp 25), .ref (Mp 26), .ref (Mp 27), .long (Mj 28), .int (Ms_9 29), .int (Ms_9 30), .int (Ms_9 31), .int (Ms_9 32), .int (Ms_9 33), .ref (Mp 34), .ref (Mp 35), .ref (Mp 36), .ref (Mp 37), .ref (Mp 38), .long (Mj 39)] : List Value).set 4 (.int v9))) = (zwM cI cB Mo Mp (upd Ms_9 4 v9) Mj Ma) := fun _ => rfl
    obtain ⟨Ms_10, eMs_10, hP, hD⟩ : ∃ y9, y9 = (upd Ms_9 4 (0 : Int32)) ∧ va_P D vwCl (zwM cI cB Mo Mp y9 Mj Ma) H ∧ va_D A (zwM cI cB Mo Mp y9 Mj Ma) := ⟨_, rfl, zsetP (hset _) hP, zsetD (hset _) hD⟩
    have h := zlt_s h eMs_10
    clear hset
    refine lv_iconst (v := (0 : Int32)) hx hb dX6_board_51 (by decide) ?_
    refine lv_istore_n (lv' := [(1, .int (0 : Int32)), (0, .ref Mo)]) hx hb dX6_board_52 rfl hl (by decide) rfl (fun ls hl => ?_)
    obtain ⟨Ms_139x53, Ma_139x53, i35, h⟩ := zb2_s h
    have KX139 : ∀ (H : Heap) (locs : List Loc) (ls : Array Slot), va_P D vwCl (zwM cI cB Mo Mp Ms_139x53 Mj Ma_139x53) H → va_D A (zwM cI cB Mo Mp Ms_139x53 Mj Ma_139x53) → va_S A s.heap H locs → lv_has ls 3 [(0, .ref Mo)] → W p l e R s m args below meth c H locs 0 0 Q (F0 m 139 ls []) := by
      intro H locs ls hP hD hS hl
      refine lv_aload_n hx hb dX6_board_139 rfl (lv_at hl 0 rfl) ?_
      refine lv_iconst (v := (0 : Int32)) hx hb dX6_board_140 (by decide) ?_
      refine va_put (D := D) (ci := 6) (v := .int (0 : Int32)) (ty := .int) (C := RX6) (T := TX6) (N := 40) hx hb hts inX6 tyX6 tyX6_ok nmX6 hown hK hP hD hS 0 rfl rfl 7 (by decide) lk121 (fun _ h9 => h9) rfl (by decide +kernel) rfl rfl (Nat.le_of_ble_eq_true rfl) dX6_board_141 (fun H locs hP hD hS => ?_)
      have hset : ∀ v9 : Int32, (zwM cI cB Mo Mp Ms_139x53 Mj Ma_139x53).set 0 (Mo, .inr (6, ([.int (Ms_139x53 0), .int (Ms_139x53 1), .int (Ms_139x53 2), .int (Ms_139x53 3), .int (Ms_139x53 4), .ref (Mp 5), .ref (Mp 6), .int (Ms_139x53 7), .int (Ms_139x53 8), .int (Ms_139x53 9), .ref (Mp 10), .ref (Mp 11), .ref (Mp 12), .int (Ms_139x53 13), .ref (Mp 14), .int (Ms_139x53 15), .int (Ms_139x53 16), .ref (Mp 17), .ref (Mp 18), .ref (Mp 19), .ref (Mp 20), .ref (Mp 21), .ref (Mp 22), .ref (Mp 23), .ref (Mp 24), .ref (Mp 25), .ref (Mp 26), .ref (Mp 27), .long (Mj 28), .int (Ms_139x53 29), .int (Ms_139x53 30), .int (Ms_139x53 31), .int (Ms_139x53 32), .int (Ms_139x53 33), .ref (Mp 34), .ref (Mp 35), .ref (Mp 36), .ref (Mp 37), .ref (Mp 38), .long (Mj 39)] : List Value).set 7 (.int v9))) = (zwM cI cB Mo Mp (upd Ms_139x53 7 v9) Mj Ma_139x53) := fun _ => rfl
      obtain ⟨Ms_31, eMs_31, hP, hD⟩ : ∃ y9, y9 = (upd Ms_139x53 7 (0 : Int32)) ∧ va_P D vwCl (zwM cI cB Mo Mp y9 Mj Ma_139x53) H ∧ va_D A (zwM cI cB Mo Mp y9 Mj Ma_139x53) := ⟨_, rfl, zsetP (hset _) hP, zsetD (hset _) hD⟩
      have h := zlt_s h eMs_31
      clear hset
      refine lv_aload_n hx hb dX6_board_144 rfl (lv_at hl 0 rfl) ?_
      refine lv_dup hx hb dX6_board_145 rfl ?_
      refine va_get (D := D) (ci := 6) (v := .int (Ms_31 0)) (C := RX6) (T := TX6) (N := 40) hx hb hts inX6 hown hK hP 0 rfl rfl 0 (by decide) lk124 (fun _ h9 => h9) rfl dX6_board_146 ?_
      refine lv_iconst (v := (1 : Int32)) hx hb dX6_board_149 (by decide) ?_
      refine lv_iadd hx hb dX6_board_150 ?_
      refine va_put (D := D) (ci := 6) (v := .int ((Ms_31 0) + (1 : Int32))) (ty := .int) (C := RX6) (T := TX6) (N := 40) hx hb hts inX6 tyX6 tyX6_ok nmX6 hown hK hP hD hS 0 rfl rfl 0 (by decide) lk124 (fun _ h9 => h9) rfl (by decide +kernel) rfl rfl (Nat.le_of_ble_eq_true rfl) dX6_board_151 (fun H locs hP hD hS => ?_)
      have hset : ∀ v9 : Int32, (zwM cI cB Mo Mp Ms_31 Mj Ma_139x53).set 0 (Mo, .inr (6, ([.int (Ms_31 0), .int (Ms_31 1), .int (Ms_31 2), .int (Ms_31 3), .int (Ms_31 4), .ref (Mp 5), .ref (Mp 6), .int (Ms_31 7), .int (Ms_31 8), .int (Ms_31 9), .ref (Mp 10), .ref (Mp 11), .ref (Mp 12), .int (Ms_31 13), .ref (Mp 14), .int (Ms_31 15), .int (Ms_31 16), .ref (Mp 17), .ref (Mp 18), .ref (Mp 19), .ref (Mp 20), .ref (Mp 21), .ref (Mp 22), .ref (Mp 23), .ref (Mp 24), .ref (Mp 25), .ref (Mp 26), .ref (Mp 27), .long (Mj 28), .int (Ms_31 29), .int (Ms_31 30), .int (Ms_31 31), .int (Ms_31 32), .int (Ms_31 33), .ref (Mp 34), .ref (Mp 35), .ref (Mp 36), .ref (Mp 37), .ref (Mp 38), .long (Mj 39)] : List Value).set 0 (.int v9))) = (zwM cI cB Mo Mp (upd Ms_31 0 v9) Mj Ma_139x53) := fun _ => rfl
      obtain ⟨Ms_32, eMs_32, hP, hD⟩ : ∃ y9, y9 = (upd Ms_31 0 ((Ms_31 0) + (1 : Int32))) ∧ va_P D vwCl (zwM cI cB Mo Mp y9 Mj Ma_139x53) H ∧ va_D A (zwM cI cB Mo Mp y9 Mj Ma_139x53) := ⟨_, rfl, zsetP (hset _) hP, zsetD (hset _) hD⟩
      have h := zlt_s h eMs_32
      clear hset
      refine lv_aload_n hx hb dX6_board_154 rfl (lv_at hl 0 rfl) ?_
      refine lv_iconst (v := (0 : Int32)) hx hb dX6_board_155 (by decide) ?_
      refine va_put (D := D) (ci := 6) (v := .int (0 : Int32)) (ty := .int) (C := RX6) (T := TX6) (N := 40) hx hb hts inX6 tyX6 tyX6_ok nmX6 hown hK hP hD hS 0 rfl rfl 9 (by decide) lk127 (fun _ h9 => h9) rfl (by decide +kernel) rfl rfl (Nat.le_of_ble_eq_true rfl) dX6_board_156 (fun H locs hP hD hS => ?_)
      have hset : ∀ v9 : Int32, (zwM cI cB Mo Mp Ms_32 Mj Ma_139x53).set 0 (Mo, .inr (6, ([.int (Ms_32 0), .int (Ms_32 1), .int (Ms_32 2), .int (Ms_32 3), .int (Ms_32 4), .ref (Mp 5), .ref (Mp 6), .int (Ms_32 7), .int (Ms_32 8), .int (Ms_32 9), .ref (Mp 10), .ref (Mp 11), .ref (Mp 12), .int (Ms_32 13), .ref (Mp 14), .int (Ms_32 15), .int (Ms_32 16), .ref (Mp 17), .ref (Mp 18), .ref (Mp 19), .ref (Mp 20), .ref (Mp 21), .ref (Mp 22), .ref (Mp 23), .ref (Mp 24), .ref (Mp 25), .ref (Mp 26), .ref (Mp 27), .long (Mj 28), .int (Ms_32 29), .int (Ms_32 30), .int (Ms_32 31), .int (Ms_32 32), .int (Ms_32 33), .ref (Mp 34), .ref (Mp 35), .ref (Mp 36), .ref (Mp 37), .ref (Mp 38), .long (Mj 39)] : List Value).set 9 (.int v9))) = (zwM cI cB Mo Mp (upd Ms_32 9 v9) Mj Ma_139x53) := fun _ => rfl
      obtain ⟨Ms_33, eMs_33, hP, hD⟩ : ∃ y9, y9 = (upd Ms_32 9 (0 : Int32)) ∧ va_P D vwCl (zwM cI cB Mo Mp y9 Mj Ma_139x53) H ∧ va_D A (zwM cI cB Mo Mp y9 Mj Ma_139x53) := ⟨_, rfl, zsetP (hset _) hP, zsetD (hset _) hD⟩
      have h := zlt_s h eMs_33
      clear hset
      refine lv_aload_n hx hb dX6_board_159 rfl (lv_at hl 0 rfl) ?_
      refine lv_iconst (v := (0 : Int32)) hx hb dX6_board_160 (by decide) ?_
      refine va_put (D := D) (ci := 6) (v := .int (0 : Int32)) (ty := .int) (C := RX6) (T := TX6) (N := 40) hx hb hts inX6 tyX6 tyX6_ok nmX6 hown hK hP hD hS 0 rfl rfl 13 (by decide) lk81 (fun _ h9 => h9) rfl (by decide +kernel) rfl rfl (Nat.le_of_ble_eq_true rfl) dX6_board_161 (fun H locs hP hD hS => ?_)
      have hset : ∀ v9 : Int32, (zwM cI cB Mo Mp Ms_33 Mj Ma_139x53).set 0 (Mo, .inr (6, ([.int (Ms_33 0), .int (Ms_33 1), .int (Ms_33 2), .int (Ms_33 3), .int (Ms_33 4), .ref (Mp 5), .ref (Mp 6), .int (Ms_33 7), .int (Ms_33 8), .int (Ms_33 9), .ref (Mp 10), .ref (Mp 11), .ref (Mp 12), .int (Ms_33 13), .ref (Mp 14), .int (Ms_33 15), .int (Ms_33 16), .ref (Mp 17), .ref (Mp 18), .ref (Mp 19), .ref (Mp 20), .ref (Mp 21), .ref (Mp 22), .ref (Mp 23), .ref (Mp 24), .ref (Mp 25), .ref (Mp 26), .ref (Mp 27), .long (Mj 28), .int (Ms_33 29), .int (Ms_33 30), .int (Ms_33 31), .int (Ms_33 32), .int (Ms_33 33), .ref (Mp 34), .ref (Mp 35), .ref (Mp 36), .ref (Mp 37), .ref (Mp 38), .long (Mj 39)] : List Value).set 13 (.int v9))) = (zwM cI cB Mo Mp (upd Ms_33 13 v9) Mj Ma_139x53) := fun _ => rfl
      obtain ⟨Ms_34, eMs_34, hP, hD⟩ : ∃ y9, y9 = (upd Ms_33 13 (0 : Int32)) ∧ va_P D vwCl (zwM cI cB Mo Mp y9 Mj Ma_139x53) H ∧ va_D A (zwM cI cB Mo Mp y9 Mj Ma_139x53) := ⟨_, rfl, zsetP (hset _) hP, zsetD (hset _) hD⟩
      have h := zlt_s h eMs_34
      clear hset
      refine lv_aload_n hx hb dX6_board_164 rfl (lv_at hl 0 rfl) ?_
      refine va_get (D := D) (ci := 6) (v := .int (Ms_34 4)) (C := RX6) (T := TX6) (N := 40) hx hb hts inX6 hown hK hP 0 rfl rfl 4 (by decide) lk115 (fun _ h9 => h9) rfl dX6_board_165 ?_
      cases zend h
      exact hq hP hD hS dX6_board_168
    clear h
    refine zi3_ind (P := (fun (x1_53h : Int32) (Ms_53h : Nat → Int32) (Ma_53h : Nat → Nat → Int32) => ∀ (H : Heap) (locs : List Loc) (ls : Array Slot), va_P D vwCl (zwM cI cB Mo Mp Ms_53h Mj Ma_53h) H → va_D A (zwM cI cB Mo Mp Ms_53h Mj Ma_53h) → va_S A s.heap H locs → lv_has ls 3 [(0, .ref Mo), (1, .int x1_53h)] → W p l e R s m args below meth c H locs 0 0 Q (F0 m 53 ls []))) ?_ i35 _ _ _ hP hD hS (lv_sub hl [1, 0] rfl)
    clear i35 hP hD hS hl
    intro x1_53h Ms_53h Ma_53h z53 h zl53 zr53 H locs ls hP hD hS hl
    refine lv_iload_n hx hb dX6_board_53 rfl (lv_at hl 1 rfl) ?_
    refine lv_aload_n hx hb dX6_board_54 rfl (lv_at hl 0 rfl) ?_
    obtain ⟨r12, g13, h⟩ := zb1_s h
    have hFc := va_free (wc := (zwM cI cB Mo Mp Ms_53h Mj Ma_53h)) hD hS hA [0, 1, 2, 3, 4, 5, 6, 7, 8, 9, 10, 11, 12, 13, 14, 15, 16, 17, 18, 19, 20, 21, 22] (zC_53 (cI := cI) (cB := cB) (cO := cO))
    refine zcp_i (va_runV (As := []) (rest := [.int x1_53h]) ⟨hx, hb, hml, hown, hts⟩ (c_X6_places l D cI cB cO Mo Mp Ms_53h Mj Ma_53h _ _ g13) (cwV 0 hts gX6_board_X6_places rfl rfl rfl kV_X6_places ⟨Nat.le_trans (Nat.le_of_ble_eq_true rfl) hRf, Nat.le_trans (Nat.le_of_ble_eq_true rfl) hRl⟩) (zpreV hK hP hD hS hE hFc [0, 1, 2, 3, 4, 5, 6, 7, 8, 9, 10, 11, 12, 13, 14, 15, 16, 17, 18, 19, 20, 21, 22] (zC_53 (cI := cI) (cB := cB) (cO := cO)) rfl 0 (ci := 6) rfl rfl []) rfl rfl hl.1 rfl (lv_room (Nat.le_of_ble_eq_true rfl)) dX6_board_55 ⟨Nat.zero_le _, Nat.zero_le _⟩) hP hD hS hFc [0, 1, 2, 3, 4, 5, 6, 7, 8, 9, 10, 11, 12, 13, 14, 15, 16, 17, 18, 19, 20, 21, 22] (zC_53 (cI := cI) (cB := cB) (cO := cO)) (fun H locs hP hS => ?_)
    clear hFc
    refine lv_icmp_ge (tgt := 139) hx hb dX6_board_58 (by decide) (fun c14 => ?_) (fun c14 => ?_)
    · have h := zif_t c14 h
      cases zr53 _ (zend h).symm
      exact KX139 _ _ _ hP hD hS (lv_sub hl [0] rfl)
    · have h := zif_f c14 h
      refine lv_aload_n hx hb dX6_board_61 rfl (lv_at hl 0 rfl) ?_
      refine va_get (D := D) (ci := 6) (v := .ref (Mp 14)) (C := RX6) (T := TX6) (N := 40) hx hb hts inX6 hown hK hP 0 rfl rfl 14 (by decide) lk25 (fun _ h9 => h9) rfl dX6_board_62 ?_
      refine lv_iconst (v := (3 : Int32)) hx hb dX6_board_65 (by decide) ?_
      refine lv_iload_n hx hb dX6_board_66 rfl (lv_at hl 1 rfl) ?_
      refine lv_iadd hx hb dX6_board_67 ?_
      obtain ⟨z15, h⟩ := zck_s h
      refine va_bald hx hb hK hP 6 1 rfl rfl (zin_s z15) dX6_board_68 ?_
      refine lv_topi (fun x2_16 ex2_16 => ?_)
      have h := zlt_s h ex2_16
      refine lv_istore_n (lv' := [(2, .int x2_16), (0, .ref Mo), (1, .int x1_53h)]) hx hb dX6_board_69 rfl hl (by decide) rfl (fun ls hl => ?_)
      refine lv_aload_n hx hb dX6_board_70 rfl (lv_at hl 1 rfl) ?_
      refine lv_dup hx hb dX6_board_71 rfl ?_
      refine va_get (D := D) (ci := 6) (v := .int (Ms_53h 3)) (C := RX6) (T := TX6) (N := 40) hx hb hts inX6 hown hK hP 0 rfl rfl 3 (by decide) lk112 (fun _ h9 => h9) rfl dX6_board_72 ?_
      refine lv_iload_n hx hb dX6_board_75 rfl (lv_at hl 0 rfl) ?_
      refine lv_bipush (v := (35 : Int32)) hx hb dX6_board_76 (by decide) ?_
      obtain ⟨v88, j29, h⟩ := zb1_s h
      have K88 : ∀ (H : Heap) (locs : List Loc) (ls : Array Slot), va_P D vwCl (zwM cI cB Mo Mp Ms_53h Mj Ma_53h) H → va_D A (zwM cI cB Mo Mp Ms_53h Mj Ma_53h) → va_S A s.heap H locs → lv_has ls 3 [(0, .ref Mo), (1, .int x1_53h), (2, .int x2_16)] → W p l e R s m args below meth c H locs 0 0 Q (F0 m 88 ls [.int v88, .int (Ms_53h 3), .ref Mo]) := by
        intro H locs ls hP hD hS hl
        refine lv_ior hx hb dX6_board_88 ?_
        refine va_put (D := D) (ci := 6) (v := .int ((Ms_53h 3) ||| v88)) (ty := .int) (C := RX6) (T := TX6) (N := 40) hx hb hts inX6 tyX6 tyX6_ok nmX6 hown hK hP hD hS 0 rfl rfl 3 (by decide) lk112 (fun _ h9 => h9) rfl (by decide +kernel) rfl rfl (Nat.le_of_ble_eq_true rfl) dX6_board_89 (fun H locs hP hD hS => ?_)
        have hset : ∀ v9 : Int32, (zwM cI cB Mo Mp Ms_53h Mj Ma_53h).set 0 (Mo, .inr (6, ([.int (Ms_53h 0), .int (Ms_53h 1), .int (Ms_53h 2), .int (Ms_53h 3), .int (Ms_53h 4), .ref (Mp 5), .ref (Mp 6), .int (Ms_53h 7), .int (Ms_53h 8), .int (Ms_53h 9), .ref (Mp 10), .ref (Mp 11), .ref (Mp 12), .int (Ms_53h 13), .ref (Mp 14), .int (Ms_53h 15), .int (Ms_53h 16), .ref (Mp 17), .ref (Mp 18), .ref (Mp 19), .ref (Mp 20), .ref (Mp 21), .ref (Mp 22), .ref (Mp 23), .ref (Mp 24), .ref (Mp 25), .ref (Mp 26), .ref (Mp 27), .long (Mj 28), .int (Ms_53h 29), .int (Ms_53h 30), .int (Ms_53h 31), .int (Ms_53h 32), .int (Ms_53h 33), .ref (Mp 34), .ref (Mp 35), .ref (Mp 36), .ref (Mp 37), .ref (Mp 38), .long (Mj 39)] : List Value).set 3 (.int v9))) = (zwM cI cB Mo Mp (upd Ms_53h 3 v9) Mj Ma_53h) := fun _ => rfl
        obtain ⟨Ms_17, eMs_17, hP, hD⟩ : ∃ y9, y9 = (upd Ms_53h 3 ((Ms_53h 3) ||| v88)) ∧ va_P D vwCl (zwM cI cB Mo Mp y9 Mj Ma_53h) H ∧ va_D A (zwM cI cB Mo Mp y9 Mj Ma_53h) := ⟨_, rfl, zsetP (hset _) hP, zsetD (hset _) hD⟩
        have h := zlt_s h eMs_17
        clear hset
        refine lv_iload_n hx hb dX6_board_92 rfl (lv_at hl 2 rfl) ?_
        obtain ⟨r18, g19, h⟩ := zb1_s h
        have hFc := va_free (wc := ([] : va_W)) hD hS hA [] rfl
        refine zcp_i (va_runS (As := [.int x2_16]) (rest := []) ⟨hx, hb, hml, hown, hts⟩ (c_X6_kindBy l D cI cB cO x2_16 _ _ g19) (va_cwS 1 hts gX6_board_X6_kindBy rfl rfl rfl kS_X6_kindBy ⟨Nat.le_trans (Nat.le_of_ble_eq_true rfl) hRf, Nat.le_trans (Nat.le_of_ble_eq_true rfl) hRl⟩) (zpreS hK hP hD hS hE hFc [] (rfl) rfl [.int x2_16]) rfl rfl hl.1 rfl (lv_room (Nat.le_of_ble_eq_true rfl)) dX6_board_93 ⟨Nat.zero_le _, Nat.zero_le _⟩) hP hD hS hFc [] (rfl) (fun H locs hP hS => ?_)
        clear hFc
        refine lv_iconst (v := (-1 : Int32)) hx hb dX6_board_96 (by decide) ?_
        obtain ⟨Ms_133, Ma_133, j20, h⟩ := zb2_s h
        have K133 : ∀ (H : Heap) (locs : List Loc) (ls : Array Slot), va_P D vwCl (zwM cI cB Mo Mp Ms_133 Mj Ma_133) H → va_D A (zwM cI cB Mo Mp Ms_133 Mj Ma_133) → va_S A s.heap H locs → lv_has ls 3 [(0, .ref Mo), (1, .int x1_53h)] → W p l e R s m args below meth c H locs 0 0 Q (F0 m 133 ls []) := by
          intro H locs ls hP hD hS hl
          refine lv_iinc (v := (x1_53h + (1 : Int32))) (lv' := [(1, .int (x1_53h + (1 : Int32))), (0, .ref Mo)]) hx hb dX6_board_133 hl (k := 1) rfl rfl (by decide) rfl (fun ls hl => ?_)
          refine lv_goto (tgt := 53) hx hb dX6_board_136 (by decide) ?_
          exact zl53 _ _ _ (zend h).symm _ _ _ hP hD hS (lv_sub hl [1, 0] rfl)
        clear h
        have h := j20
        clear j20
        refine lv_icmp_eq (tgt := 133) hx hb dX6_board_97 (by decide) (fun c21 => ?_) (fun c21 => ?_)
        · have h := zif_t c21 h
          cases zend h
          exact K133 _ _ _ hP hD hS (lv_sub hl [0, 1] rfl)
        · have h := zif_f c21 h
          refine lv_aload_n hx hb dX6_board_100 rfl (lv_at hl 0 rfl) ?_
          refine va_get (D := D) (ci := 6) (v := .ref (Mp 5)) (C := RX6) (T := TX6) (N := 40) hx hb hts inX6 hown hK hP 0 rfl rfl 5 (by decide) lk7 (fun _ h9 => h9) rfl dX6_board_101 ?_
          refine lv_aload_n hx hb dX6_board_104 rfl (lv_at hl 0 rfl) ?_
          refine va_get (D := D) (ci := 6) (v := .int (Ms_17 4)) (C := RX6) (T := TX6) (N := 40) hx hb hts inX6 hown hK hP 0 rfl rfl 4 (by decide) lk115 (fun _ h9 => h9) rfl dX6_board_105 ?_
          refine lv_iload_n hx hb dX6_board_108 rfl (lv_at hl 2 rfl) ?_
          obtain ⟨r22, g23, h⟩ := zb1_s h
          have hFc := va_free (wc := ([] : va_W)) hD hS hA [] rfl
          refine zcp_i (va_runS (As := [.int x2_16]) (rest := [.int (Ms_17 4), .ref (Mp 5)]) ⟨hx, hb, hml, hown, hts⟩ (c_X6_kindBy l D cI cB cO x2_16 _ _ g23) (va_cwS 1 hts gX6_board_X6_kindBy rfl rfl rfl kS_X6_kindBy ⟨Nat.le_trans (Nat.le_of_ble_eq_true rfl) hRf, Nat.le_trans (Nat.le_of_ble_eq_true rfl) hRl⟩) (zpreS hK hP hD hS hE hFc [] (rfl) rfl [.int x2_16]) rfl rfl hl.1 rfl (lv_room (Nat.le_of_ble_eq_true rfl)) dX6_board_109 ⟨Nat.zero_le _, Nat.zero_le _⟩) hP hD hS hFc [] (rfl) (fun H locs hP hS => ?_)
          clear hFc
          obtain ⟨z24, h⟩ := zck_s h
          refine va_iast hx hb hK hP hD hS 1 0 rfl rfl (zin_s z24) dX6_board_112 (fun H locs hP hD hS => ?_)
          have hset : ∀ v9 : Nat → Int32, (zwM cI cB Mo Mp Ms_17 Mj Ma_53h).set 1 ((Mp 5), .inl (cI, 8, .inl v9)) = (zwM cI cB Mo Mp Ms_17 Mj (va_up Ma_53h 5 v9)) := fun _ => rfl
          obtain ⟨Ma_25, eMa_25, hP, hD⟩ : ∃ y9, y9 = (va_up Ma_53h 5 (upd (Ma_53h 5) ((Ms_17 4)).toNatClampNeg r22)) ∧ va_P D vwCl (zwM cI cB Mo Mp Ms_17 Mj y9) H ∧ va_D A (zwM cI cB Mo Mp Ms_17 Mj y9) := ⟨_, rfl, zsetP (hset _) hP, zsetD (hset _) hD⟩
          have h := zlt_s h eMa_25
          clear hset
          refine lv_aload_n hx hb dX6_board_113 rfl (lv_at hl 0 rfl) ?_
          refine va_get (D := D) (ci := 6) (v := .ref (Mp 6)) (C := RX6) (T := TX6) (N := 40) hx hb hts inX6 hown hK hP 0 rfl rfl 6 (by decide) lk13 (fun _ h9 => h9) rfl dX6_board_114 ?_
          refine lv_aload_n hx hb dX6_board_117 rfl (lv_at hl 0 rfl) ?_
          refine va_get (D := D) (ci := 6) (v := .int (Ms_17 4)) (C := RX6) (T := TX6) (N := 40) hx hb hts inX6 hown hK hP 0 rfl rfl 4 (by decide) lk115 (fun _ h9 => h9) rfl dX6_board_118 ?_
          refine lv_iload_n hx hb dX6_board_121 rfl (lv_at hl 1 rfl) ?_
          obtain ⟨z26, h⟩ := zck_s h
          refine va_iast hx hb hK hP hD hS 2 0 rfl rfl (zin_s z26) dX6_board_122 (fun H locs hP hD hS => ?_)
          have hset : ∀ v9 : Nat → Int32, (zwM cI cB Mo Mp Ms_17 Mj Ma_25).set 2 ((Mp 6), .inl (cI, 8, .inl v9)) = (zwM cI cB Mo Mp Ms_17 Mj (va_up Ma_25 6 v9)) := fun _ => rfl
          obtain ⟨Ma_27, eMa_27, hP, hD⟩ : ∃ y9, y9 = (va_up Ma_25 6 (upd (Ma_25 6) ((Ms_17 4)).toNatClampNeg x1_53h)) ∧ va_P D vwCl (zwM cI cB Mo Mp Ms_17 Mj y9) H ∧ va_D A (zwM cI cB Mo Mp Ms_17 Mj y9) := ⟨_, rfl, zsetP (hset _) hP, zsetD (hset _) hD⟩
          have h := zlt_s h eMa_27
          clear hset
          refine lv_aload_n hx hb dX6_board_123 rfl (lv_at hl 0 rfl) ?_
          refine lv_dup hx hb dX6_board_124 rfl ?_
          refine va_get (D := D) (ci := 6) (v := .int (Ms_17 4)) (C := RX6) (T := TX6) (N := 40) hx hb hts inX6 hown hK hP 0 rfl rfl 4 (by decide) lk115 (fun _ h9 => h9) rfl dX6_board_125 ?_
          refine lv_iconst (v := (1 : Int32)) hx hb dX6_board_128 (by decide) ?_
          refine lv_iadd hx hb dX6_board_129 ?_
          refine va_put (D := D) (ci := 6) (v := .int ((Ms_17 4) + (1 : Int32))) (ty := .int) (C := RX6) (T := TX6) (N := 40) hx hb hts inX6 tyX6 tyX6_ok nmX6 hown hK hP hD hS 0 rfl rfl 4 (by decide) lk115 (fun _ h9 => h9) rfl (by decide +kernel) rfl rfl (Nat.le_of_ble_eq_true rfl) dX6_board_130 (fun H locs hP hD hS => ?_)
          have hset : ∀ v9 : Int32, (zwM cI cB Mo Mp Ms_17 Mj Ma_27).set 0 (Mo, .inr (6, ([.int (Ms_17 0), .int (Ms_17 1), .int (Ms_17 2), .int (Ms_17 3), .int (Ms_17 4), .ref (Mp 5), .ref (Mp 6), .int (Ms_17 7), .int (Ms_17 8), .int (Ms_17 9), .ref (Mp 10), .ref (Mp 11), .ref (Mp 12), .int (Ms_17 13), .ref (Mp 14), .int (Ms_17 15), .int (Ms_17 16), .ref (Mp 17), .ref (Mp 18), .ref (Mp 19), .ref (Mp 20), .ref (Mp 21), .ref (Mp 22), .ref (Mp 23), .ref (Mp 24), .ref (Mp 25), .ref (Mp 26), .ref (Mp 27), .long (Mj 28), .int (Ms_17 29), .int (Ms_17 30), .int (Ms_17 31), .int (Ms_17 32), .int (Ms_17 33), .ref (Mp 34), .ref (Mp 35), .ref (Mp 36), .ref (Mp 37), .ref (Mp 38), .long (Mj 39)] : List Value).set 4 (.int v9))) = (zwM cI cB Mo Mp (upd Ms_17 4 v9) Mj Ma_27) := fun _ => rfl
          obtain ⟨Ms_28, eMs_28, hP, hD⟩ : ∃ y9, y9 = (upd Ms_17 4 ((Ms_17 4) + (1 : Int32))) ∧ va_P D vwCl (zwM cI cB Mo Mp y9 Mj Ma_27) H ∧ va_D A (zwM cI cB Mo Mp y9 Mj Ma_27) := ⟨_, rfl, zsetP (hset _) hP, zsetD (hset _) hD⟩
          have h := zlt_s h eMs_28
          clear hset
          cases zend h
          exact K133 _ _ _ hP hD hS (lv_sub hl [0, 1] rfl)
      clear h
      have h := j29
      clear j29
      refine lv_icmp_ne (tgt := 85) hx hb dX6_board_78 (by decide) (fun c30 => ?_) (fun c30 => ?_)
      · have h := zif_f c30 h
        refine lv_iconst (v := (1 : Int32)) hx hb dX6_board_85 (by decide) ?_
        refine lv_iload_n hx hb dX6_board_86 rfl (lv_at hl 2 rfl) ?_
        refine lv_ishl hx hb dX6_board_87 ?_
        cases zend h
        exact K88 _ _ _ hP hD hS (lv_sub hl [1, 2, 0] rfl)
      · have h := zif_t c30 h
        refine lv_iconst (v := (0 : Int32)) hx hb dX6_board_81 (by decide) ?_
        refine lv_goto (tgt := 88) hx hb dX6_board_82 (by decide) ?_
        cases zend h
        exact K88 _ _ _ hP hD hS (lv_sub hl [1, 2, 0] rfl)
  · have h := zif_t c4 h
    refine lv_bipush (v := (-103 : Int32)) hx hb dX6_board_12 (by decide) ?_
    cases zend h
    exact hq hP hD hS dX6_board_14
set_option maxHeartbeats 4000000 in
set_option maxRecDepth 100000 in
theorem c_X6_isPeg (l : Launch) (D : va_G) (cI cB cO : ClassId) (Mo : Nat) (Mp : Nat → Nat) (Ms : Nat → Int32) (Mj : Nat → Int64) (Ma : Nat → Nat → Int32) (a0 : Int32) (rv : Int32) (sz : Nat) (h : fX6_isPeg Ms a0 = some rv) : Met l yX6_isPeg wsX6_isPeg ({ frames := 1, cells := 0, slots := 0, locals := 22 } : Room) (va_Pc [.ref Mo, .int a0] (zPre D (zTY cI cB cO) (zwM cI cB Mo Mp Ms Mj Ma) sz)) (va_Qi (fun r (_ : Unit) => r = rv) (fun _ => zPost D (zTY cI cB cO) (zwM cI cB Mo Mp Ms Mj Ma) (va_A (zwM cI cB Mo Mp Ms Mj Ma) sz)) (va_A (zwM cI cB Mo Mp Ms Mj Ma) sz)) 0 0 (va_A (zwM cI cB Mo Mp Ms Mj Ma) sz) := by
  unfold fX6_isPeg at h
  refine zmet_z (cc := cX6_isPeg) (maxL := 2) (by decide) rfl (Nat.le_of_ble_eq_true rfl) rfl rfl ?_
  intro p e s m args below meth c R Q A ls hx hb hts hown hml hK hP hD hE hA hS hRf hRl hl hq
  have hown : s.vm.findClass RX6 = some m.cls := hown
  have hl : lv_has ls 2 [(0, .ref Mo), (1, .int a0)] := hl
  have inX6 : ∀ w ∈ u_ws RX6 TX6 40, w ∈ wsX6_isPeg := by decide +kernel
  have lk115 : (Cond.fieldLink RX6 115 "PegFieldModel" "pegs" "I").before args s = true := hts _ (by decide +kernel)
  refine lv_iload_n hx hb dX6_isPeg_0 rfl (lv_at hl 1 rfl) ?_
  refine lv_iconst (v := (0 : Int32)) hx hb dX6_isPeg_1 (by decide) ?_
  refine lv_aload_n hx hb dX6_isPeg_2 rfl (lv_at hl 0 rfl) ?_
  refine va_get (D := D) (ci := 6) (v := .int (Ms 4)) (C := RX6) (T := TX6) (N := 40) hx hb hts inX6 hown hK hP 0 rfl rfl 4 (by decide) lk115 (fun _ h9 => h9) rfl dX6_isPeg_3 ?_
  refine lv_iconst (v := (1 : Int32)) hx hb dX6_isPeg_6 (by decide) ?_
  refine lv_isub hx hb dX6_isPeg_7 ?_
  obtain ⟨r1, g2, h⟩ := zb1_s h
  have hFc := va_free (wc := ([] : va_W)) hD hS hA [] rfl
  refine zcp_i (va_runS (As := [.int a0, .int (0 : Int32), .int ((Ms 4) - (1 : Int32))]) (rest := []) ⟨hx, hb, hml, hown, hts⟩ (c_X6_within l D cI cB cO a0 (0 : Int32) ((Ms 4) - (1 : Int32)) _ _ g2) (va_cwS 3 hts gX6_isPeg_X6_within rfl rfl rfl kS_X6_within ⟨Nat.le_trans (Nat.le_of_ble_eq_true rfl) hRf, Nat.le_trans (Nat.le_of_ble_eq_true rfl) hRl⟩) (zpreS hK hP hD hS hE hFc [] (rfl) rfl [.int a0, .int (0 : Int32), .int ((Ms 4) - (1 : Int32))]) rfl rfl hl.1 rfl (lv_room (Nat.le_of_ble_eq_true rfl)) dX6_isPeg_8 ⟨Nat.zero_le _, Nat.zero_le _⟩) hP hD hS hFc [] (rfl) (fun H locs hP hS => ?_)
  clear hFc
  obtain ⟨z3, h⟩ := zck_s h
  cases zend h
  exact hq hP hD hS (zbo_s z3) dX6_isPeg_11
set_option maxHeartbeats 4000000 in
set_option maxRecDepth 100000 in
theorem c_X6_isPlace (l : Launch) (D : va_G) (cI cB cO : ClassId) (Mo : Nat) (Mp : Nat → Nat) (Ms : Nat → Int32) (Mj : Nat → Int64) (Ma : Nat → Nat → Int32) (a0 : Int32) (rv : Int32) (sz : Nat) (h : fX6_isPlace Ms a0 = some rv) : Met l yX6_isPlace wsX6_isPlace ({ frames := 1, cells := 0, slots := 0, locals := 22 } : Room) (va_Pc [.ref Mo, .int a0] (zPre D (zTY cI cB cO) (zwM cI cB Mo Mp Ms Mj Ma) sz)) (va_Qi (fun r (_ : Unit) => r = rv) (fun _ => zPost D (zTY cI cB cO) (zwM cI cB Mo Mp Ms Mj Ma) (va_A (zwM cI cB Mo Mp Ms Mj Ma) sz)) (va_A (zwM cI cB Mo Mp Ms Mj Ma) sz)) 0 0 (va_A (zwM cI cB Mo Mp Ms Mj Ma) sz) := by
  unfold fX6_isPlace at h
  refine zmet_z (cc := cX6_isPlace) (maxL := 2) (by decide) rfl (Nat.le_of_ble_eq_true rfl) rfl rfl ?_
  intro p e s m args below meth c R Q A ls hx hb hts hown hml hK hP hD hE hA hS hRf hRl hl hq
  have hown : s.vm.findClass RX6 = some m.cls := hown
  have hl : lv_has ls 2 [(0, .ref Mo), (1, .int a0)] := hl
  refine lv_iload_n hx hb dX6_isPlace_0 rfl (lv_at hl 1 rfl) ?_
  refine lv_iconst (v := (0 : Int32)) hx hb dX6_isPlace_1 (by decide) ?_
  refine lv_aload_n hx hb dX6_isPlace_2 rfl (lv_at hl 0 rfl) ?_
  obtain ⟨r1, g2, h⟩ := zb1_s h
  have hFc := va_free (wc := (zwM cI cB Mo Mp Ms Mj Ma)) hD hS hA [0, 1, 2, 3, 4, 5, 6, 7, 8, 9, 10, 11, 12, 13, 14, 15, 16, 17, 18, 19, 20, 21, 22] (zC_53 (cI := cI) (cB := cB) (cO := cO))
  refine zcp_i (va_runV (As := []) (rest := [.int (0 : Int32), .int a0]) ⟨hx, hb, hml, hown, hts⟩ (c_X6_places l D cI cB cO Mo Mp Ms Mj Ma _ _ g2) (cwV 0 hts gX6_isPlace_X6_places rfl rfl rfl kV_X6_places ⟨Nat.le_trans (Nat.le_of_ble_eq_true rfl) hRf, Nat.le_trans (Nat.le_of_ble_eq_true rfl) hRl⟩) (zpreV hK hP hD hS hE hFc [0, 1, 2, 3, 4, 5, 6, 7, 8, 9, 10, 11, 12, 13, 14, 15, 16, 17, 18, 19, 20, 21, 22] (zC_53 (cI := cI) (cB := cB) (cO := cO)) rfl 0 (ci := 6) rfl rfl []) rfl rfl hl.1 rfl (lv_room (Nat.le_of_ble_eq_true rfl)) dX6_isPlace_3 ⟨Nat.zero_le _, Nat.zero_le _⟩) hP hD hS hFc [0, 1, 2, 3, 4, 5, 6, 7, 8, 9, 10, 11, 12, 13, 14, 15, 16, 17, 18, 19, 20, 21, 22] (zC_53 (cI := cI) (cB := cB) (cO := cO)) (fun H locs hP hS => ?_)
  clear hFc
  refine lv_iconst (v := (1 : Int32)) hx hb dX6_isPlace_6 (by decide) ?_
  refine lv_isub hx hb dX6_isPlace_7 ?_
  obtain ⟨r3, g4, h⟩ := zb1_s h
  have hFc := va_free (wc := ([] : va_W)) hD hS hA [] rfl
  refine zcp_i (va_runS (As := [.int a0, .int (0 : Int32), .int (r1 - (1 : Int32))]) (rest := []) ⟨hx, hb, hml, hown, hts⟩ (c_X6_within l D cI cB cO a0 (0 : Int32) (r1 - (1 : Int32)) _ _ g4) (va_cwS 3 hts gX6_isPlace_X6_within rfl rfl rfl kS_X6_within ⟨Nat.le_trans (Nat.le_of_ble_eq_true rfl) hRf, Nat.le_trans (Nat.le_of_ble_eq_true rfl) hRl⟩) (zpreS hK hP hD hS hE hFc [] (rfl) rfl [.int a0, .int (0 : Int32), .int (r1 - (1 : Int32))]) rfl rfl hl.1 rfl (lv_room (Nat.le_of_ble_eq_true rfl)) dX6_isPlace_8 ⟨Nat.zero_le _, Nat.zero_le _⟩) hP hD hS hFc [] (rfl) (fun H locs hP hS => ?_)
  clear hFc
  obtain ⟨z5, h⟩ := zck_s h
  cases zend h
  exact hq hP hD hS (zbo_s z5) dX6_isPlace_11
set_option maxHeartbeats 4000000 in
set_option maxRecDepth 100000 in
theorem c_X6_putDeep (l : Launch) (D : va_G) (cI cB cO : ClassId) (Mo : Nat) (Mp : Nat → Nat) (Ms : Nat → Int32) (Mj : Nat → Int64) (Ma : Nat → Nat → Int32)  (Ma' : Nat → Nat → Int32) (sz : Nat) (h : fX6_putDeep Ms Ma = some Ma') : Met l yX6_putDeep wsX6_putDeep ({ frames := 0, cells := 0, slots := 0, locals := 0 } : Room) (va_Pc [.ref Mo] (zPre D (zTY cI cB cO) (zwM cI cB Mo Mp Ms Mj Ma) sz)) (va_Qv (fun (_ : Unit) => True) (fun _ => zPost D (zTY cI cB cO) (zwM cI cB Mo Mp Ms Mj Ma') (va_A (zwM cI cB Mo Mp Ms Mj Ma) sz)) (va_A (zwM cI cB Mo Mp Ms Mj Ma) sz)) 0 0 (va_A (zwM cI cB Mo Mp Ms Mj Ma) sz) := by
  unfold fX6_putDeep at h
  refine zmet_v (cc := cX6_putDeep) (maxL := 2) (by decide) rfl (Nat.le_of_ble_eq_true rfl) rfl rfl ?_
  intro p e s m args below meth c R Q A ls hx hb hts hown hml hK hP hD hE hA hS hRf hRl hl hq
  have hown : s.vm.findClass RX6 = some m.cls := hown
  have hl : lv_has ls 2 [(0, .ref Mo)] := hl
  have inX6 : ∀ w ∈ u_ws RX6 TX6 40, w ∈ wsX6_putDeep := by decide +kernel
  have lk29 : (Cond.fieldLink RX6 29 "PegFieldModel" "deepPlace" "[I").before args s = true := hts _ (by decide +kernel)
  have lk115 : (Cond.fieldLink RX6 115 "PegFieldModel" "pegs" "I").before args s = true := hts _ (by decide +kernel)
  have lk13 : (Cond.fieldLink RX6 13 "PegFieldModel" "placeOf" "[I").before args s = true := hts _ (by decide +kernel)
  refine lv_iconst (v := (0 : Int32)) hx hb dX6_putDeep_0 (by decide) ?_
  refine lv_istore_n (lv' := [(1, .int (0 : Int32)), (0, .ref Mo)]) hx hb dX6_putDeep_1 rfl hl (by decide) rfl (fun ls hl => ?_)
  obtain ⟨Ma_38x2, i8, h⟩ := zb1_s h
  have KX38 : ∀ (H : Heap) (locs : List Loc) (ls : Array Slot), va_P D vwCl (zwM cI cB Mo Mp Ms Mj Ma_38x2) H → va_D A (zwM cI cB Mo Mp Ms Mj Ma_38x2) → va_S A s.heap H locs → lv_has ls 2 [] → W p l e R s m args below meth c H locs 0 0 Q (F0 m 38 ls []) := by
    intro H locs ls hP hD hS hl
    cases zend h
    exact hq hP hD hS dX6_putDeep_38
  clear h
  refine zi2_ind (P := (fun (x1_2h : Int32) (Ma_2h : Nat → Nat → Int32) => ∀ (H : Heap) (locs : List Loc) (ls : Array Slot), va_P D vwCl (zwM cI cB Mo Mp Ms Mj Ma_2h) H → va_D A (zwM cI cB Mo Mp Ms Mj Ma_2h) → va_S A s.heap H locs → lv_has ls 2 [(0, .ref Mo), (1, .int x1_2h)] → W p l e R s m args below meth c H locs 0 0 Q (F0 m 2 ls []))) ?_ i8 _ _ _ hP hD hS (lv_sub hl [1, 0] rfl)
  clear i8 hP hD hS hl
  intro x1_2h Ma_2h z2 h zl2 zr2 H locs ls hP hD hS hl
  refine lv_iload_n hx hb dX6_putDeep_2 rfl (lv_at hl 1 rfl) ?_
  refine lv_bipush (v := (8 : Int32)) hx hb dX6_putDeep_3 (by decide) ?_
  refine lv_icmp_ge (tgt := 38) hx hb dX6_putDeep_5 (by decide) (fun c2 => ?_) (fun c2 => ?_)
  · have h := zif_t c2 h
    cases zr2 _ (zend h).symm
    exact KX38 _ _ _ hP hD hS (lv_sub hl [] rfl)
  · have h := zif_f c2 h
    refine lv_aload_n hx hb dX6_putDeep_8 rfl (lv_at hl 0 rfl) ?_
    refine va_get (D := D) (ci := 6) (v := .ref (Mp 17)) (C := RX6) (T := TX6) (N := 40) hx hb hts inX6 hown hK hP 0 rfl rfl 17 (by decide) lk29 (fun _ h9 => h9) rfl dX6_putDeep_9 ?_
    refine lv_iload_n hx hb dX6_putDeep_12 rfl (lv_at hl 1 rfl) ?_
    refine lv_iload_n hx hb dX6_putDeep_13 rfl (lv_at hl 1 rfl) ?_
    refine lv_aload_n hx hb dX6_putDeep_14 rfl (lv_at hl 0 rfl) ?_
    refine va_get (D := D) (ci := 6) (v := .int (Ms 4)) (C := RX6) (T := TX6) (N := 40) hx hb hts inX6 hown hK hP 0 rfl rfl 4 (by decide) lk115 (fun _ h9 => h9) rfl dX6_putDeep_15 ?_
    obtain ⟨v31, j5, h⟩ := zb1_s h
    have K31 : ∀ (H : Heap) (locs : List Loc) (ls : Array Slot), va_P D vwCl (zwM cI cB Mo Mp Ms Mj Ma_2h) H → va_D A (zwM cI cB Mo Mp Ms Mj Ma_2h) → va_S A s.heap H locs → lv_has ls 2 [(0, .ref Mo), (1, .int x1_2h)] → W p l e R s m args below meth c H locs 0 0 Q (F0 m 31 ls [.int v31, .int x1_2h, .ref (Mp 17)]) := by
      intro H locs ls hP hD hS hl
      obtain ⟨z3, h⟩ := zck_s h
      refine va_iast hx hb hK hP hD hS 7 0 rfl rfl (zin_s z3) dX6_putDeep_31 (fun H locs hP hD hS => ?_)
      have hset : ∀ v9 : Nat → Int32, (zwM cI cB Mo Mp Ms Mj Ma_2h).set 7 ((Mp 17), .inl (cI, 72, .inl v9)) = (zwM cI cB Mo Mp Ms Mj (va_up Ma_2h 17 v9)) := fun _ => rfl
      obtain ⟨Ma_4, eMa_4, hP, hD⟩ : ∃ y9, y9 = (va_up Ma_2h 17 (upd (Ma_2h 17) (x1_2h).toNatClampNeg v31)) ∧ va_P D vwCl (zwM cI cB Mo Mp Ms Mj y9) H ∧ va_D A (zwM cI cB Mo Mp Ms Mj y9) := ⟨_, rfl, zsetP (hset _) hP, zsetD (hset _) hD⟩
      have h := zlt_s h eMa_4
      clear hset
      refine lv_iinc (v := (x1_2h + (1 : Int32))) (lv' := [(1, .int (x1_2h + (1 : Int32))), (0, .ref Mo)]) hx hb dX6_putDeep_32 hl (k := 1) rfl rfl (by decide) rfl (fun ls hl => ?_)
      refine lv_goto (tgt := 2) hx hb dX6_putDeep_35 (by decide) ?_
      exact zl2 _ _ (zend h).symm _ _ _ hP hD hS (lv_sub hl [1, 0] rfl)
    clear h
    have h := j5
    clear j5
    refine lv_icmp_ge (tgt := 30) hx hb dX6_putDeep_18 (by decide) (fun c6 => ?_) (fun c6 => ?_)
    · have h := zif_t c6 h
      refine lv_iconst (v := (-1 : Int32)) hx hb dX6_putDeep_30 (by decide) ?_
      cases zend h
      exact K31 _ _ _ hP hD hS (lv_sub hl [0, 1] rfl)
    · have h := zif_f c6 h
      refine lv_aload_n hx hb dX6_putDeep_21 rfl (lv_at hl 0 rfl) ?_
      refine va_get (D := D) (ci := 6) (v := .ref (Mp 6)) (C := RX6) (T := TX6) (N := 40) hx hb hts inX6 hown hK hP 0 rfl rfl 6 (by decide) lk13 (fun _ h9 => h9) rfl dX6_putDeep_22 ?_
      refine lv_iload_n hx hb dX6_putDeep_25 rfl (lv_at hl 1 rfl) ?_
      obtain ⟨z7, h⟩ := zck_s h
      refine va_iald hx hb hK hP 2 0 rfl rfl (zin_s z7) dX6_putDeep_26 ?_
      refine lv_goto (tgt := 31) hx hb dX6_putDeep_27 (by decide) ?_
      cases zend h
      exact K31 _ _ _ hP hD hS (lv_sub hl [0, 1] rfl)
set_option maxHeartbeats 4000000 in
set_option maxRecDepth 100000 in
theorem c_X6_whoAt (l : Launch) (D : va_G) (cI cB cO : ClassId) (Mo : Nat) (Mp : Nat → Nat) (Ms : Nat → Int32) (Mj : Nat → Int64) (Ma : Nat → Nat → Int32) (a0 : Int32) (a1 : Int32) (rv : Int32) (sz : Nat) (h : fX6_whoAt Ms Ma a0 a1 = some rv) : Met l yX6_whoAt wsX6_whoAt ({ frames := 0, cells := 0, slots := 0, locals := 0 } : Room) (va_Pc [.ref Mo, .int a0, .int a1] (zPre D (zTY cI cB cO) (zwM cI cB Mo Mp Ms Mj Ma) sz)) (va_Qi (fun r (_ : Unit) => r = rv) (fun _ => zPost D (zTY cI cB cO) (zwM cI cB Mo Mp Ms Mj Ma) (va_A (zwM cI cB Mo Mp Ms Mj Ma) sz)) (va_A (zwM cI cB Mo Mp Ms Mj Ma) sz)) 0 0 (va_A (zwM cI cB Mo Mp Ms Mj Ma) sz) := by
  unfold fX6_whoAt at h
  refine zmet_i (cc := cX6_whoAt) (maxL := 5) (by decide) rfl (Nat.le_of_ble_eq_true rfl) rfl rfl ?_
  intro p e s m args below meth c R Q A ls hx hb hts hown hml hK hP hD hE hA hS hRf hRl hl hq
  have hown : s.vm.findClass RX6 = some m.cls := hown
  have hl : lv_has ls 5 [(0, .ref Mo), (1, .int a0), (2, .int a1)] := hl
  have inX6 : ∀ w ∈ u_ws RX6 TX6 40, w ∈ wsX6_whoAt := by decide +kernel
  have lk115 : (Cond.fieldLink RX6 115 "PegFieldModel" "pegs" "I").before args s = true := hts _ (by decide +kernel)
  have lk29 : (Cond.fieldLink RX6 29 "PegFieldModel" "deepPlace" "[I").before args s = true := hts _ (by decide +kernel)
  refine lv_iconst (v := (-1 : Int32)) hx hb dX6_whoAt_0 (by decide) ?_
  refine lv_istore_n (lv' := [(3, .int (-1 : Int32)), (0, .ref Mo), (1, .int a0), (2, .int a1)]) hx hb dX6_whoAt_1 rfl hl (by decide) rfl (fun ls hl => ?_)
  refine lv_iconst (v := (0 : Int32)) hx hb dX6_whoAt_2 (by decide) ?_
  refine lv_istore (lv' := [(4, .int (0 : Int32)), (3, .int (-1 : Int32)), (0, .ref Mo), (1, .int a0), (2, .int a1)]) hx hb dX6_whoAt_3 hl (by decide) rfl (fun ls hl => ?_)
  obtain ⟨x3_43x5, i6, h⟩ := zb1_s h
  have KX43 : ∀ (H : Heap) (locs : List Loc) (ls : Array Slot), va_P D vwCl (zwM cI cB Mo Mp Ms Mj Ma) H → va_D A (zwM cI cB Mo Mp Ms Mj Ma) → va_S A s.heap H locs → lv_has ls 5 [(3, .int x3_43x5)] → W p l e R s m args below meth c H locs 0 0 Q (F0 m 43 ls []) := by
    intro H locs ls hP hD hS hl
    refine lv_iload_n hx hb dX6_whoAt_43 rfl (lv_at hl 0 rfl) ?_
    cases zend h
    exact hq hP hD hS dX6_whoAt_44
  clear h
  refine zi2_ind (P := (fun (x3_5h : Int32) (x4_5h : Int32) => ∀ (H : Heap) (locs : List Loc) (ls : Array Slot), va_P D vwCl (zwM cI cB Mo Mp Ms Mj Ma) H → va_D A (zwM cI cB Mo Mp Ms Mj Ma) → va_S A s.heap H locs → lv_has ls 5 [(0, .ref Mo), (1, .int a0), (2, .int a1), (3, .int x3_5h), (4, .int x4_5h)] → W p l e R s m args below meth c H locs 0 0 Q (F0 m 5 ls []))) ?_ i6 _ _ _ hP hD hS (lv_sub hl [2, 3, 4, 1, 0] rfl)
  clear i6 hP hD hS hl
  intro x3_5h x4_5h z5 h zl5 zr5 H locs ls hP hD hS hl
  refine lv_iload hx hb dX6_whoAt_5 (lv_at hl 4 rfl) ?_
  refine lv_aload_n hx hb dX6_whoAt_7 rfl (lv_at hl 0 rfl) ?_
  refine va_get (D := D) (ci := 6) (v := .int (Ms 4)) (C := RX6) (T := TX6) (N := 40) hx hb hts inX6 hown hK hP 0 rfl rfl 4 (by decide) lk115 (fun _ h9 => h9) rfl dX6_whoAt_8 ?_
  refine lv_icmp_ge (tgt := 43) hx hb dX6_whoAt_11 (by decide) (fun c2 => ?_) (fun c2 => ?_)
  · have h := zif_t c2 h
    cases zr5 _ (zend h).symm
    exact KX43 _ _ _ hP hD hS (lv_sub hl [3] rfl)
  · have h := zif_f c2 h
    refine lv_aload_n hx hb dX6_whoAt_14 rfl (lv_at hl 0 rfl) ?_
    refine va_get (D := D) (ci := 6) (v := .ref (Mp 17)) (C := RX6) (T := TX6) (N := 40) hx hb hts inX6 hown hK hP 0 rfl rfl 17 (by decide) lk29 (fun _ h9 => h9) rfl dX6_whoAt_15 ?_
    refine lv_bipush (v := (8 : Int32)) hx hb dX6_whoAt_18 (by decide) ?_
    refine lv_iload_n hx hb dX6_whoAt_20 rfl (lv_at hl 1 rfl) ?_
    refine lv_imul hx hb dX6_whoAt_21 ?_
    refine lv_iload hx hb dX6_whoAt_22 (lv_at hl 4 rfl) ?_
    refine lv_iadd hx hb dX6_whoAt_24 ?_
    obtain ⟨z3, h⟩ := zck_s h
    refine va_iald hx hb hK hP 7 0 rfl rfl (zin_s z3) dX6_whoAt_25 ?_
    refine lv_iload_n hx hb dX6_whoAt_26 rfl (lv_at hl 2 rfl) ?_
    obtain ⟨v36, j4, h⟩ := zb1_s h
    have K36 : ∀ (H : Heap) (locs : List Loc) (ls : Array Slot), va_P D vwCl (zwM cI cB Mo Mp Ms Mj Ma) H → va_D A (zwM cI cB Mo Mp Ms Mj Ma) → va_S A s.heap H locs → lv_has ls 5 [(0, .ref Mo), (1, .int a0), (2, .int a1), (4, .int x4_5h)] → W p l e R s m args below meth c H locs 0 0 Q (F0 m 36 ls [.int v36]) := by
      intro H locs ls hP hD hS hl
      refine lv_istore_n (lv' := [(3, .int v36), (0, .ref Mo), (1, .int a0), (2, .int a1), (4, .int x4_5h)]) hx hb dX6_whoAt_36 rfl hl (by decide) rfl (fun ls hl => ?_)
      refine lv_iinc (v := (x4_5h + (1 : Int32))) (lv' := [(4, .int (x4_5h + (1 : Int32))), (3, .int v36), (0, .ref Mo), (1, .int a0), (2, .int a1)]) hx hb dX6_whoAt_37 hl (k := 4) rfl rfl (by decide) rfl (fun ls hl => ?_)
      refine lv_goto (tgt := 5) hx hb dX6_whoAt_40 (by decide) ?_
      exact zl5 _ _ (zend h).symm _ _ _ hP hD hS (lv_sub hl [2, 3, 4, 1, 0] rfl)
    clear h
    have h := j4
    clear j4
    refine lv_icmp_ne (tgt := 35) hx hb dX6_whoAt_27 (by decide) (fun c5 => ?_) (fun c5 => ?_)
    · have h := zif_f c5 h
      refine lv_iload_n hx hb dX6_whoAt_35 rfl (lv_at hl 3 rfl) ?_
      cases zend h
      exact K36 _ _ _ hP hD hS (lv_sub hl [0, 1, 2, 4] rfl)
    · have h := zif_t c5 h
      refine lv_iload hx hb dX6_whoAt_30 (lv_at hl 4 rfl) ?_
      refine lv_goto (tgt := 36) hx hb dX6_whoAt_32 (by decide) ?_
      cases zend h
      exact K36 _ _ _ hP hD hS (lv_sub hl [0, 1, 2, 4] rfl)
set_option maxHeartbeats 4000000 in
set_option maxRecDepth 100000 in
theorem c_X6_apart (l : Launch) (D : va_G) (cI cB cO : ClassId)   (a0 : Int32) (a1 : Int32) (rv : Int32) (sz : Nat) (h : fX6_apart a0 a1 = some rv) : Met l yX6_apart wsX6_apart ({ frames := 0, cells := 0, slots := 0, locals := 0 } : Room) (va_Pc [.int a0, .int a1] (zPre D (zTY cI cB cO) ([] : va_W) sz)) (va_Qi (fun r (_ : Unit) => r = rv) (fun _ => zPost D (zTY cI cB cO) ([] : va_W) (va_A ([] : va_W) sz)) (va_A ([] : va_W) sz)) 0 0 (va_A ([] : va_W) sz) := by
  unfold fX6_apart at h
  refine zmet_i (cc := cX6_apart) (maxL := 2) (by decide) rfl (Nat.le_of_ble_eq_true rfl) rfl rfl ?_
  intro p e s m args below meth c R Q A ls hx hb hts hown hml hK hP hD hE hA hS hRf hRl hl hq
  have hown : s.vm.findClass RX6 = some m.cls := hown
  have hl : lv_has ls 2 [(0, .int a0), (1, .int a1)] := hl
  refine lv_iload_n hx hb dX6_apart_0 rfl (lv_at hl 0 rfl) ?_
  refine lv_iload_n hx hb dX6_apart_1 rfl (lv_at hl 1 rfl) ?_
  refine lv_icmp_le (tgt := 11) hx hb dX6_apart_2 (by decide) (fun c1 => ?_) (fun c1 => ?_)
  · have h := zif_t c1 h
    refine lv_iload_n hx hb dX6_apart_11 rfl (lv_at hl 1 rfl) ?_
    refine lv_iload_n hx hb dX6_apart_12 rfl (lv_at hl 0 rfl) ?_
    refine lv_isub hx hb dX6_apart_13 ?_
    cases zend h
    exact hq hP hD hS dX6_apart_14
  · have h := zif_f c1 h
    refine lv_iload_n hx hb dX6_apart_5 rfl (lv_at hl 0 rfl) ?_
    refine lv_iload_n hx hb dX6_apart_6 rfl (lv_at hl 1 rfl) ?_
    refine lv_isub hx hb dX6_apart_7 ?_
    refine lv_goto (tgt := 14) hx hb dX6_apart_8 (by decide) ?_
    cases zend h
    exact hq hP hD hS dX6_apart_14
set_option maxHeartbeats 4000000 in
set_option maxRecDepth 100000 in
theorem c_X6_goesBy (l : Launch) (D : va_G) (cI cB cO : ClassId) (Mo : Nat) (Mp : Nat → Nat) (Ms : Nat → Int32) (Mj : Nat → Int64) (Ma : Nat → Nat → Int32) (a0 : Int32) (a1 : Int32) (a2 : Int32) (rv : Int32) (sz : Nat) (h : fX6_goesBy a0 a1 a2 = some rv) : Met l yX6_goesBy wsX6_goesBy ({ frames := 0, cells := 0, slots := 0, locals := 0 } : Room) (va_Pc [.ref Mo, .int a0, .int a1, .int a2] (zPre D (zTY cI cB cO) (zwM cI cB Mo Mp Ms Mj Ma) sz)) (va_Qi (fun r (_ : Unit) => r = rv) (fun _ => zPost D (zTY cI cB cO) (zwM cI cB Mo Mp Ms Mj Ma) (va_A (zwM cI cB Mo Mp Ms Mj Ma) sz)) (va_A (zwM cI cB Mo Mp Ms Mj Ma) sz)) 0 0 (va_A (zwM cI cB Mo Mp Ms Mj Ma) sz) := by
  unfold fX6_goesBy at h
  refine zmet_z (cc := cX6_goesBy) (maxL := 6) (by decide) rfl (Nat.le_of_ble_eq_true rfl) rfl rfl ?_
  intro p e s m args below meth c R Q A ls hx hb hts hown hml hK hP hD hE hA hS hRf hRl hl hq
  have hown : s.vm.findClass RX6 = some m.cls := hown
  have hl : lv_has ls 6 [(0, .ref Mo), (1, .int a0), (2, .int a1), (3, .int a2)] := hl
  refine lv_iload_n hx hb dX6_goesBy_0 rfl (lv_at hl 2 rfl) ?_
  refine lv_iload_n hx hb dX6_goesBy_1 rfl (lv_at hl 3 rfl) ?_
  refine lv_iadd hx hb dX6_goesBy_2 ?_
  refine lv_iconst (v := (2 : Int32)) hx hb dX6_goesBy_3 (by decide) ?_
  obtain ⟨v17, j10, h⟩ := zb1_s h
  have K17 : ∀ (H : Heap) (locs : List Loc) (ls : Array Slot), va_P D vwCl (zwM cI cB Mo Mp Ms Mj Ma) H → va_D A (zwM cI cB Mo Mp Ms Mj Ma) → va_S A s.heap H locs → lv_has ls 6 [(1, .int a0), (2, .int a1), (3, .int a2)] → W p l e R s m args below meth c H locs 0 0 Q (F0 m 17 ls [.int v17]) := by
    intro H locs ls hP hD hS hl
    refine lv_istore (lv' := [(4, .int v17), (1, .int a0), (2, .int a1), (3, .int a2)]) hx hb dX6_goesBy_17 hl (by decide) rfl (fun ls hl => ?_)
    refine lv_iload_n hx hb dX6_goesBy_19 rfl (lv_at hl 2 rfl) ?_
    refine lv_iconst (v := (2 : Int32)) hx hb dX6_goesBy_20 (by decide) ?_
    obtain ⟨v34, j7, h⟩ := zb1_s h
    have K34 : ∀ (H : Heap) (locs : List Loc) (ls : Array Slot), va_P D vwCl (zwM cI cB Mo Mp Ms Mj Ma) H → va_D A (zwM cI cB Mo Mp Ms Mj Ma) → va_S A s.heap H locs → lv_has ls 6 [(1, .int a0), (4, .int v17)] → W p l e R s m args below meth c H locs 0 0 Q (F0 m 34 ls [.int v34]) := by
      intro H locs ls hP hD hS hl
      refine lv_istore (lv' := [(5, .int v34), (1, .int a0), (4, .int v17)]) hx hb dX6_goesBy_34 hl (by decide) rfl (fun ls hl => ?_)
      refine lv_iload_n hx hb dX6_goesBy_36 rfl (lv_at hl 1 rfl) ?_
      refine lv_iconst (v := (1 : Int32)) hx hb dX6_goesBy_37 (by decide) ?_
      refine lv_icmp_ne (tgt := 46) hx hb dX6_goesBy_38 (by decide) (fun c1 => ?_) (fun c1 => ?_)
      · have h := zif_f c1 h
        refine lv_iload_n hx hb dX6_goesBy_46 rfl (lv_at hl 1 rfl) ?_
        refine lv_iconst (v := (4 : Int32)) hx hb dX6_goesBy_47 (by decide) ?_
        refine lv_icmp_ne (tgt := 69) hx hb dX6_goesBy_48 (by decide) (fun c2 => ?_) (fun c2 => ?_)
        · have h := zif_f c2 h
          refine lv_iload hx hb dX6_goesBy_69 (lv_at hl 2 rfl) ?_
          obtain ⟨z3, h⟩ := zck_s h
          cases zend h
          exact hq hP hD hS (zbo_s z3) dX6_goesBy_71
        · have h := zif_t c2 h
          refine lv_iload hx hb dX6_goesBy_51 (lv_at hl 2 rfl) ?_
          obtain ⟨J61, eJ61, h⟩ := zjn_s h
          have K61 : ∀ (u : Unit), J61 u = some rv → ∀ (H : Heap) (locs : List Loc) (ls : Array Slot), va_P D vwCl (zwM cI cB Mo Mp Ms Mj Ma) H → va_D A (zwM cI cB Mo Mp Ms Mj Ma) → va_S A s.heap H locs → lv_has ls 6 [] → W p l e R s m args below meth c H locs 0 0 Q (F0 m 61 ls []) := by
            subst eJ61
            intro u h H locs ls hP hD hS hl
            refine lv_iconst (v := (1 : Int32)) hx hb dX6_goesBy_61 (by decide) ?_
            refine lv_goto (tgt := 71) hx hb dX6_goesBy_62 (by decide) ?_
            cases zend h
            exact hq hP hD hS (by decide) dX6_goesBy_71
          clear eJ61
          refine lv_if_ne (tgt := 61) hx hb dX6_goesBy_53 (by decide) (fun c4 => ?_) (fun c4 => ?_)
          · have h := zif_f c4 h
            exact K61 _ h _ _ _ hP hD hS (lv_sub hl [] rfl)
          · have h := zif_t c4 h
            refine lv_iload hx hb dX6_goesBy_56 (lv_at hl 0 rfl) ?_
            refine lv_if_eq (tgt := 65) hx hb dX6_goesBy_58 (by decide) (fun c5 => ?_) (fun c5 => ?_)
            · have h := zif_t c5 h
              refine lv_iconst (v := (0 : Int32)) hx hb dX6_goesBy_65 (by decide) ?_
              refine lv_goto (tgt := 71) hx hb dX6_goesBy_66 (by decide) ?_
              cases zend h
              exact hq hP hD hS (by decide) dX6_goesBy_71
            · have h := zif_f c5 h
              exact K61 _ h _ _ _ hP hD hS (lv_sub hl [] rfl)
      · have h := zif_t c1 h
        refine lv_iload hx hb dX6_goesBy_41 (lv_at hl 0 rfl) ?_
        refine lv_goto (tgt := 71) hx hb dX6_goesBy_43 (by decide) ?_
        obtain ⟨z6, h⟩ := zck_s h
        cases zend h
        exact hq hP hD hS (zbo_s z6) dX6_goesBy_71
    clear h
    have h := j7
    clear j7
    obtain ⟨J33, eJ33, h⟩ := zjn_s h
    have K33 : ∀ (u : Unit), J33 u = some v34 → ∀ (H : Heap) (locs : List Loc) (ls : Array Slot), va_P D vwCl (zwM cI cB Mo Mp Ms Mj Ma) H → va_D A (zwM cI cB Mo Mp Ms Mj Ma) → va_S A s.heap H locs → lv_has ls 6 [(1, .int a0), (4, .int v17)] → W p l e R s m args below meth c H locs 0 0 Q (F0 m 33 ls []) := by
      subst eJ33
      intro u h H locs ls hP hD hS hl
      refine lv_iconst (v := (0 : Int32)) hx hb dX6_goesBy_33 (by decide) ?_
      cases zend h
      exact K34 _ _ _ hP hD hS (lv_sub hl [0, 1] rfl)
    clear eJ33
    refine lv_icmp_ne (tgt := 33) hx hb dX6_goesBy_21 (by decide) (fun c8 => ?_) (fun c8 => ?_)
    · have h := zif_f c8 h
      exact K33 _ h _ _ _ hP hD hS (lv_sub hl [1, 0] rfl)
    · have h := zif_t c8 h
      refine lv_iload_n hx hb dX6_goesBy_24 rfl (lv_at hl 3 rfl) ?_
      refine lv_iconst (v := (2 : Int32)) hx hb dX6_goesBy_25 (by decide) ?_
      refine lv_icmp_ne (tgt := 33) hx hb dX6_goesBy_26 (by decide) (fun c9 => ?_) (fun c9 => ?_)
      · have h := zif_f c9 h
        exact K33 _ h _ _ _ hP hD hS (lv_sub hl [1, 0] rfl)
      · have h := zif_t c9 h
        refine lv_iconst (v := (1 : Int32)) hx hb dX6_goesBy_29 (by decide) ?_
        refine lv_goto (tgt := 34) hx hb dX6_goesBy_30 (by decide) ?_
        cases zend h
        exact K34 _ _ _ hP hD hS (lv_sub hl [1, 0] rfl)
  clear h
  have h := j10
  clear j10
  obtain ⟨J16, eJ16, h⟩ := zjn_s h
  have K16 : ∀ (u : Unit), J16 u = some v17 → ∀ (H : Heap) (locs : List Loc) (ls : Array Slot), va_P D vwCl (zwM cI cB Mo Mp Ms Mj Ma) H → va_D A (zwM cI cB Mo Mp Ms Mj Ma) → va_S A s.heap H locs → lv_has ls 6 [(1, .int a0), (2, .int a1), (3, .int a2)] → W p l e R s m args below meth c H locs 0 0 Q (F0 m 16 ls []) := by
    subst eJ16
    intro u h H locs ls hP hD hS hl
    refine lv_iconst (v := (0 : Int32)) hx hb dX6_goesBy_16 (by decide) ?_
    cases zend h
    exact K17 _ _ _ hP hD hS (lv_sub hl [0, 1, 2] rfl)
  clear eJ16
  refine lv_icmp_ne (tgt := 16) hx hb dX6_goesBy_4 (by decide) (fun c11 => ?_) (fun c11 => ?_)
  · have h := zif_f c11 h
    exact K16 _ h _ _ _ hP hD hS (lv_sub hl [1, 2, 3] rfl)
  · have h := zif_t c11 h
    refine lv_iload_n hx hb dX6_goesBy_7 rfl (lv_at hl 2 rfl) ?_
    refine lv_iload_n hx hb dX6_goesBy_8 rfl (lv_at hl 3 rfl) ?_
    refine lv_icmp_eq (tgt := 16) hx hb dX6_goesBy_9 (by decide) (fun c12 => ?_) (fun c12 => ?_)
    · have h := zif_t c12 h
      exact K16 _ h _ _ _ hP hD hS (lv_sub hl [1, 2, 3] rfl)
    · have h := zif_f c12 h
      refine lv_iconst (v := (1 : Int32)) hx hb dX6_goesBy_12 (by decide) ?_
      refine lv_goto (tgt := 17) hx hb dX6_goesBy_13 (by decide) ?_
      cases zend h
      exact K17 _ _ _ hP hD hS (lv_sub hl [1, 2, 3] rfl)
set_option maxHeartbeats 4000000 in
set_option maxRecDepth 100000 in
theorem c_X6_overBy (l : Launch) (D : va_G) (cI cB cO : ClassId) (Mo : Nat) (Mp : Nat → Nat) (Ms : Nat → Int32) (Mj : Nat → Int64) (Ma : Nat → Nat → Int32) (a0 : Int32) (a1 : Int32) (a2 : Int32) (rv : Int32) (sz : Nat) (h : fX6_overBy Ms Ma a0 a1 a2 = some rv) : Met l yX6_overBy wsX6_overBy ({ frames := 1, cells := 0, slots := 0, locals := 25 } : Room) (va_Pc [.ref Mo, .int a0, .int a1, .int a2] (zPre D (zTY cI cB cO) (zwM cI cB Mo Mp Ms Mj Ma) sz)) (va_Qi (fun r (_ : Unit) => r = rv) (fun _ => zPost D (zTY cI cB cO) (zwM cI cB Mo Mp Ms Mj Ma) (va_A (zwM cI cB Mo Mp Ms Mj Ma) sz)) (va_A (zwM cI cB Mo Mp Ms Mj Ma) sz)) 0 0 (va_A (zwM cI cB Mo Mp Ms Mj Ma) sz) := by
  unfold fX6_overBy at h
  refine zmet_i (cc := cX6_overBy) (maxL := 6) (by decide) rfl (Nat.le_of_ble_eq_true rfl) rfl rfl ?_
  intro p e s m args below meth c R Q A ls hx hb hts hown hml hK hP hD hE hA hS hRf hRl hl hq
  have hown : s.vm.findClass RX6 = some m.cls := hown
  have hl : lv_has ls 6 [(0, .ref Mo), (1, .int a0), (2, .int a1), (3, .int a2)] := hl
  have inX6 : ∀ w ∈ u_ws RX6 TX6 40, w ∈ wsX6_overBy := by decide +kernel
  have lk29 : (Cond.fieldLink RX6 29 "PegFieldModel" "deepPlace" "[I").before args s = true := hts _ (by decide +kernel)
  have lk112 : (Cond.fieldLink RX6 112 "PegFieldModel" "holes" "I").before args s = true := hts _ (by decide +kernel)
  have lk7 : (Cond.fieldLink RX6 7 "PegFieldModel" "kindOf" "[I").before args s = true := hts _ (by decide +kernel)
  have lk109 : (Cond.fieldLink RX6 109 "PegFieldModel" "wide" "I").before args s = true := hts _ (by decide +kernel)
  refine lv_aload_n hx hb dX6_overBy_0 rfl (lv_at hl 0 rfl) ?_
  refine va_get (D := D) (ci := 6) (v := .ref (Mp 17)) (C := RX6) (T := TX6) (N := 40) hx hb hts inX6 hown hK hP 0 rfl rfl 17 (by decide) lk29 (fun _ h9 => h9) rfl dX6_overBy_1 ?_
  refine lv_bipush (v := (8 : Int32)) hx hb dX6_overBy_4 (by decide) ?_
  refine lv_iload_n hx hb dX6_overBy_6 rfl (lv_at hl 1 rfl) ?_
  refine lv_imul hx hb dX6_overBy_7 ?_
  refine lv_iload_n hx hb dX6_overBy_8 rfl (lv_at hl 2 rfl) ?_
  refine lv_iadd hx hb dX6_overBy_9 ?_
  obtain ⟨z1, h⟩ := zck_s h
  refine va_iald hx hb hK hP 7 0 rfl rfl (zin_s z1) dX6_overBy_10 ?_
  refine lv_topi (fun x4_2 ex4_2 => ?_)
  have h := zlt_s h ex4_2
  refine lv_istore (lv' := [(4, .int x4_2), (0, .ref Mo), (1, .int a0), (2, .int a1), (3, .int a2)]) hx hb dX6_overBy_11 hl (by decide) rfl (fun ls hl => ?_)
  refine lv_iload hx hb dX6_overBy_13 (lv_at hl 0 rfl) ?_
  refine lv_iconst (v := (-1 : Int32)) hx hb dX6_overBy_15 (by decide) ?_
  refine lv_icmp_eq (tgt := 40) hx hb dX6_overBy_16 (by decide) (fun c3 => ?_) (fun c3 => ?_)
  · have h := zif_t c3 h
    refine lv_iconst (v := (-1 : Int32)) hx hb dX6_overBy_40 (by decide) ?_
    cases zend h
    exact hq hP hD hS dX6_overBy_41
  · have h := zif_f c3 h
    refine lv_aload_n hx hb dX6_overBy_19 rfl (lv_at hl 1 rfl) ?_
    refine va_get (D := D) (ci := 6) (v := .int (Ms 3)) (C := RX6) (T := TX6) (N := 40) hx hb hts inX6 hown hK hP 0 rfl rfl 3 (by decide) lk112 (fun _ h9 => h9) rfl dX6_overBy_20 ?_
    refine lv_iload_n hx hb dX6_overBy_23 rfl (lv_at hl 4 rfl) ?_
    obtain ⟨r4, g5, h⟩ := zb1_s h
    have hFc := va_free (wc := ([] : va_W)) hD hS hA [] rfl
    refine zcp_i (va_runS (As := [.int (Ms 3), .int a2]) (rest := []) ⟨hx, hb, hml, hown, hts⟩ (c_X6_isIn l D cI cB cO (Ms 3) a2 _ _ g5) (va_cwS 2 hts gX6_overBy_X6_isIn rfl rfl rfl kS_X6_isIn ⟨Nat.le_trans (Nat.le_of_ble_eq_true rfl) hRf, Nat.le_trans (Nat.le_of_ble_eq_true rfl) hRl⟩) (zpreS hK hP hD hS hE hFc [] (rfl) rfl [.int (Ms 3), .int a2]) rfl rfl hl.1 rfl (lv_room (Nat.le_of_ble_eq_true rfl)) dX6_overBy_24 ⟨Nat.zero_le _, Nat.zero_le _⟩) hP hD hS hFc [] (rfl) (fun H locs hP hS => ?_)
    clear hFc
    refine lv_if_eq (tgt := 40) hx hb dX6_overBy_27 (by decide) (fun c6 => ?_) (fun c6 => ?_)
    · have h := zif_t c6 h
      refine lv_iconst (v := (-1 : Int32)) hx hb dX6_overBy_40 (by decide) ?_
      cases zend h
      exact hq hP hD hS dX6_overBy_41
    · have h := zif_f c6 h
      refine lv_aload_n hx hb dX6_overBy_30 rfl (lv_at hl 1 rfl) ?_
      refine lv_iload_n hx hb dX6_overBy_31 rfl (lv_at hl 2 rfl) ?_
      refine lv_iload_n hx hb dX6_overBy_32 rfl (lv_at hl 4 rfl) ?_
      obtain ⟨r7, g8, h⟩ := zb1_s h
      have hFc := va_free (wc := (zwM cI cB Mo Mp Ms Mj Ma)) hD hS hA [0, 1, 2, 3, 4, 5, 6, 7, 8, 9, 10, 11, 12, 13, 14, 15, 16, 17, 18, 19, 20, 21, 22] (zC_53 (cI := cI) (cB := cB) (cO := cO))
      refine zcp_i (va_runV (As := [.int a0, .int a2]) (rest := []) ⟨hx, hb, hml, hown, hts⟩ (c_X6_whoAt l D cI cB cO Mo Mp Ms Mj Ma a0 a2 _ _ g8) (cwV 2 hts gX6_overBy_X6_whoAt rfl rfl rfl kV_X6_whoAt ⟨Nat.le_trans (Nat.le_of_ble_eq_true rfl) hRf, Nat.le_trans (Nat.le_of_ble_eq_true rfl) hRl⟩) (zpreV hK hP hD hS hE hFc [0, 1, 2, 3, 4, 5, 6, 7, 8, 9, 10, 11, 12, 13, 14, 15, 16, 17, 18, 19, 20, 21, 22] (zC_53 (cI := cI) (cB := cB) (cO := cO)) rfl 0 (ci := 6) rfl rfl [.int a0, .int a2]) rfl rfl hl.1 rfl (lv_room (Nat.le_of_ble_eq_true rfl)) dX6_overBy_33 ⟨Nat.zero_le _, Nat.zero_le _⟩) hP hD hS hFc [0, 1, 2, 3, 4, 5, 6, 7, 8, 9, 10, 11, 12, 13, 14, 15, 16, 17, 18, 19, 20, 21, 22] (zC_53 (cI := cI) (cB := cB) (cO := cO)) (fun H locs hP hS => ?_)
      clear hFc
      refine lv_iconst (v := (-1 : Int32)) hx hb dX6_overBy_36 (by decide) ?_
      refine lv_icmp_eq (tgt := 42) hx hb dX6_overBy_37 (by decide) (fun c9 => ?_) (fun c9 => ?_)
      · have h := zif_t c9 h
        refine lv_aload_n hx hb dX6_overBy_42 rfl (lv_at hl 1 rfl) ?_
        refine lv_aload_n hx hb dX6_overBy_43 rfl (lv_at hl 1 rfl) ?_
        refine va_get (D := D) (ci := 6) (v := .ref (Mp 5)) (C := RX6) (T := TX6) (N := 40) hx hb hts inX6 hown hK hP 0 rfl rfl 5 (by decide) lk7 (fun _ h9 => h9) rfl dX6_overBy_44 ?_
        refine lv_iload_n hx hb dX6_overBy_47 rfl (lv_at hl 3 rfl) ?_
        obtain ⟨z10, h⟩ := zck_s h
        refine va_iald hx hb hK hP 1 0 rfl rfl (zin_s z10) dX6_overBy_48 ?_
        refine lv_iload hx hb dX6_overBy_49 (lv_at hl 0 rfl) ?_
        refine lv_aload_n hx hb dX6_overBy_51 rfl (lv_at hl 1 rfl) ?_
        refine va_get (D := D) (ci := 6) (v := .int (Ms 2)) (C := RX6) (T := TX6) (N := 40) hx hb hts inX6 hown hK hP 0 rfl rfl 2 (by decide) lk109 (fun _ h9 => h9) rfl dX6_overBy_52 ?_
        obtain ⟨z11, h⟩ := zck_s h
        refine lv_idiv hx hb dX6_overBy_55 (zne_s z11) ?_
        refine lv_iload_n hx hb dX6_overBy_56 rfl (lv_at hl 4 rfl) ?_
        refine lv_aload_n hx hb dX6_overBy_57 rfl (lv_at hl 1 rfl) ?_
        refine va_get (D := D) (ci := 6) (v := .int (Ms 2)) (C := RX6) (T := TX6) (N := 40) hx hb hts inX6 hown hK hP 0 rfl rfl 2 (by decide) lk109 (fun _ h9 => h9) rfl dX6_overBy_58 ?_
        obtain ⟨z12, h⟩ := zck_s h
        refine lv_idiv hx hb dX6_overBy_61 (zne_s z12) ?_
        obtain ⟨r13, g14, h⟩ := zb1_s h
        have hFc := va_free (wc := ([] : va_W)) hD hS hA [] rfl
        refine zcp_i (va_runS (As := [.int (x4_2 / (Ms 2)), .int (a2 / (Ms 2))]) (rest := [.int ((Ma 5) (a1).toNatClampNeg), .ref Mo]) ⟨hx, hb, hml, hown, hts⟩ (c_X6_apart l D cI cB cO (x4_2 / (Ms 2)) (a2 / (Ms 2)) _ _ g14) (va_cwS 2 hts gX6_overBy_X6_apart rfl rfl rfl kS_X6_apart ⟨Nat.le_trans (Nat.le_of_ble_eq_true rfl) hRf, Nat.le_trans (Nat.le_of_ble_eq_true rfl) hRl⟩) (zpreS hK hP hD hS hE hFc [] (rfl) rfl [.int (x4_2 / (Ms 2)), .int (a2 / (Ms 2))]) rfl rfl hl.1 rfl (lv_room (Nat.le_of_ble_eq_true rfl)) dX6_overBy_62 ⟨Nat.zero_le _, Nat.zero_le _⟩) hP hD hS hFc [] (rfl) (fun H locs hP hS => ?_)
        clear hFc
        refine lv_iload hx hb dX6_overBy_65 (lv_at hl 0 rfl) ?_
        refine lv_aload_n hx hb dX6_overBy_67 rfl (lv_at hl 1 rfl) ?_
        refine va_get (D := D) (ci := 6) (v := .int (Ms 2)) (C := RX6) (T := TX6) (N := 40) hx hb hts inX6 hown hK hP 0 rfl rfl 2 (by decide) lk109 (fun _ h9 => h9) rfl dX6_overBy_68 ?_
        obtain ⟨z15, h⟩ := zck_s h
        refine lv_irem hx hb dX6_overBy_71 (zne_s z15) ?_
        refine lv_iload_n hx hb dX6_overBy_72 rfl (lv_at hl 4 rfl) ?_
        refine lv_aload_n hx hb dX6_overBy_73 rfl (lv_at hl 1 rfl) ?_
        refine va_get (D := D) (ci := 6) (v := .int (Ms 2)) (C := RX6) (T := TX6) (N := 40) hx hb hts inX6 hown hK hP 0 rfl rfl 2 (by decide) lk109 (fun _ h9 => h9) rfl dX6_overBy_74 ?_
        obtain ⟨z16, h⟩ := zck_s h
        refine lv_irem hx hb dX6_overBy_77 (zne_s z16) ?_
        obtain ⟨r17, g18, h⟩ := zb1_s h
        have hFc := va_free (wc := ([] : va_W)) hD hS hA [] rfl
        refine zcp_i (va_runS (As := [.int (x4_2 - x4_2 / (Ms 2) * (Ms 2)), .int (a2 - a2 / (Ms 2) * (Ms 2))]) (rest := [.int r13, .int ((Ma 5) (a1).toNatClampNeg), .ref Mo]) ⟨hx, hb, hml, hown, hts⟩ (c_X6_apart l D cI cB cO (x4_2 - x4_2 / (Ms 2) * (Ms 2)) (a2 - a2 / (Ms 2) * (Ms 2)) _ _ g18) (va_cwS 2 hts gX6_overBy_X6_apart rfl rfl rfl kS_X6_apart ⟨Nat.le_trans (Nat.le_of_ble_eq_true rfl) hRf, Nat.le_trans (Nat.le_of_ble_eq_true rfl) hRl⟩) (zpreS hK hP hD hS hE hFc [] (rfl) rfl [.int (x4_2 - x4_2 / (Ms 2) * (Ms 2)), .int (a2 - a2 / (Ms 2) * (Ms 2))]) rfl rfl hl.1 rfl (lv_room (Nat.le_of_ble_eq_true rfl)) dX6_overBy_78 ⟨Nat.zero_le _, Nat.zero_le _⟩) hP hD hS hFc [] (rfl) (fun H locs hP hS => ?_)
        clear hFc
        obtain ⟨r19, g20, h⟩ := zb1_s h
        have hFc := va_free (wc := (zwM cI cB Mo Mp Ms Mj Ma)) hD hS hA [0, 1, 2, 3, 4, 5, 6, 7, 8, 9, 10, 11, 12, 13, 14, 15, 16, 17, 18, 19, 20, 21, 22] (zC_53 (cI := cI) (cB := cB) (cO := cO))
        refine zcp_i (va_runV (As := [.int ((Ma 5) (a1).toNatClampNeg), .int r13, .int r17]) (rest := []) ⟨hx, hb, hml, hown, hts⟩ (c_X6_goesBy l D cI cB cO Mo Mp Ms Mj Ma ((Ma 5) (a1).toNatClampNeg) r13 r17 _ _ g20) (cwV 3 hts gX6_overBy_X6_goesBy rfl rfl rfl kV_X6_goesBy ⟨Nat.le_trans (Nat.le_of_ble_eq_true rfl) hRf, Nat.le_trans (Nat.le_of_ble_eq_true rfl) hRl⟩) (zpreV hK hP hD hS hE hFc [0, 1, 2, 3, 4, 5, 6, 7, 8, 9, 10, 11, 12, 13, 14, 15, 16, 17, 18, 19, 20, 21, 22] (zC_53 (cI := cI) (cB := cB) (cO := cO)) rfl 0 (ci := 6) rfl rfl [.int ((Ma 5) (a1).toNatClampNeg), .int r13, .int r17]) rfl rfl hl.1 rfl (lv_room (Nat.le_of_ble_eq_true rfl)) dX6_overBy_81 ⟨Nat.zero_le _, Nat.zero_le _⟩) hP hD hS hFc [0, 1, 2, 3, 4, 5, 6, 7, 8, 9, 10, 11, 12, 13, 14, 15, 16, 17, 18, 19, 20, 21, 22] (zC_53 (cI := cI) (cB := cB) (cO := cO)) (fun H locs hP hS => ?_)
        clear hFc
        refine lv_if_ne (tgt := 89) hx hb dX6_overBy_84 (by decide) (fun c21 => ?_) (fun c21 => ?_)
        · have h := zif_f c21 h
          refine lv_aload_n hx hb dX6_overBy_89 rfl (lv_at hl 1 rfl) ?_
          refine lv_iload_n hx hb dX6_overBy_90 rfl (lv_at hl 2 rfl) ?_
          refine lv_iload hx hb dX6_overBy_91 (lv_at hl 0 rfl) ?_
          refine lv_iload_n hx hb dX6_overBy_93 rfl (lv_at hl 4 rfl) ?_
          refine lv_iadd hx hb dX6_overBy_94 ?_
          refine lv_iconst (v := (2 : Int32)) hx hb dX6_overBy_95 (by decide) ?_
          refine lv_idiv hx hb dX6_overBy_96 (by decide) ?_
          obtain ⟨r22, g23, h⟩ := zb1_s h
          have hFc := va_free (wc := (zwM cI cB Mo Mp Ms Mj Ma)) hD hS hA [0, 1, 2, 3, 4, 5, 6, 7, 8, 9, 10, 11, 12, 13, 14, 15, 16, 17, 18, 19, 20, 21, 22] (zC_53 (cI := cI) (cB := cB) (cO := cO))
          refine zcp_i (va_runV (As := [.int a0, .int ((x4_2 + a2) / (2 : Int32))]) (rest := []) ⟨hx, hb, hml, hown, hts⟩ (c_X6_whoAt l D cI cB cO Mo Mp Ms Mj Ma a0 ((x4_2 + a2) / (2 : Int32)) _ _ g23) (cwV 2 hts gX6_overBy_X6_whoAt rfl rfl rfl kV_X6_whoAt ⟨Nat.le_trans (Nat.le_of_ble_eq_true rfl) hRf, Nat.le_trans (Nat.le_of_ble_eq_true rfl) hRl⟩) (zpreV hK hP hD hS hE hFc [0, 1, 2, 3, 4, 5, 6, 7, 8, 9, 10, 11, 12, 13, 14, 15, 16, 17, 18, 19, 20, 21, 22] (zC_53 (cI := cI) (cB := cB) (cO := cO)) rfl 0 (ci := 6) rfl rfl [.int a0, .int ((x4_2 + a2) / (2 : Int32))]) rfl rfl hl.1 rfl (lv_room (Nat.le_of_ble_eq_true rfl)) dX6_overBy_97 ⟨Nat.zero_le _, Nat.zero_le _⟩) hP hD hS hFc [0, 1, 2, 3, 4, 5, 6, 7, 8, 9, 10, 11, 12, 13, 14, 15, 16, 17, 18, 19, 20, 21, 22] (zC_53 (cI := cI) (cB := cB) (cO := cO)) (fun H locs hP hS => ?_)
          clear hFc
          refine lv_istore (lv' := [(5, .int r22), (4, .int x4_2), (0, .ref Mo), (1, .int a0), (2, .int a1), (3, .int a2)]) hx hb dX6_overBy_100 hl (by decide) rfl (fun ls hl => ?_)
          refine lv_iload hx hb dX6_overBy_102 (lv_at hl 0 rfl) ?_
          refine lv_iconst (v := (-1 : Int32)) hx hb dX6_overBy_104 (by decide) ?_
          obtain ⟨J119, eJ119, h⟩ := zjn_s h
          have K119 : ∀ (u : Unit), J119 u = some rv → ∀ (H : Heap) (locs : List Loc) (ls : Array Slot), va_P D vwCl (zwM cI cB Mo Mp Ms Mj Ma) H → va_D A (zwM cI cB Mo Mp Ms Mj Ma) → va_S A s.heap H locs → lv_has ls 6 [] → W p l e R s m args below meth c H locs 0 0 Q (F0 m 119 ls []) := by
            subst eJ119
            intro u h H locs ls hP hD hS hl
            refine lv_iconst (v := (-1 : Int32)) hx hb dX6_overBy_119 (by decide) ?_
            refine lv_goto (tgt := 125) hx hb dX6_overBy_120 (by decide) ?_
            cases zend h
            exact hq hP hD hS dX6_overBy_125
          clear eJ119
          refine lv_icmp_eq (tgt := 119) hx hb dX6_overBy_105 (by decide) (fun c24 => ?_) (fun c24 => ?_)
          · have h := zif_t c24 h
            exact K119 _ h _ _ _ hP hD hS (lv_sub hl [] rfl)
          · have h := zif_f c24 h
            refine lv_aload_n hx hb dX6_overBy_108 rfl (lv_at hl 2 rfl) ?_
            refine va_get (D := D) (ci := 6) (v := .ref (Mp 5)) (C := RX6) (T := TX6) (N := 40) hx hb hts inX6 hown hK hP 0 rfl rfl 5 (by decide) lk7 (fun _ h9 => h9) rfl dX6_overBy_109 ?_
            refine lv_iload hx hb dX6_overBy_112 (lv_at hl 0 rfl) ?_
            obtain ⟨z25, h⟩ := zck_s h
            refine va_iald hx hb hK hP 1 0 rfl rfl (zin_s z25) dX6_overBy_114 ?_
            refine lv_iconst (v := (2 : Int32)) hx hb dX6_overBy_115 (by decide) ?_
            refine lv_icmp_ne (tgt := 123) hx hb dX6_overBy_116 (by decide) (fun c26 => ?_) (fun c26 => ?_)
            · have h := zif_f c26 h
              refine lv_iload hx hb dX6_overBy_123 (lv_at hl 0 rfl) ?_
              cases zend h
              exact hq hP hD hS dX6_overBy_125
            · have h := zif_t c26 h
              exact K119 _ h _ _ _ hP hD hS (lv_sub hl [] rfl)
        · have h := zif_t c21 h
          refine lv_iconst (v := (-1 : Int32)) hx hb dX6_overBy_87 (by decide) ?_
          cases zend h
          exact hq hP hD hS dX6_overBy_88
      · have h := zif_f c9 h
        refine lv_iconst (v := (-1 : Int32)) hx hb dX6_overBy_40 (by decide) ?_
        cases zend h
        exact hq hP hD hS dX6_overBy_41
set_option maxHeartbeats 4000000 in
set_option maxRecDepth 100000 in
theorem c_X6_isJump (l : Launch) (D : va_G) (cI cB cO : ClassId) (Mo : Nat) (Mp : Nat → Nat) (Ms : Nat → Int32) (Mj : Nat → Int64) (Ma : Nat → Nat → Int32) (a0 : Int32) (a1 : Int32) (a2 : Int32) (rv : Int32) (sz : Nat) (h : fX6_isJump Ms Ma a0 a1 a2 = some rv) : Met l yX6_isJump wsX6_isJump ({ frames := 2, cells := 0, slots := 0, locals := 50 } : Room) (va_Pc [.ref Mo, .int a0, .int a1, .int a2] (zPre D (zTY cI cB cO) (zwM cI cB Mo Mp Ms Mj Ma) sz)) (va_Qi (fun r (_ : Unit) => r = rv) (fun _ => zPost D (zTY cI cB cO) (zwM cI cB Mo Mp Ms Mj Ma) (va_A (zwM cI cB Mo Mp Ms Mj Ma) sz)) (va_A (zwM cI cB Mo Mp Ms Mj Ma) sz)) 0 0 (va_A (zwM cI cB Mo Mp Ms Mj Ma) sz) := by
  unfold fX6_isJump at h
  refine zmet_z (cc := cX6_isJump) (maxL := 4) (by decide) rfl (Nat.le_of_ble_eq_true rfl) rfl rfl ?_
  intro p e s m args below meth c R Q A ls hx hb hts hown hml hK hP hD hE hA hS hRf hRl hl hq
  have hown : s.vm.findClass RX6 = some m.cls := hown
  have hl : lv_has ls 4 [(0, .ref Mo), (1, .int a0), (2, .int a1), (3, .int a2)] := hl
  refine lv_aload_n hx hb dX6_isJump_0 rfl (lv_at hl 0 rfl) ?_
  refine lv_iload_n hx hb dX6_isJump_1 rfl (lv_at hl 1 rfl) ?_
  refine lv_iload_n hx hb dX6_isJump_2 rfl (lv_at hl 2 rfl) ?_
  refine lv_iload_n hx hb dX6_isJump_3 rfl (lv_at hl 3 rfl) ?_
  obtain ⟨r1, g2, h⟩ := zb1_s h
  have hFc := va_free (wc := (zwM cI cB Mo Mp Ms Mj Ma)) hD hS hA [0, 1, 2, 3, 4, 5, 6, 7, 8, 9, 10, 11, 12, 13, 14, 15, 16, 17, 18, 19, 20, 21, 22] (zC_53 (cI := cI) (cB := cB) (cO := cO))
  refine zcp_i (va_runV (As := [.int a0, .int a1, .int a2]) (rest := []) ⟨hx, hb, hml, hown, hts⟩ (c_X6_overBy l D cI cB cO Mo Mp Ms Mj Ma a0 a1 a2 _ _ g2) (cwV 3 hts gX6_isJump_X6_overBy rfl rfl rfl kV_X6_overBy ⟨Nat.le_trans (Nat.le_of_ble_eq_true rfl) hRf, Nat.le_trans (Nat.le_of_ble_eq_true rfl) hRl⟩) (zpreV hK hP hD hS hE hFc [0, 1, 2, 3, 4, 5, 6, 7, 8, 9, 10, 11, 12, 13, 14, 15, 16, 17, 18, 19, 20, 21, 22] (zC_53 (cI := cI) (cB := cB) (cO := cO)) rfl 0 (ci := 6) rfl rfl [.int a0, .int a1, .int a2]) rfl rfl hl.1 rfl (lv_room (Nat.le_of_ble_eq_true rfl)) dX6_isJump_4 ⟨Nat.zero_le _, Nat.zero_le _⟩) hP hD hS hFc [0, 1, 2, 3, 4, 5, 6, 7, 8, 9, 10, 11, 12, 13, 14, 15, 16, 17, 18, 19, 20, 21, 22] (zC_53 (cI := cI) (cB := cB) (cO := cO)) (fun H locs hP hS => ?_)
  clear hFc
  refine lv_iconst (v := (-1 : Int32)) hx hb dX6_isJump_7 (by decide) ?_
  refine lv_icmp_eq (tgt := 15) hx hb dX6_isJump_8 (by decide) (fun c3 => ?_) (fun c3 => ?_)
  · have h := zif_t c3 h
    refine lv_iconst (v := (0 : Int32)) hx hb dX6_isJump_15 (by decide) ?_
    cases zend h
    exact hq hP hD hS (by decide) dX6_isJump_16
  · have h := zif_f c3 h
    refine lv_iconst (v := (1 : Int32)) hx hb dX6_isJump_11 (by decide) ?_
    refine lv_goto (tgt := 16) hx hb dX6_isJump_12 (by decide) ?_
    cases zend h
    exact hq hP hD hS (by decide) dX6_isJump_16
set_option maxHeartbeats 4000000 in
set_option maxRecDepth 100000 in
theorem c_X6_goDeep (l : Launch) (D : va_G) (cI cB cO : ClassId) (Mo : Nat) (Mp : Nat → Nat) (Ms : Nat → Int32) (Mj : Nat → Int64) (Ma : Nat → Nat → Int32) (a0 : Int32) (a1 : Int32) (a2 : Int32) (Ma' : Nat → Nat → Int32) (sz : Nat) (h : fX6_goDeep Ms Ma a0 a1 a2 = some Ma') : Met l yX6_goDeep wsX6_goDeep ({ frames := 2, cells := 0, slots := 0, locals := 50 } : Room) (va_Pc [.ref Mo, .int a0, .int a1, .int a2] (zPre D (zTY cI cB cO) (zwM cI cB Mo Mp Ms Mj Ma) sz)) (va_Qv (fun (_ : Unit) => True) (fun _ => zPost D (zTY cI cB cO) (zwM cI cB Mo Mp Ms Mj Ma') (va_A (zwM cI cB Mo Mp Ms Mj Ma) sz)) (va_A (zwM cI cB Mo Mp Ms Mj Ma) sz)) 0 0 (va_A (zwM cI cB Mo Mp Ms Mj Ma) sz) := by
  unfold fX6_goDeep at h
  refine zmet_v (cc := cX6_goDeep) (maxL := 6) (by decide) rfl (Nat.le_of_ble_eq_true rfl) rfl rfl ?_
  intro p e s m args below meth c R Q A ls hx hb hts hown hml hK hP hD hE hA hS hRf hRl hl hq
  have hown : s.vm.findClass RX6 = some m.cls := hown
  have hl : lv_has ls 6 [(0, .ref Mo), (1, .int a0), (2, .int a1), (3, .int a2)] := hl
  have inX6 : ∀ w ∈ u_ws RX6 TX6 40, w ∈ wsX6_goDeep := by decide +kernel
  have lk29 : (Cond.fieldLink RX6 29 "PegFieldModel" "deepPlace" "[I").before args s = true := hts _ (by decide +kernel)
  have lk7 : (Cond.fieldLink RX6 7 "PegFieldModel" "kindOf" "[I").before args s = true := hts _ (by decide +kernel)
  refine lv_aload_n hx hb dX6_goDeep_0 rfl (lv_at hl 0 rfl) ?_
  refine lv_iload_n hx hb dX6_goDeep_1 rfl (lv_at hl 1 rfl) ?_
  refine lv_iload_n hx hb dX6_goDeep_2 rfl (lv_at hl 2 rfl) ?_
  refine lv_iload_n hx hb dX6_goDeep_3 rfl (lv_at hl 3 rfl) ?_
  obtain ⟨r1, g2, h⟩ := zb1_s h
  have hFc := va_free (wc := (zwM cI cB Mo Mp Ms Mj Ma)) hD hS hA [0, 1, 2, 3, 4, 5, 6, 7, 8, 9, 10, 11, 12, 13, 14, 15, 16, 17, 18, 19, 20, 21, 22] (zC_53 (cI := cI) (cB := cB) (cO := cO))
  refine zcp_i (va_runV (As := [.int a0, .int a1, .int a2]) (rest := []) ⟨hx, hb, hml, hown, hts⟩ (c_X6_overBy l D cI cB cO Mo Mp Ms Mj Ma a0 a1 a2 _ _ g2) (cwV 3 hts gX6_goDeep_X6_overBy rfl rfl rfl kV_X6_overBy ⟨Nat.le_trans (Nat.le_of_ble_eq_true rfl) hRf, Nat.le_trans (Nat.le_of_ble_eq_true rfl) hRl⟩) (zpreV hK hP hD hS hE hFc [0, 1, 2, 3, 4, 5, 6, 7, 8, 9, 10, 11, 12, 13, 14, 15, 16, 17, 18, 19, 20, 21, 22] (zC_53 (cI := cI) (cB := cB) (cO := cO)) rfl 0 (ci := 6) rfl rfl [.int a0, .int a1, .int a2]) rfl rfl hl.1 rfl (lv_room (Nat.le_of_ble_eq_true rfl)) dX6_goDeep_4 ⟨Nat.zero_le _, Nat.zero_le _⟩) hP hD hS hFc [0, 1, 2, 3, 4, 5, 6, 7, 8, 9, 10, 11, 12, 13, 14, 15, 16, 17, 18, 19, 20, 21, 22] (zC_53 (cI := cI) (cB := cB) (cO := cO)) (fun H locs hP hS => ?_)
  clear hFc
  refine lv_istore (lv' := [(4, .int r1), (0, .ref Mo), (1, .int a0), (2, .int a1), (3, .int a2)]) hx hb dX6_goDeep_7 hl (by decide) rfl (fun ls hl => ?_)
  refine lv_iconst (v := (0 : Int32)) hx hb dX6_goDeep_9 (by decide) ?_
  refine lv_istore (lv' := [(5, .int (0 : Int32)), (4, .int r1), (0, .ref Mo), (1, .int a0), (2, .int a1), (3, .int a2)]) hx hb dX6_goDeep_10 hl (by decide) rfl (fun ls hl => ?_)
  obtain ⟨Ma_52x12, i15, h⟩ := zb1_s h
  have KX52 : ∀ (H : Heap) (locs : List Loc) (ls : Array Slot), va_P D vwCl (zwM cI cB Mo Mp Ms Mj Ma_52x12) H → va_D A (zwM cI cB Mo Mp Ms Mj Ma_52x12) → va_S A s.heap H locs → lv_has ls 6 [(0, .ref Mo), (1, .int a0), (2, .int a1), (3, .int a2), (4, .int r1)] → W p l e R s m args below meth c H locs 0 0 Q (F0 m 52 ls []) := by
    intro H locs ls hP hD hS hl
    refine lv_aload_n hx hb dX6_goDeep_52 rfl (lv_at hl 0 rfl) ?_
    refine va_get (D := D) (ci := 6) (v := .ref (Mp 17)) (C := RX6) (T := TX6) (N := 40) hx hb hts inX6 hown hK hP 0 rfl rfl 17 (by decide) lk29 (fun _ h9 => h9) rfl dX6_goDeep_53 ?_
    refine lv_bipush (v := (8 : Int32)) hx hb dX6_goDeep_56 (by decide) ?_
    refine lv_iload_n hx hb dX6_goDeep_58 rfl (lv_at hl 1 rfl) ?_
    refine lv_imul hx hb dX6_goDeep_59 ?_
    refine lv_bipush (v := (8 : Int32)) hx hb dX6_goDeep_60 (by decide) ?_
    refine lv_iadd hx hb dX6_goDeep_62 ?_
    refine lv_iload_n hx hb dX6_goDeep_63 rfl (lv_at hl 2 rfl) ?_
    refine lv_iadd hx hb dX6_goDeep_64 ?_
    refine lv_aload_n hx hb dX6_goDeep_65 rfl (lv_at hl 0 rfl) ?_
    refine va_get (D := D) (ci := 6) (v := .ref (Mp 5)) (C := RX6) (T := TX6) (N := 40) hx hb hts inX6 hown hK hP 0 rfl rfl 5 (by decide) lk7 (fun _ h9 => h9) rfl dX6_goDeep_66 ?_
    refine lv_iload_n hx hb dX6_goDeep_69 rfl (lv_at hl 2 rfl) ?_
    obtain ⟨z8, h⟩ := zck_s h
    refine va_iald hx hb hK hP 1 0 rfl rfl (zin_s z8) dX6_goDeep_70 ?_
    refine lv_iconst (v := (3 : Int32)) hx hb dX6_goDeep_71 (by decide) ?_
    obtain ⟨v80, j13, h⟩ := zb1_s h
    have K80 : ∀ (H : Heap) (locs : List Loc) (ls : Array Slot), va_P D vwCl (zwM cI cB Mo Mp Ms Mj Ma_52x12) H → va_D A (zwM cI cB Mo Mp Ms Mj Ma_52x12) → va_S A s.heap H locs → lv_has ls 6 [(0, .ref Mo), (1, .int a0), (4, .int r1)] → W p l e R s m args below meth c H locs 0 0 Q (F0 m 80 ls [.int v80, .int ((((8 : Int32) * a0) + (8 : Int32)) + a1), .ref (Mp 17)]) := by
      intro H locs ls hP hD hS hl
      obtain ⟨z9, h⟩ := zck_s h
      refine va_iast hx hb hK hP hD hS 7 0 rfl rfl (zin_s z9) dX6_goDeep_80 (fun H locs hP hD hS => ?_)
      have hset : ∀ v9 : Nat → Int32, (zwM cI cB Mo Mp Ms Mj Ma_52x12).set 7 ((Mp 17), .inl (cI, 72, .inl v9)) = (zwM cI cB Mo Mp Ms Mj (va_up Ma_52x12 17 v9)) := fun _ => rfl
      obtain ⟨Ma_10, eMa_10, hP, hD⟩ : ∃ y9, y9 = (va_up Ma_52x12 17 (upd (Ma_52x12 17) (((((8 : Int32) * a0) + (8 : Int32)) + a1)).toNatClampNeg v80)) ∧ va_P D vwCl (zwM cI cB Mo Mp Ms Mj y9) H ∧ va_D A (zwM cI cB Mo Mp Ms Mj y9) := ⟨_, rfl, zsetP (hset _) hP, zsetD (hset _) hD⟩
      have h := zlt_s h eMa_10
      clear hset
      refine lv_aload_n hx hb dX6_goDeep_81 rfl (lv_at hl 0 rfl) ?_
      refine va_get (D := D) (ci := 6) (v := .ref (Mp 17)) (C := RX6) (T := TX6) (N := 40) hx hb hts inX6 hown hK hP 0 rfl rfl 17 (by decide) lk29 (fun _ h9 => h9) rfl dX6_goDeep_82 ?_
      refine lv_bipush (v := (8 : Int32)) hx hb dX6_goDeep_85 (by decide) ?_
      refine lv_iload_n hx hb dX6_goDeep_87 rfl (lv_at hl 1 rfl) ?_
      refine lv_imul hx hb dX6_goDeep_88 ?_
      refine lv_bipush (v := (8 : Int32)) hx hb dX6_goDeep_89 (by decide) ?_
      refine lv_iadd hx hb dX6_goDeep_91 ?_
      refine lv_iload hx hb dX6_goDeep_92 (lv_at hl 2 rfl) ?_
      refine lv_iadd hx hb dX6_goDeep_94 ?_
      refine lv_iconst (v := (-1 : Int32)) hx hb dX6_goDeep_95 (by decide) ?_
      obtain ⟨z11, h⟩ := zck_s h
      refine va_iast hx hb hK hP hD hS 7 0 rfl rfl (zin_s z11) dX6_goDeep_96 (fun H locs hP hD hS => ?_)
      have hset : ∀ v9 : Nat → Int32, (zwM cI cB Mo Mp Ms Mj Ma_10).set 7 ((Mp 17), .inl (cI, 72, .inl v9)) = (zwM cI cB Mo Mp Ms Mj (va_up Ma_10 17 v9)) := fun _ => rfl
      obtain ⟨Ma_12, eMa_12, hP, hD⟩ : ∃ y9, y9 = (va_up Ma_10 17 (upd (Ma_10 17) (((((8 : Int32) * a0) + (8 : Int32)) + r1)).toNatClampNeg (-1 : Int32))) ∧ va_P D vwCl (zwM cI cB Mo Mp Ms Mj y9) H ∧ va_D A (zwM cI cB Mo Mp Ms Mj y9) := ⟨_, rfl, zsetP (hset _) hP, zsetD (hset _) hD⟩
      have h := zlt_s h eMa_12
      clear hset
      cases zend h
      exact hq hP hD hS dX6_goDeep_97
    clear h
    have h := j13
    clear j13
    refine lv_icmp_ne (tgt := 79) hx hb dX6_goDeep_72 (by decide) (fun c14 => ?_) (fun c14 => ?_)
    · have h := zif_f c14 h
      refine lv_iload_n hx hb dX6_goDeep_79 rfl (lv_at hl 3 rfl) ?_
      cases zend h
      exact K80 _ _ _ hP hD hS (lv_sub hl [0, 1, 4] rfl)
    · have h := zif_t c14 h
      refine lv_iconst (v := (-1 : Int32)) hx hb dX6_goDeep_75 (by decide) ?_
      refine lv_goto (tgt := 80) hx hb dX6_goDeep_76 (by decide) ?_
      cases zend h
      exact K80 _ _ _ hP hD hS (lv_sub hl [0, 1, 4] rfl)
  clear h
  refine zi2_ind (P := (fun (x5_12h : Int32) (Ma_12h : Nat → Nat → Int32) => ∀ (H : Heap) (locs : List Loc) (ls : Array Slot), va_P D vwCl (zwM cI cB Mo Mp Ms Mj Ma_12h) H → va_D A (zwM cI cB Mo Mp Ms Mj Ma_12h) → va_S A s.heap H locs → lv_has ls 6 [(0, .ref Mo), (1, .int a0), (2, .int a1), (3, .int a2), (4, .int r1), (5, .int x5_12h)] → W p l e R s m args below meth c H locs 0 0 Q (F0 m 12 ls []))) ?_ i15 _ _ _ hP hD hS (lv_sub hl [2, 3, 4, 5, 1, 0] rfl)
  clear i15 hP hD hS hl
  intro x5_12h Ma_12h z12 h zl12 zr12 H locs ls hP hD hS hl
  refine lv_iload hx hb dX6_goDeep_12 (lv_at hl 5 rfl) ?_
  refine lv_bipush (v := (8 : Int32)) hx hb dX6_goDeep_14 (by decide) ?_
  refine lv_icmp_ge (tgt := 52) hx hb dX6_goDeep_16 (by decide) (fun c4 => ?_) (fun c4 => ?_)
  · have h := zif_t c4 h
    cases zr12 _ (zend h).symm
    exact KX52 _ _ _ hP hD hS (lv_sub hl [0, 1, 2, 3, 4] rfl)
  · have h := zif_f c4 h
    refine lv_aload_n hx hb dX6_goDeep_19 rfl (lv_at hl 0 rfl) ?_
    refine va_get (D := D) (ci := 6) (v := .ref (Mp 17)) (C := RX6) (T := TX6) (N := 40) hx hb hts inX6 hown hK hP 0 rfl rfl 17 (by decide) lk29 (fun _ h9 => h9) rfl dX6_goDeep_20 ?_
    refine lv_bipush (v := (8 : Int32)) hx hb dX6_goDeep_23 (by decide) ?_
    refine lv_iload_n hx hb dX6_goDeep_25 rfl (lv_at hl 1 rfl) ?_
    refine lv_imul hx hb dX6_goDeep_26 ?_
    refine lv_bipush (v := (8 : Int32)) hx hb dX6_goDeep_27 (by decide) ?_
    refine lv_iadd hx hb dX6_goDeep_29 ?_
    refine lv_iload hx hb dX6_goDeep_30 (lv_at hl 5 rfl) ?_
    refine lv_iadd hx hb dX6_goDeep_32 ?_
    refine lv_aload_n hx hb dX6_goDeep_33 rfl (lv_at hl 0 rfl) ?_
    refine va_get (D := D) (ci := 6) (v := .ref (Mp 17)) (C := RX6) (T := TX6) (N := 40) hx hb hts inX6 hown hK hP 0 rfl rfl 17 (by decide) lk29 (fun _ h9 => h9) rfl dX6_goDeep_34 ?_
    refine lv_bipush (v := (8 : Int32)) hx hb dX6_goDeep_37 (by decide) ?_
    refine lv_iload_n hx hb dX6_goDeep_39 rfl (lv_at hl 1 rfl) ?_
    refine lv_imul hx hb dX6_goDeep_40 ?_
    refine lv_iload hx hb dX6_goDeep_41 (lv_at hl 5 rfl) ?_
    refine lv_iadd hx hb dX6_goDeep_43 ?_
    obtain ⟨z5, h⟩ := zck_s h
    refine va_iald hx hb hK hP 7 0 rfl rfl (zin_s z5) dX6_goDeep_44 ?_
    obtain ⟨z6, h⟩ := zck_s h
    refine va_iast hx hb hK hP hD hS 7 0 rfl rfl (zin_s z6) dX6_goDeep_45 (fun H locs hP hD hS => ?_)
    have hset : ∀ v9 : Nat → Int32, (zwM cI cB Mo Mp Ms Mj Ma_12h).set 7 ((Mp 17), .inl (cI, 72, .inl v9)) = (zwM cI cB Mo Mp Ms Mj (va_up Ma_12h 17 v9)) := fun _ => rfl
    obtain ⟨Ma_7, eMa_7, hP, hD⟩ : ∃ y9, y9 = (va_up Ma_12h 17 (upd (Ma_12h 17) (((((8 : Int32) * a0) + (8 : Int32)) + x5_12h)).toNatClampNeg ((Ma_12h 17) ((((8 : Int32) * a0) + x5_12h)).toNatClampNeg))) ∧ va_P D vwCl (zwM cI cB Mo Mp Ms Mj y9) H ∧ va_D A (zwM cI cB Mo Mp Ms Mj y9) := ⟨_, rfl, zsetP (hset _) hP, zsetD (hset _) hD⟩
    have h := zlt_s h eMa_7
    clear hset
    refine lv_iinc (v := (x5_12h + (1 : Int32))) (lv' := [(5, .int (x5_12h + (1 : Int32))), (0, .ref Mo), (1, .int a0), (2, .int a1), (3, .int a2), (4, .int r1)]) hx hb dX6_goDeep_46 hl (k := 5) rfl rfl (by decide) rfl (fun ls hl => ?_)
    refine lv_goto (tgt := 12) hx hb dX6_goDeep_49 (by decide) ?_
    exact zl12 _ _ (zend h).symm _ _ _ hP hD hS (lv_sub hl [1, 2, 3, 4, 5, 0] rfl)
set_option maxHeartbeats 4000000 in
set_option maxRecDepth 100000 in
theorem c_X6_onBoard (l : Launch) (D : va_G) (cI cB cO : ClassId) (Mo : Nat) (Mp : Nat → Nat) (Ms : Nat → Int32) (Mj : Nat → Int64) (Ma : Nat → Nat → Int32) (a0 : Int32) (rv : Int32) (sz : Nat) (h : fX6_onBoard Ms Ma a0 = some rv) : Met l yX6_onBoard wsX6_onBoard ({ frames := 0, cells := 0, slots := 0, locals := 0 } : Room) (va_Pc [.ref Mo, .int a0] (zPre D (zTY cI cB cO) (zwM cI cB Mo Mp Ms Mj Ma) sz)) (va_Qi (fun r (_ : Unit) => r = rv) (fun _ => zPost D (zTY cI cB cO) (zwM cI cB Mo Mp Ms Mj Ma) (va_A (zwM cI cB Mo Mp Ms Mj Ma) sz)) (va_A (zwM cI cB Mo Mp Ms Mj Ma) sz)) 0 0 (va_A (zwM cI cB Mo Mp Ms Mj Ma) sz) := by
  unfold fX6_onBoard at h
  refine zmet_i (cc := cX6_onBoard) (maxL := 4) (by decide) rfl (Nat.le_of_ble_eq_true rfl) rfl rfl ?_
  intro p e s m args below meth c R Q A ls hx hb hts hown hml hK hP hD hE hA hS hRf hRl hl hq
  have hown : s.vm.findClass RX6 = some m.cls := hown
  have hl : lv_has ls 4 [(0, .ref Mo), (1, .int a0)] := hl
  have inX6 : ∀ w ∈ u_ws RX6 TX6 40, w ∈ wsX6_onBoard := by decide +kernel
  have lk115 : (Cond.fieldLink RX6 115 "PegFieldModel" "pegs" "I").before args s = true := hts _ (by decide +kernel)
  have lk29 : (Cond.fieldLink RX6 29 "PegFieldModel" "deepPlace" "[I").before args s = true := hts _ (by decide +kernel)
  refine lv_iconst (v := (0 : Int32)) hx hb dX6_onBoard_0 (by decide) ?_
  refine lv_istore_n (lv' := [(2, .int (0 : Int32)), (0, .ref Mo), (1, .int a0)]) hx hb dX6_onBoard_1 rfl hl (by decide) rfl (fun ls hl => ?_)
  refine lv_iconst (v := (0 : Int32)) hx hb dX6_onBoard_2 (by decide) ?_
  refine lv_istore_n (lv' := [(3, .int (0 : Int32)), (2, .int (0 : Int32)), (0, .ref Mo), (1, .int a0)]) hx hb dX6_onBoard_3 rfl hl (by decide) rfl (fun ls hl => ?_)
  obtain ⟨x2_41x4, i7, h⟩ := zb1_s h
  have KX41 : ∀ (H : Heap) (locs : List Loc) (ls : Array Slot), va_P D vwCl (zwM cI cB Mo Mp Ms Mj Ma) H → va_D A (zwM cI cB Mo Mp Ms Mj Ma) → va_S A s.heap H locs → lv_has ls 4 [(2, .int x2_41x4)] → W p l e R s m args below meth c H locs 0 0 Q (F0 m 41 ls []) := by
    intro H locs ls hP hD hS hl
    refine lv_iload_n hx hb dX6_onBoard_41 rfl (lv_at hl 0 rfl) ?_
    cases zend h
    exact hq hP hD hS dX6_onBoard_42
  clear h
  refine zi2_ind (P := (fun (x2_4h : Int32) (x3_4h : Int32) => ∀ (H : Heap) (locs : List Loc) (ls : Array Slot), va_P D vwCl (zwM cI cB Mo Mp Ms Mj Ma) H → va_D A (zwM cI cB Mo Mp Ms Mj Ma) → va_S A s.heap H locs → lv_has ls 4 [(0, .ref Mo), (1, .int a0), (2, .int x2_4h), (3, .int x3_4h)] → W p l e R s m args below meth c H locs 0 0 Q (F0 m 4 ls []))) ?_ i7 _ _ _ hP hD hS (lv_sub hl [2, 3, 1, 0] rfl)
  clear i7 hP hD hS hl
  intro x2_4h x3_4h z4 h zl4 zr4 H locs ls hP hD hS hl
  refine lv_iload_n hx hb dX6_onBoard_4 rfl (lv_at hl 3 rfl) ?_
  refine lv_aload_n hx hb dX6_onBoard_5 rfl (lv_at hl 0 rfl) ?_
  refine va_get (D := D) (ci := 6) (v := .int (Ms 4)) (C := RX6) (T := TX6) (N := 40) hx hb hts inX6 hown hK hP 0 rfl rfl 4 (by decide) lk115 (fun _ h9 => h9) rfl dX6_onBoard_6 ?_
  refine lv_icmp_ge (tgt := 41) hx hb dX6_onBoard_9 (by decide) (fun c2 => ?_) (fun c2 => ?_)
  · have h := zif_t c2 h
    cases zr4 _ (zend h).symm
    exact KX41 _ _ _ hP hD hS (lv_sub hl [2] rfl)
  · have h := zif_f c2 h
    refine lv_iload_n hx hb dX6_onBoard_12 rfl (lv_at hl 2 rfl) ?_
    refine lv_aload_n hx hb dX6_onBoard_13 rfl (lv_at hl 0 rfl) ?_
    refine va_get (D := D) (ci := 6) (v := .ref (Mp 17)) (C := RX6) (T := TX6) (N := 40) hx hb hts inX6 hown hK hP 0 rfl rfl 17 (by decide) lk29 (fun _ h9 => h9) rfl dX6_onBoard_14 ?_
    refine lv_bipush (v := (8 : Int32)) hx hb dX6_onBoard_17 (by decide) ?_
    refine lv_iload_n hx hb dX6_onBoard_19 rfl (lv_at hl 1 rfl) ?_
    refine lv_imul hx hb dX6_onBoard_20 ?_
    refine lv_iload_n hx hb dX6_onBoard_21 rfl (lv_at hl 3 rfl) ?_
    refine lv_iadd hx hb dX6_onBoard_22 ?_
    obtain ⟨z3, h⟩ := zck_s h
    refine va_iald hx hb hK hP 7 0 rfl rfl (zin_s z3) dX6_onBoard_23 ?_
    refine lv_iconst (v := (-1 : Int32)) hx hb dX6_onBoard_24 (by decide) ?_
    obtain ⟨v33, j5, h⟩ := zb1_s h
    have K33 : ∀ (H : Heap) (locs : List Loc) (ls : Array Slot), va_P D vwCl (zwM cI cB Mo Mp Ms Mj Ma) H → va_D A (zwM cI cB Mo Mp Ms Mj Ma) → va_S A s.heap H locs → lv_has ls 4 [(0, .ref Mo), (1, .int a0), (3, .int x3_4h)] → W p l e R s m args below meth c H locs 0 0 Q (F0 m 33 ls [.int v33, .int x2_4h]) := by
      intro H locs ls hP hD hS hl
      refine lv_iadd hx hb dX6_onBoard_33 ?_
      refine lv_topi (fun x2_4 ex2_4 => ?_)
      have h := zlt_s h ex2_4
      refine lv_istore_n (lv' := [(2, .int x2_4), (0, .ref Mo), (1, .int a0), (3, .int x3_4h)]) hx hb dX6_onBoard_34 rfl hl (by decide) rfl (fun ls hl => ?_)
      refine lv_iinc (v := (x3_4h + (1 : Int32))) (lv' := [(3, .int (x3_4h + (1 : Int32))), (2, .int x2_4), (0, .ref Mo), (1, .int a0)]) hx hb dX6_onBoard_35 hl (k := 3) rfl rfl (by decide) rfl (fun ls hl => ?_)
      refine lv_goto (tgt := 4) hx hb dX6_onBoard_38 (by decide) ?_
      exact zl4 _ _ (zend h).symm _ _ _ hP hD hS (lv_sub hl [2, 3, 1, 0] rfl)
    clear h
    have h := j5
    clear j5
    refine lv_icmp_ne (tgt := 32) hx hb dX6_onBoard_25 (by decide) (fun c6 => ?_) (fun c6 => ?_)
    · have h := zif_f c6 h
      refine lv_iconst (v := (1 : Int32)) hx hb dX6_onBoard_32 (by decide) ?_
      cases zend h
      exact K33 _ _ _ hP hD hS (lv_sub hl [0, 1, 3] rfl)
    · have h := zif_t c6 h
      refine lv_iconst (v := (0 : Int32)) hx hb dX6_onBoard_28 (by decide) ?_
      refine lv_goto (tgt := 33) hx hb dX6_onBoard_29 (by decide) ?_
      cases zend h
      exact K33 _ _ _ hP hD hS (lv_sub hl [0, 1, 3] rfl)
set_option maxHeartbeats 4000000 in
set_option maxRecDepth 100000 in
theorem c_X6_goes (l : Launch) (D : va_G) (cI cB cO : ClassId) (Mo : Nat) (Mp : Nat → Nat) (Ms : Nat → Int32) (Mj : Nat → Int64) (Ma : Nat → Nat → Int32) (a0 : Int32) (a1 : Int32) (rv : Int32) (sz : Nat) (h : fX6_goes Ms Ma a0 a1 = some rv) : Met l yX6_goes wsX6_goes ({ frames := 3, cells := 0, slots := 0, locals := 73 } : Room) (va_Pc [.ref Mo, .int a0, .int a1] (zPre D (zTY cI cB cO) (zwM cI cB Mo Mp Ms Mj Ma) sz)) (va_Qi (fun r (_ : Unit) => r = rv) (fun _ => zPost D (zTY cI cB cO) (zwM cI cB Mo Mp Ms Mj Ma) (va_A (zwM cI cB Mo Mp Ms Mj Ma) sz)) (va_A (zwM cI cB Mo Mp Ms Mj Ma) sz)) 0 0 (va_A (zwM cI cB Mo Mp Ms Mj Ma) sz) := by
  unfold fX6_goes at h
  refine zmet_i (cc := cX6_goes) (maxL := 5) (by decide) rfl (Nat.le_of_ble_eq_true rfl) rfl rfl ?_
  intro p e s m args below meth c R Q A ls hx hb hts hown hml hK hP hD hE hA hS hRf hRl hl hq
  have hown : s.vm.findClass RX6 = some m.cls := hown
  have hl : lv_has ls 5 [(0, .ref Mo), (1, .int a0), (2, .int a1)] := hl
  refine lv_iconst (v := (0 : Int32)) hx hb dX6_goes_0 (by decide) ?_
  refine lv_istore_n (lv' := [(3, .int (0 : Int32)), (0, .ref Mo), (1, .int a0), (2, .int a1)]) hx hb dX6_goes_1 rfl hl (by decide) rfl (fun ls hl => ?_)
  refine lv_iconst (v := (0 : Int32)) hx hb dX6_goes_2 (by decide) ?_
  refine lv_istore (lv' := [(4, .int (0 : Int32)), (3, .int (0 : Int32)), (0, .ref Mo), (1, .int a0), (2, .int a1)]) hx hb dX6_goes_3 hl (by decide) rfl (fun ls hl => ?_)
  obtain ⟨x3_42x5, i10, h⟩ := zb1_s h
  have KX42 : ∀ (H : Heap) (locs : List Loc) (ls : Array Slot), va_P D vwCl (zwM cI cB Mo Mp Ms Mj Ma) H → va_D A (zwM cI cB Mo Mp Ms Mj Ma) → va_S A s.heap H locs → lv_has ls 5 [(3, .int x3_42x5)] → W p l e R s m args below meth c H locs 0 0 Q (F0 m 42 ls []) := by
    intro H locs ls hP hD hS hl
    refine lv_iload_n hx hb dX6_goes_42 rfl (lv_at hl 0 rfl) ?_
    cases zend h
    exact hq hP hD hS dX6_goes_43
  clear h
  refine zi2_ind (P := (fun (x3_5h : Int32) (x4_5h : Int32) => ∀ (H : Heap) (locs : List Loc) (ls : Array Slot), va_P D vwCl (zwM cI cB Mo Mp Ms Mj Ma) H → va_D A (zwM cI cB Mo Mp Ms Mj Ma) → va_S A s.heap H locs → lv_has ls 5 [(0, .ref Mo), (1, .int a0), (2, .int a1), (3, .int x3_5h), (4, .int x4_5h)] → W p l e R s m args below meth c H locs 0 0 Q (F0 m 5 ls []))) ?_ i10 _ _ _ hP hD hS (lv_sub hl [2, 3, 4, 1, 0] rfl)
  clear i10 hP hD hS hl
  intro x3_5h x4_5h z5 h zl5 zr5 H locs ls hP hD hS hl
  refine lv_iload hx hb dX6_goes_5 (lv_at hl 4 rfl) ?_
  refine lv_aload_n hx hb dX6_goes_7 rfl (lv_at hl 0 rfl) ?_
  obtain ⟨r2, g3, h⟩ := zb1_s h
  have hFc := va_free (wc := (zwM cI cB Mo Mp Ms Mj Ma)) hD hS hA [0, 1, 2, 3, 4, 5, 6, 7, 8, 9, 10, 11, 12, 13, 14, 15, 16, 17, 18, 19, 20, 21, 22] (zC_53 (cI := cI) (cB := cB) (cO := cO))
  refine zcp_i (va_runV (As := []) (rest := [.int x4_5h]) ⟨hx, hb, hml, hown, hts⟩ (c_X6_places l D cI cB cO Mo Mp Ms Mj Ma _ _ g3) (cwV 0 hts gX6_goes_X6_places rfl rfl rfl kV_X6_places ⟨Nat.le_trans (Nat.le_of_ble_eq_true rfl) hRf, Nat.le_trans (Nat.le_of_ble_eq_true rfl) hRl⟩) (zpreV hK hP hD hS hE hFc [0, 1, 2, 3, 4, 5, 6, 7, 8, 9, 10, 11, 12, 13, 14, 15, 16, 17, 18, 19, 20, 21, 22] (zC_53 (cI := cI) (cB := cB) (cO := cO)) rfl 0 (ci := 6) rfl rfl []) rfl rfl hl.1 rfl (lv_room (Nat.le_of_ble_eq_true rfl)) dX6_goes_8 ⟨Nat.zero_le _, Nat.zero_le _⟩) hP hD hS hFc [0, 1, 2, 3, 4, 5, 6, 7, 8, 9, 10, 11, 12, 13, 14, 15, 16, 17, 18, 19, 20, 21, 22] (zC_53 (cI := cI) (cB := cB) (cO := cO)) (fun H locs hP hS => ?_)
  clear hFc
  refine lv_icmp_ge (tgt := 42) hx hb dX6_goes_11 (by decide) (fun c4 => ?_) (fun c4 => ?_)
  · have h := zif_t c4 h
    cases zr5 _ (zend h).symm
    exact KX42 _ _ _ hP hD hS (lv_sub hl [3] rfl)
  · have h := zif_f c4 h
    refine lv_iload_n hx hb dX6_goes_14 rfl (lv_at hl 3 rfl) ?_
    refine lv_aload_n hx hb dX6_goes_15 rfl (lv_at hl 0 rfl) ?_
    refine lv_iload_n hx hb dX6_goes_16 rfl (lv_at hl 1 rfl) ?_
    refine lv_iload_n hx hb dX6_goes_17 rfl (lv_at hl 2 rfl) ?_
    refine lv_iload hx hb dX6_goes_18 (lv_at hl 4 rfl) ?_
    obtain ⟨r5, g6, h⟩ := zb1_s h
    have hFc := va_free (wc := (zwM cI cB Mo Mp Ms Mj Ma)) hD hS hA [0, 1, 2, 3, 4, 5, 6, 7, 8, 9, 10, 11, 12, 13, 14, 15, 16, 17, 18, 19, 20, 21, 22] (zC_53 (cI := cI) (cB := cB) (cO := cO))
    refine zcp_i (va_runV (As := [.int a0, .int a1, .int x4_5h]) (rest := [.int x3_5h]) ⟨hx, hb, hml, hown, hts⟩ (c_X6_isJump l D cI cB cO Mo Mp Ms Mj Ma a0 a1 x4_5h _ _ g6) (cwV 3 hts gX6_goes_X6_isJump rfl rfl rfl kV_X6_isJump ⟨Nat.le_trans (Nat.le_of_ble_eq_true rfl) hRf, Nat.le_trans (Nat.le_of_ble_eq_true rfl) hRl⟩) (zpreV hK hP hD hS hE hFc [0, 1, 2, 3, 4, 5, 6, 7, 8, 9, 10, 11, 12, 13, 14, 15, 16, 17, 18, 19, 20, 21, 22] (zC_53 (cI := cI) (cB := cB) (cO := cO)) rfl 0 (ci := 6) rfl rfl [.int a0, .int a1, .int x4_5h]) rfl rfl hl.1 rfl (lv_room (Nat.le_of_ble_eq_true rfl)) dX6_goes_20 ⟨Nat.zero_le _, Nat.zero_le _⟩) hP hD hS hFc [0, 1, 2, 3, 4, 5, 6, 7, 8, 9, 10, 11, 12, 13, 14, 15, 16, 17, 18, 19, 20, 21, 22] (zC_53 (cI := cI) (cB := cB) (cO := cO)) (fun H locs hP hS => ?_)
    clear hFc
    obtain ⟨v34, j8, h⟩ := zb1_s h
    have K34 : ∀ (H : Heap) (locs : List Loc) (ls : Array Slot), va_P D vwCl (zwM cI cB Mo Mp Ms Mj Ma) H → va_D A (zwM cI cB Mo Mp Ms Mj Ma) → va_S A s.heap H locs → lv_has ls 5 [(0, .ref Mo), (1, .int a0), (2, .int a1), (4, .int x4_5h)] → W p l e R s m args below meth c H locs 0 0 Q (F0 m 34 ls [.int v34, .int x3_5h]) := by
      intro H locs ls hP hD hS hl
      refine lv_ior hx hb dX6_goes_34 ?_
      refine lv_topi (fun x3_7 ex3_7 => ?_)
      have h := zlt_s h ex3_7
      refine lv_istore_n (lv' := [(3, .int x3_7), (0, .ref Mo), (1, .int a0), (2, .int a1), (4, .int x4_5h)]) hx hb dX6_goes_35 rfl hl (by decide) rfl (fun ls hl => ?_)
      refine lv_iinc (v := (x4_5h + (1 : Int32))) (lv' := [(4, .int (x4_5h + (1 : Int32))), (3, .int x3_7), (0, .ref Mo), (1, .int a0), (2, .int a1)]) hx hb dX6_goes_36 hl (k := 4) rfl rfl (by decide) rfl (fun ls hl => ?_)
      refine lv_goto (tgt := 5) hx hb dX6_goes_39 (by decide) ?_
      exact zl5 _ _ (zend h).symm _ _ _ hP hD hS (lv_sub hl [2, 3, 4, 1, 0] rfl)
    clear h
    have h := j8
    clear j8
    refine lv_if_eq (tgt := 33) hx hb dX6_goes_23 (by decide) (fun c9 => ?_) (fun c9 => ?_)
    · have h := zif_t c9 h
      refine lv_iconst (v := (0 : Int32)) hx hb dX6_goes_33 (by decide) ?_
      cases zend h
      exact K34 _ _ _ hP hD hS (lv_sub hl [0, 1, 2, 4] rfl)
    · have h := zif_f c9 h
      refine lv_iconst (v := (1 : Int32)) hx hb dX6_goes_26 (by decide) ?_
      refine lv_iload hx hb dX6_goes_27 (lv_at hl 4 rfl) ?_
      refine lv_ishl hx hb dX6_goes_29 ?_
      refine lv_goto (tgt := 34) hx hb dX6_goes_30 (by decide) ?_
      cases zend h
      exact K34 _ _ _ hP hD hS (lv_sub hl [0, 1, 2, 4] rfl)
set_option maxHeartbeats 4000000 in
set_option maxRecDepth 100000 in
theorem c_X6_jumpsNow (l : Launch) (D : va_G) (cI cB cO : ClassId) (Mo : Nat) (Mp : Nat → Nat) (Ms : Nat → Int32) (Mj : Nat → Int64) (Ma : Nat → Nat → Int32) (a0 : Int32) (rv : Int32) (sz : Nat) (h : fX6_jumpsNow Ms Ma a0 = some rv) : Met l yX6_jumpsNow wsX6_jumpsNow ({ frames := 4, cells := 0, slots := 0, locals := 97 } : Room) (va_Pc [.ref Mo, .int a0] (zPre D (zTY cI cB cO) (zwM cI cB Mo Mp Ms Mj Ma) sz)) (va_Qi (fun r (_ : Unit) => r = rv) (fun _ => zPost D (zTY cI cB cO) (zwM cI cB Mo Mp Ms Mj Ma) (va_A (zwM cI cB Mo Mp Ms Mj Ma) sz)) (va_A (zwM cI cB Mo Mp Ms Mj Ma) sz)) 0 0 (va_A (zwM cI cB Mo Mp Ms Mj Ma) sz) := by
  unfold fX6_jumpsNow at h
  refine zmet_i (cc := cX6_jumpsNow) (maxL := 4) (by decide) rfl (Nat.le_of_ble_eq_true rfl) rfl rfl ?_
  intro p e s m args below meth c R Q A ls hx hb hts hown hml hK hP hD hE hA hS hRf hRl hl hq
  have hown : s.vm.findClass RX6 = some m.cls := hown
  have hl : lv_has ls 4 [(0, .ref Mo), (1, .int a0)] := hl
  have inX6 : ∀ w ∈ u_ws RX6 TX6 40, w ∈ wsX6_jumpsNow := by decide +kernel
  have lk115 : (Cond.fieldLink RX6 115 "PegFieldModel" "pegs" "I").before args s = true := hts _ (by decide +kernel)
  refine lv_iconst (v := (0 : Int32)) hx hb dX6_jumpsNow_0 (by decide) ?_
  refine lv_istore_n (lv' := [(2, .int (0 : Int32)), (0, .ref Mo), (1, .int a0)]) hx hb dX6_jumpsNow_1 rfl hl (by decide) rfl (fun ls hl => ?_)
  refine lv_iconst (v := (0 : Int32)) hx hb dX6_jumpsNow_2 (by decide) ?_
  refine lv_istore_n (lv' := [(3, .int (0 : Int32)), (2, .int (0 : Int32)), (0, .ref Mo), (1, .int a0)]) hx hb dX6_jumpsNow_3 rfl hl (by decide) rfl (fun ls hl => ?_)
  obtain ⟨x2_30x4, i8, h⟩ := zb1_s h
  have KX30 : ∀ (H : Heap) (locs : List Loc) (ls : Array Slot), va_P D vwCl (zwM cI cB Mo Mp Ms Mj Ma) H → va_D A (zwM cI cB Mo Mp Ms Mj Ma) → va_S A s.heap H locs → lv_has ls 4 [(2, .int x2_30x4)] → W p l e R s m args below meth c H locs 0 0 Q (F0 m 30 ls []) := by
    intro H locs ls hP hD hS hl
    refine lv_iload_n hx hb dX6_jumpsNow_30 rfl (lv_at hl 0 rfl) ?_
    cases zend h
    exact hq hP hD hS dX6_jumpsNow_31
  clear h
  refine zi2_ind (P := (fun (x2_4h : Int32) (x3_4h : Int32) => ∀ (H : Heap) (locs : List Loc) (ls : Array Slot), va_P D vwCl (zwM cI cB Mo Mp Ms Mj Ma) H → va_D A (zwM cI cB Mo Mp Ms Mj Ma) → va_S A s.heap H locs → lv_has ls 4 [(0, .ref Mo), (1, .int a0), (2, .int x2_4h), (3, .int x3_4h)] → W p l e R s m args below meth c H locs 0 0 Q (F0 m 4 ls []))) ?_ i8 _ _ _ hP hD hS (lv_sub hl [2, 3, 1, 0] rfl)
  clear i8 hP hD hS hl
  intro x2_4h x3_4h z4 h zl4 zr4 H locs ls hP hD hS hl
  refine lv_iload_n hx hb dX6_jumpsNow_4 rfl (lv_at hl 3 rfl) ?_
  refine lv_aload_n hx hb dX6_jumpsNow_5 rfl (lv_at hl 0 rfl) ?_
  refine va_get (D := D) (ci := 6) (v := .int (Ms 4)) (C := RX6) (T := TX6) (N := 40) hx hb hts inX6 hown hK hP 0 rfl rfl 4 (by decide) lk115 (fun _ h9 => h9) rfl dX6_jumpsNow_6 ?_
  refine lv_icmp_ge (tgt := 30) hx hb dX6_jumpsNow_9 (by decide) (fun c2 => ?_) (fun c2 => ?_)
  · have h := zif_t c2 h
    cases zr4 _ (zend h).symm
    exact KX30 _ _ _ hP hD hS (lv_sub hl [2] rfl)
  · have h := zif_f c2 h
    refine lv_iload_n hx hb dX6_jumpsNow_12 rfl (lv_at hl 2 rfl) ?_
    refine lv_aload_n hx hb dX6_jumpsNow_13 rfl (lv_at hl 0 rfl) ?_
    refine lv_iload_n hx hb dX6_jumpsNow_14 rfl (lv_at hl 1 rfl) ?_
    refine lv_iload_n hx hb dX6_jumpsNow_15 rfl (lv_at hl 3 rfl) ?_
    obtain ⟨r3, g4, h⟩ := zb1_s h
    have hFc := va_free (wc := (zwM cI cB Mo Mp Ms Mj Ma)) hD hS hA [0, 1, 2, 3, 4, 5, 6, 7, 8, 9, 10, 11, 12, 13, 14, 15, 16, 17, 18, 19, 20, 21, 22] (zC_53 (cI := cI) (cB := cB) (cO := cO))
    refine zcp_i (va_runV (As := [.int a0, .int x3_4h]) (rest := [.int x2_4h]) ⟨hx, hb, hml, hown, hts⟩ (c_X6_goes l D cI cB cO Mo Mp Ms Mj Ma a0 x3_4h _ _ g4) (cwV 2 hts gX6_jumpsNow_X6_goes rfl rfl rfl kV_X6_goes ⟨Nat.le_trans (Nat.le_of_ble_eq_true rfl) hRf, Nat.le_trans (Nat.le_of_ble_eq_true rfl) hRl⟩) (zpreV hK hP hD hS hE hFc [0, 1, 2, 3, 4, 5, 6, 7, 8, 9, 10, 11, 12, 13, 14, 15, 16, 17, 18, 19, 20, 21, 22] (zC_53 (cI := cI) (cB := cB) (cO := cO)) rfl 0 (ci := 6) rfl rfl [.int a0, .int x3_4h]) rfl rfl hl.1 rfl (lv_room (Nat.le_of_ble_eq_true rfl)) dX6_jumpsNow_16 ⟨Nat.zero_le _, Nat.zero_le _⟩) hP hD hS hFc [0, 1, 2, 3, 4, 5, 6, 7, 8, 9, 10, 11, 12, 13, 14, 15, 16, 17, 18, 19, 20, 21, 22] (zC_53 (cI := cI) (cB := cB) (cO := cO)) (fun H locs hP hS => ?_)
    clear hFc
    obtain ⟨r5, g6, h⟩ := zb1_s h
    have hFc := va_free (wc := ([] : va_W)) hD hS hA [] rfl
    refine zcp_i (va_runS (As := [.int r3]) (rest := [.int x2_4h]) ⟨hx, hb, hml, hown, hts⟩ (c_X6_size l D cI cB cO r3 _ _ g6) (va_cwS 1 hts gX6_jumpsNow_X6_size rfl rfl rfl kS_X6_size ⟨Nat.le_trans (Nat.le_of_ble_eq_true rfl) hRf, Nat.le_trans (Nat.le_of_ble_eq_true rfl) hRl⟩) (zpreS hK hP hD hS hE hFc [] (rfl) rfl [.int r3]) rfl rfl hl.1 rfl (lv_room (Nat.le_of_ble_eq_true rfl)) dX6_jumpsNow_19 ⟨Nat.zero_le _, Nat.zero_le _⟩) hP hD hS hFc [] (rfl) (fun H locs hP hS => ?_)
    clear hFc
    refine lv_iadd hx hb dX6_jumpsNow_22 ?_
    refine lv_topi (fun x2_7 ex2_7 => ?_)
    have h := zlt_s h ex2_7
    refine lv_istore_n (lv' := [(2, .int x2_7), (0, .ref Mo), (1, .int a0), (3, .int x3_4h)]) hx hb dX6_jumpsNow_23 rfl hl (by decide) rfl (fun ls hl => ?_)
    refine lv_iinc (v := (x3_4h + (1 : Int32))) (lv' := [(3, .int (x3_4h + (1 : Int32))), (2, .int x2_7), (0, .ref Mo), (1, .int a0)]) hx hb dX6_jumpsNow_24 hl (k := 3) rfl rfl (by decide) rfl (fun ls hl => ?_)
    refine lv_goto (tgt := 4) hx hb dX6_jumpsNow_27 (by decide) ?_
    exact zl4 _ _ (zend h).symm _ _ _ hP hD hS (lv_sub hl [2, 3, 1, 0] rfl)
set_option maxHeartbeats 4000000 in
set_option maxRecDepth 100000 in
theorem c_X6_could (l : Launch) (D : va_G) (cI cB cO : ClassId)   (a0 : Int32) (a1 : Int32) (rv : Int32) (sz : Nat) (h : fX6_could a0 a1 = some rv) : Met l yX6_could wsX6_could ({ frames := 0, cells := 0, slots := 0, locals := 0 } : Room) (va_Pc [.int a0, .int a1] (zPre D (zTY cI cB cO) ([] : va_W) sz)) (va_Qi (fun r (_ : Unit) => r = rv) (fun _ => zPost D (zTY cI cB cO) ([] : va_W) (va_A ([] : va_W) sz)) (va_A ([] : va_W) sz)) 0 0 (va_A ([] : va_W) sz) := by
  unfold fX6_could at h
  refine zmet_z (cc := cX6_could) (maxL := 2) (by decide) rfl (Nat.le_of_ble_eq_true rfl) rfl rfl ?_
  intro p e s m args below meth c R Q A ls hx hb hts hown hml hK hP hD hE hA hS hRf hRl hl hq
  have hown : s.vm.findClass RX6 = some m.cls := hown
  have hl : lv_has ls 2 [(0, .int a0), (1, .int a1)] := hl
  refine lv_iload_n hx hb dX6_could_0 rfl (lv_at hl 1 rfl) ?_
  by_cases c1 : a1 = (0 : Int32)
  · have h := zif_t c1 h
    refine lv_tableIn (tgt := 28) (off := 27) hx hb dX6_could_1 (by rw [c1]; decide) (by rw [c1]; decide) (by rw [c1]; rfl) (by decide) ?_
    refine lv_iload_n hx hb dX6_could_28 rfl (lv_at hl 0 rfl) ?_
    refine lv_iconst (v := (1 : Int32)) hx hb dX6_could_29 (by decide) ?_
    refine lv_icmp_eq (tgt := 37) hx hb dX6_could_30 (by decide) (fun c2 => ?_) (fun c2 => ?_)
    · have h := zif_t c2 h
      refine lv_iconst (v := (0 : Int32)) hx hb dX6_could_37 (by decide) ?_
      cases zend h
      exact hq hP hD hS (by decide) dX6_could_38
    · have h := zif_f c2 h
      refine lv_iconst (v := (1 : Int32)) hx hb dX6_could_33 (by decide) ?_
      refine lv_goto (tgt := 38) hx hb dX6_could_34 (by decide) ?_
      cases zend h
      exact hq hP hD hS (by decide) dX6_could_38
  · have h := zif_f c1 h
    by_cases c3 : a1 = (1 : Int32)
    · have h := zif_t c3 h
      refine lv_tableIn (tgt := 39) (off := 38) hx hb dX6_could_1 (by rw [c3]; decide) (by rw [c3]; decide) (by rw [c3]; rfl) (by decide) ?_
      refine lv_iload_n hx hb dX6_could_39 rfl (lv_at hl 0 rfl) ?_
      refine lv_iconst (v := (1 : Int32)) hx hb dX6_could_40 (by decide) ?_
      obtain ⟨J49, eJ49, h⟩ := zjn_s h
      have K49 : ∀ (u : Unit), J49 u = some rv → ∀ (H : Heap) (locs : List Loc) (ls : Array Slot), va_P D vwCl ([] : va_W) H → va_D A ([] : va_W) → va_S A s.heap H locs → lv_has ls 2 [] → W p l e R s m args below meth c H locs 0 0 Q (F0 m 49 ls []) := by
        subst eJ49
        intro u h H locs ls hP hD hS hl
        refine lv_iconst (v := (1 : Int32)) hx hb dX6_could_49 (by decide) ?_
        refine lv_goto (tgt := 54) hx hb dX6_could_50 (by decide) ?_
        cases zend h
        exact hq hP hD hS (by decide) dX6_could_54
      clear eJ49
      refine lv_icmp_eq (tgt := 49) hx hb dX6_could_41 (by decide) (fun c4 => ?_) (fun c4 => ?_)
      · have h := zif_t c4 h
        exact K49 _ h _ _ _ hP hD hS (lv_sub hl [] rfl)
      · have h := zif_f c4 h
        refine lv_iload_n hx hb dX6_could_44 rfl (lv_at hl 0 rfl) ?_
        refine lv_iconst (v := (4 : Int32)) hx hb dX6_could_45 (by decide) ?_
        refine lv_icmp_ne (tgt := 53) hx hb dX6_could_46 (by decide) (fun c5 => ?_) (fun c5 => ?_)
        · have h := zif_f c5 h
          refine lv_iconst (v := (0 : Int32)) hx hb dX6_could_53 (by decide) ?_
          cases zend h
          exact hq hP hD hS (by decide) dX6_could_54
        · have h := zif_t c5 h
          exact K49 _ h _ _ _ hP hD hS (lv_sub hl [] rfl)
    · have h := zif_f c3 h
      by_cases c6 : a1 = (2 : Int32)
      · have h := zif_t c6 h
        refine lv_tableIn (tgt := 55) (off := 54) hx hb dX6_could_1 (by rw [c6]; decide) (by rw [c6]; decide) (by rw [c6]; rfl) (by decide) ?_
        refine lv_iload_n hx hb dX6_could_55 rfl (lv_at hl 0 rfl) ?_
        refine lv_iconst (v := (2 : Int32)) hx hb dX6_could_56 (by decide) ?_
        refine lv_icmp_eq (tgt := 64) hx hb dX6_could_57 (by decide) (fun c7 => ?_) (fun c7 => ?_)
        · have h := zif_t c7 h
          refine lv_iconst (v := (0 : Int32)) hx hb dX6_could_64 (by decide) ?_
          cases zend h
          exact hq hP hD hS (by decide) dX6_could_65
        · have h := zif_f c7 h
          refine lv_iconst (v := (1 : Int32)) hx hb dX6_could_60 (by decide) ?_
          refine lv_goto (tgt := 65) hx hb dX6_could_61 (by decide) ?_
          cases zend h
          exact hq hP hD hS (by decide) dX6_could_65
      · have h := zif_f c6 h
        have nc1 := zne_i (k := 0) (0 : Int32) (by decide) c1
        have nc3 := zne_i (k := 1) (1 : Int32) (by decide) c3
        have nc6 := zne_i (k := 2) (2 : Int32) (by decide) c6
        refine lv_tableOut (tgt := 66) hx hb dX6_could_1 (by omega) (by decide) ?_
        refine lv_iload_n hx hb dX6_could_66 rfl (lv_at hl 0 rfl) ?_
        refine lv_iconst (v := (3 : Int32)) hx hb dX6_could_67 (by decide) ?_
        refine lv_icmp_eq (tgt := 75) hx hb dX6_could_68 (by decide) (fun c8 => ?_) (fun c8 => ?_)
        · have h := zif_t c8 h
          refine lv_iconst (v := (0 : Int32)) hx hb dX6_could_75 (by decide) ?_
          cases zend h
          exact hq hP hD hS (by decide) dX6_could_76
        · have h := zif_f c8 h
          refine lv_iconst (v := (1 : Int32)) hx hb dX6_could_71 (by decide) ?_
          refine lv_goto (tgt := 76) hx hb dX6_could_72 (by decide) ?_
          cases zend h
          exact hq hP hD hS (by decide) dX6_could_76
set_option maxHeartbeats 4000000 in
set_option maxRecDepth 100000 in
theorem c_X6_sortsOf (l : Launch) (D : va_G) (cI cB cO : ClassId) (Mo : Nat) (Mp : Nat → Nat) (Ms : Nat → Int32) (Mj : Nat → Int64) (Ma : Nat → Nat → Int32) (a0 : Int32) (rv : Int32) (sz : Nat) (h : fX6_sortsOf Ms Ma a0 = some rv) : Met l yX6_sortsOf wsX6_sortsOf ({ frames := 1, cells := 0, slots := 0, locals := 21 } : Room) (va_Pc [.ref Mo, .int a0] (zPre D (zTY cI cB cO) (zwM cI cB Mo Mp Ms Mj Ma) sz)) (va_Qi (fun r (_ : Unit) => r = rv) (fun _ => zPost D (zTY cI cB cO) (zwM cI cB Mo Mp Ms Mj Ma) (va_A (zwM cI cB Mo Mp Ms Mj Ma) sz)) (va_A (zwM cI cB Mo Mp Ms Mj Ma) sz)) 0 0 (va_A (zwM cI cB Mo Mp Ms Mj Ma) sz) := by
  unfold fX6_sortsOf at h
  refine zmet_i (cc := cX6_sortsOf) (maxL := 6) (by decide) rfl (Nat.le_of_ble_eq_true rfl) rfl rfl ?_
  intro p e s m args below meth c R Q A ls hx hb hts hown hml hK hP hD hE hA hS hRf hRl hl hq
  have hown : s.vm.findClass RX6 = some m.cls := hown
  have hl : lv_has ls 6 [(0, .ref Mo), (1, .int a0)] := hl
  have inX6 : ∀ w ∈ u_ws RX6 TX6 40, w ∈ wsX6_sortsOf := by decide +kernel
  have lk127 : (Cond.fieldLink RX6 127 "PegFieldModel" "seen" "I").before args s = true := hts _ (by decide +kernel)
  have lk16 : (Cond.fieldLink RX6 16 "PegFieldModel" "seenPeg" "[I").before args s = true := hts _ (by decide +kernel)
  have lk19 : (Cond.fieldLink RX6 19 "PegFieldModel" "seenWhat" "[I").before args s = true := hts _ (by decide +kernel)
  have lk22 : (Cond.fieldLink RX6 22 "PegFieldModel" "seenCould" "[I").before args s = true := hts _ (by decide +kernel)
  refine lv_iconst (v := (0 : Int32)) hx hb dX6_sortsOf_0 (by decide) ?_
  refine lv_istore_n (lv' := [(2, .int (0 : Int32)), (0, .ref Mo), (1, .int a0)]) hx hb dX6_sortsOf_1 rfl hl (by decide) rfl (fun ls hl => ?_)
  refine lv_iconst (v := (0 : Int32)) hx hb dX6_sortsOf_2 (by decide) ?_
  refine lv_istore_n (lv' := [(3, .int (0 : Int32)), (2, .int (0 : Int32)), (0, .ref Mo), (1, .int a0)]) hx hb dX6_sortsOf_3 rfl hl (by decide) rfl (fun ls hl => ?_)
  obtain ⟨x2_104x4, i20, h⟩ := zb1_s h
  have KX104 : ∀ (H : Heap) (locs : List Loc) (ls : Array Slot), va_P D vwCl (zwM cI cB Mo Mp Ms Mj Ma) H → va_D A (zwM cI cB Mo Mp Ms Mj Ma) → va_S A s.heap H locs → lv_has ls 6 [(2, .int x2_104x4)] → W p l e R s m args below meth c H locs 0 0 Q (F0 m 104 ls []) := by
    intro H locs ls hP hD hS hl
    refine lv_iload_n hx hb dX6_sortsOf_104 rfl (lv_at hl 0 rfl) ?_
    cases zend h
    exact hq hP hD hS dX6_sortsOf_105
  clear h
  refine zi2_ind (P := (fun (x2_4h : Int32) (x3_4h : Int32) => ∀ (H : Heap) (locs : List Loc) (ls : Array Slot), va_P D vwCl (zwM cI cB Mo Mp Ms Mj Ma) H → va_D A (zwM cI cB Mo Mp Ms Mj Ma) → va_S A s.heap H locs → lv_has ls 6 [(0, .ref Mo), (1, .int a0), (2, .int x2_4h), (3, .int x3_4h)] → W p l e R s m args below meth c H locs 0 0 Q (F0 m 4 ls []))) ?_ i20 _ _ _ hP hD hS (lv_sub hl [2, 3, 1, 0] rfl)
  clear i20 hP hD hS hl
  intro x2_4h x3_4h z4 h zl4 zr4 H locs ls hP hD hS hl
  refine lv_iload_n hx hb dX6_sortsOf_4 rfl (lv_at hl 3 rfl) ?_
  refine lv_iconst (v := (4 : Int32)) hx hb dX6_sortsOf_5 (by decide) ?_
  refine lv_icmp_gt (tgt := 104) hx hb dX6_sortsOf_6 (by decide) (fun c2 => ?_) (fun c2 => ?_)
  · have h := zif_t c2 h
    cases zr4 _ (zend h).symm
    exact KX104 _ _ _ hP hD hS (lv_sub hl [2] rfl)
  · have h := zif_f c2 h
    refine lv_iconst (v := (1 : Int32)) hx hb dX6_sortsOf_9 (by decide) ?_
    refine lv_istore (lv' := [(4, .int (1 : Int32)), (0, .ref Mo), (1, .int a0), (2, .int x2_4h), (3, .int x3_4h)]) hx hb dX6_sortsOf_10 hl (by decide) rfl (fun ls hl => ?_)
    refine lv_iconst (v := (0 : Int32)) hx hb dX6_sortsOf_12 (by decide) ?_
    refine lv_istore (lv' := [(5, .int (0 : Int32)), (4, .int (1 : Int32)), (0, .ref Mo), (1, .int a0), (2, .int x2_4h), (3, .int x3_4h)]) hx hb dX6_sortsOf_13 hl (by decide) rfl (fun ls hl => ?_)
    obtain ⟨x4_83x15, i19, h⟩ := zb1_s h
    have KX83 : ∀ (H : Heap) (locs : List Loc) (ls : Array Slot), va_P D vwCl (zwM cI cB Mo Mp Ms Mj Ma) H → va_D A (zwM cI cB Mo Mp Ms Mj Ma) → va_S A s.heap H locs → lv_has ls 6 [(0, .ref Mo), (1, .int a0), (2, .int x2_4h), (3, .int x3_4h), (4, .int x4_83x15)] → W p l e R s m args below meth c H locs 0 0 Q (F0 m 83 ls []) := by
      intro H locs ls hP hD hS hl
      refine lv_iload_n hx hb dX6_sortsOf_83 rfl (lv_at hl 2 rfl) ?_
      refine lv_iload hx hb dX6_sortsOf_84 (lv_at hl 4 rfl) ?_
      obtain ⟨v96, j17, h⟩ := zb1_s h
      have K96 : ∀ (H : Heap) (locs : List Loc) (ls : Array Slot), va_P D vwCl (zwM cI cB Mo Mp Ms Mj Ma) H → va_D A (zwM cI cB Mo Mp Ms Mj Ma) → va_S A s.heap H locs → lv_has ls 6 [(0, .ref Mo), (1, .int a0), (3, .int x3_4h)] → W p l e R s m args below meth c H locs 0 0 Q (F0 m 96 ls [.int v96, .int x2_4h]) := by
        intro H locs ls hP hD hS hl
        refine lv_ior hx hb dX6_sortsOf_96 ?_
        refine lv_topi (fun x2_16 ex2_16 => ?_)
        have h := zlt_s h ex2_16
        refine lv_istore_n (lv' := [(2, .int x2_16), (0, .ref Mo), (1, .int a0), (3, .int x3_4h)]) hx hb dX6_sortsOf_97 rfl hl (by decide) rfl (fun ls hl => ?_)
        refine lv_iinc (v := (x3_4h + (1 : Int32))) (lv' := [(3, .int (x3_4h + (1 : Int32))), (2, .int x2_16), (0, .ref Mo), (1, .int a0)]) hx hb dX6_sortsOf_98 hl (k := 3) rfl rfl (by decide) rfl (fun ls hl => ?_)
        refine lv_goto (tgt := 4) hx hb dX6_sortsOf_101 (by decide) ?_
        exact zl4 _ _ (zend h).symm _ _ _ hP hD hS (lv_sub hl [2, 3, 1, 0] rfl)
      clear h
      have h := j17
      clear j17
      refine lv_if_eq (tgt := 95) hx hb dX6_sortsOf_86 (by decide) (fun c18 => ?_) (fun c18 => ?_)
      · have h := zif_t c18 h
        refine lv_iconst (v := (0 : Int32)) hx hb dX6_sortsOf_95 (by decide) ?_
        cases zend h
        exact K96 _ _ _ hP hD hS (lv_sub hl [0, 1, 3] rfl)
      · have h := zif_f c18 h
        refine lv_iconst (v := (1 : Int32)) hx hb dX6_sortsOf_89 (by decide) ?_
        refine lv_iload_n hx hb dX6_sortsOf_90 rfl (lv_at hl 3 rfl) ?_
        refine lv_ishl hx hb dX6_sortsOf_91 ?_
        refine lv_goto (tgt := 96) hx hb dX6_sortsOf_92 (by decide) ?_
        cases zend h
        exact K96 _ _ _ hP hD hS (lv_sub hl [0, 1, 3] rfl)
    clear h
    refine zi2_ind (P := (fun (x4_15h : Int32) (x5_15h : Int32) => ∀ (H : Heap) (locs : List Loc) (ls : Array Slot), va_P D vwCl (zwM cI cB Mo Mp Ms Mj Ma) H → va_D A (zwM cI cB Mo Mp Ms Mj Ma) → va_S A s.heap H locs → lv_has ls 6 [(0, .ref Mo), (1, .int a0), (2, .int x2_4h), (3, .int x3_4h), (4, .int x4_15h), (5, .int x5_15h)] → W p l e R s m args below meth c H locs 0 0 Q (F0 m 15 ls []))) ?_ i19 _ _ _ hP hD hS (lv_sub hl [2, 3, 4, 5, 1, 0] rfl)
    clear i19 hP hD hS hl
    intro x4_15h x5_15h z15 h zl15 zr15 H locs ls hP hD hS hl
    refine lv_iload hx hb dX6_sortsOf_15 (lv_at hl 5 rfl) ?_
    refine lv_aload_n hx hb dX6_sortsOf_17 rfl (lv_at hl 0 rfl) ?_
    refine va_get (D := D) (ci := 6) (v := .int (Ms 9)) (C := RX6) (T := TX6) (N := 40) hx hb hts inX6 hown hK hP 0 rfl rfl 9 (by decide) lk127 (fun _ h9 => h9) rfl dX6_sortsOf_18 ?_
    refine lv_icmp_ge (tgt := 83) hx hb dX6_sortsOf_21 (by decide) (fun c4 => ?_) (fun c4 => ?_)
    · have h := zif_t c4 h
      cases zr15 _ (zend h).symm
      exact KX83 _ _ _ hP hD hS (lv_sub hl [0, 1, 2, 3, 4] rfl)
    · have h := zif_f c4 h
      refine lv_iload hx hb dX6_sortsOf_24 (lv_at hl 4 rfl) ?_
      obtain ⟨v75, j5, h⟩ := zb1_s h
      have K75 : ∀ (H : Heap) (locs : List Loc) (ls : Array Slot), va_P D vwCl (zwM cI cB Mo Mp Ms Mj Ma) H → va_D A (zwM cI cB Mo Mp Ms Mj Ma) → va_S A s.heap H locs → lv_has ls 6 [(0, .ref Mo), (1, .int a0), (2, .int x2_4h), (3, .int x3_4h), (5, .int x5_15h)] → W p l e R s m args below meth c H locs 0 0 Q (F0 m 75 ls [.int v75]) := by
        intro H locs ls hP hD hS hl
        refine lv_istore (lv' := [(4, .int v75), (0, .ref Mo), (1, .int a0), (2, .int x2_4h), (3, .int x3_4h), (5, .int x5_15h)]) hx hb dX6_sortsOf_75 hl (by decide) rfl (fun ls hl => ?_)
        refine lv_iinc (v := (x5_15h + (1 : Int32))) (lv' := [(5, .int (x5_15h + (1 : Int32))), (4, .int v75), (0, .ref Mo), (1, .int a0), (2, .int x2_4h), (3, .int x3_4h)]) hx hb dX6_sortsOf_77 hl (k := 5) rfl rfl (by decide) rfl (fun ls hl => ?_)
        refine lv_goto (tgt := 15) hx hb dX6_sortsOf_80 (by decide) ?_
        exact zl15 _ _ (zend h).symm _ _ _ hP hD hS (lv_sub hl [2, 3, 4, 5, 1, 0] rfl)
      clear h
      have h := j5
      clear j5
      obtain ⟨J74, eJ74, h⟩ := zjn_s h
      have K74 : ∀ (u : Unit), J74 u = some v75 → ∀ (H : Heap) (locs : List Loc) (ls : Array Slot), va_P D vwCl (zwM cI cB Mo Mp Ms Mj Ma) H → va_D A (zwM cI cB Mo Mp Ms Mj Ma) → va_S A s.heap H locs → lv_has ls 6 [(0, .ref Mo), (1, .int a0), (2, .int x2_4h), (3, .int x3_4h), (5, .int x5_15h)] → W p l e R s m args below meth c H locs 0 0 Q (F0 m 74 ls []) := by
        subst eJ74
        intro u h H locs ls hP hD hS hl
        refine lv_iconst (v := (0 : Int32)) hx hb dX6_sortsOf_74 (by decide) ?_
        cases zend h
        exact K75 _ _ _ hP hD hS (lv_sub hl [0, 1, 2, 3, 4] rfl)
      clear eJ74
      refine lv_if_eq (tgt := 74) hx hb dX6_sortsOf_26 (by decide) (fun c6 => ?_) (fun c6 => ?_)
      · have h := zif_t c6 h
        exact K74 _ h _ _ _ hP hD hS (lv_sub hl [0, 1, 2, 3, 5] rfl)
      · have h := zif_f c6 h
        refine lv_aload_n hx hb dX6_sortsOf_29 rfl (lv_at hl 0 rfl) ?_
        refine va_get (D := D) (ci := 6) (v := .ref (Mp 10)) (C := RX6) (T := TX6) (N := 40) hx hb hts inX6 hown hK hP 0 rfl rfl 10 (by decide) lk16 (fun _ h9 => h9) rfl dX6_sortsOf_30 ?_
        refine lv_iload hx hb dX6_sortsOf_33 (lv_at hl 5 rfl) ?_
        obtain ⟨z7, h⟩ := zck_s h
        refine va_iald hx hb hK hP 3 0 rfl rfl (zin_s z7) dX6_sortsOf_35 ?_
        refine lv_iload_n hx hb dX6_sortsOf_36 rfl (lv_at hl 1 rfl) ?_
        obtain ⟨J70, eJ70, h⟩ := zjn_s h
        have K70 : ∀ (u : Unit), J70 u = some v75 → ∀ (H : Heap) (locs : List Loc) (ls : Array Slot), va_P D vwCl (zwM cI cB Mo Mp Ms Mj Ma) H → va_D A (zwM cI cB Mo Mp Ms Mj Ma) → va_S A s.heap H locs → lv_has ls 6 [(0, .ref Mo), (1, .int a0), (2, .int x2_4h), (3, .int x3_4h), (5, .int x5_15h)] → W p l e R s m args below meth c H locs 0 0 Q (F0 m 70 ls []) := by
          subst eJ70
          intro u h H locs ls hP hD hS hl
          refine lv_iconst (v := (1 : Int32)) hx hb dX6_sortsOf_70 (by decide) ?_
          refine lv_goto (tgt := 75) hx hb dX6_sortsOf_71 (by decide) ?_
          cases zend h
          exact K75 _ _ _ hP hD hS (lv_sub hl [0, 1, 2, 3, 4] rfl)
        clear eJ70
        refine lv_icmp_ne (tgt := 70) hx hb dX6_sortsOf_37 (by decide) (fun c8 => ?_) (fun c8 => ?_)
        · have h := zif_f c8 h
          exact K70 _ h _ _ _ hP hD hS (lv_sub hl [0, 1, 2, 3, 5] rfl)
        · have h := zif_t c8 h
          refine lv_iload_n hx hb dX6_sortsOf_40 rfl (lv_at hl 3 rfl) ?_
          refine lv_aload_n hx hb dX6_sortsOf_41 rfl (lv_at hl 0 rfl) ?_
          refine va_get (D := D) (ci := 6) (v := .ref (Mp 11)) (C := RX6) (T := TX6) (N := 40) hx hb hts inX6 hown hK hP 0 rfl rfl 11 (by decide) lk19 (fun _ h9 => h9) rfl dX6_sortsOf_42 ?_
          refine lv_iload hx hb dX6_sortsOf_45 (lv_at hl 5 rfl) ?_
          obtain ⟨z9, h⟩ := zck_s h
          refine va_iald hx hb hK hP 4 0 rfl rfl (zin_s z9) dX6_sortsOf_47 ?_
          obtain ⟨r10, g11, h⟩ := zb1_s h
          have hFc := va_free (wc := ([] : va_W)) hD hS hA [] rfl
          refine zcp_i (va_runS (As := [.int x3_4h, .int ((Ma 11) (x5_15h).toNatClampNeg)]) (rest := []) ⟨hx, hb, hml, hown, hts⟩ (c_X6_could l D cI cB cO x3_4h ((Ma 11) (x5_15h).toNatClampNeg) _ _ g11) (va_cwS 2 hts gX6_sortsOf_X6_could rfl rfl rfl kS_X6_could ⟨Nat.le_trans (Nat.le_of_ble_eq_true rfl) hRf, Nat.le_trans (Nat.le_of_ble_eq_true rfl) hRl⟩) (zpreS hK hP hD hS hE hFc [] (rfl) rfl [.int x3_4h, .int ((Ma 11) (x5_15h).toNatClampNeg)]) rfl rfl hl.1 rfl (lv_room (Nat.le_of_ble_eq_true rfl)) dX6_sortsOf_48 ⟨Nat.zero_le _, Nat.zero_le _⟩) hP hD hS hFc [] (rfl) (fun H locs hP hS => ?_)
          clear hFc
          refine lv_aload_n hx hb dX6_sortsOf_51 rfl (lv_at hl 0 rfl) ?_
          refine va_get (D := D) (ci := 6) (v := .ref (Mp 12)) (C := RX6) (T := TX6) (N := 40) hx hb hts inX6 hown hK hP 0 rfl rfl 12 (by decide) lk22 (fun _ h9 => h9) rfl dX6_sortsOf_52 ?_
          refine lv_iload hx hb dX6_sortsOf_55 (lv_at hl 5 rfl) ?_
          obtain ⟨z12, h⟩ := zck_s h
          refine va_iald hx hb hK hP 5 0 rfl rfl (zin_s z12) dX6_sortsOf_57 ?_
          refine lv_iconst (v := (1 : Int32)) hx hb dX6_sortsOf_58 (by decide) ?_
          obtain ⟨v67, j14, h⟩ := zb1_s h
          have K67 : ∀ (H : Heap) (locs : List Loc) (ls : Array Slot), va_P D vwCl (zwM cI cB Mo Mp Ms Mj Ma) H → va_D A (zwM cI cB Mo Mp Ms Mj Ma) → va_S A s.heap H locs → lv_has ls 6 [(0, .ref Mo), (1, .int a0), (2, .int x2_4h), (3, .int x3_4h), (5, .int x5_15h)] → W p l e R s m args below meth c H locs 0 0 Q (F0 m 67 ls [.int v67, .int r10]) := by
            intro H locs ls hP hD hS hl
            refine lv_icmp_ne (tgt := 74) hx hb dX6_sortsOf_67 (by decide) (fun c13 => ?_) (fun c13 => ?_)
            · have h := zif_f c13 h
              exact K74 _ h _ _ _ hP hD hS (lv_sub hl [0, 1, 2, 3, 4] rfl)
            · have h := zif_t c13 h
              exact K70 _ h _ _ _ hP hD hS (lv_sub hl [0, 1, 2, 3, 4] rfl)
          clear h
          have h := j14
          clear j14
          refine lv_icmp_ne (tgt := 66) hx hb dX6_sortsOf_59 (by decide) (fun c15 => ?_) (fun c15 => ?_)
          · have h := zif_f c15 h
            refine lv_iconst (v := (0 : Int32)) hx hb dX6_sortsOf_66 (by decide) ?_
            cases zend h
            exact K67 _ _ _ hP hD hS (lv_sub hl [0, 1, 2, 3, 5] rfl)
          · have h := zif_t c15 h
            refine lv_iconst (v := (1 : Int32)) hx hb dX6_sortsOf_62 (by decide) ?_
            refine lv_goto (tgt := 67) hx hb dX6_sortsOf_63 (by decide) ?_
            cases zend h
            exact K67 _ _ _ hP hD hS (lv_sub hl [0, 1, 2, 3, 5] rfl)
set_option maxHeartbeats 4000000 in
set_option maxRecDepth 100000 in
theorem c_X6_askOf (l : Launch) (D : va_G) (cI cB cO : ClassId) (Mo : Nat) (Mp : Nat → Nat) (Ms : Nat → Int32) (Mj : Nat → Int64) (Ma : Nat → Nat → Int32) (a0 : Int32) (rv : Int32) (sz : Nat) (h : fX6_askOf Ms Ma a0 = some rv) : Met l yX6_askOf wsX6_askOf ({ frames := 2, cells := 0, slots := 0, locals := 46 } : Room) (va_Pc [.ref Mo, .int a0] (zPre D (zTY cI cB cO) (zwM cI cB Mo Mp Ms Mj Ma) sz)) (va_Qi (fun r (_ : Unit) => r = rv) (fun _ => zPost D (zTY cI cB cO) (zwM cI cB Mo Mp Ms Mj Ma) (va_A (zwM cI cB Mo Mp Ms Mj Ma) sz)) (va_A (zwM cI cB Mo Mp Ms Mj Ma) sz)) 0 0 (va_A (zwM cI cB Mo Mp Ms Mj Ma) sz) := by
  unfold fX6_askOf at h
  refine zmet_i (cc := cX6_askOf) (maxL := 9) (by decide) rfl (Nat.le_of_ble_eq_true rfl) rfl rfl ?_
  intro p e s m args below meth c R Q A ls hx hb hts hown hml hK hP hD hE hA hS hRf hRl hl hq
  have hown : s.vm.findClass RX6 = some m.cls := hown
  have hl : lv_has ls 9 [(0, .ref Mo), (1, .int a0)] := hl
  refine lv_aload_n hx hb dX6_askOf_0 rfl (lv_at hl 0 rfl) ?_
  refine lv_iload_n hx hb dX6_askOf_1 rfl (lv_at hl 1 rfl) ?_
  obtain ⟨r1, g2, h⟩ := zb1_s h
  have hFc := va_free (wc := (zwM cI cB Mo Mp Ms Mj Ma)) hD hS hA [0, 1, 2, 3, 4, 5, 6, 7, 8, 9, 10, 11, 12, 13, 14, 15, 16, 17, 18, 19, 20, 21, 22] (zC_53 (cI := cI) (cB := cB) (cO := cO))
  refine zcp_i (va_runV (As := [.int a0]) (rest := []) ⟨hx, hb, hml, hown, hts⟩ (c_X6_sortsOf l D cI cB cO Mo Mp Ms Mj Ma a0 _ _ g2) (cwV 1 hts gX6_askOf_X6_sortsOf rfl rfl rfl kV_X6_sortsOf ⟨Nat.le_trans (Nat.le_of_ble_eq_true rfl) hRf, Nat.le_trans (Nat.le_of_ble_eq_true rfl) hRl⟩) (zpreV hK hP hD hS hE hFc [0, 1, 2, 3, 4, 5, 6, 7, 8, 9, 10, 11, 12, 13, 14, 15, 16, 17, 18, 19, 20, 21, 22] (zC_53 (cI := cI) (cB := cB) (cO := cO)) rfl 0 (ci := 6) rfl rfl [.int a0]) rfl rfl hl.1 rfl (lv_room (Nat.le_of_ble_eq_true rfl)) dX6_askOf_2 ⟨Nat.zero_le _, Nat.zero_le _⟩) hP hD hS hFc [0, 1, 2, 3, 4, 5, 6, 7, 8, 9, 10, 11, 12, 13, 14, 15, 16, 17, 18, 19, 20, 21, 22] (zC_53 (cI := cI) (cB := cB) (cO := cO)) (fun H locs hP hS => ?_)
  clear hFc
  refine lv_istore_n (lv' := [(2, .int r1), (0, .ref Mo), (1, .int a0)]) hx hb dX6_askOf_5 rfl hl (by decide) rfl (fun ls hl => ?_)
  refine lv_iconst (v := (-1 : Int32)) hx hb dX6_askOf_6 (by decide) ?_
  refine lv_istore_n (lv' := [(3, .int (-1 : Int32)), (2, .int r1), (0, .ref Mo), (1, .int a0)]) hx hb dX6_askOf_7 rfl hl (by decide) rfl (fun ls hl => ?_)
  refine lv_ldc (v := (268435456 : Int32)) hx hb hown (hts (.constant RX6 189 (268435456)) (by decide +kernel)) dX6_askOf_8 ?_
  refine lv_istore (lv' := [(4, .int (268435456 : Int32)), (3, .int (-1 : Int32)), (2, .int r1), (0, .ref Mo), (1, .int a0)]) hx hb dX6_askOf_10 hl (by decide) rfl (fun ls hl => ?_)
  refine lv_iconst (v := (0 : Int32)) hx hb dX6_askOf_12 (by decide) ?_
  refine lv_istore (lv' := [(5, .int (0 : Int32)), (4, .int (268435456 : Int32)), (3, .int (-1 : Int32)), (2, .int r1), (0, .ref Mo), (1, .int a0)]) hx hb dX6_askOf_13 hl (by decide) rfl (fun ls hl => ?_)
  obtain ⟨x3_133x15, i26, h⟩ := zb1_s h
  have KX133 : ∀ (H : Heap) (locs : List Loc) (ls : Array Slot), va_P D vwCl (zwM cI cB Mo Mp Ms Mj Ma) H → va_D A (zwM cI cB Mo Mp Ms Mj Ma) → va_S A s.heap H locs → lv_has ls 9 [(3, .int x3_133x15)] → W p l e R s m args below meth c H locs 0 0 Q (F0 m 133 ls []) := by
    intro H locs ls hP hD hS hl
    refine lv_iload_n hx hb dX6_askOf_133 rfl (lv_at hl 0 rfl) ?_
    cases zend h
    exact hq hP hD hS dX6_askOf_134
  clear h
  refine zi3_ind (P := (fun (x3_15h : Int32) (x4_15h : Int32) (x5_15h : Int32) => ∀ (H : Heap) (locs : List Loc) (ls : Array Slot), va_P D vwCl (zwM cI cB Mo Mp Ms Mj Ma) H → va_D A (zwM cI cB Mo Mp Ms Mj Ma) → va_S A s.heap H locs → lv_has ls 9 [(2, .int r1), (3, .int x3_15h), (4, .int x4_15h), (5, .int x5_15h)] → W p l e R s m args below meth c H locs 0 0 Q (F0 m 15 ls []))) ?_ i26 _ _ _ hP hD hS (lv_sub hl [3, 2, 1, 0] rfl)
  clear i26 hP hD hS hl
  intro x3_15h x4_15h x5_15h z15 h zl15 zr15 H locs ls hP hD hS hl
  refine lv_iload hx hb dX6_askOf_15 (lv_at hl 3 rfl) ?_
  refine lv_iconst (v := (4 : Int32)) hx hb dX6_askOf_17 (by decide) ?_
  refine lv_icmp_ge (tgt := 133) hx hb dX6_askOf_18 (by decide) (fun c4 => ?_) (fun c4 => ?_)
  · have h := zif_t c4 h
    cases zr15 _ (zend h).symm
    exact KX133 _ _ _ hP hD hS (lv_sub hl [1] rfl)
  · have h := zif_f c4 h
    refine lv_iload_n hx hb dX6_askOf_21 rfl (lv_at hl 0 rfl) ?_
    refine lv_if_eq (tgt := 133) hx hb dX6_askOf_22 (by decide) (fun c5 => ?_) (fun c5 => ?_)
    · have h := zif_t c5 h
      cases zr15 _ (zend h).symm
      exact KX133 _ _ _ hP hD hS (lv_sub hl [1] rfl)
    · have h := zif_f c5 h
      refine lv_iconst (v := (0 : Int32)) hx hb dX6_askOf_25 (by decide) ?_
      refine lv_istore (lv' := [(6, .int (0 : Int32)), (2, .int r1), (3, .int x3_15h), (4, .int x4_15h), (5, .int x5_15h)]) hx hb dX6_askOf_26 hl (by decide) rfl (fun ls hl => ?_)
      refine lv_iconst (v := (0 : Int32)) hx hb dX6_askOf_28 (by decide) ?_
      refine lv_istore (lv' := [(7, .int (0 : Int32)), (6, .int (0 : Int32)), (2, .int r1), (3, .int x3_15h), (4, .int x4_15h), (5, .int x5_15h)]) hx hb dX6_askOf_29 hl (by decide) rfl (fun ls hl => ?_)
      obtain ⟨x6_72x31, i25, h⟩ := zb1_s h
      have KX72 : ∀ (H : Heap) (locs : List Loc) (ls : Array Slot), va_P D vwCl (zwM cI cB Mo Mp Ms Mj Ma) H → va_D A (zwM cI cB Mo Mp Ms Mj Ma) → va_S A s.heap H locs → lv_has ls 9 [(2, .int r1), (3, .int x3_15h), (4, .int x4_15h), (5, .int x5_15h), (6, .int x6_72x31)] → W p l e R s m args below meth c H locs 0 0 Q (F0 m 72 ls []) := by
        intro H locs ls hP hD hS hl
        refine lv_iload_n hx hb dX6_askOf_72 rfl (lv_at hl 0 rfl) ?_
        obtain ⟨r16, g17, h⟩ := zb1_s h
        have hFc := va_free (wc := ([] : va_W)) hD hS hA [] rfl
        refine zcp_i (va_runS (As := [.int r1]) (rest := []) ⟨hx, hb, hml, hown, hts⟩ (c_X6_size l D cI cB cO r1 _ _ g17) (va_cwS 1 hts gX6_askOf_X6_size rfl rfl rfl kS_X6_size ⟨Nat.le_trans (Nat.le_of_ble_eq_true rfl) hRf, Nat.le_trans (Nat.le_of_ble_eq_true rfl) hRl⟩) (zpreS hK hP hD hS hE hFc [] (rfl) rfl [.int r1]) rfl rfl hl.1 rfl (lv_room (Nat.le_of_ble_eq_true rfl)) dX6_askOf_73 ⟨Nat.zero_le _, Nat.zero_le _⟩) hP hD hS hFc [] (rfl) (fun H locs hP hS => ?_)
        clear hFc
        refine lv_iload hx hb dX6_askOf_76 (lv_at hl 4 rfl) ?_
        refine lv_isub hx hb dX6_askOf_78 ?_
        refine lv_topi (fun x7_18 ex7_18 => ?_)
        have h := zlt_s h ex7_18
        refine lv_istore (lv' := [(7, .int x7_18), (2, .int r1), (3, .int x3_15h), (4, .int x4_15h), (5, .int x5_15h), (6, .int x6_72x31)]) hx hb dX6_askOf_79 hl (by decide) rfl (fun ls hl => ?_)
        refine lv_iload hx hb dX6_askOf_81 (lv_at hl 5 rfl) ?_
        refine lv_iload hx hb dX6_askOf_83 (lv_at hl 0 rfl) ?_
        obtain ⟨v95, j23, h⟩ := zb1_s h
        have K95 : ∀ (H : Heap) (locs : List Loc) (ls : Array Slot), va_P D vwCl (zwM cI cB Mo Mp Ms Mj Ma) H → va_D A (zwM cI cB Mo Mp Ms Mj Ma) → va_S A s.heap H locs → lv_has ls 9 [(2, .int r1), (3, .int x3_15h), (4, .int x4_15h), (5, .int x5_15h)] → W p l e R s m args below meth c H locs 0 0 Q (F0 m 95 ls [.int v95]) := by
          intro H locs ls hP hD hS hl
          refine lv_istore (lv' := [(8, .int v95), (2, .int r1), (3, .int x3_15h), (4, .int x4_15h), (5, .int x5_15h)]) hx hb dX6_askOf_95 hl (by decide) rfl (fun ls hl => ?_)
          refine lv_iload hx hb dX6_askOf_97 (lv_at hl 0 rfl) ?_
          refine lv_iload hx hb dX6_askOf_99 (lv_at hl 3 rfl) ?_
          obtain ⟨v110, j21, h⟩ := zb1_s h
          have K110 : ∀ (H : Heap) (locs : List Loc) (ls : Array Slot), va_P D vwCl (zwM cI cB Mo Mp Ms Mj Ma) H → va_D A (zwM cI cB Mo Mp Ms Mj Ma) → va_S A s.heap H locs → lv_has ls 9 [(2, .int r1), (4, .int x4_15h), (5, .int x5_15h), (8, .int v95)] → W p l e R s m args below meth c H locs 0 0 Q (F0 m 110 ls [.int v110]) := by
            intro H locs ls hP hD hS hl
            refine lv_istore_n (lv' := [(3, .int v110), (2, .int r1), (4, .int x4_15h), (5, .int x5_15h), (8, .int v95)]) hx hb dX6_askOf_110 rfl hl (by decide) rfl (fun ls hl => ?_)
            refine lv_iload hx hb dX6_askOf_111 (lv_at hl 4 rfl) ?_
            refine lv_iload hx hb dX6_askOf_113 (lv_at hl 2 rfl) ?_
            obtain ⟨v125, j19, h⟩ := zb1_s h
            have K125 : ∀ (H : Heap) (locs : List Loc) (ls : Array Slot), va_P D vwCl (zwM cI cB Mo Mp Ms Mj Ma) H → va_D A (zwM cI cB Mo Mp Ms Mj Ma) → va_S A s.heap H locs → lv_has ls 9 [(2, .int r1), (3, .int v110), (5, .int x5_15h)] → W p l e R s m args below meth c H locs 0 0 Q (F0 m 125 ls [.int v125]) := by
              intro H locs ls hP hD hS hl
              refine lv_istore (lv' := [(4, .int v125), (2, .int r1), (3, .int v110), (5, .int x5_15h)]) hx hb dX6_askOf_125 hl (by decide) rfl (fun ls hl => ?_)
              refine lv_iinc (v := (x5_15h + (1 : Int32))) (lv' := [(5, .int (x5_15h + (1 : Int32))), (4, .int v125), (2, .int r1), (3, .int v110)]) hx hb dX6_askOf_127 hl (k := 3) rfl rfl (by decide) rfl (fun ls hl => ?_)
              refine lv_goto (tgt := 15) hx hb dX6_askOf_130 (by decide) ?_
              exact zl15 _ _ _ (zend h).symm _ _ _ hP hD hS (lv_sub hl [2, 3, 1, 0] rfl)
            clear h
            have h := j19
            clear j19
            refine lv_icmp_ge (tgt := 123) hx hb dX6_askOf_115 (by decide) (fun c20 => ?_) (fun c20 => ?_)
            · have h := zif_t c20 h
              refine lv_iload hx hb dX6_askOf_123 (lv_at hl 2 rfl) ?_
              cases zend h
              exact K125 _ _ _ hP hD hS (lv_sub hl [1, 0, 3] rfl)
            · have h := zif_f c20 h
              refine lv_iload hx hb dX6_askOf_118 (lv_at hl 4 rfl) ?_
              refine lv_goto (tgt := 125) hx hb dX6_askOf_120 (by decide) ?_
              cases zend h
              exact K125 _ _ _ hP hD hS (lv_sub hl [1, 0, 3] rfl)
          clear h
          have h := j21
          clear j21
          refine lv_icmp_ge (tgt := 109) hx hb dX6_askOf_101 (by decide) (fun c22 => ?_) (fun c22 => ?_)
          · have h := zif_t c22 h
            refine lv_iload_n hx hb dX6_askOf_109 rfl (lv_at hl 2 rfl) ?_
            cases zend h
            exact K110 _ _ _ hP hD hS (lv_sub hl [1, 3, 4, 0] rfl)
          · have h := zif_f c22 h
            refine lv_iload hx hb dX6_askOf_104 (lv_at hl 4 rfl) ?_
            refine lv_goto (tgt := 110) hx hb dX6_askOf_106 (by decide) ?_
            cases zend h
            exact K110 _ _ _ hP hD hS (lv_sub hl [1, 3, 4, 0] rfl)
        clear h
        have h := j23
        clear j23
        refine lv_icmp_le (tgt := 93) hx hb dX6_askOf_85 (by decide) (fun c24 => ?_) (fun c24 => ?_)
        · have h := zif_t c24 h
          refine lv_iload hx hb dX6_askOf_93 (lv_at hl 0 rfl) ?_
          cases zend h
          exact K95 _ _ _ hP hD hS (lv_sub hl [1, 2, 3, 4] rfl)
        · have h := zif_f c24 h
          refine lv_iload hx hb dX6_askOf_88 (lv_at hl 5 rfl) ?_
          refine lv_goto (tgt := 95) hx hb dX6_askOf_90 (by decide) ?_
          cases zend h
          exact K95 _ _ _ hP hD hS (lv_sub hl [1, 2, 3, 4] rfl)
      clear h
      refine zi2_ind (P := (fun (x6_31h : Int32) (x7_31h : Int32) => ∀ (H : Heap) (locs : List Loc) (ls : Array Slot), va_P D vwCl (zwM cI cB Mo Mp Ms Mj Ma) H → va_D A (zwM cI cB Mo Mp Ms Mj Ma) → va_S A s.heap H locs → lv_has ls 9 [(2, .int r1), (3, .int x3_15h), (4, .int x4_15h), (5, .int x5_15h), (6, .int x6_31h), (7, .int x7_31h)] → W p l e R s m args below meth c H locs 0 0 Q (F0 m 31 ls []))) ?_ i25 _ _ _ hP hD hS (lv_sub hl [2, 3, 4, 5, 1, 0] rfl)
      clear i25 hP hD hS hl
      intro x6_31h x7_31h z31 h zl31 zr31 H locs ls hP hD hS hl
      refine lv_iload hx hb dX6_askOf_31 (lv_at hl 5 rfl) ?_
      refine lv_iconst (v := (4 : Int32)) hx hb dX6_askOf_33 (by decide) ?_
      refine lv_icmp_gt (tgt := 72) hx hb dX6_askOf_34 (by decide) (fun c7 => ?_) (fun c7 => ?_)
      · have h := zif_t c7 h
        cases zr31 _ (zend h).symm
        exact KX72 _ _ _ hP hD hS (lv_sub hl [0, 1, 2, 3, 4] rfl)
      · have h := zif_f c7 h
        refine lv_iload hx hb dX6_askOf_37 (lv_at hl 4 rfl) ?_
        refine lv_iload_n hx hb dX6_askOf_39 rfl (lv_at hl 0 rfl) ?_
        refine lv_iload hx hb dX6_askOf_40 (lv_at hl 5 rfl) ?_
        obtain ⟨r8, g9, h⟩ := zb1_s h
        have hFc := va_free (wc := ([] : va_W)) hD hS hA [] rfl
        refine zcp_i (va_runS (As := [.int r1, .int x7_31h]) (rest := [.int x6_31h]) ⟨hx, hb, hml, hown, hts⟩ (c_X6_isIn l D cI cB cO r1 x7_31h _ _ g9) (va_cwS 2 hts gX6_askOf_X6_isIn rfl rfl rfl kS_X6_isIn ⟨Nat.le_trans (Nat.le_of_ble_eq_true rfl) hRf, Nat.le_trans (Nat.le_of_ble_eq_true rfl) hRl⟩) (zpreS hK hP hD hS hE hFc [] (rfl) rfl [.int r1, .int x7_31h]) rfl rfl hl.1 rfl (lv_room (Nat.le_of_ble_eq_true rfl)) dX6_askOf_42 ⟨Nat.zero_le _, Nat.zero_le _⟩) hP hD hS hFc [] (rfl) (fun H locs hP hS => ?_)
        clear hFc
        obtain ⟨v63, j11, h⟩ := zb1_s h
        have K63 : ∀ (H : Heap) (locs : List Loc) (ls : Array Slot), va_P D vwCl (zwM cI cB Mo Mp Ms Mj Ma) H → va_D A (zwM cI cB Mo Mp Ms Mj Ma) → va_S A s.heap H locs → lv_has ls 9 [(2, .int r1), (3, .int x3_15h), (4, .int x4_15h), (5, .int x5_15h), (7, .int x7_31h)] → W p l e R s m args below meth c H locs 0 0 Q (F0 m 63 ls [.int v63, .int x6_31h]) := by
          intro H locs ls hP hD hS hl
          refine lv_iadd hx hb dX6_askOf_63 ?_
          refine lv_topi (fun x6_10 ex6_10 => ?_)
          have h := zlt_s h ex6_10
          refine lv_istore (lv' := [(6, .int x6_10), (2, .int r1), (3, .int x3_15h), (4, .int x4_15h), (5, .int x5_15h), (7, .int x7_31h)]) hx hb dX6_askOf_64 hl (by decide) rfl (fun ls hl => ?_)
          refine lv_iinc (v := (x7_31h + (1 : Int32))) (lv' := [(7, .int (x7_31h + (1 : Int32))), (6, .int x6_10), (2, .int r1), (3, .int x3_15h), (4, .int x4_15h), (5, .int x5_15h)]) hx hb dX6_askOf_66 hl (k := 5) rfl rfl (by decide) rfl (fun ls hl => ?_)
          refine lv_goto (tgt := 31) hx hb dX6_askOf_69 (by decide) ?_
          exact zl31 _ _ (zend h).symm _ _ _ hP hD hS (lv_sub hl [2, 3, 4, 5, 1, 0] rfl)
        clear h
        have h := j11
        clear j11
        obtain ⟨J62, eJ62, h⟩ := zjn_s h
        have K62 : ∀ (u : Unit), J62 u = some v63 → ∀ (H : Heap) (locs : List Loc) (ls : Array Slot), va_P D vwCl (zwM cI cB Mo Mp Ms Mj Ma) H → va_D A (zwM cI cB Mo Mp Ms Mj Ma) → va_S A s.heap H locs → lv_has ls 9 [(2, .int r1), (3, .int x3_15h), (4, .int x4_15h), (5, .int x5_15h), (7, .int x7_31h)] → W p l e R s m args below meth c H locs 0 0 Q (F0 m 62 ls [.int x6_31h]) := by
          subst eJ62
          intro u h H locs ls hP hD hS hl
          refine lv_iconst (v := (0 : Int32)) hx hb dX6_askOf_62 (by decide) ?_
          cases zend h
          exact K63 _ _ _ hP hD hS (lv_sub hl [0, 1, 2, 3, 4] rfl)
        clear eJ62
        refine lv_if_eq (tgt := 62) hx hb dX6_askOf_45 (by decide) (fun c12 => ?_) (fun c12 => ?_)
        · have h := zif_t c12 h
          exact K62 _ h _ _ _ hP hD hS (lv_sub hl [0, 1, 2, 3, 5] rfl)
        · have h := zif_f c12 h
          refine lv_iload hx hb dX6_askOf_48 (lv_at hl 5 rfl) ?_
          refine lv_iload hx hb dX6_askOf_50 (lv_at hl 3 rfl) ?_
          obtain ⟨r13, g14, h⟩ := zb1_s h
          have hFc := va_free (wc := ([] : va_W)) hD hS hA [] rfl
          refine zcp_i (va_runS (As := [.int x7_31h, .int x5_15h]) (rest := [.int x6_31h]) ⟨hx, hb, hml, hown, hts⟩ (c_X6_could l D cI cB cO x7_31h x5_15h _ _ g14) (va_cwS 2 hts gX6_askOf_X6_could rfl rfl rfl kS_X6_could ⟨Nat.le_trans (Nat.le_of_ble_eq_true rfl) hRf, Nat.le_trans (Nat.le_of_ble_eq_true rfl) hRl⟩) (zpreS hK hP hD hS hE hFc [] (rfl) rfl [.int x7_31h, .int x5_15h]) rfl rfl hl.1 rfl (lv_room (Nat.le_of_ble_eq_true rfl)) dX6_askOf_52 ⟨Nat.zero_le _, Nat.zero_le _⟩) hP hD hS hFc [] (rfl) (fun H locs hP hS => ?_)
          clear hFc
          refine lv_if_eq (tgt := 62) hx hb dX6_askOf_55 (by decide) (fun c15 => ?_) (fun c15 => ?_)
          · have h := zif_t c15 h
            exact K62 _ h _ _ _ hP hD hS (lv_sub hl [0, 1, 2, 3, 5] rfl)
          · have h := zif_f c15 h
            refine lv_iconst (v := (1 : Int32)) hx hb dX6_askOf_58 (by decide) ?_
            refine lv_goto (tgt := 63) hx hb dX6_askOf_59 (by decide) ?_
            cases zend h
            exact K63 _ _ _ hP hD hS (lv_sub hl [0, 1, 2, 3, 5] rfl)
set_option maxHeartbeats 4000000 in
set_option maxRecDepth 100000 in
theorem c_X6_pegNow (l : Launch) (D : va_G) (cI cB cO : ClassId) (Mo : Nat) (Mp : Nat → Nat) (Ms : Nat → Int32) (Mj : Nat → Int64) (Ma : Nat → Nat → Int32) (a0 : Int32) (a1 : Int32) (rv : Int32) (Ma' : Nat → Nat → Int32) (sz : Nat) (h : fX6_pegNow Ms Ma a0 a1 = some (rv, Ma')) : Met l yX6_pegNow wsX6_pegNow ({ frames := 4, cells := 0, slots := 0, locals := 97 } : Room) (va_Pc [.ref Mo, .int a0, .int a1] (zPre D (zTY cI cB cO) (zwM cI cB Mo Mp Ms Mj Ma) sz)) (va_Qi (fun r (_ : Unit) => r = rv) (fun _ => zPost D (zTY cI cB cO) (zwM cI cB Mo Mp Ms Mj Ma') (va_A (zwM cI cB Mo Mp Ms Mj Ma) sz)) (va_A (zwM cI cB Mo Mp Ms Mj Ma) sz)) 0 0 (va_A (zwM cI cB Mo Mp Ms Mj Ma) sz) := by
  unfold fX6_pegNow at h
  refine zmet_i (cc := cX6_pegNow) (maxL := 3) (by decide) rfl (Nat.le_of_ble_eq_true rfl) rfl rfl ?_
  intro p e s m args below meth c R Q A ls hx hb hts hown hml hK hP hD hE hA hS hRf hRl hl hq
  have hown : s.vm.findClass RX6 = some m.cls := hown
  have hl : lv_has ls 3 [(0, .ref Mo), (1, .int a0), (2, .int a1)] := hl
  have inX6 : ∀ w ∈ u_ws RX6 TX6 40, w ∈ wsX6_pegNow := by decide +kernel
  have lk7 : (Cond.fieldLink RX6 7 "PegFieldModel" "kindOf" "[I").before args s = true := hts _ (by decide +kernel)
  have lk13 : (Cond.fieldLink RX6 13 "PegFieldModel" "placeOf" "[I").before args s = true := hts _ (by decide +kernel)
  refine lv_iload_n hx hb dX6_pegNow_0 rfl (lv_at hl 2 rfl) ?_
  by_cases c1 : a1 = (0 : Int32)
  · have h := zif_t c1 h
    refine lv_tableIn (tgt := 32) (off := 31) hx hb dX6_pegNow_1 (by rw [c1]; decide) (by rw [c1]; decide) (by rw [c1]; rfl) (by decide) ?_
    refine lv_aload_n hx hb dX6_pegNow_32 rfl (lv_at hl 0 rfl) ?_
    refine va_get (D := D) (ci := 6) (v := .ref (Mp 5)) (C := RX6) (T := TX6) (N := 40) hx hb hts inX6 hown hK hP 0 rfl rfl 5 (by decide) lk7 (fun _ h9 => h9) rfl dX6_pegNow_33 ?_
    refine lv_iload_n hx hb dX6_pegNow_36 rfl (lv_at hl 1 rfl) ?_
    obtain ⟨z2, h⟩ := zck_s h
    refine va_iald hx hb hK hP 1 0 rfl rfl (zin_s z2) dX6_pegNow_37 ?_
    cases zend h
    exact hq hP hD hS dX6_pegNow_38
  · have h := zif_f c1 h
    by_cases c3 : a1 = (1 : Int32)
    · have h := zif_t c3 h
      refine lv_tableIn (tgt := 39) (off := 38) hx hb dX6_pegNow_1 (by rw [c3]; decide) (by rw [c3]; decide) (by rw [c3]; rfl) (by decide) ?_
      refine lv_aload_n hx hb dX6_pegNow_39 rfl (lv_at hl 0 rfl) ?_
      refine va_get (D := D) (ci := 6) (v := .ref (Mp 6)) (C := RX6) (T := TX6) (N := 40) hx hb hts inX6 hown hK hP 0 rfl rfl 6 (by decide) lk13 (fun _ h9 => h9) rfl dX6_pegNow_40 ?_
      refine lv_iload_n hx hb dX6_pegNow_43 rfl (lv_at hl 1 rfl) ?_
      obtain ⟨z4, h⟩ := zck_s h
      refine va_iald hx hb hK hP 2 0 rfl rfl (zin_s z4) dX6_pegNow_44 ?_
      cases zend h
      exact hq hP hD hS dX6_pegNow_45
    · have h := zif_f c3 h
      by_cases c5 : a1 = (2 : Int32)
      · have h := zif_t c5 h
        refine lv_tableIn (tgt := 46) (off := 45) hx hb dX6_pegNow_1 (by rw [c5]; decide) (by rw [c5]; decide) (by rw [c5]; rfl) (by decide) ?_
        refine lv_aload_n hx hb dX6_pegNow_46 rfl (lv_at hl 0 rfl) ?_
        obtain ⟨Ma_6, g7, h⟩ := zb1_s h
        have hFc := va_free (wc := (zwM cI cB Mo Mp Ms Mj Ma)) hD hS hA [0, 1, 2, 3, 4, 5, 6, 7, 8, 9, 10, 11, 12, 13, 14, 15, 16, 17, 18, 19, 20, 21, 22] (zC_55 (cI := cI) (cB := cB) (cO := cO))
        refine zcm_v (w2 := (zwM cI cB Mo Mp Ms Mj Ma_6)) (va_runV (As := []) (rest := []) ⟨hx, hb, hml, hown, hts⟩ (c_X6_putDeep l D cI cB cO Mo Mp Ms Mj Ma _ _ g7) (cwV 0 hts gX6_pegNow_X6_putDeep rfl rfl rfl kV_X6_putDeep ⟨Nat.le_trans (Nat.le_of_ble_eq_true rfl) hRf, Nat.le_trans (Nat.le_of_ble_eq_true rfl) hRl⟩) (zpreV hK hP hD hS hE hFc [0, 1, 2, 3, 4, 5, 6, 7, 8, 9, 10, 11, 12, 13, 14, 15, 16, 17, 18, 19, 20, 21, 22] (zC_55 (cI := cI) (cB := cB) (cO := cO)) rfl 0 (ci := 6) rfl rfl []) rfl rfl hl.1 rfl (lv_room (Nat.le_of_ble_eq_true rfl)) dX6_pegNow_47 ⟨Nat.zero_le _, Nat.zero_le _⟩) hS hFc (fun H1 t h1 h2 h3 => zM_55 (cI := cI) (cB := cB) (cO := cO) hP hD h1 h2 h3) (fun H locs hP hD hS => ?_)
        clear hFc
        refine lv_aload_n hx hb dX6_pegNow_50 rfl (lv_at hl 0 rfl) ?_
        refine lv_iconst (v := (0 : Int32)) hx hb dX6_pegNow_51 (by decide) ?_
        refine lv_iload_n hx hb dX6_pegNow_52 rfl (lv_at hl 1 rfl) ?_
        obtain ⟨r8, g9, h⟩ := zb1_s h
        have hFc := va_free (wc := (zwM cI cB Mo Mp Ms Mj Ma_6)) hD hS hA [0, 1, 2, 3, 4, 5, 6, 7, 8, 9, 10, 11, 12, 13, 14, 15, 16, 17, 18, 19, 20, 21, 22] (zC_53 (cI := cI) (cB := cB) (cO := cO))
        refine zcp_i (va_runV (As := [.int (0 : Int32), .int a0]) (rest := []) ⟨hx, hb, hml, hown, hts⟩ (c_X6_goes l D cI cB cO Mo Mp Ms Mj Ma_6 (0 : Int32) a0 _ _ g9) (cwV 2 hts gX6_pegNow_X6_goes rfl rfl rfl kV_X6_goes ⟨Nat.le_trans (Nat.le_of_ble_eq_true rfl) hRf, Nat.le_trans (Nat.le_of_ble_eq_true rfl) hRl⟩) (zpreV hK hP hD hS hE hFc [0, 1, 2, 3, 4, 5, 6, 7, 8, 9, 10, 11, 12, 13, 14, 15, 16, 17, 18, 19, 20, 21, 22] (zC_53 (cI := cI) (cB := cB) (cO := cO)) rfl 0 (ci := 6) rfl rfl [.int (0 : Int32), .int a0]) rfl rfl hl.1 rfl (lv_room (Nat.le_of_ble_eq_true rfl)) dX6_pegNow_53 ⟨Nat.zero_le _, Nat.zero_le _⟩) hP hD hS hFc [0, 1, 2, 3, 4, 5, 6, 7, 8, 9, 10, 11, 12, 13, 14, 15, 16, 17, 18, 19, 20, 21, 22] (zC_53 (cI := cI) (cB := cB) (cO := cO)) (fun H locs hP hS => ?_)
        clear hFc
        cases zend h
        exact hq hP hD hS dX6_pegNow_56
      · have h := zif_f c5 h
        by_cases c10 : a1 = (3 : Int32)
        · have h := zif_t c10 h
          refine lv_tableIn (tgt := 57) (off := 56) hx hb dX6_pegNow_1 (by rw [c10]; decide) (by rw [c10]; decide) (by rw [c10]; rfl) (by decide) ?_
          refine lv_aload_n hx hb dX6_pegNow_57 rfl (lv_at hl 0 rfl) ?_
          refine lv_iload_n hx hb dX6_pegNow_58 rfl (lv_at hl 1 rfl) ?_
          obtain ⟨r11, g12, h⟩ := zb1_s h
          have hFc := va_free (wc := (zwM cI cB Mo Mp Ms Mj Ma)) hD hS hA [0, 1, 2, 3, 4, 5, 6, 7, 8, 9, 10, 11, 12, 13, 14, 15, 16, 17, 18, 19, 20, 21, 22] (zC_53 (cI := cI) (cB := cB) (cO := cO))
          refine zcp_i (va_runV (As := [.int a0]) (rest := []) ⟨hx, hb, hml, hown, hts⟩ (c_X6_sortsOf l D cI cB cO Mo Mp Ms Mj Ma a0 _ _ g12) (cwV 1 hts gX6_pegNow_X6_sortsOf rfl rfl rfl kV_X6_sortsOf ⟨Nat.le_trans (Nat.le_of_ble_eq_true rfl) hRf, Nat.le_trans (Nat.le_of_ble_eq_true rfl) hRl⟩) (zpreV hK hP hD hS hE hFc [0, 1, 2, 3, 4, 5, 6, 7, 8, 9, 10, 11, 12, 13, 14, 15, 16, 17, 18, 19, 20, 21, 22] (zC_53 (cI := cI) (cB := cB) (cO := cO)) rfl 0 (ci := 6) rfl rfl [.int a0]) rfl rfl hl.1 rfl (lv_room (Nat.le_of_ble_eq_true rfl)) dX6_pegNow_59 ⟨Nat.zero_le _, Nat.zero_le _⟩) hP hD hS hFc [0, 1, 2, 3, 4, 5, 6, 7, 8, 9, 10, 11, 12, 13, 14, 15, 16, 17, 18, 19, 20, 21, 22] (zC_53 (cI := cI) (cB := cB) (cO := cO)) (fun H locs hP hS => ?_)
          clear hFc
          cases zend h
          exact hq hP hD hS dX6_pegNow_62
        · have h := zif_f c10 h
          have nc1 := zne_i (k := 0) (0 : Int32) (by decide) c1
          have nc3 := zne_i (k := 1) (1 : Int32) (by decide) c3
          have nc5 := zne_i (k := 2) (2 : Int32) (by decide) c5
          have nc10 := zne_i (k := 3) (3 : Int32) (by decide) c10
          refine lv_tableOut (tgt := 63) hx hb dX6_pegNow_1 (by omega) (by decide) ?_
          refine lv_aload_n hx hb dX6_pegNow_63 rfl (lv_at hl 0 rfl) ?_
          refine lv_iload_n hx hb dX6_pegNow_64 rfl (lv_at hl 1 rfl) ?_
          obtain ⟨r13, g14, h⟩ := zb1_s h
          have hFc := va_free (wc := (zwM cI cB Mo Mp Ms Mj Ma)) hD hS hA [0, 1, 2, 3, 4, 5, 6, 7, 8, 9, 10, 11, 12, 13, 14, 15, 16, 17, 18, 19, 20, 21, 22] (zC_53 (cI := cI) (cB := cB) (cO := cO))
          refine zcp_i (va_runV (As := [.int a0]) (rest := []) ⟨hx, hb, hml, hown, hts⟩ (c_X6_askOf l D cI cB cO Mo Mp Ms Mj Ma a0 _ _ g14) (cwV 1 hts gX6_pegNow_X6_askOf rfl rfl rfl kV_X6_askOf ⟨Nat.le_trans (Nat.le_of_ble_eq_true rfl) hRf, Nat.le_trans (Nat.le_of_ble_eq_true rfl) hRl⟩) (zpreV hK hP hD hS hE hFc [0, 1, 2, 3, 4, 5, 6, 7, 8, 9, 10, 11, 12, 13, 14, 15, 16, 17, 18, 19, 20, 21, 22] (zC_53 (cI := cI) (cB := cB) (cO := cO)) rfl 0 (ci := 6) rfl rfl [.int a0]) rfl rfl hl.1 rfl (lv_room (Nat.le_of_ble_eq_true rfl)) dX6_pegNow_65 ⟨Nat.zero_le _, Nat.zero_le _⟩) hP hD hS hFc [0, 1, 2, 3, 4, 5, 6, 7, 8, 9, 10, 11, 12, 13, 14, 15, 16, 17, 18, 19, 20, 21, 22] (zC_53 (cI := cI) (cB := cB) (cO := cO)) (fun H locs hP hS => ?_)
          clear hFc
          cases zend h
          exact hq hP hD hS dX6_pegNow_68
set_option maxHeartbeats 4000000 in
set_option maxRecDepth 100000 in
theorem c_X6_peg (l : Launch) (D : va_G) (cI cB cO : ClassId) (Mo : Nat) (Mp : Nat → Nat) (Ms : Nat → Int32) (Mj : Nat → Int64) (Ma : Nat → Nat → Int32) (a0 : Int32) (a1 : Int32) (rv : Int32) (Ma' : Nat → Nat → Int32) (sz : Nat) (h : fX6_peg Ms Ma a0 a1 = some (rv, Ma')) : Met l yX6_peg wsX6_peg ({ frames := 5, cells := 0, slots := 0, locals := 119 } : Room) (va_Pc [.ref Mo, .int a0, .int a1] (zPre D (zTY cI cB cO) (zwM cI cB Mo Mp Ms Mj Ma) sz)) (va_Qi (fun r (_ : Unit) => r = rv) (fun _ => zPost D (zTY cI cB cO) (zwM cI cB Mo Mp Ms Mj Ma') (va_A (zwM cI cB Mo Mp Ms Mj Ma) sz)) (va_A (zwM cI cB Mo Mp Ms Mj Ma) sz)) 0 0 (va_A (zwM cI cB Mo Mp Ms Mj Ma) sz) := by
  unfold fX6_peg at h
  refine zmet_i (cc := cX6_peg) (maxL := 3) (by decide) rfl (Nat.le_of_ble_eq_true rfl) rfl rfl ?_
  intro p e s m args below meth c R Q A ls hx hb hts hown hml hK hP hD hE hA hS hRf hRl hl hq
  have hown : s.vm.findClass RX6 = some m.cls := hown
  have hl : lv_has ls 3 [(0, .ref Mo), (1, .int a0), (2, .int a1)] := hl
  refine lv_aload_n hx hb dX6_peg_0 rfl (lv_at hl 0 rfl) ?_
  refine lv_iload_n hx hb dX6_peg_1 rfl (lv_at hl 1 rfl) ?_
  obtain ⟨r1, g2, h⟩ := zb1_s h
  have hFc := va_free (wc := (zwM cI cB Mo Mp Ms Mj Ma)) hD hS hA [0, 1, 2, 3, 4, 5, 6, 7, 8, 9, 10, 11, 12, 13, 14, 15, 16, 17, 18, 19, 20, 21, 22] (zC_53 (cI := cI) (cB := cB) (cO := cO))
  refine zcp_i (va_runV (As := [.int a0]) (rest := []) ⟨hx, hb, hml, hown, hts⟩ (c_X6_isPeg l D cI cB cO Mo Mp Ms Mj Ma a0 _ _ g2) (cwV 1 hts gX6_peg_X6_isPeg rfl rfl rfl kV_X6_isPeg ⟨Nat.le_trans (Nat.le_of_ble_eq_true rfl) hRf, Nat.le_trans (Nat.le_of_ble_eq_true rfl) hRl⟩) (zpreV hK hP hD hS hE hFc [0, 1, 2, 3, 4, 5, 6, 7, 8, 9, 10, 11, 12, 13, 14, 15, 16, 17, 18, 19, 20, 21, 22] (zC_53 (cI := cI) (cB := cB) (cO := cO)) rfl 0 (ci := 6) rfl rfl [.int a0]) rfl rfl hl.1 rfl (lv_room (Nat.le_of_ble_eq_true rfl)) dX6_peg_2 ⟨Nat.zero_le _, Nat.zero_le _⟩) hP hD hS hFc [0, 1, 2, 3, 4, 5, 6, 7, 8, 9, 10, 11, 12, 13, 14, 15, 16, 17, 18, 19, 20, 21, 22] (zC_53 (cI := cI) (cB := cB) (cO := cO)) (fun H locs hP hS => ?_)
  clear hFc
  refine lv_if_ne (tgt := 13) hx hb dX6_peg_5 (by decide) (fun c3 => ?_) (fun c3 => ?_)
  · have h := zif_f c3 h
    refine lv_iload_n hx hb dX6_peg_13 rfl (lv_at hl 2 rfl) ?_
    refine lv_iconst (v := (0 : Int32)) hx hb dX6_peg_14 (by decide) ?_
    refine lv_iconst (v := (4 : Int32)) hx hb dX6_peg_15 (by decide) ?_
    obtain ⟨r4, g5, h⟩ := zb1_s h
    have hFc := va_free (wc := ([] : va_W)) hD hS hA [] rfl
    refine zcp_i (va_runS (As := [.int a1, .int (0 : Int32), .int (4 : Int32)]) (rest := []) ⟨hx, hb, hml, hown, hts⟩ (c_X6_within l D cI cB cO a1 (0 : Int32) (4 : Int32) _ _ g5) (va_cwS 3 hts gX6_peg_X6_within rfl rfl rfl kS_X6_within ⟨Nat.le_trans (Nat.le_of_ble_eq_true rfl) hRf, Nat.le_trans (Nat.le_of_ble_eq_true rfl) hRl⟩) (zpreS hK hP hD hS hE hFc [] (rfl) rfl [.int a1, .int (0 : Int32), .int (4 : Int32)]) rfl rfl hl.1 rfl (lv_room (Nat.le_of_ble_eq_true rfl)) dX6_peg_16 ⟨Nat.zero_le _, Nat.zero_le _⟩) hP hD hS hFc [] (rfl) (fun H locs hP hS => ?_)
    clear hFc
    refine lv_if_eq (tgt := 31) hx hb dX6_peg_19 (by decide) (fun c6 => ?_) (fun c6 => ?_)
    · have h := zif_t c6 h
      refine lv_bipush (v := (-102 : Int32)) hx hb dX6_peg_31 (by decide) ?_
      cases zend h
      exact hq hP hD hS dX6_peg_33
    · have h := zif_f c6 h
      refine lv_aload_n hx hb dX6_peg_22 rfl (lv_at hl 0 rfl) ?_
      refine lv_iload_n hx hb dX6_peg_23 rfl (lv_at hl 1 rfl) ?_
      refine lv_iload_n hx hb dX6_peg_24 rfl (lv_at hl 2 rfl) ?_
      obtain ⟨r7, Ma_8, g9, h⟩ := zb2_s h
      have hFc := va_free (wc := (zwM cI cB Mo Mp Ms Mj Ma)) hD hS hA [0, 1, 2, 3, 4, 5, 6, 7, 8, 9, 10, 11, 12, 13, 14, 15, 16, 17, 18, 19, 20, 21, 22] (zC_55 (cI := cI) (cB := cB) (cO := cO))
      refine zcm_i (w2 := (zwM cI cB Mo Mp Ms Mj Ma_8)) (va_runV (As := [.int a0, .int a1]) (rest := []) ⟨hx, hb, hml, hown, hts⟩ (c_X6_pegNow l D cI cB cO Mo Mp Ms Mj Ma a0 a1 _ _ _ g9) (cwV 2 hts gX6_peg_X6_pegNow rfl rfl rfl kV_X6_pegNow ⟨Nat.le_trans (Nat.le_of_ble_eq_true rfl) hRf, Nat.le_trans (Nat.le_of_ble_eq_true rfl) hRl⟩) (zpreV hK hP hD hS hE hFc [0, 1, 2, 3, 4, 5, 6, 7, 8, 9, 10, 11, 12, 13, 14, 15, 16, 17, 18, 19, 20, 21, 22] (zC_55 (cI := cI) (cB := cB) (cO := cO)) rfl 0 (ci := 6) rfl rfl [.int a0, .int a1]) rfl rfl hl.1 rfl (lv_room (Nat.le_of_ble_eq_true rfl)) dX6_peg_25 ⟨Nat.zero_le _, Nat.zero_le _⟩) hS hFc (fun H1 t h1 h2 h3 => zM_55 (cI := cI) (cB := cB) (cO := cO) hP hD h1 h2 h3) (fun H locs hP hD hS => ?_)
      clear hFc
      refine lv_goto (tgt := 33) hx hb dX6_peg_28 (by decide) ?_
      cases zend h
      exact hq hP hD hS dX6_peg_33
  · have h := zif_t c3 h
    refine lv_bipush (v := (-101 : Int32)) hx hb dX6_peg_8 (by decide) ?_
    refine lv_goto (tgt := 33) hx hb dX6_peg_10 (by decide) ?_
    cases zend h
    exact hq hP hD hS dX6_peg_33
set_option maxHeartbeats 4000000 in
set_option maxRecDepth 100000 in
theorem c_X6_as (l : Launch) (D : va_G) (cI cB cO : ClassId) (Mo : Nat) (Mp : Nat → Nat) (Ms : Nat → Int32) (Mj : Nat → Int64) (Ma : Nat → Nat → Int32) (a0 : Int32) (a1 : Int32) (rv : Int32) (sz : Nat) (h : fX6_as Ms Ma a0 a1 = some rv) : Met l yX6_as wsX6_as ({ frames := 2, cells := 0, slots := 0, locals := 43 } : Room) (va_Pc [.ref Mo, .int a0, .int a1] (zPre D (zTY cI cB cO) (zwM cI cB Mo Mp Ms Mj Ma) sz)) (va_Qi (fun r (_ : Unit) => r = rv) (fun _ => zPost D (zTY cI cB cO) (zwM cI cB Mo Mp Ms Mj Ma) (va_A (zwM cI cB Mo Mp Ms Mj Ma) sz)) (va_A (zwM cI cB Mo Mp Ms Mj Ma) sz)) 0 0 (va_A (zwM cI cB Mo Mp Ms Mj Ma) sz) := by
  unfold fX6_as at h
  refine zmet_i (cc := cX6_as) (maxL := 4) (by decide) rfl (Nat.le_of_ble_eq_true rfl) rfl rfl ?_
  intro p e s m args below meth c R Q A ls hx hb hts hown hml hK hP hD hE hA hS hRf hRl hl hq
  have hown : s.vm.findClass RX6 = some m.cls := hown
  have hl : lv_has ls 4 [(0, .ref Mo), (1, .int a0), (2, .int a1)] := hl
  have inX6 : ∀ w ∈ u_ws RX6 TX6 40, w ∈ wsX6_as := by decide +kernel
  have lk7 : (Cond.fieldLink RX6 7 "PegFieldModel" "kindOf" "[I").before args s = true := hts _ (by decide +kernel)
  refine lv_aload_n hx hb dX6_as_0 rfl (lv_at hl 0 rfl) ?_
  refine lv_iload_n hx hb dX6_as_1 rfl (lv_at hl 1 rfl) ?_
  obtain ⟨r1, g2, h⟩ := zb1_s h
  have hFc := va_free (wc := (zwM cI cB Mo Mp Ms Mj Ma)) hD hS hA [0, 1, 2, 3, 4, 5, 6, 7, 8, 9, 10, 11, 12, 13, 14, 15, 16, 17, 18, 19, 20, 21, 22] (zC_53 (cI := cI) (cB := cB) (cO := cO))
  refine zcp_i (va_runV (As := [.int a0]) (rest := []) ⟨hx, hb, hml, hown, hts⟩ (c_X6_isPeg l D cI cB cO Mo Mp Ms Mj Ma a0 _ _ g2) (cwV 1 hts gX6_as_X6_isPeg rfl rfl rfl kV_X6_isPeg ⟨Nat.le_trans (Nat.le_of_ble_eq_true rfl) hRf, Nat.le_trans (Nat.le_of_ble_eq_true rfl) hRl⟩) (zpreV hK hP hD hS hE hFc [0, 1, 2, 3, 4, 5, 6, 7, 8, 9, 10, 11, 12, 13, 14, 15, 16, 17, 18, 19, 20, 21, 22] (zC_53 (cI := cI) (cB := cB) (cO := cO)) rfl 0 (ci := 6) rfl rfl [.int a0]) rfl rfl hl.1 rfl (lv_room (Nat.le_of_ble_eq_true rfl)) dX6_as_2 ⟨Nat.zero_le _, Nat.zero_le _⟩) hP hD hS hFc [0, 1, 2, 3, 4, 5, 6, 7, 8, 9, 10, 11, 12, 13, 14, 15, 16, 17, 18, 19, 20, 21, 22] (zC_53 (cI := cI) (cB := cB) (cO := cO)) (fun H locs hP hS => ?_)
  clear hFc
  refine lv_if_ne (tgt := 11) hx hb dX6_as_5 (by decide) (fun c3 => ?_) (fun c3 => ?_)
  · have h := zif_f c3 h
    refine lv_iload_n hx hb dX6_as_11 rfl (lv_at hl 2 rfl) ?_
    refine lv_iconst (v := (0 : Int32)) hx hb dX6_as_12 (by decide) ?_
    refine lv_iconst (v := (4 : Int32)) hx hb dX6_as_13 (by decide) ?_
    obtain ⟨r4, g5, h⟩ := zb1_s h
    have hFc := va_free (wc := ([] : va_W)) hD hS hA [] rfl
    refine zcp_i (va_runS (As := [.int a1, .int (0 : Int32), .int (4 : Int32)]) (rest := []) ⟨hx, hb, hml, hown, hts⟩ (c_X6_within l D cI cB cO a1 (0 : Int32) (4 : Int32) _ _ g5) (va_cwS 3 hts gX6_as_X6_within rfl rfl rfl kS_X6_within ⟨Nat.le_trans (Nat.le_of_ble_eq_true rfl) hRf, Nat.le_trans (Nat.le_of_ble_eq_true rfl) hRl⟩) (zpreS hK hP hD hS hE hFc [] (rfl) rfl [.int a1, .int (0 : Int32), .int (4 : Int32)]) rfl rfl hl.1 rfl (lv_room (Nat.le_of_ble_eq_true rfl)) dX6_as_14 ⟨Nat.zero_le _, Nat.zero_le _⟩) hP hD hS hFc [] (rfl) (fun H locs hP hS => ?_)
    clear hFc
    refine lv_if_ne (tgt := 23) hx hb dX6_as_17 (by decide) (fun c6 => ?_) (fun c6 => ?_)
    · have h := zif_f c6 h
      refine lv_aload_n hx hb dX6_as_23 rfl (lv_at hl 0 rfl) ?_
      refine va_get (D := D) (ci := 6) (v := .ref (Mp 5)) (C := RX6) (T := TX6) (N := 40) hx hb hts inX6 hown hK hP 0 rfl rfl 5 (by decide) lk7 (fun _ h9 => h9) rfl dX6_as_24 ?_
      refine lv_iload_n hx hb dX6_as_27 rfl (lv_at hl 1 rfl) ?_
      obtain ⟨z7, h⟩ := zck_s h
      refine va_iald hx hb hK hP 1 0 rfl rfl (zin_s z7) dX6_as_28 ?_
      refine lv_topi (fun x3_8 ex3_8 => ?_)
      have h := zlt_s h ex3_8
      refine lv_istore_n (lv' := [(3, .int x3_8), (0, .ref Mo), (1, .int a0), (2, .int a1)]) hx hb dX6_as_29 rfl hl (by decide) rfl (fun ls hl => ?_)
      refine lv_iload_n hx hb dX6_as_30 rfl (lv_at hl 3 rfl) ?_
      obtain ⟨J49, eJ49, h⟩ := zjn_s h
      have K49 : ∀ (u : Unit), J49 u = some rv → ∀ (H : Heap) (locs : List Loc) (ls : Array Slot), va_P D vwCl (zwM cI cB Mo Mp Ms Mj Ma) H → va_D A (zwM cI cB Mo Mp Ms Mj Ma) → va_S A s.heap H locs → lv_has ls 4 [(1, .int a0)] → W p l e R s m args below meth c H locs 0 0 Q (F0 m 49 ls []) := by
        subst eJ49
        intro u h H locs ls hP hD hS hl
        refine lv_iload_n hx hb dX6_as_49 rfl (lv_at hl 0 rfl) ?_
        refine lv_goto (tgt := 54) hx hb dX6_as_50 (by decide) ?_
        cases zend h
        exact hq hP hD hS dX6_as_54
      clear eJ49
      refine lv_if_eq (tgt := 49) hx hb dX6_as_31 (by decide) (fun c9 => ?_) (fun c9 => ?_)
      · have h := zif_t c9 h
        exact K49 _ h _ _ _ hP hD hS (lv_sub hl [2] rfl)
      · have h := zif_f c9 h
        refine lv_iload_n hx hb dX6_as_34 rfl (lv_at hl 0 rfl) ?_
        refine lv_iload_n hx hb dX6_as_35 rfl (lv_at hl 3 rfl) ?_
        refine lv_icmp_eq (tgt := 49) hx hb dX6_as_36 (by decide) (fun c10 => ?_) (fun c10 => ?_)
        · have h := zif_t c10 h
          exact K49 _ h _ _ _ hP hD hS (lv_sub hl [2] rfl)
        · have h := zif_f c10 h
          refine lv_iload_n hx hb dX6_as_39 rfl (lv_at hl 3 rfl) ?_
          refine lv_iconst (v := (1 : Int32)) hx hb dX6_as_40 (by decide) ?_
          refine lv_icmp_ne (tgt := 53) hx hb dX6_as_41 (by decide) (fun c11 => ?_) (fun c11 => ?_)
          · have h := zif_f c11 h
            refine lv_iconst (v := (-1 : Int32)) hx hb dX6_as_53 (by decide) ?_
            cases zend h
            exact hq hP hD hS dX6_as_54
          · have h := zif_t c11 h
            refine lv_iload_n hx hb dX6_as_44 rfl (lv_at hl 0 rfl) ?_
            refine lv_iconst (v := (4 : Int32)) hx hb dX6_as_45 (by decide) ?_
            refine lv_icmp_ne (tgt := 53) hx hb dX6_as_46 (by decide) (fun c12 => ?_) (fun c12 => ?_)
            · have h := zif_f c12 h
              refine lv_iconst (v := (-1 : Int32)) hx hb dX6_as_53 (by decide) ?_
              cases zend h
              exact hq hP hD hS dX6_as_54
            · have h := zif_t c12 h
              exact K49 _ h _ _ _ hP hD hS (lv_sub hl [2] rfl)
    · have h := zif_t c6 h
      refine lv_bipush (v := (-102 : Int32)) hx hb dX6_as_20 (by decide) ?_
      cases zend h
      exact hq hP hD hS dX6_as_22
  · have h := zif_t c3 h
    refine lv_bipush (v := (-101 : Int32)) hx hb dX6_as_8 (by decide) ?_
    cases zend h
    exact hq hP hD hS dX6_as_10
set_option maxHeartbeats 4000000 in
set_option maxRecDepth 100000 in
theorem c_X6_placeNow (l : Launch) (D : va_G) (cI cB cO : ClassId) (Mo : Nat) (Mp : Nat → Nat) (Ms : Nat → Int32) (Mj : Nat → Int64) (Ma : Nat → Nat → Int32) (a0 : Int32) (a1 : Int32) (rv : Int32) (Ma' : Nat → Nat → Int32) (sz : Nat) (h : fX6_placeNow Ms Ma a0 a1 = some (rv, Ma')) : Met l yX6_placeNow wsX6_placeNow ({ frames := 1, cells := 0, slots := 0, locals := 24 } : Room) (va_Pc [.ref Mo, .int a0, .int a1] (zPre D (zTY cI cB cO) (zwM cI cB Mo Mp Ms Mj Ma) sz)) (va_Qi (fun r (_ : Unit) => r = rv) (fun _ => zPost D (zTY cI cB cO) (zwM cI cB Mo Mp Ms Mj Ma') (va_A (zwM cI cB Mo Mp Ms Mj Ma) sz)) (va_A (zwM cI cB Mo Mp Ms Mj Ma) sz)) 0 0 (va_A (zwM cI cB Mo Mp Ms Mj Ma) sz) := by
  unfold fX6_placeNow at h
  refine zmet_i (cc := cX6_placeNow) (maxL := 3) (by decide) rfl (Nat.le_of_ble_eq_true rfl) rfl rfl ?_
  intro p e s m args below meth c R Q A ls hx hb hts hown hml hK hP hD hE hA hS hRf hRl hl hq
  have hown : s.vm.findClass RX6 = some m.cls := hown
  have hl : lv_has ls 3 [(0, .ref Mo), (1, .int a0), (2, .int a1)] := hl
  have inX6 : ∀ w ∈ u_ws RX6 TX6 40, w ∈ wsX6_placeNow := by decide +kernel
  have lk112 : (Cond.fieldLink RX6 112 "PegFieldModel" "holes" "I").before args s = true := hts _ (by decide +kernel)
  refine lv_aload_n hx hb dX6_placeNow_0 rfl (lv_at hl 0 rfl) ?_
  obtain ⟨Ma_1, g2, h⟩ := zb1_s h
  have hFc := va_free (wc := (zwM cI cB Mo Mp Ms Mj Ma)) hD hS hA [0, 1, 2, 3, 4, 5, 6, 7, 8, 9, 10, 11, 12, 13, 14, 15, 16, 17, 18, 19, 20, 21, 22] (zC_55 (cI := cI) (cB := cB) (cO := cO))
  refine zcm_v (w2 := (zwM cI cB Mo Mp Ms Mj Ma_1)) (va_runV (As := []) (rest := []) ⟨hx, hb, hml, hown, hts⟩ (c_X6_putDeep l D cI cB cO Mo Mp Ms Mj Ma _ _ g2) (cwV 0 hts gX6_placeNow_X6_putDeep rfl rfl rfl kV_X6_putDeep ⟨Nat.le_trans (Nat.le_of_ble_eq_true rfl) hRf, Nat.le_trans (Nat.le_of_ble_eq_true rfl) hRl⟩) (zpreV hK hP hD hS hE hFc [0, 1, 2, 3, 4, 5, 6, 7, 8, 9, 10, 11, 12, 13, 14, 15, 16, 17, 18, 19, 20, 21, 22] (zC_55 (cI := cI) (cB := cB) (cO := cO)) rfl 0 (ci := 6) rfl rfl []) rfl rfl hl.1 rfl (lv_room (Nat.le_of_ble_eq_true rfl)) dX6_placeNow_1 ⟨Nat.zero_le _, Nat.zero_le _⟩) hS hFc (fun H1 t h1 h2 h3 => zM_55 (cI := cI) (cB := cB) (cO := cO) hP hD h1 h2 h3) (fun H locs hP hD hS => ?_)
  clear hFc
  refine lv_iload_n hx hb dX6_placeNow_4 rfl (lv_at hl 2 rfl) ?_
  refine lv_if_ne (tgt := 19) hx hb dX6_placeNow_5 (by decide) (fun c3 => ?_) (fun c3 => ?_)
  · have h := zif_f c3 h
    refine lv_aload_n hx hb dX6_placeNow_19 rfl (lv_at hl 0 rfl) ?_
    refine lv_iconst (v := (0 : Int32)) hx hb dX6_placeNow_20 (by decide) ?_
    refine lv_iload_n hx hb dX6_placeNow_21 rfl (lv_at hl 1 rfl) ?_
    obtain ⟨r4, g5, h⟩ := zb1_s h
    have hFc := va_free (wc := (zwM cI cB Mo Mp Ms Mj Ma_1)) hD hS hA [0, 1, 2, 3, 4, 5, 6, 7, 8, 9, 10, 11, 12, 13, 14, 15, 16, 17, 18, 19, 20, 21, 22] (zC_53 (cI := cI) (cB := cB) (cO := cO))
    refine zcp_i (va_runV (As := [.int (0 : Int32), .int a0]) (rest := []) ⟨hx, hb, hml, hown, hts⟩ (c_X6_whoAt l D cI cB cO Mo Mp Ms Mj Ma_1 (0 : Int32) a0 _ _ g5) (cwV 2 hts gX6_placeNow_X6_whoAt rfl rfl rfl kV_X6_whoAt ⟨Nat.le_trans (Nat.le_of_ble_eq_true rfl) hRf, Nat.le_trans (Nat.le_of_ble_eq_true rfl) hRl⟩) (zpreV hK hP hD hS hE hFc [0, 1, 2, 3, 4, 5, 6, 7, 8, 9, 10, 11, 12, 13, 14, 15, 16, 17, 18, 19, 20, 21, 22] (zC_53 (cI := cI) (cB := cB) (cO := cO)) rfl 0 (ci := 6) rfl rfl [.int (0 : Int32), .int a0]) rfl rfl hl.1 rfl (lv_room (Nat.le_of_ble_eq_true rfl)) dX6_placeNow_22 ⟨Nat.zero_le _, Nat.zero_le _⟩) hP hD hS hFc [0, 1, 2, 3, 4, 5, 6, 7, 8, 9, 10, 11, 12, 13, 14, 15, 16, 17, 18, 19, 20, 21, 22] (zC_53 (cI := cI) (cB := cB) (cO := cO)) (fun H locs hP hS => ?_)
    clear hFc
    cases zend h
    exact hq hP hD hS dX6_placeNow_25
  · have h := zif_t c3 h
    refine lv_aload_n hx hb dX6_placeNow_8 rfl (lv_at hl 0 rfl) ?_
    refine va_get (D := D) (ci := 6) (v := .int (Ms 3)) (C := RX6) (T := TX6) (N := 40) hx hb hts inX6 hown hK hP 0 rfl rfl 3 (by decide) lk112 (fun _ h9 => h9) rfl dX6_placeNow_9 ?_
    refine lv_iload_n hx hb dX6_placeNow_12 rfl (lv_at hl 1 rfl) ?_
    refine lv_ishr hx hb dX6_placeNow_13 ?_
    refine lv_iconst (v := (1 : Int32)) hx hb dX6_placeNow_14 (by decide) ?_
    refine lv_iand hx hb dX6_placeNow_15 ?_
    refine lv_goto (tgt := 25) hx hb dX6_placeNow_16 (by decide) ?_
    cases zend h
    exact hq hP hD hS dX6_placeNow_25
set_option maxHeartbeats 4000000 in
set_option maxRecDepth 100000 in
theorem c_X6_place (l : Launch) (D : va_G) (cI cB cO : ClassId) (Mo : Nat) (Mp : Nat → Nat) (Ms : Nat → Int32) (Mj : Nat → Int64) (Ma : Nat → Nat → Int32) (a0 : Int32) (a1 : Int32) (rv : Int32) (Ma' : Nat → Nat → Int32) (sz : Nat) (h : fX6_place Ms Ma a0 a1 = some (rv, Ma')) : Met l yX6_place wsX6_place ({ frames := 2, cells := 0, slots := 0, locals := 46 } : Room) (va_Pc [.ref Mo, .int a0, .int a1] (zPre D (zTY cI cB cO) (zwM cI cB Mo Mp Ms Mj Ma) sz)) (va_Qi (fun r (_ : Unit) => r = rv) (fun _ => zPost D (zTY cI cB cO) (zwM cI cB Mo Mp Ms Mj Ma') (va_A (zwM cI cB Mo Mp Ms Mj Ma) sz)) (va_A (zwM cI cB Mo Mp Ms Mj Ma) sz)) 0 0 (va_A (zwM cI cB Mo Mp Ms Mj Ma) sz) := by
  unfold fX6_place at h
  refine zmet_i (cc := cX6_place) (maxL := 3) (by decide) rfl (Nat.le_of_ble_eq_true rfl) rfl rfl ?_
  intro p e s m args below meth c R Q A ls hx hb hts hown hml hK hP hD hE hA hS hRf hRl hl hq
  have hown : s.vm.findClass RX6 = some m.cls := hown
  have hl : lv_has ls 3 [(0, .ref Mo), (1, .int a0), (2, .int a1)] := hl
  refine lv_aload_n hx hb dX6_place_0 rfl (lv_at hl 0 rfl) ?_
  refine lv_iload_n hx hb dX6_place_1 rfl (lv_at hl 1 rfl) ?_
  obtain ⟨r1, g2, h⟩ := zb1_s h
  have hFc := va_free (wc := (zwM cI cB Mo Mp Ms Mj Ma)) hD hS hA [0, 1, 2, 3, 4, 5, 6, 7, 8, 9, 10, 11, 12, 13, 14, 15, 16, 17, 18, 19, 20, 21, 22] (zC_53 (cI := cI) (cB := cB) (cO := cO))
  refine zcp_i (va_runV (As := [.int a0]) (rest := []) ⟨hx, hb, hml, hown, hts⟩ (c_X6_isPlace l D cI cB cO Mo Mp Ms Mj Ma a0 _ _ g2) (cwV 1 hts gX6_place_X6_isPlace rfl rfl rfl kV_X6_isPlace ⟨Nat.le_trans (Nat.le_of_ble_eq_true rfl) hRf, Nat.le_trans (Nat.le_of_ble_eq_true rfl) hRl⟩) (zpreV hK hP hD hS hE hFc [0, 1, 2, 3, 4, 5, 6, 7, 8, 9, 10, 11, 12, 13, 14, 15, 16, 17, 18, 19, 20, 21, 22] (zC_53 (cI := cI) (cB := cB) (cO := cO)) rfl 0 (ci := 6) rfl rfl [.int a0]) rfl rfl hl.1 rfl (lv_room (Nat.le_of_ble_eq_true rfl)) dX6_place_2 ⟨Nat.zero_le _, Nat.zero_le _⟩) hP hD hS hFc [0, 1, 2, 3, 4, 5, 6, 7, 8, 9, 10, 11, 12, 13, 14, 15, 16, 17, 18, 19, 20, 21, 22] (zC_53 (cI := cI) (cB := cB) (cO := cO)) (fun H locs hP hS => ?_)
  clear hFc
  refine lv_if_ne (tgt := 13) hx hb dX6_place_5 (by decide) (fun c3 => ?_) (fun c3 => ?_)
  · have h := zif_f c3 h
    refine lv_iload_n hx hb dX6_place_13 rfl (lv_at hl 2 rfl) ?_
    refine lv_iconst (v := (0 : Int32)) hx hb dX6_place_14 (by decide) ?_
    refine lv_iconst (v := (1 : Int32)) hx hb dX6_place_15 (by decide) ?_
    obtain ⟨r4, g5, h⟩ := zb1_s h
    have hFc := va_free (wc := ([] : va_W)) hD hS hA [] rfl
    refine zcp_i (va_runS (As := [.int a1, .int (0 : Int32), .int (1 : Int32)]) (rest := []) ⟨hx, hb, hml, hown, hts⟩ (c_X6_within l D cI cB cO a1 (0 : Int32) (1 : Int32) _ _ g5) (va_cwS 3 hts gX6_place_X6_within rfl rfl rfl kS_X6_within ⟨Nat.le_trans (Nat.le_of_ble_eq_true rfl) hRf, Nat.le_trans (Nat.le_of_ble_eq_true rfl) hRl⟩) (zpreS hK hP hD hS hE hFc [] (rfl) rfl [.int a1, .int (0 : Int32), .int (1 : Int32)]) rfl rfl hl.1 rfl (lv_room (Nat.le_of_ble_eq_true rfl)) dX6_place_16 ⟨Nat.zero_le _, Nat.zero_le _⟩) hP hD hS hFc [] (rfl) (fun H locs hP hS => ?_)
    clear hFc
    refine lv_if_eq (tgt := 31) hx hb dX6_place_19 (by decide) (fun c6 => ?_) (fun c6 => ?_)
    · have h := zif_t c6 h
      refine lv_bipush (v := (-102 : Int32)) hx hb dX6_place_31 (by decide) ?_
      cases zend h
      exact hq hP hD hS dX6_place_33
    · have h := zif_f c6 h
      refine lv_aload_n hx hb dX6_place_22 rfl (lv_at hl 0 rfl) ?_
      refine lv_iload_n hx hb dX6_place_23 rfl (lv_at hl 1 rfl) ?_
      refine lv_iload_n hx hb dX6_place_24 rfl (lv_at hl 2 rfl) ?_
      obtain ⟨r7, Ma_8, g9, h⟩ := zb2_s h
      have hFc := va_free (wc := (zwM cI cB Mo Mp Ms Mj Ma)) hD hS hA [0, 1, 2, 3, 4, 5, 6, 7, 8, 9, 10, 11, 12, 13, 14, 15, 16, 17, 18, 19, 20, 21, 22] (zC_55 (cI := cI) (cB := cB) (cO := cO))
      refine zcm_i (w2 := (zwM cI cB Mo Mp Ms Mj Ma_8)) (va_runV (As := [.int a0, .int a1]) (rest := []) ⟨hx, hb, hml, hown, hts⟩ (c_X6_placeNow l D cI cB cO Mo Mp Ms Mj Ma a0 a1 _ _ _ g9) (cwV 2 hts gX6_place_X6_placeNow rfl rfl rfl kV_X6_placeNow ⟨Nat.le_trans (Nat.le_of_ble_eq_true rfl) hRf, Nat.le_trans (Nat.le_of_ble_eq_true rfl) hRl⟩) (zpreV hK hP hD hS hE hFc [0, 1, 2, 3, 4, 5, 6, 7, 8, 9, 10, 11, 12, 13, 14, 15, 16, 17, 18, 19, 20, 21, 22] (zC_55 (cI := cI) (cB := cB) (cO := cO)) rfl 0 (ci := 6) rfl rfl [.int a0, .int a1]) rfl rfl hl.1 rfl (lv_room (Nat.le_of_ble_eq_true rfl)) dX6_place_25 ⟨Nat.zero_le _, Nat.zero_le _⟩) hS hFc (fun H1 t h1 h2 h3 => zM_55 (cI := cI) (cB := cB) (cO := cO) hP hD h1 h2 h3) (fun H locs hP hD hS => ?_)
      clear hFc
      refine lv_goto (tgt := 33) hx hb dX6_place_28 (by decide) ?_
      cases zend h
      exact hq hP hD hS dX6_place_33
  · have h := zif_t c3 h
    refine lv_bipush (v := (-101 : Int32)) hx hb dX6_place_8 (by decide) ?_
    refine lv_goto (tgt := 33) hx hb dX6_place_10 (by decide) ?_
    cases zend h
    exact hq hP hD hS dX6_place_33
set_option maxHeartbeats 4000000 in
set_option maxRecDepth 100000 in
theorem c_X6_jump (l : Launch) (D : va_G) (cI cB cO : ClassId) (Mo : Nat) (Mp : Nat → Nat) (Ms : Nat → Int32) (Mj : Nat → Int64) (Ma : Nat → Nat → Int32) (a0 : Int32) (a1 : Int32) (rv : Int32) (Ms' : Nat → Int32) (Ma' : Nat → Nat → Int32) (sz : Nat) (h : fX6_jump Ms Ma a0 a1 = some (rv, Ms', Ma')) : Met l yX6_jump wsX6_jump ({ frames := 3, cells := 0, slots := 0, locals := 75 } : Room) (va_Pc [.ref Mo, .int a0, .int a1] (zPre D (zTY cI cB cO) (zwM cI cB Mo Mp Ms Mj Ma) sz)) (va_Qi (fun r (_ : Unit) => r = rv) (fun _ => zPost D (zTY cI cB cO) (zwM cI cB Mo Mp Ms' Mj Ma') (va_A (zwM cI cB Mo Mp Ms Mj Ma) sz)) (va_A (zwM cI cB Mo Mp Ms Mj Ma) sz)) 0 0 (va_A (zwM cI cB Mo Mp Ms Mj Ma) sz) := by
  unfold fX6_jump at h
  refine zmet_i (cc := cX6_jump) (maxL := 4) (by decide) rfl (Nat.le_of_ble_eq_true rfl) rfl rfl ?_
  intro p e s m args below meth c R Q A ls hx hb hts hown hml hK hP hD hE hA hS hRf hRl hl hq
  have hown : s.vm.findClass RX6 = some m.cls := hown
  have hl : lv_has ls 4 [(0, .ref Mo), (1, .int a0), (2, .int a1)] := hl
  have inX6 : ∀ w ∈ u_ws RX6 TX6 40, w ∈ wsX6_jump := by decide +kernel
  have lk121 : (Cond.fieldLink RX6 121 "PegFieldModel" "jumps" "I").before args s = true := hts _ (by decide +kernel)
  have lk115 : (Cond.fieldLink RX6 115 "PegFieldModel" "pegs" "I").before args s = true := hts _ (by decide +kernel)
  have lk13 : (Cond.fieldLink RX6 13 "PegFieldModel" "placeOf" "[I").before args s = true := hts _ (by decide +kernel)
  have lk29 : (Cond.fieldLink RX6 29 "PegFieldModel" "deepPlace" "[I").before args s = true := hts _ (by decide +kernel)
  refine lv_aload_n hx hb dX6_jump_0 rfl (lv_at hl 0 rfl) ?_
  refine lv_iload_n hx hb dX6_jump_1 rfl (lv_at hl 1 rfl) ?_
  obtain ⟨r1, g2, h⟩ := zb1_s h
  have hFc := va_free (wc := (zwM cI cB Mo Mp Ms Mj Ma)) hD hS hA [0, 1, 2, 3, 4, 5, 6, 7, 8, 9, 10, 11, 12, 13, 14, 15, 16, 17, 18, 19, 20, 21, 22] (zC_53 (cI := cI) (cB := cB) (cO := cO))
  refine zcp_i (va_runV (As := [.int a0]) (rest := []) ⟨hx, hb, hml, hown, hts⟩ (c_X6_isPeg l D cI cB cO Mo Mp Ms Mj Ma a0 _ _ g2) (cwV 1 hts gX6_jump_X6_isPeg rfl rfl rfl kV_X6_isPeg ⟨Nat.le_trans (Nat.le_of_ble_eq_true rfl) hRf, Nat.le_trans (Nat.le_of_ble_eq_true rfl) hRl⟩) (zpreV hK hP hD hS hE hFc [0, 1, 2, 3, 4, 5, 6, 7, 8, 9, 10, 11, 12, 13, 14, 15, 16, 17, 18, 19, 20, 21, 22] (zC_53 (cI := cI) (cB := cB) (cO := cO)) rfl 0 (ci := 6) rfl rfl [.int a0]) rfl rfl hl.1 rfl (lv_room (Nat.le_of_ble_eq_true rfl)) dX6_jump_2 ⟨Nat.zero_le _, Nat.zero_le _⟩) hP hD hS hFc [0, 1, 2, 3, 4, 5, 6, 7, 8, 9, 10, 11, 12, 13, 14, 15, 16, 17, 18, 19, 20, 21, 22] (zC_53 (cI := cI) (cB := cB) (cO := cO)) (fun H locs hP hS => ?_)
  clear hFc
  refine lv_if_eq (tgt := 16) hx hb dX6_jump_5 (by decide) (fun c3 => ?_) (fun c3 => ?_)
  · have h := zif_t c3 h
    refine lv_bipush (v := (-101 : Int32)) hx hb dX6_jump_16 (by decide) ?_
    cases zend h
    exact hq hP hD hS dX6_jump_18
  · have h := zif_f c3 h
    refine lv_aload_n hx hb dX6_jump_8 rfl (lv_at hl 0 rfl) ?_
    refine lv_iload_n hx hb dX6_jump_9 rfl (lv_at hl 2 rfl) ?_
    obtain ⟨r4, g5, h⟩ := zb1_s h
    have hFc := va_free (wc := (zwM cI cB Mo Mp Ms Mj Ma)) hD hS hA [0, 1, 2, 3, 4, 5, 6, 7, 8, 9, 10, 11, 12, 13, 14, 15, 16, 17, 18, 19, 20, 21, 22] (zC_53 (cI := cI) (cB := cB) (cO := cO))
    refine zcp_i (va_runV (As := [.int a1]) (rest := []) ⟨hx, hb, hml, hown, hts⟩ (c_X6_isPlace l D cI cB cO Mo Mp Ms Mj Ma a1 _ _ g5) (cwV 1 hts gX6_jump_X6_isPlace rfl rfl rfl kV_X6_isPlace ⟨Nat.le_trans (Nat.le_of_ble_eq_true rfl) hRf, Nat.le_trans (Nat.le_of_ble_eq_true rfl) hRl⟩) (zpreV hK hP hD hS hE hFc [0, 1, 2, 3, 4, 5, 6, 7, 8, 9, 10, 11, 12, 13, 14, 15, 16, 17, 18, 19, 20, 21, 22] (zC_53 (cI := cI) (cB := cB) (cO := cO)) rfl 0 (ci := 6) rfl rfl [.int a1]) rfl rfl hl.1 rfl (lv_room (Nat.le_of_ble_eq_true rfl)) dX6_jump_10 ⟨Nat.zero_le _, Nat.zero_le _⟩) hP hD hS hFc [0, 1, 2, 3, 4, 5, 6, 7, 8, 9, 10, 11, 12, 13, 14, 15, 16, 17, 18, 19, 20, 21, 22] (zC_53 (cI := cI) (cB := cB) (cO := cO)) (fun H locs hP hS => ?_)
    clear hFc
    refine lv_if_ne (tgt := 19) hx hb dX6_jump_13 (by decide) (fun c6 => ?_) (fun c6 => ?_)
    · have h := zif_f c6 h
      refine lv_aload_n hx hb dX6_jump_19 rfl (lv_at hl 0 rfl) ?_
      obtain ⟨Ma_7, g8, h⟩ := zb1_s h
      have hFc := va_free (wc := (zwM cI cB Mo Mp Ms Mj Ma)) hD hS hA [0, 1, 2, 3, 4, 5, 6, 7, 8, 9, 10, 11, 12, 13, 14, 15, 16, 17, 18, 19, 20, 21, 22] (zC_55 (cI := cI) (cB := cB) (cO := cO))
      refine zcm_v (w2 := (zwM cI cB Mo Mp Ms Mj Ma_7)) (va_runV (As := []) (rest := []) ⟨hx, hb, hml, hown, hts⟩ (c_X6_putDeep l D cI cB cO Mo Mp Ms Mj Ma _ _ g8) (cwV 0 hts gX6_jump_X6_putDeep rfl rfl rfl kV_X6_putDeep ⟨Nat.le_trans (Nat.le_of_ble_eq_true rfl) hRf, Nat.le_trans (Nat.le_of_ble_eq_true rfl) hRl⟩) (zpreV hK hP hD hS hE hFc [0, 1, 2, 3, 4, 5, 6, 7, 8, 9, 10, 11, 12, 13, 14, 15, 16, 17, 18, 19, 20, 21, 22] (zC_55 (cI := cI) (cB := cB) (cO := cO)) rfl 0 (ci := 6) rfl rfl []) rfl rfl hl.1 rfl (lv_room (Nat.le_of_ble_eq_true rfl)) dX6_jump_20 ⟨Nat.zero_le _, Nat.zero_le _⟩) hS hFc (fun H1 t h1 h2 h3 => zM_55 (cI := cI) (cB := cB) (cO := cO) hP hD h1 h2 h3) (fun H locs hP hD hS => ?_)
      clear hFc
      refine lv_aload_n hx hb dX6_jump_23 rfl (lv_at hl 0 rfl) ?_
      refine lv_iconst (v := (0 : Int32)) hx hb dX6_jump_24 (by decide) ?_
      refine lv_iload_n hx hb dX6_jump_25 rfl (lv_at hl 1 rfl) ?_
      refine lv_iload_n hx hb dX6_jump_26 rfl (lv_at hl 2 rfl) ?_
      obtain ⟨r9, g10, h⟩ := zb1_s h
      have hFc := va_free (wc := (zwM cI cB Mo Mp Ms Mj Ma_7)) hD hS hA [0, 1, 2, 3, 4, 5, 6, 7, 8, 9, 10, 11, 12, 13, 14, 15, 16, 17, 18, 19, 20, 21, 22] (zC_53 (cI := cI) (cB := cB) (cO := cO))
      refine zcp_i (va_runV (As := [.int (0 : Int32), .int a0, .int a1]) (rest := []) ⟨hx, hb, hml, hown, hts⟩ (c_X6_isJump l D cI cB cO Mo Mp Ms Mj Ma_7 (0 : Int32) a0 a1 _ _ g10) (cwV 3 hts gX6_jump_X6_isJump rfl rfl rfl kV_X6_isJump ⟨Nat.le_trans (Nat.le_of_ble_eq_true rfl) hRf, Nat.le_trans (Nat.le_of_ble_eq_true rfl) hRl⟩) (zpreV hK hP hD hS hE hFc [0, 1, 2, 3, 4, 5, 6, 7, 8, 9, 10, 11, 12, 13, 14, 15, 16, 17, 18, 19, 20, 21, 22] (zC_53 (cI := cI) (cB := cB) (cO := cO)) rfl 0 (ci := 6) rfl rfl [.int (0 : Int32), .int a0, .int a1]) rfl rfl hl.1 rfl (lv_room (Nat.le_of_ble_eq_true rfl)) dX6_jump_27 ⟨Nat.zero_le _, Nat.zero_le _⟩) hP hD hS hFc [0, 1, 2, 3, 4, 5, 6, 7, 8, 9, 10, 11, 12, 13, 14, 15, 16, 17, 18, 19, 20, 21, 22] (zC_53 (cI := cI) (cB := cB) (cO := cO)) (fun H locs hP hS => ?_)
      clear hFc
      refine lv_if_ne (tgt := 36) hx hb dX6_jump_30 (by decide) (fun c11 => ?_) (fun c11 => ?_)
      · have h := zif_f c11 h
        refine lv_aload_n hx hb dX6_jump_36 rfl (lv_at hl 0 rfl) ?_
        refine va_get (D := D) (ci := 6) (v := .int (Ms 7)) (C := RX6) (T := TX6) (N := 40) hx hb hts inX6 hown hK hP 0 rfl rfl 7 (by decide) lk121 (fun _ h9 => h9) rfl dX6_jump_37 ?_
        refine lv_sipush (v := (999 : Int32)) hx hb dX6_jump_40 (by decide) ?_
        refine lv_icmp_ne (tgt := 49) hx hb dX6_jump_43 (by decide) (fun c12 => ?_) (fun c12 => ?_)
        · have h := zif_f c12 h
          refine lv_aload_n hx hb dX6_jump_49 rfl (lv_at hl 0 rfl) ?_
          refine lv_iconst (v := (0 : Int32)) hx hb dX6_jump_50 (by decide) ?_
          refine lv_iload_n hx hb dX6_jump_51 rfl (lv_at hl 1 rfl) ?_
          refine lv_iload_n hx hb dX6_jump_52 rfl (lv_at hl 2 rfl) ?_
          obtain ⟨Ma_13, g14, h⟩ := zb1_s h
          have hFc := va_free (wc := (zwM cI cB Mo Mp Ms Mj Ma_7)) hD hS hA [0, 1, 2, 3, 4, 5, 6, 7, 8, 9, 10, 11, 12, 13, 14, 15, 16, 17, 18, 19, 20, 21, 22] (zC_55 (cI := cI) (cB := cB) (cO := cO))
          refine zcm_v (w2 := (zwM cI cB Mo Mp Ms Mj Ma_13)) (va_runV (As := [.int (0 : Int32), .int a0, .int a1]) (rest := []) ⟨hx, hb, hml, hown, hts⟩ (c_X6_goDeep l D cI cB cO Mo Mp Ms Mj Ma_7 (0 : Int32) a0 a1 _ _ g14) (cwV 3 hts gX6_jump_X6_goDeep rfl rfl rfl kV_X6_goDeep ⟨Nat.le_trans (Nat.le_of_ble_eq_true rfl) hRf, Nat.le_trans (Nat.le_of_ble_eq_true rfl) hRl⟩) (zpreV hK hP hD hS hE hFc [0, 1, 2, 3, 4, 5, 6, 7, 8, 9, 10, 11, 12, 13, 14, 15, 16, 17, 18, 19, 20, 21, 22] (zC_55 (cI := cI) (cB := cB) (cO := cO)) rfl 0 (ci := 6) rfl rfl [.int (0 : Int32), .int a0, .int a1]) rfl rfl hl.1 rfl (lv_room (Nat.le_of_ble_eq_true rfl)) dX6_jump_53 ⟨Nat.zero_le _, Nat.zero_le _⟩) hS hFc (fun H1 t h1 h2 h3 => zM_55 (cI := cI) (cB := cB) (cO := cO) hP hD h1 h2 h3) (fun H locs hP hD hS => ?_)
          clear hFc
          refine lv_iconst (v := (0 : Int32)) hx hb dX6_jump_56 (by decide) ?_
          refine lv_istore_n (lv' := [(3, .int (0 : Int32)), (0, .ref Mo), (1, .int a0), (2, .int a1)]) hx hb dX6_jump_57 rfl hl (by decide) rfl (fun ls hl => ?_)
          obtain ⟨Ma_87x58, i23, h⟩ := zb1_s h
          have KX87 : ∀ (H : Heap) (locs : List Loc) (ls : Array Slot), va_P D vwCl (zwM cI cB Mo Mp Ms Mj Ma_87x58) H → va_D A (zwM cI cB Mo Mp Ms Mj Ma_87x58) → va_S A s.heap H locs → lv_has ls 4 [(0, .ref Mo)] → W p l e R s m args below meth c H locs 0 0 Q (F0 m 87 ls []) := by
            intro H locs ls hP hD hS hl
            refine lv_aload_n hx hb dX6_jump_87 rfl (lv_at hl 0 rfl) ?_
            refine lv_dup hx hb dX6_jump_88 rfl ?_
            refine va_get (D := D) (ci := 6) (v := .int (Ms 7)) (C := RX6) (T := TX6) (N := 40) hx hb hts inX6 hown hK hP 0 rfl rfl 7 (by decide) lk121 (fun _ h9 => h9) rfl dX6_jump_89 ?_
            refine lv_iconst (v := (1 : Int32)) hx hb dX6_jump_92 (by decide) ?_
            refine lv_iadd hx hb dX6_jump_93 ?_
            refine va_put (D := D) (ci := 6) (v := .int ((Ms 7) + (1 : Int32))) (ty := .int) (C := RX6) (T := TX6) (N := 40) hx hb hts inX6 tyX6 tyX6_ok nmX6 hown hK hP hD hS 0 rfl rfl 7 (by decide) lk121 (fun _ h9 => h9) rfl (by decide +kernel) rfl rfl (Nat.le_of_ble_eq_true rfl) dX6_jump_94 (fun H locs hP hD hS => ?_)
            have hset : ∀ v9 : Int32, (zwM cI cB Mo Mp Ms Mj Ma_87x58).set 0 (Mo, .inr (6, ([.int (Ms 0), .int (Ms 1), .int (Ms 2), .int (Ms 3), .int (Ms 4), .ref (Mp 5), .ref (Mp 6), .int (Ms 7), .int (Ms 8), .int (Ms 9), .ref (Mp 10), .ref (Mp 11), .ref (Mp 12), .int (Ms 13), .ref (Mp 14), .int (Ms 15), .int (Ms 16), .ref (Mp 17), .ref (Mp 18), .ref (Mp 19), .ref (Mp 20), .ref (Mp 21), .ref (Mp 22), .ref (Mp 23), .ref (Mp 24), .ref (Mp 25), .ref (Mp 26), .ref (Mp 27), .long (Mj 28), .int (Ms 29), .int (Ms 30), .int (Ms 31), .int (Ms 32), .int (Ms 33), .ref (Mp 34), .ref (Mp 35), .ref (Mp 36), .ref (Mp 37), .ref (Mp 38), .long (Mj 39)] : List Value).set 7 (.int v9))) = (zwM cI cB Mo Mp (upd Ms 7 v9) Mj Ma_87x58) := fun _ => rfl
            obtain ⟨Ms_20, eMs_20, hP, hD⟩ : ∃ y9, y9 = (upd Ms 7 ((Ms 7) + (1 : Int32))) ∧ va_P D vwCl (zwM cI cB Mo Mp y9 Mj Ma_87x58) H ∧ va_D A (zwM cI cB Mo Mp y9 Mj Ma_87x58) := ⟨_, rfl, zsetP (hset _) hP, zsetD (hset _) hD⟩
            have h := zlt_s h eMs_20
            clear hset
            refine lv_aload_n hx hb dX6_jump_97 rfl (lv_at hl 0 rfl) ?_
            refine lv_iconst (v := (1 : Int32)) hx hb dX6_jump_98 (by decide) ?_
            obtain ⟨r21, g22, h⟩ := zb1_s h
            have hFc := va_free (wc := (zwM cI cB Mo Mp Ms_20 Mj Ma_87x58)) hD hS hA [0, 1, 2, 3, 4, 5, 6, 7, 8, 9, 10, 11, 12, 13, 14, 15, 16, 17, 18, 19, 20, 21, 22] (zC_53 (cI := cI) (cB := cB) (cO := cO))
            refine zcp_i (va_runV (As := [.int (1 : Int32)]) (rest := []) ⟨hx, hb, hml, hown, hts⟩ (c_X6_onBoard l D cI cB cO Mo Mp Ms_20 Mj Ma_87x58 (1 : Int32) _ _ g22) (cwV 1 hts gX6_jump_X6_onBoard rfl rfl rfl kV_X6_onBoard ⟨Nat.le_trans (Nat.le_of_ble_eq_true rfl) hRf, Nat.le_trans (Nat.le_of_ble_eq_true rfl) hRl⟩) (zpreV hK hP hD hS hE hFc [0, 1, 2, 3, 4, 5, 6, 7, 8, 9, 10, 11, 12, 13, 14, 15, 16, 17, 18, 19, 20, 21, 22] (zC_53 (cI := cI) (cB := cB) (cO := cO)) rfl 0 (ci := 6) rfl rfl [.int (1 : Int32)]) rfl rfl hl.1 rfl (lv_room (Nat.le_of_ble_eq_true rfl)) dX6_jump_99 ⟨Nat.zero_le _, Nat.zero_le _⟩) hP hD hS hFc [0, 1, 2, 3, 4, 5, 6, 7, 8, 9, 10, 11, 12, 13, 14, 15, 16, 17, 18, 19, 20, 21, 22] (zC_53 (cI := cI) (cB := cB) (cO := cO)) (fun H locs hP hS => ?_)
            clear hFc
            cases zend h
            exact hq hP hD hS dX6_jump_102
          clear h
          refine zi2_ind (P := (fun (x3_58h : Int32) (Ma_58h : Nat → Nat → Int32) => ∀ (H : Heap) (locs : List Loc) (ls : Array Slot), va_P D vwCl (zwM cI cB Mo Mp Ms Mj Ma_58h) H → va_D A (zwM cI cB Mo Mp Ms Mj Ma_58h) → va_S A s.heap H locs → lv_has ls 4 [(0, .ref Mo), (3, .int x3_58h)] → W p l e R s m args below meth c H locs 0 0 Q (F0 m 58 ls []))) ?_ i23 _ _ _ hP hD hS (lv_sub hl [1, 0] rfl)
          clear i23 hP hD hS hl
          intro x3_58h Ma_58h z58 h zl58 zr58 H locs ls hP hD hS hl
          refine lv_iload_n hx hb dX6_jump_58 rfl (lv_at hl 1 rfl) ?_
          refine lv_aload_n hx hb dX6_jump_59 rfl (lv_at hl 0 rfl) ?_
          refine va_get (D := D) (ci := 6) (v := .int (Ms 4)) (C := RX6) (T := TX6) (N := 40) hx hb hts inX6 hown hK hP 0 rfl rfl 4 (by decide) lk115 (fun _ h9 => h9) rfl dX6_jump_60 ?_
          refine lv_icmp_ge (tgt := 87) hx hb dX6_jump_63 (by decide) (fun c16 => ?_) (fun c16 => ?_)
          · have h := zif_t c16 h
            cases zr58 _ (zend h).symm
            exact KX87 _ _ _ hP hD hS (lv_sub hl [0] rfl)
          · have h := zif_f c16 h
            refine lv_aload_n hx hb dX6_jump_66 rfl (lv_at hl 0 rfl) ?_
            refine va_get (D := D) (ci := 6) (v := .ref (Mp 6)) (C := RX6) (T := TX6) (N := 40) hx hb hts inX6 hown hK hP 0 rfl rfl 6 (by decide) lk13 (fun _ h9 => h9) rfl dX6_jump_67 ?_
            refine lv_iload_n hx hb dX6_jump_70 rfl (lv_at hl 1 rfl) ?_
            refine lv_aload_n hx hb dX6_jump_71 rfl (lv_at hl 0 rfl) ?_
            refine va_get (D := D) (ci := 6) (v := .ref (Mp 17)) (C := RX6) (T := TX6) (N := 40) hx hb hts inX6 hown hK hP 0 rfl rfl 17 (by decide) lk29 (fun _ h9 => h9) rfl dX6_jump_72 ?_
            refine lv_bipush (v := (8 : Int32)) hx hb dX6_jump_75 (by decide) ?_
            refine lv_iload_n hx hb dX6_jump_77 rfl (lv_at hl 1 rfl) ?_
            refine lv_iadd hx hb dX6_jump_78 ?_
            obtain ⟨z17, h⟩ := zck_s h
            refine va_iald hx hb hK hP 7 0 rfl rfl (zin_s z17) dX6_jump_79 ?_
            obtain ⟨z18, h⟩ := zck_s h
            refine va_iast hx hb hK hP hD hS 2 0 rfl rfl (zin_s z18) dX6_jump_80 (fun H locs hP hD hS => ?_)
            have hset : ∀ v9 : Nat → Int32, (zwM cI cB Mo Mp Ms Mj Ma_58h).set 2 ((Mp 6), .inl (cI, 8, .inl v9)) = (zwM cI cB Mo Mp Ms Mj (va_up Ma_58h 6 v9)) := fun _ => rfl
            obtain ⟨Ma_19, eMa_19, hP, hD⟩ : ∃ y9, y9 = (va_up Ma_58h 6 (upd (Ma_58h 6) (x3_58h).toNatClampNeg ((Ma_58h 17) (((8 : Int32) + x3_58h)).toNatClampNeg))) ∧ va_P D vwCl (zwM cI cB Mo Mp Ms Mj y9) H ∧ va_D A (zwM cI cB Mo Mp Ms Mj y9) := ⟨_, rfl, zsetP (hset _) hP, zsetD (hset _) hD⟩
            have h := zlt_s h eMa_19
            clear hset
            refine lv_iinc (v := (x3_58h + (1 : Int32))) (lv' := [(3, .int (x3_58h + (1 : Int32))), (0, .ref Mo)]) hx hb dX6_jump_81 hl (k := 1) rfl rfl (by decide) rfl (fun ls hl => ?_)
            refine lv_goto (tgt := 58) hx hb dX6_jump_84 (by decide) ?_
            exact zl58 _ _ (zend h).symm _ _ _ hP hD hS (lv_sub hl [1, 0] rfl)
        · have h := zif_t c12 h
          refine lv_bipush (v := (-104 : Int32)) hx hb dX6_jump_46 (by decide) ?_
          cases zend h
          exact hq hP hD hS dX6_jump_48
      · have h := zif_t c11 h
        refine lv_bipush (v := (-103 : Int32)) hx hb dX6_jump_33 (by decide) ?_
        cases zend h
        exact hq hP hD hS dX6_jump_35
    · have h := zif_t c6 h
      refine lv_bipush (v := (-101 : Int32)) hx hb dX6_jump_16 (by decide) ?_
      cases zend h
      exact hq hP hD hS dX6_jump_18
set_option maxHeartbeats 4000000 in
set_option maxRecDepth 100000 in
theorem c_X6_isEmpty (l : Launch) (D : va_G) (cI cB cO : ClassId) (Mo : Nat) (Mp : Nat → Nat) (Ms : Nat → Int32) (Mj : Nat → Int64) (Ma : Nat → Nat → Int32) (a0 : Int32) (rv : Int32) (Ma' : Nat → Nat → Int32) (sz : Nat) (h : fX6_isEmpty Ms Ma a0 = some (rv, Ma')) : Met l yX6_isEmpty wsX6_isEmpty ({ frames := 1, cells := 0, slots := 0, locals := 24 } : Room) (va_Pc [.ref Mo, .int a0] (zPre D (zTY cI cB cO) (zwM cI cB Mo Mp Ms Mj Ma) sz)) (va_Qi (fun r (_ : Unit) => r = rv) (fun _ => zPost D (zTY cI cB cO) (zwM cI cB Mo Mp Ms Mj Ma') (va_A (zwM cI cB Mo Mp Ms Mj Ma) sz)) (va_A (zwM cI cB Mo Mp Ms Mj Ma) sz)) 0 0 (va_A (zwM cI cB Mo Mp Ms Mj Ma) sz) := by
  unfold fX6_isEmpty at h
  refine zmet_z (cc := cX6_isEmpty) (maxL := 2) (by decide) rfl (Nat.le_of_ble_eq_true rfl) rfl rfl ?_
  intro p e s m args below meth c R Q A ls hx hb hts hown hml hK hP hD hE hA hS hRf hRl hl hq
  have hown : s.vm.findClass RX6 = some m.cls := hown
  have hl : lv_has ls 2 [(0, .ref Mo), (1, .int a0)] := hl
  have inX6 : ∀ w ∈ u_ws RX6 TX6 40, w ∈ wsX6_isEmpty := by decide +kernel
  have lk112 : (Cond.fieldLink RX6 112 "PegFieldModel" "holes" "I").before args s = true := hts _ (by decide +kernel)
  refine lv_aload_n hx hb dX6_isEmpty_0 rfl (lv_at hl 0 rfl) ?_
  obtain ⟨Ma_1, g2, h⟩ := zb1_s h
  have hFc := va_free (wc := (zwM cI cB Mo Mp Ms Mj Ma)) hD hS hA [0, 1, 2, 3, 4, 5, 6, 7, 8, 9, 10, 11, 12, 13, 14, 15, 16, 17, 18, 19, 20, 21, 22] (zC_55 (cI := cI) (cB := cB) (cO := cO))
  refine zcm_v (w2 := (zwM cI cB Mo Mp Ms Mj Ma_1)) (va_runV (As := []) (rest := []) ⟨hx, hb, hml, hown, hts⟩ (c_X6_putDeep l D cI cB cO Mo Mp Ms Mj Ma _ _ g2) (cwV 0 hts gX6_isEmpty_X6_putDeep rfl rfl rfl kV_X6_putDeep ⟨Nat.le_trans (Nat.le_of_ble_eq_true rfl) hRf, Nat.le_trans (Nat.le_of_ble_eq_true rfl) hRl⟩) (zpreV hK hP hD hS hE hFc [0, 1, 2, 3, 4, 5, 6, 7, 8, 9, 10, 11, 12, 13, 14, 15, 16, 17, 18, 19, 20, 21, 22] (zC_55 (cI := cI) (cB := cB) (cO := cO)) rfl 0 (ci := 6) rfl rfl []) rfl rfl hl.1 rfl (lv_room (Nat.le_of_ble_eq_true rfl)) dX6_isEmpty_1 ⟨Nat.zero_le _, Nat.zero_le _⟩) hS hFc (fun H1 t h1 h2 h3 => zM_55 (cI := cI) (cB := cB) (cO := cO) hP hD h1 h2 h3) (fun H locs hP hD hS => ?_)
  clear hFc
  refine lv_aload_n hx hb dX6_isEmpty_4 rfl (lv_at hl 0 rfl) ?_
  refine va_get (D := D) (ci := 6) (v := .int (Ms 3)) (C := RX6) (T := TX6) (N := 40) hx hb hts inX6 hown hK hP 0 rfl rfl 3 (by decide) lk112 (fun _ h9 => h9) rfl dX6_isEmpty_5 ?_
  refine lv_iload_n hx hb dX6_isEmpty_8 rfl (lv_at hl 1 rfl) ?_
  obtain ⟨r3, g4, h⟩ := zb1_s h
  have hFc := va_free (wc := ([] : va_W)) hD hS hA [] rfl
  refine zcp_i (va_runS (As := [.int (Ms 3), .int a0]) (rest := []) ⟨hx, hb, hml, hown, hts⟩ (c_X6_isIn l D cI cB cO (Ms 3) a0 _ _ g4) (va_cwS 2 hts gX6_isEmpty_X6_isIn rfl rfl rfl kS_X6_isIn ⟨Nat.le_trans (Nat.le_of_ble_eq_true rfl) hRf, Nat.le_trans (Nat.le_of_ble_eq_true rfl) hRl⟩) (zpreS hK hP hD hS hE hFc [] (rfl) rfl [.int (Ms 3), .int a0]) rfl rfl hl.1 rfl (lv_room (Nat.le_of_ble_eq_true rfl)) dX6_isEmpty_9 ⟨Nat.zero_le _, Nat.zero_le _⟩) hP hD hS hFc [] (rfl) (fun H locs hP hS => ?_)
  clear hFc
  refine lv_if_eq (tgt := 29) hx hb dX6_isEmpty_12 (by decide) (fun c5 => ?_) (fun c5 => ?_)
  · have h := zif_t c5 h
    refine lv_iconst (v := (0 : Int32)) hx hb dX6_isEmpty_29 (by decide) ?_
    cases zend h
    exact hq hP hD hS (by decide) dX6_isEmpty_30
  · have h := zif_f c5 h
    refine lv_aload_n hx hb dX6_isEmpty_15 rfl (lv_at hl 0 rfl) ?_
    refine lv_iconst (v := (0 : Int32)) hx hb dX6_isEmpty_16 (by decide) ?_
    refine lv_iload_n hx hb dX6_isEmpty_17 rfl (lv_at hl 1 rfl) ?_
    obtain ⟨r6, g7, h⟩ := zb1_s h
    have hFc := va_free (wc := (zwM cI cB Mo Mp Ms Mj Ma_1)) hD hS hA [0, 1, 2, 3, 4, 5, 6, 7, 8, 9, 10, 11, 12, 13, 14, 15, 16, 17, 18, 19, 20, 21, 22] (zC_53 (cI := cI) (cB := cB) (cO := cO))
    refine zcp_i (va_runV (As := [.int (0 : Int32), .int a0]) (rest := []) ⟨hx, hb, hml, hown, hts⟩ (c_X6_whoAt l D cI cB cO Mo Mp Ms Mj Ma_1 (0 : Int32) a0 _ _ g7) (cwV 2 hts gX6_isEmpty_X6_whoAt rfl rfl rfl kV_X6_whoAt ⟨Nat.le_trans (Nat.le_of_ble_eq_true rfl) hRf, Nat.le_trans (Nat.le_of_ble_eq_true rfl) hRl⟩) (zpreV hK hP hD hS hE hFc [0, 1, 2, 3, 4, 5, 6, 7, 8, 9, 10, 11, 12, 13, 14, 15, 16, 17, 18, 19, 20, 21, 22] (zC_53 (cI := cI) (cB := cB) (cO := cO)) rfl 0 (ci := 6) rfl rfl [.int (0 : Int32), .int a0]) rfl rfl hl.1 rfl (lv_room (Nat.le_of_ble_eq_true rfl)) dX6_isEmpty_18 ⟨Nat.zero_le _, Nat.zero_le _⟩) hP hD hS hFc [0, 1, 2, 3, 4, 5, 6, 7, 8, 9, 10, 11, 12, 13, 14, 15, 16, 17, 18, 19, 20, 21, 22] (zC_53 (cI := cI) (cB := cB) (cO := cO)) (fun H locs hP hS => ?_)
    clear hFc
    refine lv_iconst (v := (-1 : Int32)) hx hb dX6_isEmpty_21 (by decide) ?_
    refine lv_icmp_ne (tgt := 29) hx hb dX6_isEmpty_22 (by decide) (fun c8 => ?_) (fun c8 => ?_)
    · have h := zif_f c8 h
      refine lv_iconst (v := (0 : Int32)) hx hb dX6_isEmpty_29 (by decide) ?_
      cases zend h
      exact hq hP hD hS (by decide) dX6_isEmpty_30
    · have h := zif_t c8 h
      refine lv_iconst (v := (1 : Int32)) hx hb dX6_isEmpty_25 (by decide) ?_
      refine lv_goto (tgt := 30) hx hb dX6_isEmpty_26 (by decide) ?_
      cases zend h
      exact hq hP hD hS (by decide) dX6_isEmpty_30
set_option maxHeartbeats 4000000 in
set_option maxRecDepth 100000 in
theorem c_X6_put (l : Launch) (D : va_G) (cI cB cO : ClassId) (Mo : Nat) (Mp : Nat → Nat) (Ms : Nat → Int32) (Mj : Nat → Int64) (Ma : Nat → Nat → Int32) (a0 : Int32) (a1 : Int32) (rv : Int32) (Ma' : Nat → Nat → Int32) (sz : Nat) (h : fX6_put Ms Ma a0 a1 = some (rv, Ma')) : Met l yX6_put wsX6_put ({ frames := 2, cells := 0, slots := 0, locals := 45 } : Room) (va_Pc [.ref Mo, .int a0, .int a1] (zPre D (zTY cI cB cO) (zwM cI cB Mo Mp Ms Mj Ma) sz)) (va_Qi (fun r (_ : Unit) => r = rv) (fun _ => zPost D (zTY cI cB cO) (zwM cI cB Mo Mp Ms Mj Ma') (va_A (zwM cI cB Mo Mp Ms Mj Ma) sz)) (va_A (zwM cI cB Mo Mp Ms Mj Ma) sz)) 0 0 (va_A (zwM cI cB Mo Mp Ms Mj Ma) sz) := by
  unfold fX6_put at h
  refine zmet_i (cc := cX6_put) (maxL := 3) (by decide) rfl (Nat.le_of_ble_eq_true rfl) rfl rfl ?_
  intro p e s m args below meth c R Q A ls hx hb hts hown hml hK hP hD hE hA hS hRf hRl hl hq
  have hown : s.vm.findClass RX6 = some m.cls := hown
  have hl : lv_has ls 3 [(0, .ref Mo), (1, .int a0), (2, .int a1)] := hl
  have inX6 : ∀ w ∈ u_ws RX6 TX6 40, w ∈ wsX6_put := by decide +kernel
  have lk13 : (Cond.fieldLink RX6 13 "PegFieldModel" "placeOf" "[I").before args s = true := hts _ (by decide +kernel)
  refine lv_aload_n hx hb dX6_put_0 rfl (lv_at hl 0 rfl) ?_
  refine lv_iload_n hx hb dX6_put_1 rfl (lv_at hl 1 rfl) ?_
  obtain ⟨r1, g2, h⟩ := zb1_s h
  have hFc := va_free (wc := (zwM cI cB Mo Mp Ms Mj Ma)) hD hS hA [0, 1, 2, 3, 4, 5, 6, 7, 8, 9, 10, 11, 12, 13, 14, 15, 16, 17, 18, 19, 20, 21, 22] (zC_53 (cI := cI) (cB := cB) (cO := cO))
  refine zcp_i (va_runV (As := [.int a0]) (rest := []) ⟨hx, hb, hml, hown, hts⟩ (c_X6_isPeg l D cI cB cO Mo Mp Ms Mj Ma a0 _ _ g2) (cwV 1 hts gX6_put_X6_isPeg rfl rfl rfl kV_X6_isPeg ⟨Nat.le_trans (Nat.le_of_ble_eq_true rfl) hRf, Nat.le_trans (Nat.le_of_ble_eq_true rfl) hRl⟩) (zpreV hK hP hD hS hE hFc [0, 1, 2, 3, 4, 5, 6, 7, 8, 9, 10, 11, 12, 13, 14, 15, 16, 17, 18, 19, 20, 21, 22] (zC_53 (cI := cI) (cB := cB) (cO := cO)) rfl 0 (ci := 6) rfl rfl [.int a0]) rfl rfl hl.1 rfl (lv_room (Nat.le_of_ble_eq_true rfl)) dX6_put_2 ⟨Nat.zero_le _, Nat.zero_le _⟩) hP hD hS hFc [0, 1, 2, 3, 4, 5, 6, 7, 8, 9, 10, 11, 12, 13, 14, 15, 16, 17, 18, 19, 20, 21, 22] (zC_53 (cI := cI) (cB := cB) (cO := cO)) (fun H locs hP hS => ?_)
  clear hFc
  refine lv_if_eq (tgt := 16) hx hb dX6_put_5 (by decide) (fun c3 => ?_) (fun c3 => ?_)
  · have h := zif_t c3 h
    refine lv_bipush (v := (-101 : Int32)) hx hb dX6_put_16 (by decide) ?_
    cases zend h
    exact hq hP hD hS dX6_put_18
  · have h := zif_f c3 h
    refine lv_aload_n hx hb dX6_put_8 rfl (lv_at hl 0 rfl) ?_
    refine lv_iload_n hx hb dX6_put_9 rfl (lv_at hl 2 rfl) ?_
    obtain ⟨r4, g5, h⟩ := zb1_s h
    have hFc := va_free (wc := (zwM cI cB Mo Mp Ms Mj Ma)) hD hS hA [0, 1, 2, 3, 4, 5, 6, 7, 8, 9, 10, 11, 12, 13, 14, 15, 16, 17, 18, 19, 20, 21, 22] (zC_53 (cI := cI) (cB := cB) (cO := cO))
    refine zcp_i (va_runV (As := [.int a1]) (rest := []) ⟨hx, hb, hml, hown, hts⟩ (c_X6_isPlace l D cI cB cO Mo Mp Ms Mj Ma a1 _ _ g5) (cwV 1 hts gX6_put_X6_isPlace rfl rfl rfl kV_X6_isPlace ⟨Nat.le_trans (Nat.le_of_ble_eq_true rfl) hRf, Nat.le_trans (Nat.le_of_ble_eq_true rfl) hRl⟩) (zpreV hK hP hD hS hE hFc [0, 1, 2, 3, 4, 5, 6, 7, 8, 9, 10, 11, 12, 13, 14, 15, 16, 17, 18, 19, 20, 21, 22] (zC_53 (cI := cI) (cB := cB) (cO := cO)) rfl 0 (ci := 6) rfl rfl [.int a1]) rfl rfl hl.1 rfl (lv_room (Nat.le_of_ble_eq_true rfl)) dX6_put_10 ⟨Nat.zero_le _, Nat.zero_le _⟩) hP hD hS hFc [0, 1, 2, 3, 4, 5, 6, 7, 8, 9, 10, 11, 12, 13, 14, 15, 16, 17, 18, 19, 20, 21, 22] (zC_53 (cI := cI) (cB := cB) (cO := cO)) (fun H locs hP hS => ?_)
    clear hFc
    refine lv_if_ne (tgt := 19) hx hb dX6_put_13 (by decide) (fun c6 => ?_) (fun c6 => ?_)
    · have h := zif_f c6 h
      refine lv_aload_n hx hb dX6_put_19 rfl (lv_at hl 0 rfl) ?_
      refine va_get (D := D) (ci := 6) (v := .ref (Mp 6)) (C := RX6) (T := TX6) (N := 40) hx hb hts inX6 hown hK hP 0 rfl rfl 6 (by decide) lk13 (fun _ h9 => h9) rfl dX6_put_20 ?_
      refine lv_iload_n hx hb dX6_put_23 rfl (lv_at hl 1 rfl) ?_
      obtain ⟨z7, h⟩ := zck_s h
      refine va_iald hx hb hK hP 2 0 rfl rfl (zin_s z7) dX6_put_24 ?_
      refine lv_iconst (v := (-1 : Int32)) hx hb dX6_put_25 (by decide) ?_
      refine lv_icmp_ne (tgt := 37) hx hb dX6_put_26 (by decide) (fun c8 => ?_) (fun c8 => ?_)
      · have h := zif_f c8 h
        refine lv_bipush (v := (-103 : Int32)) hx hb dX6_put_37 (by decide) ?_
        cases zend h
        exact hq hP hD hS dX6_put_39
      · have h := zif_t c8 h
        refine lv_aload_n hx hb dX6_put_29 rfl (lv_at hl 0 rfl) ?_
        refine lv_iload_n hx hb dX6_put_30 rfl (lv_at hl 2 rfl) ?_
        obtain ⟨r9, Ma_10, g11, h⟩ := zb2_s h
        have hFc := va_free (wc := (zwM cI cB Mo Mp Ms Mj Ma)) hD hS hA [0, 1, 2, 3, 4, 5, 6, 7, 8, 9, 10, 11, 12, 13, 14, 15, 16, 17, 18, 19, 20, 21, 22] (zC_55 (cI := cI) (cB := cB) (cO := cO))
        refine zcm_i (w2 := (zwM cI cB Mo Mp Ms Mj Ma_10)) (va_runV (As := [.int a1]) (rest := []) ⟨hx, hb, hml, hown, hts⟩ (c_X6_isEmpty l D cI cB cO Mo Mp Ms Mj Ma a1 _ _ _ g11) (cwV 1 hts gX6_put_X6_isEmpty rfl rfl rfl kV_X6_isEmpty ⟨Nat.le_trans (Nat.le_of_ble_eq_true rfl) hRf, Nat.le_trans (Nat.le_of_ble_eq_true rfl) hRl⟩) (zpreV hK hP hD hS hE hFc [0, 1, 2, 3, 4, 5, 6, 7, 8, 9, 10, 11, 12, 13, 14, 15, 16, 17, 18, 19, 20, 21, 22] (zC_55 (cI := cI) (cB := cB) (cO := cO)) rfl 0 (ci := 6) rfl rfl [.int a1]) rfl rfl hl.1 rfl (lv_room (Nat.le_of_ble_eq_true rfl)) dX6_put_31 ⟨Nat.zero_le _, Nat.zero_le _⟩) hS hFc (fun H1 t h1 h2 h3 => zM_55 (cI := cI) (cB := cB) (cO := cO) hP hD h1 h2 h3) (fun H locs hP hD hS => ?_)
        clear hFc
        refine lv_if_ne (tgt := 40) hx hb dX6_put_34 (by decide) (fun c12 => ?_) (fun c12 => ?_)
        · have h := zif_f c12 h
          refine lv_aload_n hx hb dX6_put_40 rfl (lv_at hl 0 rfl) ?_
          refine va_get (D := D) (ci := 6) (v := .ref (Mp 6)) (C := RX6) (T := TX6) (N := 40) hx hb hts inX6 hown hK hP 0 rfl rfl 6 (by decide) lk13 (fun _ h9 => h9) rfl dX6_put_41 ?_
          refine lv_iload_n hx hb dX6_put_44 rfl (lv_at hl 1 rfl) ?_
          refine lv_iload_n hx hb dX6_put_45 rfl (lv_at hl 2 rfl) ?_
          obtain ⟨z13, h⟩ := zck_s h
          refine va_iast hx hb hK hP hD hS 2 0 rfl rfl (zin_s z13) dX6_put_46 (fun H locs hP hD hS => ?_)
          have hset : ∀ v9 : Nat → Int32, (zwM cI cB Mo Mp Ms Mj Ma_10).set 2 ((Mp 6), .inl (cI, 8, .inl v9)) = (zwM cI cB Mo Mp Ms Mj (va_up Ma_10 6 v9)) := fun _ => rfl
          obtain ⟨Ma_14, eMa_14, hP, hD⟩ : ∃ y9, y9 = (va_up Ma_10 6 (upd (Ma_10 6) (a0).toNatClampNeg a1)) ∧ va_P D vwCl (zwM cI cB Mo Mp Ms Mj y9) H ∧ va_D A (zwM cI cB Mo Mp Ms Mj y9) := ⟨_, rfl, zsetP (hset _) hP, zsetD (hset _) hD⟩
          have h := zlt_s h eMa_14
          clear hset
          refine lv_aload_n hx hb dX6_put_47 rfl (lv_at hl 0 rfl) ?_
          obtain ⟨Ma_15, g16, h⟩ := zb1_s h
          have hFc := va_free (wc := (zwM cI cB Mo Mp Ms Mj Ma_14)) hD hS hA [0, 1, 2, 3, 4, 5, 6, 7, 8, 9, 10, 11, 12, 13, 14, 15, 16, 17, 18, 19, 20, 21, 22] (zC_55 (cI := cI) (cB := cB) (cO := cO))
          refine zcm_v (w2 := (zwM cI cB Mo Mp Ms Mj Ma_15)) (va_runV (As := []) (rest := []) ⟨hx, hb, hml, hown, hts⟩ (c_X6_putDeep l D cI cB cO Mo Mp Ms Mj Ma_14 _ _ g16) (cwV 0 hts gX6_put_X6_putDeep rfl rfl rfl kV_X6_putDeep ⟨Nat.le_trans (Nat.le_of_ble_eq_true rfl) hRf, Nat.le_trans (Nat.le_of_ble_eq_true rfl) hRl⟩) (zpreV hK hP hD hS hE hFc [0, 1, 2, 3, 4, 5, 6, 7, 8, 9, 10, 11, 12, 13, 14, 15, 16, 17, 18, 19, 20, 21, 22] (zC_55 (cI := cI) (cB := cB) (cO := cO)) rfl 0 (ci := 6) rfl rfl []) rfl rfl hl.1 rfl (lv_room (Nat.le_of_ble_eq_true rfl)) dX6_put_48 ⟨Nat.zero_le _, Nat.zero_le _⟩) hS hFc (fun H1 t h1 h2 h3 => zM_55 (cI := cI) (cB := cB) (cO := cO) hP hD h1 h2 h3) (fun H locs hP hD hS => ?_)
          clear hFc
          refine lv_aload_n hx hb dX6_put_51 rfl (lv_at hl 0 rfl) ?_
          refine lv_iconst (v := (0 : Int32)) hx hb dX6_put_52 (by decide) ?_
          obtain ⟨r17, g18, h⟩ := zb1_s h
          have hFc := va_free (wc := (zwM cI cB Mo Mp Ms Mj Ma_15)) hD hS hA [0, 1, 2, 3, 4, 5, 6, 7, 8, 9, 10, 11, 12, 13, 14, 15, 16, 17, 18, 19, 20, 21, 22] (zC_53 (cI := cI) (cB := cB) (cO := cO))
          refine zcp_i (va_runV (As := [.int (0 : Int32)]) (rest := []) ⟨hx, hb, hml, hown, hts⟩ (c_X6_onBoard l D cI cB cO Mo Mp Ms Mj Ma_15 (0 : Int32) _ _ g18) (cwV 1 hts gX6_put_X6_onBoard rfl rfl rfl kV_X6_onBoard ⟨Nat.le_trans (Nat.le_of_ble_eq_true rfl) hRf, Nat.le_trans (Nat.le_of_ble_eq_true rfl) hRl⟩) (zpreV hK hP hD hS hE hFc [0, 1, 2, 3, 4, 5, 6, 7, 8, 9, 10, 11, 12, 13, 14, 15, 16, 17, 18, 19, 20, 21, 22] (zC_53 (cI := cI) (cB := cB) (cO := cO)) rfl 0 (ci := 6) rfl rfl [.int (0 : Int32)]) rfl rfl hl.1 rfl (lv_room (Nat.le_of_ble_eq_true rfl)) dX6_put_53 ⟨Nat.zero_le _, Nat.zero_le _⟩) hP hD hS hFc [0, 1, 2, 3, 4, 5, 6, 7, 8, 9, 10, 11, 12, 13, 14, 15, 16, 17, 18, 19, 20, 21, 22] (zC_53 (cI := cI) (cB := cB) (cO := cO)) (fun H locs hP hS => ?_)
          clear hFc
          cases zend h
          exact hq hP hD hS dX6_put_56
        · have h := zif_t c12 h
          refine lv_bipush (v := (-103 : Int32)) hx hb dX6_put_37 (by decide) ?_
          cases zend h
          exact hq hP hD hS dX6_put_39
    · have h := zif_t c6 h
      refine lv_bipush (v := (-101 : Int32)) hx hb dX6_put_16 (by decide) ?_
      cases zend h
      exact hq hP hD hS dX6_put_18
set_option maxHeartbeats 4000000 in
set_option maxRecDepth 100000 in
theorem c_X6_plug (l : Launch) (D : va_G) (cI cB cO : ClassId) (Mo : Nat) (Mp : Nat → Nat) (Ms : Nat → Int32) (Mj : Nat → Int64) (Ma : Nat → Nat → Int32) (a0 : Int32) (rv : Int32) (Ms' : Nat → Int32) (Ma' : Nat → Nat → Int32) (sz : Nat) (h : fX6_plug Ms Ma a0 = some (rv, Ms', Ma')) : Met l yX6_plug wsX6_plug ({ frames := 2, cells := 0, slots := 0, locals := 45 } : Room) (va_Pc [.ref Mo, .int a0] (zPre D (zTY cI cB cO) (zwM cI cB Mo Mp Ms Mj Ma) sz)) (va_Qi (fun r (_ : Unit) => r = rv) (fun _ => zPost D (zTY cI cB cO) (zwM cI cB Mo Mp Ms' Mj Ma') (va_A (zwM cI cB Mo Mp Ms Mj Ma) sz)) (va_A (zwM cI cB Mo Mp Ms Mj Ma) sz)) 0 0 (va_A (zwM cI cB Mo Mp Ms Mj Ma) sz) := by
  unfold fX6_plug at h
  refine zmet_i (cc := cX6_plug) (maxL := 2) (by decide) rfl (Nat.le_of_ble_eq_true rfl) rfl rfl ?_
  intro p e s m args below meth c R Q A ls hx hb hts hown hml hK hP hD hE hA hS hRf hRl hl hq
  have hown : s.vm.findClass RX6 = some m.cls := hown
  have hl : lv_has ls 2 [(0, .ref Mo), (1, .int a0)] := hl
  have inX6 : ∀ w ∈ u_ws RX6 TX6 40, w ∈ wsX6_plug := by decide +kernel
  have lk112 : (Cond.fieldLink RX6 112 "PegFieldModel" "holes" "I").before args s = true := hts _ (by decide +kernel)
  refine lv_aload_n hx hb dX6_plug_0 rfl (lv_at hl 0 rfl) ?_
  refine lv_iload_n hx hb dX6_plug_1 rfl (lv_at hl 1 rfl) ?_
  obtain ⟨r1, g2, h⟩ := zb1_s h
  have hFc := va_free (wc := (zwM cI cB Mo Mp Ms Mj Ma)) hD hS hA [0, 1, 2, 3, 4, 5, 6, 7, 8, 9, 10, 11, 12, 13, 14, 15, 16, 17, 18, 19, 20, 21, 22] (zC_53 (cI := cI) (cB := cB) (cO := cO))
  refine zcp_i (va_runV (As := [.int a0]) (rest := []) ⟨hx, hb, hml, hown, hts⟩ (c_X6_isPlace l D cI cB cO Mo Mp Ms Mj Ma a0 _ _ g2) (cwV 1 hts gX6_plug_X6_isPlace rfl rfl rfl kV_X6_isPlace ⟨Nat.le_trans (Nat.le_of_ble_eq_true rfl) hRf, Nat.le_trans (Nat.le_of_ble_eq_true rfl) hRl⟩) (zpreV hK hP hD hS hE hFc [0, 1, 2, 3, 4, 5, 6, 7, 8, 9, 10, 11, 12, 13, 14, 15, 16, 17, 18, 19, 20, 21, 22] (zC_53 (cI := cI) (cB := cB) (cO := cO)) rfl 0 (ci := 6) rfl rfl [.int a0]) rfl rfl hl.1 rfl (lv_room (Nat.le_of_ble_eq_true rfl)) dX6_plug_2 ⟨Nat.zero_le _, Nat.zero_le _⟩) hP hD hS hFc [0, 1, 2, 3, 4, 5, 6, 7, 8, 9, 10, 11, 12, 13, 14, 15, 16, 17, 18, 19, 20, 21, 22] (zC_53 (cI := cI) (cB := cB) (cO := cO)) (fun H locs hP hS => ?_)
  clear hFc
  refine lv_if_ne (tgt := 11) hx hb dX6_plug_5 (by decide) (fun c3 => ?_) (fun c3 => ?_)
  · have h := zif_f c3 h
    refine lv_aload_n hx hb dX6_plug_11 rfl (lv_at hl 0 rfl) ?_
    refine lv_iload_n hx hb dX6_plug_12 rfl (lv_at hl 1 rfl) ?_
    obtain ⟨r4, Ma_5, g6, h⟩ := zb2_s h
    have hFc := va_free (wc := (zwM cI cB Mo Mp Ms Mj Ma)) hD hS hA [0, 1, 2, 3, 4, 5, 6, 7, 8, 9, 10, 11, 12, 13, 14, 15, 16, 17, 18, 19, 20, 21, 22] (zC_55 (cI := cI) (cB := cB) (cO := cO))
    refine zcm_i (w2 := (zwM cI cB Mo Mp Ms Mj Ma_5)) (va_runV (As := [.int a0]) (rest := []) ⟨hx, hb, hml, hown, hts⟩ (c_X6_isEmpty l D cI cB cO Mo Mp Ms Mj Ma a0 _ _ _ g6) (cwV 1 hts gX6_plug_X6_isEmpty rfl rfl rfl kV_X6_isEmpty ⟨Nat.le_trans (Nat.le_of_ble_eq_true rfl) hRf, Nat.le_trans (Nat.le_of_ble_eq_true rfl) hRl⟩) (zpreV hK hP hD hS hE hFc [0, 1, 2, 3, 4, 5, 6, 7, 8, 9, 10, 11, 12, 13, 14, 15, 16, 17, 18, 19, 20, 21, 22] (zC_55 (cI := cI) (cB := cB) (cO := cO)) rfl 0 (ci := 6) rfl rfl [.int a0]) rfl rfl hl.1 rfl (lv_room (Nat.le_of_ble_eq_true rfl)) dX6_plug_13 ⟨Nat.zero_le _, Nat.zero_le _⟩) hS hFc (fun H1 t h1 h2 h3 => zM_55 (cI := cI) (cB := cB) (cO := cO) hP hD h1 h2 h3) (fun H locs hP hD hS => ?_)
    clear hFc
    refine lv_if_ne (tgt := 22) hx hb dX6_plug_16 (by decide) (fun c7 => ?_) (fun c7 => ?_)
    · have h := zif_f c7 h
      refine lv_aload_n hx hb dX6_plug_22 rfl (lv_at hl 0 rfl) ?_
      refine lv_dup hx hb dX6_plug_23 rfl ?_
      refine va_get (D := D) (ci := 6) (v := .int (Ms 3)) (C := RX6) (T := TX6) (N := 40) hx hb hts inX6 hown hK hP 0 rfl rfl 3 (by decide) lk112 (fun _ h9 => h9) rfl dX6_plug_24 ?_
      refine lv_iconst (v := (1 : Int32)) hx hb dX6_plug_27 (by decide) ?_
      refine lv_iload_n hx hb dX6_plug_28 rfl (lv_at hl 1 rfl) ?_
      refine lv_ishl hx hb dX6_plug_29 ?_
      refine lv_iconst (v := (-1 : Int32)) hx hb dX6_plug_30 (by decide) ?_
      refine lv_ixor hx hb dX6_plug_31 ?_
      refine lv_iand hx hb dX6_plug_32 ?_
      refine va_put (D := D) (ci := 6) (v := .int ((Ms 3) &&& (((1 : Int32) <<< (a0 &&& 31)) ^^^ (-1 : Int32)))) (ty := .int) (C := RX6) (T := TX6) (N := 40) hx hb hts inX6 tyX6 tyX6_ok nmX6 hown hK hP hD hS 0 rfl rfl 3 (by decide) lk112 (fun _ h9 => h9) rfl (by decide +kernel) rfl rfl (Nat.le_of_ble_eq_true rfl) dX6_plug_33 (fun H locs hP hD hS => ?_)
      have hset : ∀ v9 : Int32, (zwM cI cB Mo Mp Ms Mj Ma_5).set 0 (Mo, .inr (6, ([.int (Ms 0), .int (Ms 1), .int (Ms 2), .int (Ms 3), .int (Ms 4), .ref (Mp 5), .ref (Mp 6), .int (Ms 7), .int (Ms 8), .int (Ms 9), .ref (Mp 10), .ref (Mp 11), .ref (Mp 12), .int (Ms 13), .ref (Mp 14), .int (Ms 15), .int (Ms 16), .ref (Mp 17), .ref (Mp 18), .ref (Mp 19), .ref (Mp 20), .ref (Mp 21), .ref (Mp 22), .ref (Mp 23), .ref (Mp 24), .ref (Mp 25), .ref (Mp 26), .ref (Mp 27), .long (Mj 28), .int (Ms 29), .int (Ms 30), .int (Ms 31), .int (Ms 32), .int (Ms 33), .ref (Mp 34), .ref (Mp 35), .ref (Mp 36), .ref (Mp 37), .ref (Mp 38), .long (Mj 39)] : List Value).set 3 (.int v9))) = (zwM cI cB Mo Mp (upd Ms 3 v9) Mj Ma_5) := fun _ => rfl
      obtain ⟨Ms_8, eMs_8, hP, hD⟩ : ∃ y9, y9 = (upd Ms 3 ((Ms 3) &&& (((1 : Int32) <<< (a0 &&& 31)) ^^^ (-1 : Int32)))) ∧ va_P D vwCl (zwM cI cB Mo Mp y9 Mj Ma_5) H ∧ va_D A (zwM cI cB Mo Mp y9 Mj Ma_5) := ⟨_, rfl, zsetP (hset _) hP, zsetD (hset _) hD⟩
      have h := zlt_s h eMs_8
      clear hset
      refine lv_aload_n hx hb dX6_plug_36 rfl (lv_at hl 0 rfl) ?_
      refine va_get (D := D) (ci := 6) (v := .int (Ms_8 3)) (C := RX6) (T := TX6) (N := 40) hx hb hts inX6 hown hK hP 0 rfl rfl 3 (by decide) lk112 (fun _ h9 => h9) rfl dX6_plug_37 ?_
      obtain ⟨r9, g10, h⟩ := zb1_s h
      have hFc := va_free (wc := ([] : va_W)) hD hS hA [] rfl
      refine zcp_i (va_runS (As := [.int (Ms_8 3)]) (rest := []) ⟨hx, hb, hml, hown, hts⟩ (c_X6_size l D cI cB cO (Ms_8 3) _ _ g10) (va_cwS 1 hts gX6_plug_X6_size rfl rfl rfl kS_X6_size ⟨Nat.le_trans (Nat.le_of_ble_eq_true rfl) hRf, Nat.le_trans (Nat.le_of_ble_eq_true rfl) hRl⟩) (zpreS hK hP hD hS hE hFc [] (rfl) rfl [.int (Ms_8 3)]) rfl rfl hl.1 rfl (lv_room (Nat.le_of_ble_eq_true rfl)) dX6_plug_40 ⟨Nat.zero_le _, Nat.zero_le _⟩) hP hD hS hFc [] (rfl) (fun H locs hP hS => ?_)
      clear hFc
      cases zend h
      exact hq hP hD hS dX6_plug_43
    · have h := zif_t c7 h
      refine lv_bipush (v := (-103 : Int32)) hx hb dX6_plug_19 (by decide) ?_
      cases zend h
      exact hq hP hD hS dX6_plug_21
  · have h := zif_t c3 h
    refine lv_bipush (v := (-101 : Int32)) hx hb dX6_plug_8 (by decide) ?_
    cases zend h
    exact hq hP hD hS dX6_plug_10
set_option maxHeartbeats 4000000 in
set_option maxRecDepth 100000 in
theorem c_X6_bore (l : Launch) (D : va_G) (cI cB cO : ClassId) (Mo : Nat) (Mp : Nat → Nat) (Ms : Nat → Int32) (Mj : Nat → Int64) (Ma : Nat → Nat → Int32) (a0 : Int32) (rv : Int32) (Ms' : Nat → Int32) (sz : Nat) (h : fX6_bore Ms a0 = some (rv, Ms')) : Met l yX6_bore wsX6_bore ({ frames := 2, cells := 0, slots := 0, locals := 43 } : Room) (va_Pc [.ref Mo, .int a0] (zPre D (zTY cI cB cO) (zwM cI cB Mo Mp Ms Mj Ma) sz)) (va_Qi (fun r (_ : Unit) => r = rv) (fun _ => zPost D (zTY cI cB cO) (zwM cI cB Mo Mp Ms' Mj Ma) (va_A (zwM cI cB Mo Mp Ms Mj Ma) sz)) (va_A (zwM cI cB Mo Mp Ms Mj Ma) sz)) 0 0 (va_A (zwM cI cB Mo Mp Ms Mj Ma) sz) := by
  unfold fX6_bore at h
  refine zmet_i (cc := cX6_bore) (maxL := 2) (by decide) rfl (Nat.le_of_ble_eq_true rfl) rfl rfl ?_
  intro p e s m args below meth c R Q A ls hx hb hts hown hml hK hP hD hE hA hS hRf hRl hl hq
  have hown : s.vm.findClass RX6 = some m.cls := hown
  have hl : lv_has ls 2 [(0, .ref Mo), (1, .int a0)] := hl
  have inX6 : ∀ w ∈ u_ws RX6 TX6 40, w ∈ wsX6_bore := by decide +kernel
  have lk112 : (Cond.fieldLink RX6 112 "PegFieldModel" "holes" "I").before args s = true := hts _ (by decide +kernel)
  refine lv_aload_n hx hb dX6_bore_0 rfl (lv_at hl 0 rfl) ?_
  refine lv_iload_n hx hb dX6_bore_1 rfl (lv_at hl 1 rfl) ?_
  obtain ⟨r1, g2, h⟩ := zb1_s h
  have hFc := va_free (wc := (zwM cI cB Mo Mp Ms Mj Ma)) hD hS hA [0, 1, 2, 3, 4, 5, 6, 7, 8, 9, 10, 11, 12, 13, 14, 15, 16, 17, 18, 19, 20, 21, 22] (zC_53 (cI := cI) (cB := cB) (cO := cO))
  refine zcp_i (va_runV (As := [.int a0]) (rest := []) ⟨hx, hb, hml, hown, hts⟩ (c_X6_isPlace l D cI cB cO Mo Mp Ms Mj Ma a0 _ _ g2) (cwV 1 hts gX6_bore_X6_isPlace rfl rfl rfl kV_X6_isPlace ⟨Nat.le_trans (Nat.le_of_ble_eq_true rfl) hRf, Nat.le_trans (Nat.le_of_ble_eq_true rfl) hRl⟩) (zpreV hK hP hD hS hE hFc [0, 1, 2, 3, 4, 5, 6, 7, 8, 9, 10, 11, 12, 13, 14, 15, 16, 17, 18, 19, 20, 21, 22] (zC_53 (cI := cI) (cB := cB) (cO := cO)) rfl 0 (ci := 6) rfl rfl [.int a0]) rfl rfl hl.1 rfl (lv_room (Nat.le_of_ble_eq_true rfl)) dX6_bore_2 ⟨Nat.zero_le _, Nat.zero_le _⟩) hP hD hS hFc [0, 1, 2, 3, 4, 5, 6, 7, 8, 9, 10, 11, 12, 13, 14, 15, 16, 17, 18, 19, 20, 21, 22] (zC_53 (cI := cI) (cB := cB) (cO := cO)) (fun H locs hP hS => ?_)
  clear hFc
  refine lv_if_ne (tgt := 11) hx hb dX6_bore_5 (by decide) (fun c3 => ?_) (fun c3 => ?_)
  · have h := zif_f c3 h
    refine lv_aload_n hx hb dX6_bore_11 rfl (lv_at hl 0 rfl) ?_
    refine va_get (D := D) (ci := 6) (v := .int (Ms 3)) (C := RX6) (T := TX6) (N := 40) hx hb hts inX6 hown hK hP 0 rfl rfl 3 (by decide) lk112 (fun _ h9 => h9) rfl dX6_bore_12 ?_
    refine lv_iload_n hx hb dX6_bore_15 rfl (lv_at hl 1 rfl) ?_
    obtain ⟨r4, g5, h⟩ := zb1_s h
    have hFc := va_free (wc := ([] : va_W)) hD hS hA [] rfl
    refine zcp_i (va_runS (As := [.int (Ms 3), .int a0]) (rest := []) ⟨hx, hb, hml, hown, hts⟩ (c_X6_isIn l D cI cB cO (Ms 3) a0 _ _ g5) (va_cwS 2 hts gX6_bore_X6_isIn rfl rfl rfl kS_X6_isIn ⟨Nat.le_trans (Nat.le_of_ble_eq_true rfl) hRf, Nat.le_trans (Nat.le_of_ble_eq_true rfl) hRl⟩) (zpreS hK hP hD hS hE hFc [] (rfl) rfl [.int (Ms 3), .int a0]) rfl rfl hl.1 rfl (lv_room (Nat.le_of_ble_eq_true rfl)) dX6_bore_16 ⟨Nat.zero_le _, Nat.zero_le _⟩) hP hD hS hFc [] (rfl) (fun H locs hP hS => ?_)
    clear hFc
    refine lv_if_eq (tgt := 25) hx hb dX6_bore_19 (by decide) (fun c6 => ?_) (fun c6 => ?_)
    · have h := zif_t c6 h
      refine lv_aload_n hx hb dX6_bore_25 rfl (lv_at hl 0 rfl) ?_
      refine lv_dup hx hb dX6_bore_26 rfl ?_
      refine va_get (D := D) (ci := 6) (v := .int (Ms 3)) (C := RX6) (T := TX6) (N := 40) hx hb hts inX6 hown hK hP 0 rfl rfl 3 (by decide) lk112 (fun _ h9 => h9) rfl dX6_bore_27 ?_
      refine lv_iconst (v := (1 : Int32)) hx hb dX6_bore_30 (by decide) ?_
      refine lv_iload_n hx hb dX6_bore_31 rfl (lv_at hl 1 rfl) ?_
      refine lv_ishl hx hb dX6_bore_32 ?_
      refine lv_ior hx hb dX6_bore_33 ?_
      refine va_put (D := D) (ci := 6) (v := .int ((Ms 3) ||| ((1 : Int32) <<< (a0 &&& 31)))) (ty := .int) (C := RX6) (T := TX6) (N := 40) hx hb hts inX6 tyX6 tyX6_ok nmX6 hown hK hP hD hS 0 rfl rfl 3 (by decide) lk112 (fun _ h9 => h9) rfl (by decide +kernel) rfl rfl (Nat.le_of_ble_eq_true rfl) dX6_bore_34 (fun H locs hP hD hS => ?_)
      have hset : ∀ v9 : Int32, (zwM cI cB Mo Mp Ms Mj Ma).set 0 (Mo, .inr (6, ([.int (Ms 0), .int (Ms 1), .int (Ms 2), .int (Ms 3), .int (Ms 4), .ref (Mp 5), .ref (Mp 6), .int (Ms 7), .int (Ms 8), .int (Ms 9), .ref (Mp 10), .ref (Mp 11), .ref (Mp 12), .int (Ms 13), .ref (Mp 14), .int (Ms 15), .int (Ms 16), .ref (Mp 17), .ref (Mp 18), .ref (Mp 19), .ref (Mp 20), .ref (Mp 21), .ref (Mp 22), .ref (Mp 23), .ref (Mp 24), .ref (Mp 25), .ref (Mp 26), .ref (Mp 27), .long (Mj 28), .int (Ms 29), .int (Ms 30), .int (Ms 31), .int (Ms 32), .int (Ms 33), .ref (Mp 34), .ref (Mp 35), .ref (Mp 36), .ref (Mp 37), .ref (Mp 38), .long (Mj 39)] : List Value).set 3 (.int v9))) = (zwM cI cB Mo Mp (upd Ms 3 v9) Mj Ma) := fun _ => rfl
      obtain ⟨Ms_7, eMs_7, hP, hD⟩ : ∃ y9, y9 = (upd Ms 3 ((Ms 3) ||| ((1 : Int32) <<< (a0 &&& 31)))) ∧ va_P D vwCl (zwM cI cB Mo Mp y9 Mj Ma) H ∧ va_D A (zwM cI cB Mo Mp y9 Mj Ma) := ⟨_, rfl, zsetP (hset _) hP, zsetD (hset _) hD⟩
      have h := zlt_s h eMs_7
      clear hset
      refine lv_aload_n hx hb dX6_bore_37 rfl (lv_at hl 0 rfl) ?_
      refine va_get (D := D) (ci := 6) (v := .int (Ms_7 3)) (C := RX6) (T := TX6) (N := 40) hx hb hts inX6 hown hK hP 0 rfl rfl 3 (by decide) lk112 (fun _ h9 => h9) rfl dX6_bore_38 ?_
      obtain ⟨r8, g9, h⟩ := zb1_s h
      have hFc := va_free (wc := ([] : va_W)) hD hS hA [] rfl
      refine zcp_i (va_runS (As := [.int (Ms_7 3)]) (rest := []) ⟨hx, hb, hml, hown, hts⟩ (c_X6_size l D cI cB cO (Ms_7 3) _ _ g9) (va_cwS 1 hts gX6_bore_X6_size rfl rfl rfl kS_X6_size ⟨Nat.le_trans (Nat.le_of_ble_eq_true rfl) hRf, Nat.le_trans (Nat.le_of_ble_eq_true rfl) hRl⟩) (zpreS hK hP hD hS hE hFc [] (rfl) rfl [.int (Ms_7 3)]) rfl rfl hl.1 rfl (lv_room (Nat.le_of_ble_eq_true rfl)) dX6_bore_41 ⟨Nat.zero_le _, Nat.zero_le _⟩) hP hD hS hFc [] (rfl) (fun H locs hP hS => ?_)
      clear hFc
      cases zend h
      exact hq hP hD hS dX6_bore_44
    · have h := zif_f c6 h
      refine lv_bipush (v := (-103 : Int32)) hx hb dX6_bore_22 (by decide) ?_
      cases zend h
      exact hq hP hD hS dX6_bore_24
  · have h := zif_t c3 h
    refine lv_bipush (v := (-101 : Int32)) hx hb dX6_bore_8 (by decide) ?_
    cases zend h
    exact hq hP hD hS dX6_bore_10
set_option maxHeartbeats 4000000 in
set_option maxRecDepth 100000 in
theorem c_X6_be (l : Launch) (D : va_G) (cI cB cO : ClassId) (Mo : Nat) (Mp : Nat → Nat) (Ms : Nat → Int32) (Mj : Nat → Int64) (Ma : Nat → Nat → Int32) (a0 : Int32) (a1 : Int32) (rv : Int32) (Ma' : Nat → Nat → Int32) (sz : Nat) (h : fX6_be Ms Ma a0 a1 = some (rv, Ma')) : Met l yX6_be wsX6_be ({ frames := 2, cells := 0, slots := 0, locals := 43 } : Room) (va_Pc [.ref Mo, .int a0, .int a1] (zPre D (zTY cI cB cO) (zwM cI cB Mo Mp Ms Mj Ma) sz)) (va_Qi (fun r (_ : Unit) => r = rv) (fun _ => zPost D (zTY cI cB cO) (zwM cI cB Mo Mp Ms Mj Ma') (va_A (zwM cI cB Mo Mp Ms Mj Ma) sz)) (va_A (zwM cI cB Mo Mp Ms Mj Ma) sz)) 0 0 (va_A (zwM cI cB Mo Mp Ms Mj Ma) sz) := by
  unfold fX6_be at h
  refine zmet_i (cc := cX6_be) (maxL := 4) (by decide) rfl (Nat.le_of_ble_eq_true rfl) rfl rfl ?_
  intro p e s m args below meth c R Q A ls hx hb hts hown hml hK hP hD hE hA hS hRf hRl hl hq
  have hown : s.vm.findClass RX6 = some m.cls := hown
  have hl : lv_has ls 4 [(0, .ref Mo), (1, .int a0), (2, .int a1)] := hl
  have inX6 : ∀ w ∈ u_ws RX6 TX6 40, w ∈ wsX6_be := by decide +kernel
  have lk7 : (Cond.fieldLink RX6 7 "PegFieldModel" "kindOf" "[I").before args s = true := hts _ (by decide +kernel)
  refine lv_aload_n hx hb dX6_be_0 rfl (lv_at hl 0 rfl) ?_
  refine lv_iload_n hx hb dX6_be_1 rfl (lv_at hl 1 rfl) ?_
  obtain ⟨r1, g2, h⟩ := zb1_s h
  have hFc := va_free (wc := (zwM cI cB Mo Mp Ms Mj Ma)) hD hS hA [0, 1, 2, 3, 4, 5, 6, 7, 8, 9, 10, 11, 12, 13, 14, 15, 16, 17, 18, 19, 20, 21, 22] (zC_53 (cI := cI) (cB := cB) (cO := cO))
  refine zcp_i (va_runV (As := [.int a0]) (rest := []) ⟨hx, hb, hml, hown, hts⟩ (c_X6_isPeg l D cI cB cO Mo Mp Ms Mj Ma a0 _ _ g2) (cwV 1 hts gX6_be_X6_isPeg rfl rfl rfl kV_X6_isPeg ⟨Nat.le_trans (Nat.le_of_ble_eq_true rfl) hRf, Nat.le_trans (Nat.le_of_ble_eq_true rfl) hRl⟩) (zpreV hK hP hD hS hE hFc [0, 1, 2, 3, 4, 5, 6, 7, 8, 9, 10, 11, 12, 13, 14, 15, 16, 17, 18, 19, 20, 21, 22] (zC_53 (cI := cI) (cB := cB) (cO := cO)) rfl 0 (ci := 6) rfl rfl [.int a0]) rfl rfl hl.1 rfl (lv_room (Nat.le_of_ble_eq_true rfl)) dX6_be_2 ⟨Nat.zero_le _, Nat.zero_le _⟩) hP hD hS hFc [0, 1, 2, 3, 4, 5, 6, 7, 8, 9, 10, 11, 12, 13, 14, 15, 16, 17, 18, 19, 20, 21, 22] (zC_53 (cI := cI) (cB := cB) (cO := cO)) (fun H locs hP hS => ?_)
  clear hFc
  refine lv_if_ne (tgt := 11) hx hb dX6_be_5 (by decide) (fun c3 => ?_) (fun c3 => ?_)
  · have h := zif_f c3 h
    refine lv_iload_n hx hb dX6_be_11 rfl (lv_at hl 2 rfl) ?_
    refine lv_iconst (v := (0 : Int32)) hx hb dX6_be_12 (by decide) ?_
    refine lv_iconst (v := (4 : Int32)) hx hb dX6_be_13 (by decide) ?_
    obtain ⟨r4, g5, h⟩ := zb1_s h
    have hFc := va_free (wc := ([] : va_W)) hD hS hA [] rfl
    refine zcp_i (va_runS (As := [.int a1, .int (0 : Int32), .int (4 : Int32)]) (rest := []) ⟨hx, hb, hml, hown, hts⟩ (c_X6_within l D cI cB cO a1 (0 : Int32) (4 : Int32) _ _ g5) (va_cwS 3 hts gX6_be_X6_within rfl rfl rfl kS_X6_within ⟨Nat.le_trans (Nat.le_of_ble_eq_true rfl) hRf, Nat.le_trans (Nat.le_of_ble_eq_true rfl) hRl⟩) (zpreS hK hP hD hS hE hFc [] (rfl) rfl [.int a1, .int (0 : Int32), .int (4 : Int32)]) rfl rfl hl.1 rfl (lv_room (Nat.le_of_ble_eq_true rfl)) dX6_be_14 ⟨Nat.zero_le _, Nat.zero_le _⟩) hP hD hS hFc [] (rfl) (fun H locs hP hS => ?_)
    clear hFc
    refine lv_if_ne (tgt := 23) hx hb dX6_be_17 (by decide) (fun c6 => ?_) (fun c6 => ?_)
    · have h := zif_f c6 h
      refine lv_aload_n hx hb dX6_be_23 rfl (lv_at hl 0 rfl) ?_
      refine va_get (D := D) (ci := 6) (v := .ref (Mp 5)) (C := RX6) (T := TX6) (N := 40) hx hb hts inX6 hown hK hP 0 rfl rfl 5 (by decide) lk7 (fun _ h9 => h9) rfl dX6_be_24 ?_
      refine lv_iload_n hx hb dX6_be_27 rfl (lv_at hl 1 rfl) ?_
      obtain ⟨z7, h⟩ := zck_s h
      refine va_iald hx hb hK hP 1 0 rfl rfl (zin_s z7) dX6_be_28 ?_
      refine lv_topi (fun x3_8 ex3_8 => ?_)
      have h := zlt_s h ex3_8
      refine lv_istore_n (lv' := [(3, .int x3_8), (0, .ref Mo), (1, .int a0), (2, .int a1)]) hx hb dX6_be_29 rfl hl (by decide) rfl (fun ls hl => ?_)
      refine lv_aload_n hx hb dX6_be_30 rfl (lv_at hl 1 rfl) ?_
      refine va_get (D := D) (ci := 6) (v := .ref (Mp 5)) (C := RX6) (T := TX6) (N := 40) hx hb hts inX6 hown hK hP 0 rfl rfl 5 (by decide) lk7 (fun _ h9 => h9) rfl dX6_be_31 ?_
      refine lv_iload_n hx hb dX6_be_34 rfl (lv_at hl 2 rfl) ?_
      refine lv_iload_n hx hb dX6_be_35 rfl (lv_at hl 3 rfl) ?_
      obtain ⟨z9, h⟩ := zck_s h
      refine va_iast hx hb hK hP hD hS 1 0 rfl rfl (zin_s z9) dX6_be_36 (fun H locs hP hD hS => ?_)
      have hset : ∀ v9 : Nat → Int32, (zwM cI cB Mo Mp Ms Mj Ma).set 1 ((Mp 5), .inl (cI, 8, .inl v9)) = (zwM cI cB Mo Mp Ms Mj (va_up Ma 5 v9)) := fun _ => rfl
      obtain ⟨Ma_10, eMa_10, hP, hD⟩ : ∃ y9, y9 = (va_up Ma 5 (upd (Ma 5) (a0).toNatClampNeg a1)) ∧ va_P D vwCl (zwM cI cB Mo Mp Ms Mj y9) H ∧ va_D A (zwM cI cB Mo Mp Ms Mj y9) := ⟨_, rfl, zsetP (hset _) hP, zsetD (hset _) hD⟩
      have h := zlt_s h eMa_10
      clear hset
      refine lv_iload_n hx hb dX6_be_37 rfl (lv_at hl 0 rfl) ?_
      cases zend h
      exact hq hP hD hS dX6_be_38
    · have h := zif_t c6 h
      refine lv_bipush (v := (-102 : Int32)) hx hb dX6_be_20 (by decide) ?_
      cases zend h
      exact hq hP hD hS dX6_be_22
  · have h := zif_t c3 h
    refine lv_bipush (v := (-101 : Int32)) hx hb dX6_be_8 (by decide) ?_
    cases zend h
    exact hq hP hD hS dX6_be_10
set_option maxHeartbeats 4000000 in
set_option maxRecDepth 100000 in
theorem c_X6_begin (l : Launch) (D : va_G) (cI cB cO : ClassId) (Mo : Nat) (Mp : Nat → Nat) (Ms : Nat → Int32) (Mj : Nat → Int64) (Ma : Nat → Nat → Int32) (a0 : Int32) (Ma' : Nat → Nat → Int32) (sz : Nat) (h : fX6_begin Ma a0 = some Ma') : Met l yX6_begin wsX6_begin ({ frames := 0, cells := 0, slots := 0, locals := 0 } : Room) (va_Pc [.ref Mo, .int a0] (zPre D (zTY cI cB cO) (zwM cI cB Mo Mp Ms Mj Ma) sz)) (va_Qv (fun (_ : Unit) => True) (fun _ => zPost D (zTY cI cB cO) (zwM cI cB Mo Mp Ms Mj Ma') (va_A (zwM cI cB Mo Mp Ms Mj Ma) sz)) (va_A (zwM cI cB Mo Mp Ms Mj Ma) sz)) 0 0 (va_A (zwM cI cB Mo Mp Ms Mj Ma) sz) := by
  unfold fX6_begin at h
  refine zmet_v (cc := cX6_begin) (maxL := 2) (by decide) rfl (Nat.le_of_ble_eq_true rfl) rfl rfl ?_
  intro p e s m args below meth c R Q A ls hx hb hts hown hml hK hP hD hE hA hS hRf hRl hl hq
  have hown : s.vm.findClass RX6 = some m.cls := hown
  have hl : lv_has ls 2 [(0, .ref Mo), (1, .int a0)] := hl
  have inX6 : ∀ w ∈ u_ws RX6 TX6 40, w ∈ wsX6_begin := by decide +kernel
  have lk32 : (Cond.fieldLink RX6 32 "PegFieldModel" "codeOf" "[I").before args s = true := hts _ (by decide +kernel)
  have lk35 : (Cond.fieldLink RX6 35 "PegFieldModel" "jumpsOf" "[I").before args s = true := hts _ (by decide +kernel)
  have lk38 : (Cond.fieldLink RX6 38 "PegFieldModel" "waysOf" "[I").before args s = true := hts _ (by decide +kernel)
  have lk41 : (Cond.fieldLink RX6 41 "PegFieldModel" "fewestOf" "[I").before args s = true := hts _ (by decide +kernel)
  have lk44 : (Cond.fieldLink RX6 44 "PegFieldModel" "firstOf" "[I").before args s = true := hts _ (by decide +kernel)
  have lk47 : (Cond.fieldLink RX6 47 "PegFieldModel" "longestOf" "[I").before args s = true := hts _ (by decide +kernel)
  have lk50 : (Cond.fieldLink RX6 50 "PegFieldModel" "shortestOf" "[I").before args s = true := hts _ (by decide +kernel)
  have lk53 : (Cond.fieldLink RX6 53 "PegFieldModel" "aloneOf" "[I").before args s = true := hts _ (by decide +kernel)
  have lk56 : (Cond.fieldLink RX6 56 "PegFieldModel" "winOf" "[I").before args s = true := hts _ (by decide +kernel)
  have lk59 : (Cond.fieldLink RX6 59 "PegFieldModel" "sumOf" "[I").before args s = true := hts _ (by decide +kernel)
  refine lv_aload_n hx hb dX6_begin_0 rfl (lv_at hl 0 rfl) ?_
  refine va_get (D := D) (ci := 6) (v := .ref (Mp 18)) (C := RX6) (T := TX6) (N := 40) hx hb hts inX6 hown hK hP 0 rfl rfl 18 (by decide) lk32 (fun _ h9 => h9) rfl dX6_begin_1 ?_
  refine lv_iload_n hx hb dX6_begin_4 rfl (lv_at hl 1 rfl) ?_
  refine lv_iconst (v := (0 : Int32)) hx hb dX6_begin_5 (by decide) ?_
  obtain ⟨z1, h⟩ := zck_s h
  refine va_iast hx hb hK hP hD hS 8 0 rfl rfl (zin_s z1) dX6_begin_6 (fun H locs hP hD hS => ?_)
  have hset : ∀ v9 : Nat → Int32, (zwM cI cB Mo Mp Ms Mj Ma).set 8 ((Mp 18), .inl (cI, 9, .inl v9)) = (zwM cI cB Mo Mp Ms Mj (va_up Ma 18 v9)) := fun _ => rfl
  obtain ⟨Ma_2, eMa_2, hP, hD⟩ : ∃ y9, y9 = (va_up Ma 18 (upd (Ma 18) (a0).toNatClampNeg (0 : Int32))) ∧ va_P D vwCl (zwM cI cB Mo Mp Ms Mj y9) H ∧ va_D A (zwM cI cB Mo Mp Ms Mj y9) := ⟨_, rfl, zsetP (hset _) hP, zsetD (hset _) hD⟩
  have h := zlt_s h eMa_2
  clear hset
  refine lv_aload_n hx hb dX6_begin_7 rfl (lv_at hl 0 rfl) ?_
  refine va_get (D := D) (ci := 6) (v := .ref (Mp 19)) (C := RX6) (T := TX6) (N := 40) hx hb hts inX6 hown hK hP 0 rfl rfl 19 (by decide) lk35 (fun _ h9 => h9) rfl dX6_begin_8 ?_
  refine lv_iload_n hx hb dX6_begin_11 rfl (lv_at hl 1 rfl) ?_
  refine lv_iconst (v := (0 : Int32)) hx hb dX6_begin_12 (by decide) ?_
  obtain ⟨z3, h⟩ := zck_s h
  refine va_iast hx hb hK hP hD hS 9 0 rfl rfl (zin_s z3) dX6_begin_13 (fun H locs hP hD hS => ?_)
  have hset : ∀ v9 : Nat → Int32, (zwM cI cB Mo Mp Ms Mj Ma_2).set 9 ((Mp 19), .inl (cI, 9, .inl v9)) = (zwM cI cB Mo Mp Ms Mj (va_up Ma_2 19 v9)) := fun _ => rfl
  obtain ⟨Ma_4, eMa_4, hP, hD⟩ : ∃ y9, y9 = (va_up Ma_2 19 (upd (Ma_2 19) (a0).toNatClampNeg (0 : Int32))) ∧ va_P D vwCl (zwM cI cB Mo Mp Ms Mj y9) H ∧ va_D A (zwM cI cB Mo Mp Ms Mj y9) := ⟨_, rfl, zsetP (hset _) hP, zsetD (hset _) hD⟩
  have h := zlt_s h eMa_4
  clear hset
  refine lv_aload_n hx hb dX6_begin_14 rfl (lv_at hl 0 rfl) ?_
  refine va_get (D := D) (ci := 6) (v := .ref (Mp 20)) (C := RX6) (T := TX6) (N := 40) hx hb hts inX6 hown hK hP 0 rfl rfl 20 (by decide) lk38 (fun _ h9 => h9) rfl dX6_begin_15 ?_
  refine lv_iload_n hx hb dX6_begin_18 rfl (lv_at hl 1 rfl) ?_
  refine lv_iconst (v := (0 : Int32)) hx hb dX6_begin_19 (by decide) ?_
  obtain ⟨z5, h⟩ := zck_s h
  refine va_iast hx hb hK hP hD hS 10 0 rfl rfl (zin_s z5) dX6_begin_20 (fun H locs hP hD hS => ?_)
  have hset : ∀ v9 : Nat → Int32, (zwM cI cB Mo Mp Ms Mj Ma_4).set 10 ((Mp 20), .inl (cI, 9, .inl v9)) = (zwM cI cB Mo Mp Ms Mj (va_up Ma_4 20 v9)) := fun _ => rfl
  obtain ⟨Ma_6, eMa_6, hP, hD⟩ : ∃ y9, y9 = (va_up Ma_4 20 (upd (Ma_4 20) (a0).toNatClampNeg (0 : Int32))) ∧ va_P D vwCl (zwM cI cB Mo Mp Ms Mj y9) H ∧ va_D A (zwM cI cB Mo Mp Ms Mj y9) := ⟨_, rfl, zsetP (hset _) hP, zsetD (hset _) hD⟩
  have h := zlt_s h eMa_6
  clear hset
  refine lv_aload_n hx hb dX6_begin_21 rfl (lv_at hl 0 rfl) ?_
  refine va_get (D := D) (ci := 6) (v := .ref (Mp 21)) (C := RX6) (T := TX6) (N := 40) hx hb hts inX6 hown hK hP 0 rfl rfl 21 (by decide) lk41 (fun _ h9 => h9) rfl dX6_begin_22 ?_
  refine lv_iload_n hx hb dX6_begin_25 rfl (lv_at hl 1 rfl) ?_
  refine lv_ldc (v := (268435456 : Int32)) hx hb hown (hts (.constant RX6 189 (268435456)) (by decide +kernel)) dX6_begin_26 ?_
  obtain ⟨z7, h⟩ := zck_s h
  refine va_iast hx hb hK hP hD hS 11 0 rfl rfl (zin_s z7) dX6_begin_28 (fun H locs hP hD hS => ?_)
  have hset : ∀ v9 : Nat → Int32, (zwM cI cB Mo Mp Ms Mj Ma_6).set 11 ((Mp 21), .inl (cI, 9, .inl v9)) = (zwM cI cB Mo Mp Ms Mj (va_up Ma_6 21 v9)) := fun _ => rfl
  obtain ⟨Ma_8, eMa_8, hP, hD⟩ : ∃ y9, y9 = (va_up Ma_6 21 (upd (Ma_6 21) (a0).toNatClampNeg (268435456 : Int32))) ∧ va_P D vwCl (zwM cI cB Mo Mp Ms Mj y9) H ∧ va_D A (zwM cI cB Mo Mp Ms Mj y9) := ⟨_, rfl, zsetP (hset _) hP, zsetD (hset _) hD⟩
  have h := zlt_s h eMa_8
  clear hset
  refine lv_aload_n hx hb dX6_begin_29 rfl (lv_at hl 0 rfl) ?_
  refine va_get (D := D) (ci := 6) (v := .ref (Mp 22)) (C := RX6) (T := TX6) (N := 40) hx hb hts inX6 hown hK hP 0 rfl rfl 22 (by decide) lk44 (fun _ h9 => h9) rfl dX6_begin_30 ?_
  refine lv_iload_n hx hb dX6_begin_33 rfl (lv_at hl 1 rfl) ?_
  refine lv_iconst (v := (-1 : Int32)) hx hb dX6_begin_34 (by decide) ?_
  obtain ⟨z9, h⟩ := zck_s h
  refine va_iast hx hb hK hP hD hS 12 0 rfl rfl (zin_s z9) dX6_begin_35 (fun H locs hP hD hS => ?_)
  have hset : ∀ v9 : Nat → Int32, (zwM cI cB Mo Mp Ms Mj Ma_8).set 12 ((Mp 22), .inl (cI, 9, .inl v9)) = (zwM cI cB Mo Mp Ms Mj (va_up Ma_8 22 v9)) := fun _ => rfl
  obtain ⟨Ma_10, eMa_10, hP, hD⟩ : ∃ y9, y9 = (va_up Ma_8 22 (upd (Ma_8 22) (a0).toNatClampNeg (-1 : Int32))) ∧ va_P D vwCl (zwM cI cB Mo Mp Ms Mj y9) H ∧ va_D A (zwM cI cB Mo Mp Ms Mj y9) := ⟨_, rfl, zsetP (hset _) hP, zsetD (hset _) hD⟩
  have h := zlt_s h eMa_10
  clear hset
  refine lv_aload_n hx hb dX6_begin_36 rfl (lv_at hl 0 rfl) ?_
  refine va_get (D := D) (ci := 6) (v := .ref (Mp 23)) (C := RX6) (T := TX6) (N := 40) hx hb hts inX6 hown hK hP 0 rfl rfl 23 (by decide) lk47 (fun _ h9 => h9) rfl dX6_begin_37 ?_
  refine lv_iload_n hx hb dX6_begin_40 rfl (lv_at hl 1 rfl) ?_
  refine lv_iconst (v := (-1 : Int32)) hx hb dX6_begin_41 (by decide) ?_
  obtain ⟨z11, h⟩ := zck_s h
  refine va_iast hx hb hK hP hD hS 13 0 rfl rfl (zin_s z11) dX6_begin_42 (fun H locs hP hD hS => ?_)
  have hset : ∀ v9 : Nat → Int32, (zwM cI cB Mo Mp Ms Mj Ma_10).set 13 ((Mp 23), .inl (cI, 9, .inl v9)) = (zwM cI cB Mo Mp Ms Mj (va_up Ma_10 23 v9)) := fun _ => rfl
  obtain ⟨Ma_12, eMa_12, hP, hD⟩ : ∃ y9, y9 = (va_up Ma_10 23 (upd (Ma_10 23) (a0).toNatClampNeg (-1 : Int32))) ∧ va_P D vwCl (zwM cI cB Mo Mp Ms Mj y9) H ∧ va_D A (zwM cI cB Mo Mp Ms Mj y9) := ⟨_, rfl, zsetP (hset _) hP, zsetD (hset _) hD⟩
  have h := zlt_s h eMa_12
  clear hset
  refine lv_aload_n hx hb dX6_begin_43 rfl (lv_at hl 0 rfl) ?_
  refine va_get (D := D) (ci := 6) (v := .ref (Mp 24)) (C := RX6) (T := TX6) (N := 40) hx hb hts inX6 hown hK hP 0 rfl rfl 24 (by decide) lk50 (fun _ h9 => h9) rfl dX6_begin_44 ?_
  refine lv_iload_n hx hb dX6_begin_47 rfl (lv_at hl 1 rfl) ?_
  refine lv_ldc (v := (268435456 : Int32)) hx hb hown (hts (.constant RX6 189 (268435456)) (by decide +kernel)) dX6_begin_48 ?_
  obtain ⟨z13, h⟩ := zck_s h
  refine va_iast hx hb hK hP hD hS 14 0 rfl rfl (zin_s z13) dX6_begin_50 (fun H locs hP hD hS => ?_)
  have hset : ∀ v9 : Nat → Int32, (zwM cI cB Mo Mp Ms Mj Ma_12).set 14 ((Mp 24), .inl (cI, 9, .inl v9)) = (zwM cI cB Mo Mp Ms Mj (va_up Ma_12 24 v9)) := fun _ => rfl
  obtain ⟨Ma_14, eMa_14, hP, hD⟩ : ∃ y9, y9 = (va_up Ma_12 24 (upd (Ma_12 24) (a0).toNatClampNeg (268435456 : Int32))) ∧ va_P D vwCl (zwM cI cB Mo Mp Ms Mj y9) H ∧ va_D A (zwM cI cB Mo Mp Ms Mj y9) := ⟨_, rfl, zsetP (hset _) hP, zsetD (hset _) hD⟩
  have h := zlt_s h eMa_14
  clear hset
  refine lv_aload_n hx hb dX6_begin_51 rfl (lv_at hl 0 rfl) ?_
  refine va_get (D := D) (ci := 6) (v := .ref (Mp 25)) (C := RX6) (T := TX6) (N := 40) hx hb hts inX6 hown hK hP 0 rfl rfl 25 (by decide) lk53 (fun _ h9 => h9) rfl dX6_begin_52 ?_
  refine lv_iload_n hx hb dX6_begin_55 rfl (lv_at hl 1 rfl) ?_
  refine lv_iconst (v := (0 : Int32)) hx hb dX6_begin_56 (by decide) ?_
  obtain ⟨z15, h⟩ := zck_s h
  refine va_iast hx hb hK hP hD hS 15 0 rfl rfl (zin_s z15) dX6_begin_57 (fun H locs hP hD hS => ?_)
  have hset : ∀ v9 : Nat → Int32, (zwM cI cB Mo Mp Ms Mj Ma_14).set 15 ((Mp 25), .inl (cI, 9, .inl v9)) = (zwM cI cB Mo Mp Ms Mj (va_up Ma_14 25 v9)) := fun _ => rfl
  obtain ⟨Ma_16, eMa_16, hP, hD⟩ : ∃ y9, y9 = (va_up Ma_14 25 (upd (Ma_14 25) (a0).toNatClampNeg (0 : Int32))) ∧ va_P D vwCl (zwM cI cB Mo Mp Ms Mj y9) H ∧ va_D A (zwM cI cB Mo Mp Ms Mj y9) := ⟨_, rfl, zsetP (hset _) hP, zsetD (hset _) hD⟩
  have h := zlt_s h eMa_16
  clear hset
  refine lv_aload_n hx hb dX6_begin_58 rfl (lv_at hl 0 rfl) ?_
  refine va_get (D := D) (ci := 6) (v := .ref (Mp 26)) (C := RX6) (T := TX6) (N := 40) hx hb hts inX6 hown hK hP 0 rfl rfl 26 (by decide) lk56 (fun _ h9 => h9) rfl dX6_begin_59 ?_
  refine lv_iload_n hx hb dX6_begin_62 rfl (lv_at hl 1 rfl) ?_
  refine lv_iconst (v := (-1 : Int32)) hx hb dX6_begin_63 (by decide) ?_
  obtain ⟨z17, h⟩ := zck_s h
  refine va_iast hx hb hK hP hD hS 16 0 rfl rfl (zin_s z17) dX6_begin_64 (fun H locs hP hD hS => ?_)
  have hset : ∀ v9 : Nat → Int32, (zwM cI cB Mo Mp Ms Mj Ma_16).set 16 ((Mp 26), .inl (cI, 9, .inl v9)) = (zwM cI cB Mo Mp Ms Mj (va_up Ma_16 26 v9)) := fun _ => rfl
  obtain ⟨Ma_18, eMa_18, hP, hD⟩ : ∃ y9, y9 = (va_up Ma_16 26 (upd (Ma_16 26) (a0).toNatClampNeg (-1 : Int32))) ∧ va_P D vwCl (zwM cI cB Mo Mp Ms Mj y9) H ∧ va_D A (zwM cI cB Mo Mp Ms Mj y9) := ⟨_, rfl, zsetP (hset _) hP, zsetD (hset _) hD⟩
  have h := zlt_s h eMa_18
  clear hset
  refine lv_aload_n hx hb dX6_begin_65 rfl (lv_at hl 0 rfl) ?_
  refine va_get (D := D) (ci := 6) (v := .ref (Mp 27)) (C := RX6) (T := TX6) (N := 40) hx hb hts inX6 hown hK hP 0 rfl rfl 27 (by decide) lk59 (fun _ h9 => h9) rfl dX6_begin_66 ?_
  refine lv_iload_n hx hb dX6_begin_69 rfl (lv_at hl 1 rfl) ?_
  refine lv_iconst (v := (0 : Int32)) hx hb dX6_begin_70 (by decide) ?_
  obtain ⟨z19, h⟩ := zck_s h
  refine va_iast hx hb hK hP hD hS 17 0 rfl rfl (zin_s z19) dX6_begin_71 (fun H locs hP hD hS => ?_)
  have hset : ∀ v9 : Nat → Int32, (zwM cI cB Mo Mp Ms Mj Ma_18).set 17 ((Mp 27), .inl (cI, 9, .inl v9)) = (zwM cI cB Mo Mp Ms Mj (va_up Ma_18 27 v9)) := fun _ => rfl
  obtain ⟨Ma_20, eMa_20, hP, hD⟩ : ∃ y9, y9 = (va_up Ma_18 27 (upd (Ma_18 27) (a0).toNatClampNeg (0 : Int32))) ∧ va_P D vwCl (zwM cI cB Mo Mp Ms Mj y9) H ∧ va_D A (zwM cI cB Mo Mp Ms Mj y9) := ⟨_, rfl, zsetP (hset _) hP, zsetD (hset _) hD⟩
  have h := zlt_s h eMa_20
  clear hset
  cases zend h
  exact hq hP hD hS dX6_begin_72
set_option maxHeartbeats 4000000 in
set_option maxRecDepth 100000 in
theorem c_X6_nextCode (l : Launch) (D : va_G) (cI cB cO : ClassId) (Mo : Nat) (Mp : Nat → Nat) (Ms : Nat → Int32) (Mj : Nat → Int64) (Ma : Nat → Nat → Int32) (a0 : Int32) (rv : Int32) (Ma' : Nat → Nat → Int32) (sz : Nat) (h : fX6_nextCode Ms Ma a0 = some (rv, Ma')) : Met l yX6_nextCode wsX6_nextCode ({ frames := 3, cells := 0, slots := 0, locals := 73 } : Room) (va_Pc [.ref Mo, .int a0] (zPre D (zTY cI cB cO) (zwM cI cB Mo Mp Ms Mj Ma) sz)) (va_Qi (fun r (_ : Unit) => r = rv) (fun _ => zPost D (zTY cI cB cO) (zwM cI cB Mo Mp Ms Mj Ma') (va_A (zwM cI cB Mo Mp Ms Mj Ma) sz)) (va_A (zwM cI cB Mo Mp Ms Mj Ma) sz)) 0 0 (va_A (zwM cI cB Mo Mp Ms Mj Ma) sz) := by
  unfold fX6_nextCode at h
  refine zmet_i (cc := cX6_nextCode) (maxL := 3) (by decide) rfl (Nat.le_of_ble_eq_true rfl) rfl rfl ?_
  intro p e s m args below meth c R Q A ls hx hb hts hown hml hK hP hD hE hA hS hRf hRl hl hq
  have hown : s.vm.findClass RX6 = some m.cls := hown
  have hl : lv_has ls 3 [(0, .ref Mo), (1, .int a0)] := hl
  have inX6 : ∀ w ∈ u_ws RX6 TX6 40, w ∈ wsX6_nextCode := by decide +kernel
  have lk32 : (Cond.fieldLink RX6 32 "PegFieldModel" "codeOf" "[I").before args s = true := hts _ (by decide +kernel)
  have lk115 : (Cond.fieldLink RX6 115 "PegFieldModel" "pegs" "I").before args s = true := hts _ (by decide +kernel)
  refine lv_aload_n hx hb dX6_nextCode_0 rfl (lv_at hl 0 rfl) ?_
  refine va_get (D := D) (ci := 6) (v := .ref (Mp 18)) (C := RX6) (T := TX6) (N := 40) hx hb hts inX6 hown hK hP 0 rfl rfl 18 (by decide) lk32 (fun _ h9 => h9) rfl dX6_nextCode_1 ?_
  refine lv_iload_n hx hb dX6_nextCode_4 rfl (lv_at hl 1 rfl) ?_
  obtain ⟨z1, h⟩ := zck_s h
  refine va_iald hx hb hK hP 8 0 rfl rfl (zin_s z1) dX6_nextCode_5 ?_
  refine lv_topi (fun x2_2 ex2_2 => ?_)
  have h := zlt_s h ex2_2
  refine lv_istore_n (lv' := [(2, .int x2_2), (0, .ref Mo), (1, .int a0)]) hx hb dX6_nextCode_6 rfl hl (by decide) rfl (fun ls hl => ?_)
  obtain ⟨x2_57x7, i15, h⟩ := zb1_s h
  have KX57 : ∀ (H : Heap) (locs : List Loc) (ls : Array Slot), va_P D vwCl (zwM cI cB Mo Mp Ms Mj Ma) H → va_D A (zwM cI cB Mo Mp Ms Mj Ma) → va_S A s.heap H locs → lv_has ls 3 [(0, .ref Mo), (1, .int a0), (2, .int x2_57x7)] → W p l e R s m args below meth c H locs 0 0 Q (F0 m 57 ls []) := by
    intro H locs ls hP hD hS hl
    refine lv_aload_n hx hb dX6_nextCode_57 rfl (lv_at hl 0 rfl) ?_
    refine va_get (D := D) (ci := 6) (v := .ref (Mp 18)) (C := RX6) (T := TX6) (N := 40) hx hb hts inX6 hown hK hP 0 rfl rfl 18 (by decide) lk32 (fun _ h9 => h9) rfl dX6_nextCode_58 ?_
    refine lv_iload_n hx hb dX6_nextCode_61 rfl (lv_at hl 1 rfl) ?_
    refine lv_iload_n hx hb dX6_nextCode_62 rfl (lv_at hl 2 rfl) ?_
    refine lv_iconst (v := (1 : Int32)) hx hb dX6_nextCode_63 (by decide) ?_
    refine lv_iadd hx hb dX6_nextCode_64 ?_
    obtain ⟨z12, h⟩ := zck_s h
    refine va_iast hx hb hK hP hD hS 8 0 rfl rfl (zin_s z12) dX6_nextCode_65 (fun H locs hP hD hS => ?_)
    have hset : ∀ v9 : Nat → Int32, (zwM cI cB Mo Mp Ms Mj Ma).set 8 ((Mp 18), .inl (cI, 9, .inl v9)) = (zwM cI cB Mo Mp Ms Mj (va_up Ma 18 v9)) := fun _ => rfl
    obtain ⟨Ma_13, eMa_13, hP, hD⟩ : ∃ y9, y9 = (va_up Ma 18 (upd (Ma 18) (a0).toNatClampNeg (x2_57x7 + (1 : Int32)))) ∧ va_P D vwCl (zwM cI cB Mo Mp Ms Mj y9) H ∧ va_D A (zwM cI cB Mo Mp Ms Mj y9) := ⟨_, rfl, zsetP (hset _) hP, zsetD (hset _) hD⟩
    have h := zlt_s h eMa_13
    clear hset
    refine lv_iload_n hx hb dX6_nextCode_66 rfl (lv_at hl 2 rfl) ?_
    refine lv_bipush (v := (96 : Int32)) hx hb dX6_nextCode_67 (by decide) ?_
    refine lv_icmp_ge (tgt := 76) hx hb dX6_nextCode_69 (by decide) (fun c14 => ?_) (fun c14 => ?_)
    · have h := zif_t c14 h
      refine lv_iconst (v := (-1 : Int32)) hx hb dX6_nextCode_76 (by decide) ?_
      cases zend h
      exact hq hP hD hS dX6_nextCode_77
    · have h := zif_f c14 h
      refine lv_iload_n hx hb dX6_nextCode_72 rfl (lv_at hl 2 rfl) ?_
      refine lv_goto (tgt := 77) hx hb dX6_nextCode_73 (by decide) ?_
      cases zend h
      exact hq hP hD hS dX6_nextCode_77
  clear h
  refine zi1_ind (P := (fun (x2_7h : Int32) => ∀ (H : Heap) (locs : List Loc) (ls : Array Slot), va_P D vwCl (zwM cI cB Mo Mp Ms Mj Ma) H → va_D A (zwM cI cB Mo Mp Ms Mj Ma) → va_S A s.heap H locs → lv_has ls 3 [(0, .ref Mo), (1, .int a0), (2, .int x2_7h)] → W p l e R s m args below meth c H locs 0 0 Q (F0 m 7 ls []))) ?_ i15 _ _ _ hP hD hS (lv_sub hl [1, 2, 0] rfl)
  clear i15 hP hD hS hl
  intro x2_7h z7 h zl7 zr7 H locs ls hP hD hS hl
  refine lv_iload_n hx hb dX6_nextCode_7 rfl (lv_at hl 2 rfl) ?_
  refine lv_bipush (v := (96 : Int32)) hx hb dX6_nextCode_8 (by decide) ?_
  refine lv_icmp_ge (tgt := 57) hx hb dX6_nextCode_10 (by decide) (fun c4 => ?_) (fun c4 => ?_)
  · have h := zif_t c4 h
    cases zr7 _ (zend h).symm
    exact KX57 _ _ _ hP hD hS (lv_sub hl [0, 1, 2] rfl)
  · have h := zif_f c4 h
    refine lv_iload_n hx hb dX6_nextCode_13 rfl (lv_at hl 2 rfl) ?_
    refine lv_bipush (v := (12 : Int32)) hx hb dX6_nextCode_14 (by decide) ?_
    refine lv_irem hx hb dX6_nextCode_16 (by decide) ?_
    refine lv_aload_n hx hb dX6_nextCode_17 rfl (lv_at hl 0 rfl) ?_
    obtain ⟨r5, g6, h⟩ := zb1_s h
    have hFc := va_free (wc := (zwM cI cB Mo Mp Ms Mj Ma)) hD hS hA [0, 1, 2, 3, 4, 5, 6, 7, 8, 9, 10, 11, 12, 13, 14, 15, 16, 17, 18, 19, 20, 21, 22] (zC_53 (cI := cI) (cB := cB) (cO := cO))
    refine zcp_i (va_runV (As := []) (rest := [.int (x2_7h - x2_7h / (12 : Int32) * (12 : Int32))]) ⟨hx, hb, hml, hown, hts⟩ (c_X6_places l D cI cB cO Mo Mp Ms Mj Ma _ _ g6) (cwV 0 hts gX6_nextCode_X6_places rfl rfl rfl kV_X6_places ⟨Nat.le_trans (Nat.le_of_ble_eq_true rfl) hRf, Nat.le_trans (Nat.le_of_ble_eq_true rfl) hRl⟩) (zpreV hK hP hD hS hE hFc [0, 1, 2, 3, 4, 5, 6, 7, 8, 9, 10, 11, 12, 13, 14, 15, 16, 17, 18, 19, 20, 21, 22] (zC_53 (cI := cI) (cB := cB) (cO := cO)) rfl 0 (ci := 6) rfl rfl []) rfl rfl hl.1 rfl (lv_room (Nat.le_of_ble_eq_true rfl)) dX6_nextCode_18 ⟨Nat.zero_le _, Nat.zero_le _⟩) hP hD hS hFc [0, 1, 2, 3, 4, 5, 6, 7, 8, 9, 10, 11, 12, 13, 14, 15, 16, 17, 18, 19, 20, 21, 22] (zC_53 (cI := cI) (cB := cB) (cO := cO)) (fun H locs hP hS => ?_)
    clear hFc
    obtain ⟨J51, eJ51, h⟩ := zjn_s h
    have K51 : ∀ (u : Unit), J51 u = some z7 → ∀ (H : Heap) (locs : List Loc) (ls : Array Slot), va_P D vwCl (zwM cI cB Mo Mp Ms Mj Ma) H → va_D A (zwM cI cB Mo Mp Ms Mj Ma) → va_S A s.heap H locs → lv_has ls 3 [(0, .ref Mo), (1, .int a0), (2, .int x2_7h)] → W p l e R s m args below meth c H locs 0 0 Q (F0 m 51 ls []) := by
      subst eJ51
      intro u h H locs ls hP hD hS hl
      refine lv_iinc (v := (x2_7h + (1 : Int32))) (lv' := [(2, .int (x2_7h + (1 : Int32))), (0, .ref Mo), (1, .int a0)]) hx hb dX6_nextCode_51 hl (k := 2) rfl rfl (by decide) rfl (fun ls hl => ?_)
      refine lv_goto (tgt := 7) hx hb dX6_nextCode_54 (by decide) ?_
      exact zl7 _ (zend h).symm _ _ _ hP hD hS (lv_sub hl [1, 2, 0] rfl)
    clear eJ51
    refine lv_icmp_ge (tgt := 51) hx hb dX6_nextCode_21 (by decide) (fun c7 => ?_) (fun c7 => ?_)
    · have h := zif_t c7 h
      exact K51 _ h _ _ _ hP hD hS (lv_sub hl [0, 1, 2] rfl)
    · have h := zif_f c7 h
      refine lv_iload_n hx hb dX6_nextCode_24 rfl (lv_at hl 2 rfl) ?_
      refine lv_bipush (v := (12 : Int32)) hx hb dX6_nextCode_25 (by decide) ?_
      refine lv_idiv hx hb dX6_nextCode_27 (by decide) ?_
      refine lv_aload_n hx hb dX6_nextCode_28 rfl (lv_at hl 0 rfl) ?_
      refine va_get (D := D) (ci := 6) (v := .int (Ms 4)) (C := RX6) (T := TX6) (N := 40) hx hb hts inX6 hown hK hP 0 rfl rfl 4 (by decide) lk115 (fun _ h9 => h9) rfl dX6_nextCode_29 ?_
      refine lv_icmp_ge (tgt := 51) hx hb dX6_nextCode_32 (by decide) (fun c8 => ?_) (fun c8 => ?_)
      · have h := zif_t c8 h
        exact K51 _ h _ _ _ hP hD hS (lv_sub hl [0, 1, 2] rfl)
      · have h := zif_f c8 h
        refine lv_aload_n hx hb dX6_nextCode_35 rfl (lv_at hl 0 rfl) ?_
        refine lv_iload_n hx hb dX6_nextCode_36 rfl (lv_at hl 1 rfl) ?_
        refine lv_iload_n hx hb dX6_nextCode_37 rfl (lv_at hl 2 rfl) ?_
        refine lv_bipush (v := (12 : Int32)) hx hb dX6_nextCode_38 (by decide) ?_
        refine lv_idiv hx hb dX6_nextCode_40 (by decide) ?_
        refine lv_iload_n hx hb dX6_nextCode_41 rfl (lv_at hl 2 rfl) ?_
        refine lv_bipush (v := (12 : Int32)) hx hb dX6_nextCode_42 (by decide) ?_
        refine lv_irem hx hb dX6_nextCode_44 (by decide) ?_
        obtain ⟨r9, g10, h⟩ := zb1_s h
        have hFc := va_free (wc := (zwM cI cB Mo Mp Ms Mj Ma)) hD hS hA [0, 1, 2, 3, 4, 5, 6, 7, 8, 9, 10, 11, 12, 13, 14, 15, 16, 17, 18, 19, 20, 21, 22] (zC_53 (cI := cI) (cB := cB) (cO := cO))
        refine zcp_i (va_runV (As := [.int a0, .int (x2_7h / (12 : Int32)), .int (x2_7h - x2_7h / (12 : Int32) * (12 : Int32))]) (rest := []) ⟨hx, hb, hml, hown, hts⟩ (c_X6_isJump l D cI cB cO Mo Mp Ms Mj Ma a0 (x2_7h / (12 : Int32)) (x2_7h - x2_7h / (12 : Int32) * (12 : Int32)) _ _ g10) (cwV 3 hts gX6_nextCode_X6_isJump rfl rfl rfl kV_X6_isJump ⟨Nat.le_trans (Nat.le_of_ble_eq_true rfl) hRf, Nat.le_trans (Nat.le_of_ble_eq_true rfl) hRl⟩) (zpreV hK hP hD hS hE hFc [0, 1, 2, 3, 4, 5, 6, 7, 8, 9, 10, 11, 12, 13, 14, 15, 16, 17, 18, 19, 20, 21, 22] (zC_53 (cI := cI) (cB := cB) (cO := cO)) rfl 0 (ci := 6) rfl rfl [.int a0, .int (x2_7h / (12 : Int32)), .int (x2_7h - x2_7h / (12 : Int32) * (12 : Int32))]) rfl rfl hl.1 rfl (lv_room (Nat.le_of_ble_eq_true rfl)) dX6_nextCode_45 ⟨Nat.zero_le _, Nat.zero_le _⟩) hP hD hS hFc [0, 1, 2, 3, 4, 5, 6, 7, 8, 9, 10, 11, 12, 13, 14, 15, 16, 17, 18, 19, 20, 21, 22] (zC_53 (cI := cI) (cB := cB) (cO := cO)) (fun H locs hP hS => ?_)
        clear hFc
        refine lv_if_ne (tgt := 57) hx hb dX6_nextCode_48 (by decide) (fun c11 => ?_) (fun c11 => ?_)
        · have h := zif_f c11 h
          cases zr7 _ (zend h).symm
          exact KX57 _ _ _ hP hD hS (lv_sub hl [0, 1, 2] rfl)
        · have h := zif_t c11 h
          exact K51 _ h _ _ _ hP hD hS (lv_sub hl [0, 1, 2] rfl)
set_option maxHeartbeats 4000000 in
set_option maxRecDepth 100000 in
theorem c_X6_lastPlace (l : Launch) (D : va_G) (cI cB cO : ClassId) (Mo : Nat) (Mp : Nat → Nat) (Ms : Nat → Int32) (Mj : Nat → Int64) (Ma : Nat → Nat → Int32) (a0 : Int32) (rv : Int32) (sz : Nat) (h : fX6_lastPlace Ms Ma a0 = some rv) : Met l yX6_lastPlace wsX6_lastPlace ({ frames := 0, cells := 0, slots := 0, locals := 0 } : Room) (va_Pc [.ref Mo, .int a0] (zPre D (zTY cI cB cO) (zwM cI cB Mo Mp Ms Mj Ma) sz)) (va_Qi (fun r (_ : Unit) => r = rv) (fun _ => zPost D (zTY cI cB cO) (zwM cI cB Mo Mp Ms Mj Ma) (va_A (zwM cI cB Mo Mp Ms Mj Ma) sz)) (va_A (zwM cI cB Mo Mp Ms Mj Ma) sz)) 0 0 (va_A (zwM cI cB Mo Mp Ms Mj Ma) sz) := by
  unfold fX6_lastPlace at h
  refine zmet_i (cc := cX6_lastPlace) (maxL := 4) (by decide) rfl (Nat.le_of_ble_eq_true rfl) rfl rfl ?_
  intro p e s m args below meth c R Q A ls hx hb hts hown hml hK hP hD hE hA hS hRf hRl hl hq
  have hown : s.vm.findClass RX6 = some m.cls := hown
  have hl : lv_has ls 4 [(0, .ref Mo), (1, .int a0)] := hl
  have inX6 : ∀ w ∈ u_ws RX6 TX6 40, w ∈ wsX6_lastPlace := by decide +kernel
  have lk115 : (Cond.fieldLink RX6 115 "PegFieldModel" "pegs" "I").before args s = true := hts _ (by decide +kernel)
  have lk29 : (Cond.fieldLink RX6 29 "PegFieldModel" "deepPlace" "[I").before args s = true := hts _ (by decide +kernel)
  refine lv_iconst (v := (0 : Int32)) hx hb dX6_lastPlace_0 (by decide) ?_
  refine lv_istore_n (lv' := [(2, .int (0 : Int32)), (0, .ref Mo), (1, .int a0)]) hx hb dX6_lastPlace_1 rfl hl (by decide) rfl (fun ls hl => ?_)
  refine lv_iconst (v := (0 : Int32)) hx hb dX6_lastPlace_2 (by decide) ?_
  refine lv_istore_n (lv' := [(3, .int (0 : Int32)), (2, .int (0 : Int32)), (0, .ref Mo), (1, .int a0)]) hx hb dX6_lastPlace_3 rfl hl (by decide) rfl (fun ls hl => ?_)
  obtain ⟨x2_53x4, i8, h⟩ := zb1_s h
  have KX53 : ∀ (H : Heap) (locs : List Loc) (ls : Array Slot), va_P D vwCl (zwM cI cB Mo Mp Ms Mj Ma) H → va_D A (zwM cI cB Mo Mp Ms Mj Ma) → va_S A s.heap H locs → lv_has ls 4 [(2, .int x2_53x4)] → W p l e R s m args below meth c H locs 0 0 Q (F0 m 53 ls []) := by
    intro H locs ls hP hD hS hl
    refine lv_iload_n hx hb dX6_lastPlace_53 rfl (lv_at hl 0 rfl) ?_
    cases zend h
    exact hq hP hD hS dX6_lastPlace_54
  clear h
  refine zi2_ind (P := (fun (x2_4h : Int32) (x3_4h : Int32) => ∀ (H : Heap) (locs : List Loc) (ls : Array Slot), va_P D vwCl (zwM cI cB Mo Mp Ms Mj Ma) H → va_D A (zwM cI cB Mo Mp Ms Mj Ma) → va_S A s.heap H locs → lv_has ls 4 [(0, .ref Mo), (1, .int a0), (2, .int x2_4h), (3, .int x3_4h)] → W p l e R s m args below meth c H locs 0 0 Q (F0 m 4 ls []))) ?_ i8 _ _ _ hP hD hS (lv_sub hl [2, 3, 1, 0] rfl)
  clear i8 hP hD hS hl
  intro x2_4h x3_4h z4 h zl4 zr4 H locs ls hP hD hS hl
  refine lv_iload_n hx hb dX6_lastPlace_4 rfl (lv_at hl 3 rfl) ?_
  refine lv_aload_n hx hb dX6_lastPlace_5 rfl (lv_at hl 0 rfl) ?_
  refine va_get (D := D) (ci := 6) (v := .int (Ms 4)) (C := RX6) (T := TX6) (N := 40) hx hb hts inX6 hown hK hP 0 rfl rfl 4 (by decide) lk115 (fun _ h9 => h9) rfl dX6_lastPlace_6 ?_
  refine lv_icmp_ge (tgt := 53) hx hb dX6_lastPlace_9 (by decide) (fun c2 => ?_) (fun c2 => ?_)
  · have h := zif_t c2 h
    cases zr4 _ (zend h).symm
    exact KX53 _ _ _ hP hD hS (lv_sub hl [2] rfl)
  · have h := zif_f c2 h
    refine lv_iload_n hx hb dX6_lastPlace_12 rfl (lv_at hl 2 rfl) ?_
    refine lv_aload_n hx hb dX6_lastPlace_13 rfl (lv_at hl 0 rfl) ?_
    refine va_get (D := D) (ci := 6) (v := .ref (Mp 17)) (C := RX6) (T := TX6) (N := 40) hx hb hts inX6 hown hK hP 0 rfl rfl 17 (by decide) lk29 (fun _ h9 => h9) rfl dX6_lastPlace_14 ?_
    refine lv_bipush (v := (8 : Int32)) hx hb dX6_lastPlace_17 (by decide) ?_
    refine lv_iload_n hx hb dX6_lastPlace_19 rfl (lv_at hl 1 rfl) ?_
    refine lv_imul hx hb dX6_lastPlace_20 ?_
    refine lv_iload_n hx hb dX6_lastPlace_21 rfl (lv_at hl 3 rfl) ?_
    refine lv_iadd hx hb dX6_lastPlace_22 ?_
    obtain ⟨z3, h⟩ := zck_s h
    refine va_iald hx hb hK hP 7 0 rfl rfl (zin_s z3) dX6_lastPlace_23 ?_
    refine lv_iconst (v := (-1 : Int32)) hx hb dX6_lastPlace_24 (by decide) ?_
    obtain ⟨v45, j5, h⟩ := zb1_s h
    have K45 : ∀ (H : Heap) (locs : List Loc) (ls : Array Slot), va_P D vwCl (zwM cI cB Mo Mp Ms Mj Ma) H → va_D A (zwM cI cB Mo Mp Ms Mj Ma) → va_S A s.heap H locs → lv_has ls 4 [(0, .ref Mo), (1, .int a0), (3, .int x3_4h)] → W p l e R s m args below meth c H locs 0 0 Q (F0 m 45 ls [.int v45, .int x2_4h]) := by
      intro H locs ls hP hD hS hl
      refine lv_ior hx hb dX6_lastPlace_45 ?_
      refine lv_topi (fun x2_4 ex2_4 => ?_)
      have h := zlt_s h ex2_4
      refine lv_istore_n (lv' := [(2, .int x2_4), (0, .ref Mo), (1, .int a0), (3, .int x3_4h)]) hx hb dX6_lastPlace_46 rfl hl (by decide) rfl (fun ls hl => ?_)
      refine lv_iinc (v := (x3_4h + (1 : Int32))) (lv' := [(3, .int (x3_4h + (1 : Int32))), (2, .int x2_4), (0, .ref Mo), (1, .int a0)]) hx hb dX6_lastPlace_47 hl (k := 3) rfl rfl (by decide) rfl (fun ls hl => ?_)
      refine lv_goto (tgt := 4) hx hb dX6_lastPlace_50 (by decide) ?_
      exact zl4 _ _ (zend h).symm _ _ _ hP hD hS (lv_sub hl [2, 3, 1, 0] rfl)
    clear h
    have h := j5
    clear j5
    refine lv_icmp_ne (tgt := 32) hx hb dX6_lastPlace_25 (by decide) (fun c6 => ?_) (fun c6 => ?_)
    · have h := zif_f c6 h
      refine lv_iconst (v := (1 : Int32)) hx hb dX6_lastPlace_32 (by decide) ?_
      refine lv_aload_n hx hb dX6_lastPlace_33 rfl (lv_at hl 0 rfl) ?_
      refine va_get (D := D) (ci := 6) (v := .ref (Mp 17)) (C := RX6) (T := TX6) (N := 40) hx hb hts inX6 hown hK hP 0 rfl rfl 17 (by decide) lk29 (fun _ h9 => h9) rfl dX6_lastPlace_34 ?_
      refine lv_bipush (v := (8 : Int32)) hx hb dX6_lastPlace_37 (by decide) ?_
      refine lv_iload_n hx hb dX6_lastPlace_39 rfl (lv_at hl 1 rfl) ?_
      refine lv_imul hx hb dX6_lastPlace_40 ?_
      refine lv_iload_n hx hb dX6_lastPlace_41 rfl (lv_at hl 3 rfl) ?_
      refine lv_iadd hx hb dX6_lastPlace_42 ?_
      obtain ⟨z7, h⟩ := zck_s h
      refine va_iald hx hb hK hP 7 0 rfl rfl (zin_s z7) dX6_lastPlace_43 ?_
      refine lv_ishl hx hb dX6_lastPlace_44 ?_
      cases zend h
      exact K45 _ _ _ hP hD hS (lv_sub hl [0, 1, 3] rfl)
    · have h := zif_t c6 h
      refine lv_iconst (v := (0 : Int32)) hx hb dX6_lastPlace_28 (by decide) ?_
      refine lv_goto (tgt := 45) hx hb dX6_lastPlace_29 (by decide) ?_
      cases zend h
      exact K45 _ _ _ hP hD hS (lv_sub hl [0, 1, 3] rfl)
set_option maxHeartbeats 4000000 in
set_option maxRecDepth 100000 in
theorem c_X6_end (l : Launch) (D : va_G) (cI cB cO : ClassId) (Mo : Nat) (Mp : Nat → Nat) (Ms : Nat → Int32) (Mj : Nat → Int64) (Ma : Nat → Nat → Int32) (a0 : Int32) (Ma' : Nat → Nat → Int32) (sz : Nat) (h : fX6_end Ms Ma a0 = some Ma') : Met l yX6_end wsX6_end ({ frames := 1, cells := 0, slots := 0, locals := 23 } : Room) (va_Pc [.ref Mo, .int a0] (zPre D (zTY cI cB cO) (zwM cI cB Mo Mp Ms Mj Ma) sz)) (va_Qv (fun (_ : Unit) => True) (fun _ => zPost D (zTY cI cB cO) (zwM cI cB Mo Mp Ms Mj Ma') (va_A (zwM cI cB Mo Mp Ms Mj Ma) sz)) (va_A (zwM cI cB Mo Mp Ms Mj Ma) sz)) 0 0 (va_A (zwM cI cB Mo Mp Ms Mj Ma) sz) := by
  unfold fX6_end at h
  refine zmet_v (cc := cX6_end) (maxL := 3) (by decide) rfl (Nat.le_of_ble_eq_true rfl) rfl rfl ?_
  intro p e s m args below meth c R Q A ls hx hb hts hown hml hK hP hD hE hA hS hRf hRl hl hq
  have hown : s.vm.findClass RX6 = some m.cls := hown
  have hl : lv_has ls 3 [(0, .ref Mo), (1, .int a0)] := hl
  have inX6 : ∀ w ∈ u_ws RX6 TX6 40, w ∈ wsX6_end := by decide +kernel
  have lk38 : (Cond.fieldLink RX6 38 "PegFieldModel" "waysOf" "[I").before args s = true := hts _ (by decide +kernel)
  have lk41 : (Cond.fieldLink RX6 41 "PegFieldModel" "fewestOf" "[I").before args s = true := hts _ (by decide +kernel)
  have lk47 : (Cond.fieldLink RX6 47 "PegFieldModel" "longestOf" "[I").before args s = true := hts _ (by decide +kernel)
  have lk50 : (Cond.fieldLink RX6 50 "PegFieldModel" "shortestOf" "[I").before args s = true := hts _ (by decide +kernel)
  have lk53 : (Cond.fieldLink RX6 53 "PegFieldModel" "aloneOf" "[I").before args s = true := hts _ (by decide +kernel)
  have lk59 : (Cond.fieldLink RX6 59 "PegFieldModel" "sumOf" "[I").before args s = true := hts _ (by decide +kernel)
  have lk35 : (Cond.fieldLink RX6 35 "PegFieldModel" "jumpsOf" "[I").before args s = true := hts _ (by decide +kernel)
  refine lv_aload_n hx hb dX6_end_0 rfl (lv_at hl 0 rfl) ?_
  refine lv_iload_n hx hb dX6_end_1 rfl (lv_at hl 1 rfl) ?_
  obtain ⟨r1, g2, h⟩ := zb1_s h
  have hFc := va_free (wc := (zwM cI cB Mo Mp Ms Mj Ma)) hD hS hA [0, 1, 2, 3, 4, 5, 6, 7, 8, 9, 10, 11, 12, 13, 14, 15, 16, 17, 18, 19, 20, 21, 22] (zC_53 (cI := cI) (cB := cB) (cO := cO))
  refine zcp_i (va_runV (As := [.int a0]) (rest := []) ⟨hx, hb, hml, hown, hts⟩ (c_X6_onBoard l D cI cB cO Mo Mp Ms Mj Ma a0 _ _ g2) (cwV 1 hts gX6_end_X6_onBoard rfl rfl rfl kV_X6_onBoard ⟨Nat.le_trans (Nat.le_of_ble_eq_true rfl) hRf, Nat.le_trans (Nat.le_of_ble_eq_true rfl) hRl⟩) (zpreV hK hP hD hS hE hFc [0, 1, 2, 3, 4, 5, 6, 7, 8, 9, 10, 11, 12, 13, 14, 15, 16, 17, 18, 19, 20, 21, 22] (zC_53 (cI := cI) (cB := cB) (cO := cO)) rfl 0 (ci := 6) rfl rfl [.int a0]) rfl rfl hl.1 rfl (lv_room (Nat.le_of_ble_eq_true rfl)) dX6_end_2 ⟨Nat.zero_le _, Nat.zero_le _⟩) hP hD hS hFc [0, 1, 2, 3, 4, 5, 6, 7, 8, 9, 10, 11, 12, 13, 14, 15, 16, 17, 18, 19, 20, 21, 22] (zC_53 (cI := cI) (cB := cB) (cO := cO)) (fun H locs hP hS => ?_)
  clear hFc
  refine lv_istore_n (lv' := [(2, .int r1), (0, .ref Mo), (1, .int a0)]) hx hb dX6_end_5 rfl hl (by decide) rfl (fun ls hl => ?_)
  refine lv_aload_n hx hb dX6_end_6 rfl (lv_at hl 1 rfl) ?_
  refine va_get (D := D) (ci := 6) (v := .ref (Mp 20)) (C := RX6) (T := TX6) (N := 40) hx hb hts inX6 hown hK hP 0 rfl rfl 20 (by decide) lk38 (fun _ h9 => h9) rfl dX6_end_7 ?_
  refine lv_iload_n hx hb dX6_end_10 rfl (lv_at hl 2 rfl) ?_
  refine lv_iconst (v := (1 : Int32)) hx hb dX6_end_11 (by decide) ?_
  obtain ⟨z3, h⟩ := zck_s h
  refine va_iast hx hb hK hP hD hS 10 0 rfl rfl (zin_s z3) dX6_end_12 (fun H locs hP hD hS => ?_)
  have hset : ∀ v9 : Nat → Int32, (zwM cI cB Mo Mp Ms Mj Ma).set 10 ((Mp 20), .inl (cI, 9, .inl v9)) = (zwM cI cB Mo Mp Ms Mj (va_up Ma 20 v9)) := fun _ => rfl
  obtain ⟨Ma_4, eMa_4, hP, hD⟩ : ∃ y9, y9 = (va_up Ma 20 (upd (Ma 20) (a0).toNatClampNeg (1 : Int32))) ∧ va_P D vwCl (zwM cI cB Mo Mp Ms Mj y9) H ∧ va_D A (zwM cI cB Mo Mp Ms Mj y9) := ⟨_, rfl, zsetP (hset _) hP, zsetD (hset _) hD⟩
  have h := zlt_s h eMa_4
  clear hset
  refine lv_aload_n hx hb dX6_end_13 rfl (lv_at hl 1 rfl) ?_
  refine va_get (D := D) (ci := 6) (v := .ref (Mp 21)) (C := RX6) (T := TX6) (N := 40) hx hb hts inX6 hown hK hP 0 rfl rfl 21 (by decide) lk41 (fun _ h9 => h9) rfl dX6_end_14 ?_
  refine lv_iload_n hx hb dX6_end_17 rfl (lv_at hl 2 rfl) ?_
  refine lv_iload_n hx hb dX6_end_18 rfl (lv_at hl 0 rfl) ?_
  obtain ⟨z5, h⟩ := zck_s h
  refine va_iast hx hb hK hP hD hS 11 0 rfl rfl (zin_s z5) dX6_end_19 (fun H locs hP hD hS => ?_)
  have hset : ∀ v9 : Nat → Int32, (zwM cI cB Mo Mp Ms Mj Ma_4).set 11 ((Mp 21), .inl (cI, 9, .inl v9)) = (zwM cI cB Mo Mp Ms Mj (va_up Ma_4 21 v9)) := fun _ => rfl
  obtain ⟨Ma_6, eMa_6, hP, hD⟩ : ∃ y9, y9 = (va_up Ma_4 21 (upd (Ma_4 21) (a0).toNatClampNeg r1)) ∧ va_P D vwCl (zwM cI cB Mo Mp Ms Mj y9) H ∧ va_D A (zwM cI cB Mo Mp Ms Mj y9) := ⟨_, rfl, zsetP (hset _) hP, zsetD (hset _) hD⟩
  have h := zlt_s h eMa_6
  clear hset
  refine lv_aload_n hx hb dX6_end_20 rfl (lv_at hl 1 rfl) ?_
  refine va_get (D := D) (ci := 6) (v := .ref (Mp 23)) (C := RX6) (T := TX6) (N := 40) hx hb hts inX6 hown hK hP 0 rfl rfl 23 (by decide) lk47 (fun _ h9 => h9) rfl dX6_end_21 ?_
  refine lv_iload_n hx hb dX6_end_24 rfl (lv_at hl 2 rfl) ?_
  refine lv_iconst (v := (0 : Int32)) hx hb dX6_end_25 (by decide) ?_
  obtain ⟨z7, h⟩ := zck_s h
  refine va_iast hx hb hK hP hD hS 13 0 rfl rfl (zin_s z7) dX6_end_26 (fun H locs hP hD hS => ?_)
  have hset : ∀ v9 : Nat → Int32, (zwM cI cB Mo Mp Ms Mj Ma_6).set 13 ((Mp 23), .inl (cI, 9, .inl v9)) = (zwM cI cB Mo Mp Ms Mj (va_up Ma_6 23 v9)) := fun _ => rfl
  obtain ⟨Ma_8, eMa_8, hP, hD⟩ : ∃ y9, y9 = (va_up Ma_6 23 (upd (Ma_6 23) (a0).toNatClampNeg (0 : Int32))) ∧ va_P D vwCl (zwM cI cB Mo Mp Ms Mj y9) H ∧ va_D A (zwM cI cB Mo Mp Ms Mj y9) := ⟨_, rfl, zsetP (hset _) hP, zsetD (hset _) hD⟩
  have h := zlt_s h eMa_8
  clear hset
  refine lv_aload_n hx hb dX6_end_27 rfl (lv_at hl 1 rfl) ?_
  refine va_get (D := D) (ci := 6) (v := .ref (Mp 24)) (C := RX6) (T := TX6) (N := 40) hx hb hts inX6 hown hK hP 0 rfl rfl 24 (by decide) lk50 (fun _ h9 => h9) rfl dX6_end_28 ?_
  refine lv_iload_n hx hb dX6_end_31 rfl (lv_at hl 2 rfl) ?_
  refine lv_iconst (v := (0 : Int32)) hx hb dX6_end_32 (by decide) ?_
  obtain ⟨z9, h⟩ := zck_s h
  refine va_iast hx hb hK hP hD hS 14 0 rfl rfl (zin_s z9) dX6_end_33 (fun H locs hP hD hS => ?_)
  have hset : ∀ v9 : Nat → Int32, (zwM cI cB Mo Mp Ms Mj Ma_8).set 14 ((Mp 24), .inl (cI, 9, .inl v9)) = (zwM cI cB Mo Mp Ms Mj (va_up Ma_8 24 v9)) := fun _ => rfl
  obtain ⟨Ma_10, eMa_10, hP, hD⟩ : ∃ y9, y9 = (va_up Ma_8 24 (upd (Ma_8 24) (a0).toNatClampNeg (0 : Int32))) ∧ va_P D vwCl (zwM cI cB Mo Mp Ms Mj y9) H ∧ va_D A (zwM cI cB Mo Mp Ms Mj y9) := ⟨_, rfl, zsetP (hset _) hP, zsetD (hset _) hD⟩
  have h := zlt_s h eMa_10
  clear hset
  refine lv_aload_n hx hb dX6_end_34 rfl (lv_at hl 1 rfl) ?_
  refine va_get (D := D) (ci := 6) (v := .ref (Mp 25)) (C := RX6) (T := TX6) (N := 40) hx hb hts inX6 hown hK hP 0 rfl rfl 25 (by decide) lk53 (fun _ h9 => h9) rfl dX6_end_35 ?_
  refine lv_iload_n hx hb dX6_end_38 rfl (lv_at hl 2 rfl) ?_
  refine lv_iload_n hx hb dX6_end_39 rfl (lv_at hl 0 rfl) ?_
  refine lv_iconst (v := (1 : Int32)) hx hb dX6_end_40 (by decide) ?_
  obtain ⟨v53, j17, h⟩ := zb1_s h
  have K53 : ∀ (H : Heap) (locs : List Loc) (ls : Array Slot), va_P D vwCl (zwM cI cB Mo Mp Ms Mj Ma_10) H → va_D A (zwM cI cB Mo Mp Ms Mj Ma_10) → va_S A s.heap H locs → lv_has ls 3 [(0, .ref Mo), (1, .int a0), (2, .int r1)] → W p l e R s m args below meth c H locs 0 0 Q (F0 m 53 ls [.int v53, .int a0, .ref (Mp 25)]) := by
    intro H locs ls hP hD hS hl
    obtain ⟨z11, h⟩ := zck_s h
    refine va_iast hx hb hK hP hD hS 15 0 rfl rfl (zin_s z11) dX6_end_53 (fun H locs hP hD hS => ?_)
    have hset : ∀ v9 : Nat → Int32, (zwM cI cB Mo Mp Ms Mj Ma_10).set 15 ((Mp 25), .inl (cI, 9, .inl v9)) = (zwM cI cB Mo Mp Ms Mj (va_up Ma_10 25 v9)) := fun _ => rfl
    obtain ⟨Ma_12, eMa_12, hP, hD⟩ : ∃ y9, y9 = (va_up Ma_10 25 (upd (Ma_10 25) (a0).toNatClampNeg v53)) ∧ va_P D vwCl (zwM cI cB Mo Mp Ms Mj y9) H ∧ va_D A (zwM cI cB Mo Mp Ms Mj y9) := ⟨_, rfl, zsetP (hset _) hP, zsetD (hset _) hD⟩
    have h := zlt_s h eMa_12
    clear hset
    refine lv_aload_n hx hb dX6_end_54 rfl (lv_at hl 0 rfl) ?_
    refine va_get (D := D) (ci := 6) (v := .ref (Mp 27)) (C := RX6) (T := TX6) (N := 40) hx hb hts inX6 hown hK hP 0 rfl rfl 27 (by decide) lk59 (fun _ h9 => h9) rfl dX6_end_55 ?_
    refine lv_iload_n hx hb dX6_end_58 rfl (lv_at hl 1 rfl) ?_
    refine lv_sipush (v := (1000 : Int32)) hx hb dX6_end_59 (by decide) ?_
    refine lv_iload_n hx hb dX6_end_62 rfl (lv_at hl 2 rfl) ?_
    refine lv_imul hx hb dX6_end_63 ?_
    obtain ⟨z13, h⟩ := zck_s h
    refine va_iast hx hb hK hP hD hS 17 0 rfl rfl (zin_s z13) dX6_end_64 (fun H locs hP hD hS => ?_)
    have hset : ∀ v9 : Nat → Int32, (zwM cI cB Mo Mp Ms Mj Ma_12).set 17 ((Mp 27), .inl (cI, 9, .inl v9)) = (zwM cI cB Mo Mp Ms Mj (va_up Ma_12 27 v9)) := fun _ => rfl
    obtain ⟨Ma_14, eMa_14, hP, hD⟩ : ∃ y9, y9 = (va_up Ma_12 27 (upd (Ma_12 27) (a0).toNatClampNeg ((1000 : Int32) * r1))) ∧ va_P D vwCl (zwM cI cB Mo Mp Ms Mj y9) H ∧ va_D A (zwM cI cB Mo Mp Ms Mj y9) := ⟨_, rfl, zsetP (hset _) hP, zsetD (hset _) hD⟩
    have h := zlt_s h eMa_14
    clear hset
    refine lv_aload_n hx hb dX6_end_65 rfl (lv_at hl 0 rfl) ?_
    refine va_get (D := D) (ci := 6) (v := .ref (Mp 19)) (C := RX6) (T := TX6) (N := 40) hx hb hts inX6 hown hK hP 0 rfl rfl 19 (by decide) lk35 (fun _ h9 => h9) rfl dX6_end_66 ?_
    refine lv_iload_n hx hb dX6_end_69 rfl (lv_at hl 1 rfl) ?_
    refine lv_iconst (v := (1 : Int32)) hx hb dX6_end_70 (by decide) ?_
    obtain ⟨z15, h⟩ := zck_s h
    refine va_iast hx hb hK hP hD hS 9 0 rfl rfl (zin_s z15) dX6_end_71 (fun H locs hP hD hS => ?_)
    have hset : ∀ v9 : Nat → Int32, (zwM cI cB Mo Mp Ms Mj Ma_14).set 9 ((Mp 19), .inl (cI, 9, .inl v9)) = (zwM cI cB Mo Mp Ms Mj (va_up Ma_14 19 v9)) := fun _ => rfl
    obtain ⟨Ma_16, eMa_16, hP, hD⟩ : ∃ y9, y9 = (va_up Ma_14 19 (upd (Ma_14 19) (a0).toNatClampNeg (1 : Int32))) ∧ va_P D vwCl (zwM cI cB Mo Mp Ms Mj y9) H ∧ va_D A (zwM cI cB Mo Mp Ms Mj y9) := ⟨_, rfl, zsetP (hset _) hP, zsetD (hset _) hD⟩
    have h := zlt_s h eMa_16
    clear hset
    cases zend h
    exact hq hP hD hS dX6_end_72
  clear h
  have h := j17
  clear j17
  refine lv_icmp_ne (tgt := 52) hx hb dX6_end_41 (by decide) (fun c18 => ?_) (fun c18 => ?_)
  · have h := zif_f c18 h
    refine lv_iconst (v := (0 : Int32)) hx hb dX6_end_52 (by decide) ?_
    cases zend h
    exact K53 _ _ _ hP hD hS (lv_sub hl [1, 2, 0] rfl)
  · have h := zif_t c18 h
    refine lv_aload_n hx hb dX6_end_44 rfl (lv_at hl 1 rfl) ?_
    refine lv_iload_n hx hb dX6_end_45 rfl (lv_at hl 2 rfl) ?_
    obtain ⟨r19, g20, h⟩ := zb1_s h
    have hFc := va_free (wc := (zwM cI cB Mo Mp Ms Mj Ma_10)) hD hS hA [0, 1, 2, 3, 4, 5, 6, 7, 8, 9, 10, 11, 12, 13, 14, 15, 16, 17, 18, 19, 20, 21, 22] (zC_53 (cI := cI) (cB := cB) (cO := cO))
    refine zcp_i (va_runV (As := [.int a0]) (rest := [.int a0, .ref (Mp 25)]) ⟨hx, hb, hml, hown, hts⟩ (c_X6_lastPlace l D cI cB cO Mo Mp Ms Mj Ma_10 a0 _ _ g20) (cwV 1 hts gX6_end_X6_lastPlace rfl rfl rfl kV_X6_lastPlace ⟨Nat.le_trans (Nat.le_of_ble_eq_true rfl) hRf, Nat.le_trans (Nat.le_of_ble_eq_true rfl) hRl⟩) (zpreV hK hP hD hS hE hFc [0, 1, 2, 3, 4, 5, 6, 7, 8, 9, 10, 11, 12, 13, 14, 15, 16, 17, 18, 19, 20, 21, 22] (zC_53 (cI := cI) (cB := cB) (cO := cO)) rfl 0 (ci := 6) rfl rfl [.int a0]) rfl rfl hl.1 rfl (lv_room (Nat.le_of_ble_eq_true rfl)) dX6_end_46 ⟨Nat.zero_le _, Nat.zero_le _⟩) hP hD hS hFc [0, 1, 2, 3, 4, 5, 6, 7, 8, 9, 10, 11, 12, 13, 14, 15, 16, 17, 18, 19, 20, 21, 22] (zC_53 (cI := cI) (cB := cB) (cO := cO)) (fun H locs hP hS => ?_)
    clear hFc
    refine lv_goto (tgt := 53) hx hb dX6_end_49 (by decide) ?_
    cases zend h
    exact K53 _ _ _ hP hD hS (lv_sub hl [1, 2, 0] rfl)
set_option maxHeartbeats 4000000 in
set_option maxRecDepth 100000 in
theorem c_X6_takeUp (l : Launch) (D : va_G) (cI cB cO : ClassId) (Mo : Nat) (Mp : Nat → Nat) (Ms : Nat → Int32) (Mj : Nat → Int64) (Ma : Nat → Nat → Int32) (a0 : Int32) (a1 : Int32) (Ma' : Nat → Nat → Int32) (sz : Nat) (h : fX6_takeUp Ma a0 a1 = some Ma') : Met l yX6_takeUp wsX6_takeUp ({ frames := 0, cells := 0, slots := 0, locals := 0 } : Room) (va_Pc [.ref Mo, .int a0, .int a1] (zPre D (zTY cI cB cO) (zwM cI cB Mo Mp Ms Mj Ma) sz)) (va_Qv (fun (_ : Unit) => True) (fun _ => zPost D (zTY cI cB cO) (zwM cI cB Mo Mp Ms Mj Ma') (va_A (zwM cI cB Mo Mp Ms Mj Ma) sz)) (va_A (zwM cI cB Mo Mp Ms Mj Ma) sz)) 0 0 (va_A (zwM cI cB Mo Mp Ms Mj Ma) sz) := by
  unfold fX6_takeUp at h
  refine zmet_v (cc := cX6_takeUp) (maxL := 5) (by decide) rfl (Nat.le_of_ble_eq_true rfl) rfl rfl ?_
  intro p e s m args below meth c R Q A ls hx hb hts hown hml hK hP hD hE hA hS hRf hRl hl hq
  have hown : s.vm.findClass RX6 = some m.cls := hown
  have hl : lv_has ls 5 [(0, .ref Mo), (1, .int a0), (2, .int a1)] := hl
  have inX6 : ∀ w ∈ u_ws RX6 TX6 40, w ∈ wsX6_takeUp := by decide +kernel
  have lk35 : (Cond.fieldLink RX6 35 "PegFieldModel" "jumpsOf" "[I").before args s = true := hts _ (by decide +kernel)
  have lk38 : (Cond.fieldLink RX6 38 "PegFieldModel" "waysOf" "[I").before args s = true := hts _ (by decide +kernel)
  have lk44 : (Cond.fieldLink RX6 44 "PegFieldModel" "firstOf" "[I").before args s = true := hts _ (by decide +kernel)
  have lk41 : (Cond.fieldLink RX6 41 "PegFieldModel" "fewestOf" "[I").before args s = true := hts _ (by decide +kernel)
  have lk47 : (Cond.fieldLink RX6 47 "PegFieldModel" "longestOf" "[I").before args s = true := hts _ (by decide +kernel)
  have lk50 : (Cond.fieldLink RX6 50 "PegFieldModel" "shortestOf" "[I").before args s = true := hts _ (by decide +kernel)
  have lk53 : (Cond.fieldLink RX6 53 "PegFieldModel" "aloneOf" "[I").before args s = true := hts _ (by decide +kernel)
  have lk56 : (Cond.fieldLink RX6 56 "PegFieldModel" "winOf" "[I").before args s = true := hts _ (by decide +kernel)
  have lk59 : (Cond.fieldLink RX6 59 "PegFieldModel" "sumOf" "[I").before args s = true := hts _ (by decide +kernel)
  refine lv_iload_n hx hb dX6_takeUp_0 rfl (lv_at hl 1 rfl) ?_
  refine lv_iconst (v := (1 : Int32)) hx hb dX6_takeUp_1 (by decide) ?_
  refine lv_iadd hx hb dX6_takeUp_2 ?_
  refine lv_topi (fun x3_1 ex3_1 => ?_)
  have h := zlt_s h ex3_1
  refine lv_istore_n (lv' := [(3, .int x3_1), (0, .ref Mo), (1, .int a0), (2, .int a1)]) hx hb dX6_takeUp_3 rfl hl (by decide) rfl (fun ls hl => ?_)
  refine lv_bipush (v := (100 : Int32)) hx hb dX6_takeUp_4 (by decide) ?_
  refine lv_iload_n hx hb dX6_takeUp_6 rfl (lv_at hl 3 rfl) ?_
  refine lv_bipush (v := (12 : Int32)) hx hb dX6_takeUp_7 (by decide) ?_
  refine lv_idiv hx hb dX6_takeUp_9 (by decide) ?_
  refine lv_imul hx hb dX6_takeUp_10 ?_
  refine lv_iload_n hx hb dX6_takeUp_11 rfl (lv_at hl 3 rfl) ?_
  refine lv_bipush (v := (12 : Int32)) hx hb dX6_takeUp_12 (by decide) ?_
  refine lv_irem hx hb dX6_takeUp_14 (by decide) ?_
  refine lv_iadd hx hb dX6_takeUp_15 ?_
  refine lv_topi (fun x4_2 ex4_2 => ?_)
  have h := zlt_s h ex4_2
  refine lv_istore (lv' := [(4, .int x4_2), (3, .int x3_1), (0, .ref Mo), (1, .int a0), (2, .int a1)]) hx hb dX6_takeUp_16 hl (by decide) rfl (fun ls hl => ?_)
  refine lv_aload_n hx hb dX6_takeUp_18 rfl (lv_at hl 2 rfl) ?_
  refine va_get (D := D) (ci := 6) (v := .ref (Mp 19)) (C := RX6) (T := TX6) (N := 40) hx hb hts inX6 hown hK hP 0 rfl rfl 19 (by decide) lk35 (fun _ h9 => h9) rfl dX6_takeUp_19 ?_
  refine lv_iload_n hx hb dX6_takeUp_22 rfl (lv_at hl 3 rfl) ?_
  refine lv_dup2_11 hx hb dX6_takeUp_23 rfl rfl ?_
  obtain ⟨z3, h⟩ := zck_s h
  refine va_iald hx hb hK hP 9 0 rfl rfl (zin_s z3) dX6_takeUp_24 ?_
  refine lv_iconst (v := (1 : Int32)) hx hb dX6_takeUp_25 (by decide) ?_
  refine lv_iadd hx hb dX6_takeUp_26 ?_
  obtain ⟨z4, h⟩ := zck_s h
  refine va_iast hx hb hK hP hD hS 9 0 rfl rfl (zin_s z4) dX6_takeUp_27 (fun H locs hP hD hS => ?_)
  have hset : ∀ v9 : Nat → Int32, (zwM cI cB Mo Mp Ms Mj Ma).set 9 ((Mp 19), .inl (cI, 9, .inl v9)) = (zwM cI cB Mo Mp Ms Mj (va_up Ma 19 v9)) := fun _ => rfl
  obtain ⟨Ma_5, eMa_5, hP, hD⟩ : ∃ y9, y9 = (va_up Ma 19 (upd (Ma 19) (a0).toNatClampNeg (((Ma 19) (a0).toNatClampNeg) + (1 : Int32)))) ∧ va_P D vwCl (zwM cI cB Mo Mp Ms Mj y9) H ∧ va_D A (zwM cI cB Mo Mp Ms Mj y9) := ⟨_, rfl, zsetP (hset _) hP, zsetD (hset _) hD⟩
  have h := zlt_s h eMa_5
  clear hset
  refine lv_aload_n hx hb dX6_takeUp_28 rfl (lv_at hl 2 rfl) ?_
  refine va_get (D := D) (ci := 6) (v := .ref (Mp 20)) (C := RX6) (T := TX6) (N := 40) hx hb hts inX6 hown hK hP 0 rfl rfl 20 (by decide) lk38 (fun _ h9 => h9) rfl dX6_takeUp_29 ?_
  refine lv_iload_n hx hb dX6_takeUp_32 rfl (lv_at hl 3 rfl) ?_
  refine lv_dup2_11 hx hb dX6_takeUp_33 rfl rfl ?_
  obtain ⟨z6, h⟩ := zck_s h
  refine va_iald hx hb hK hP 10 0 rfl rfl (zin_s z6) dX6_takeUp_34 ?_
  refine lv_aload_n hx hb dX6_takeUp_35 rfl (lv_at hl 2 rfl) ?_
  refine va_get (D := D) (ci := 6) (v := .ref (Mp 20)) (C := RX6) (T := TX6) (N := 40) hx hb hts inX6 hown hK hP 0 rfl rfl 20 (by decide) lk38 (fun _ h9 => h9) rfl dX6_takeUp_36 ?_
  refine lv_iload_n hx hb dX6_takeUp_39 rfl (lv_at hl 1 rfl) ?_
  obtain ⟨z7, h⟩ := zck_s h
  refine va_iald hx hb hK hP 10 0 rfl rfl (zin_s z7) dX6_takeUp_40 ?_
  refine lv_iadd hx hb dX6_takeUp_41 ?_
  obtain ⟨z8, h⟩ := zck_s h
  refine va_iast hx hb hK hP hD hS 10 0 rfl rfl (zin_s z8) dX6_takeUp_42 (fun H locs hP hD hS => ?_)
  have hset : ∀ v9 : Nat → Int32, (zwM cI cB Mo Mp Ms Mj Ma_5).set 10 ((Mp 20), .inl (cI, 9, .inl v9)) = (zwM cI cB Mo Mp Ms Mj (va_up Ma_5 20 v9)) := fun _ => rfl
  obtain ⟨Ma_9, eMa_9, hP, hD⟩ : ∃ y9, y9 = (va_up Ma_5 20 (upd (Ma_5 20) (a0).toNatClampNeg (((Ma_5 20) (a0).toNatClampNeg) + ((Ma_5 20) (x3_1).toNatClampNeg)))) ∧ va_P D vwCl (zwM cI cB Mo Mp Ms Mj y9) H ∧ va_D A (zwM cI cB Mo Mp Ms Mj y9) := ⟨_, rfl, zsetP (hset _) hP, zsetD (hset _) hD⟩
  have h := zlt_s h eMa_9
  clear hset
  refine lv_aload_n hx hb dX6_takeUp_43 rfl (lv_at hl 2 rfl) ?_
  refine va_get (D := D) (ci := 6) (v := .ref (Mp 22)) (C := RX6) (T := TX6) (N := 40) hx hb hts inX6 hown hK hP 0 rfl rfl 22 (by decide) lk44 (fun _ h9 => h9) rfl dX6_takeUp_44 ?_
  refine lv_iload_n hx hb dX6_takeUp_47 rfl (lv_at hl 3 rfl) ?_
  refine lv_aload_n hx hb dX6_takeUp_48 rfl (lv_at hl 2 rfl) ?_
  refine va_get (D := D) (ci := 6) (v := .ref (Mp 21)) (C := RX6) (T := TX6) (N := 40) hx hb hts inX6 hown hK hP 0 rfl rfl 21 (by decide) lk41 (fun _ h9 => h9) rfl dX6_takeUp_49 ?_
  refine lv_iload_n hx hb dX6_takeUp_52 rfl (lv_at hl 1 rfl) ?_
  obtain ⟨z10, h⟩ := zck_s h
  refine va_iald hx hb hK hP 11 0 rfl rfl (zin_s z10) dX6_takeUp_53 ?_
  refine lv_aload_n hx hb dX6_takeUp_54 rfl (lv_at hl 2 rfl) ?_
  refine va_get (D := D) (ci := 6) (v := .ref (Mp 21)) (C := RX6) (T := TX6) (N := 40) hx hb hts inX6 hown hK hP 0 rfl rfl 21 (by decide) lk41 (fun _ h9 => h9) rfl dX6_takeUp_55 ?_
  refine lv_iload_n hx hb dX6_takeUp_58 rfl (lv_at hl 3 rfl) ?_
  obtain ⟨z11, h⟩ := zck_s h
  refine va_iald hx hb hK hP 11 0 rfl rfl (zin_s z11) dX6_takeUp_59 ?_
  obtain ⟨v74, j56, h⟩ := zb1_s h
  have K74 : ∀ (H : Heap) (locs : List Loc) (ls : Array Slot), va_P D vwCl (zwM cI cB Mo Mp Ms Mj Ma_9) H → va_D A (zwM cI cB Mo Mp Ms Mj Ma_9) → va_S A s.heap H locs → lv_has ls 5 [(0, .ref Mo), (1, .int a0), (3, .int x3_1), (4, .int x4_2)] → W p l e R s m args below meth c H locs 0 0 Q (F0 m 74 ls [.int v74, .int a0, .ref (Mp 22)]) := by
    intro H locs ls hP hD hS hl
    obtain ⟨z12, h⟩ := zck_s h
    refine va_iast hx hb hK hP hD hS 12 0 rfl rfl (zin_s z12) dX6_takeUp_74 (fun H locs hP hD hS => ?_)
    have hset : ∀ v9 : Nat → Int32, (zwM cI cB Mo Mp Ms Mj Ma_9).set 12 ((Mp 22), .inl (cI, 9, .inl v9)) = (zwM cI cB Mo Mp Ms Mj (va_up Ma_9 22 v9)) := fun _ => rfl
    obtain ⟨Ma_13, eMa_13, hP, hD⟩ : ∃ y9, y9 = (va_up Ma_9 22 (upd (Ma_9 22) (a0).toNatClampNeg v74)) ∧ va_P D vwCl (zwM cI cB Mo Mp Ms Mj y9) H ∧ va_D A (zwM cI cB Mo Mp Ms Mj y9) := ⟨_, rfl, zsetP (hset _) hP, zsetD (hset _) hD⟩
    have h := zlt_s h eMa_13
    clear hset
    refine lv_aload_n hx hb dX6_takeUp_75 rfl (lv_at hl 0 rfl) ?_
    refine va_get (D := D) (ci := 6) (v := .ref (Mp 21)) (C := RX6) (T := TX6) (N := 40) hx hb hts inX6 hown hK hP 0 rfl rfl 21 (by decide) lk41 (fun _ h9 => h9) rfl dX6_takeUp_76 ?_
    refine lv_iload_n hx hb dX6_takeUp_79 rfl (lv_at hl 1 rfl) ?_
    refine lv_aload_n hx hb dX6_takeUp_80 rfl (lv_at hl 0 rfl) ?_
    refine va_get (D := D) (ci := 6) (v := .ref (Mp 21)) (C := RX6) (T := TX6) (N := 40) hx hb hts inX6 hown hK hP 0 rfl rfl 21 (by decide) lk41 (fun _ h9 => h9) rfl dX6_takeUp_81 ?_
    refine lv_iload_n hx hb dX6_takeUp_84 rfl (lv_at hl 2 rfl) ?_
    obtain ⟨z14, h⟩ := zck_s h
    refine va_iald hx hb hK hP 11 0 rfl rfl (zin_s z14) dX6_takeUp_85 ?_
    refine lv_aload_n hx hb dX6_takeUp_86 rfl (lv_at hl 0 rfl) ?_
    refine va_get (D := D) (ci := 6) (v := .ref (Mp 21)) (C := RX6) (T := TX6) (N := 40) hx hb hts inX6 hown hK hP 0 rfl rfl 21 (by decide) lk41 (fun _ h9 => h9) rfl dX6_takeUp_87 ?_
    refine lv_iload_n hx hb dX6_takeUp_90 rfl (lv_at hl 1 rfl) ?_
    obtain ⟨z15, h⟩ := zck_s h
    refine va_iald hx hb hK hP 11 0 rfl rfl (zin_s z15) dX6_takeUp_91 ?_
    obtain ⟨v110, j52, h⟩ := zb1_s h
    have K110 : ∀ (H : Heap) (locs : List Loc) (ls : Array Slot), va_P D vwCl (zwM cI cB Mo Mp Ms Mj Ma_13) H → va_D A (zwM cI cB Mo Mp Ms Mj Ma_13) → va_S A s.heap H locs → lv_has ls 5 [(0, .ref Mo), (1, .int a0), (3, .int x3_1), (4, .int x4_2)] → W p l e R s m args below meth c H locs 0 0 Q (F0 m 110 ls [.int v110, .int a0, .ref (Mp 21)]) := by
      intro H locs ls hP hD hS hl
      obtain ⟨z16, h⟩ := zck_s h
      refine va_iast hx hb hK hP hD hS 11 0 rfl rfl (zin_s z16) dX6_takeUp_110 (fun H locs hP hD hS => ?_)
      have hset : ∀ v9 : Nat → Int32, (zwM cI cB Mo Mp Ms Mj Ma_13).set 11 ((Mp 21), .inl (cI, 9, .inl v9)) = (zwM cI cB Mo Mp Ms Mj (va_up Ma_13 21 v9)) := fun _ => rfl
      obtain ⟨Ma_17, eMa_17, hP, hD⟩ : ∃ y9, y9 = (va_up Ma_13 21 (upd (Ma_13 21) (a0).toNatClampNeg v110)) ∧ va_P D vwCl (zwM cI cB Mo Mp Ms Mj y9) H ∧ va_D A (zwM cI cB Mo Mp Ms Mj y9) := ⟨_, rfl, zsetP (hset _) hP, zsetD (hset _) hD⟩
      have h := zlt_s h eMa_17
      clear hset
      refine lv_aload_n hx hb dX6_takeUp_111 rfl (lv_at hl 0 rfl) ?_
      refine va_get (D := D) (ci := 6) (v := .ref (Mp 23)) (C := RX6) (T := TX6) (N := 40) hx hb hts inX6 hown hK hP 0 rfl rfl 23 (by decide) lk47 (fun _ h9 => h9) rfl dX6_takeUp_112 ?_
      refine lv_iload_n hx hb dX6_takeUp_115 rfl (lv_at hl 1 rfl) ?_
      refine lv_aload_n hx hb dX6_takeUp_116 rfl (lv_at hl 0 rfl) ?_
      refine va_get (D := D) (ci := 6) (v := .ref (Mp 23)) (C := RX6) (T := TX6) (N := 40) hx hb hts inX6 hown hK hP 0 rfl rfl 23 (by decide) lk47 (fun _ h9 => h9) rfl dX6_takeUp_117 ?_
      refine lv_iload_n hx hb dX6_takeUp_120 rfl (lv_at hl 2 rfl) ?_
      obtain ⟨z18, h⟩ := zck_s h
      refine va_iald hx hb hK hP 13 0 rfl rfl (zin_s z18) dX6_takeUp_121 ?_
      refine lv_iconst (v := (1 : Int32)) hx hb dX6_takeUp_122 (by decide) ?_
      refine lv_iadd hx hb dX6_takeUp_123 ?_
      refine lv_aload_n hx hb dX6_takeUp_124 rfl (lv_at hl 0 rfl) ?_
      refine va_get (D := D) (ci := 6) (v := .ref (Mp 23)) (C := RX6) (T := TX6) (N := 40) hx hb hts inX6 hown hK hP 0 rfl rfl 23 (by decide) lk47 (fun _ h9 => h9) rfl dX6_takeUp_125 ?_
      refine lv_iload_n hx hb dX6_takeUp_128 rfl (lv_at hl 1 rfl) ?_
      obtain ⟨z19, h⟩ := zck_s h
      refine va_iald hx hb hK hP 13 0 rfl rfl (zin_s z19) dX6_takeUp_129 ?_
      obtain ⟨v150, j48, h⟩ := zb1_s h
      have K150 : ∀ (H : Heap) (locs : List Loc) (ls : Array Slot), va_P D vwCl (zwM cI cB Mo Mp Ms Mj Ma_17) H → va_D A (zwM cI cB Mo Mp Ms Mj Ma_17) → va_S A s.heap H locs → lv_has ls 5 [(0, .ref Mo), (1, .int a0), (3, .int x3_1), (4, .int x4_2)] → W p l e R s m args below meth c H locs 0 0 Q (F0 m 150 ls [.int v150, .int a0, .ref (Mp 23)]) := by
        intro H locs ls hP hD hS hl
        obtain ⟨z20, h⟩ := zck_s h
        refine va_iast hx hb hK hP hD hS 13 0 rfl rfl (zin_s z20) dX6_takeUp_150 (fun H locs hP hD hS => ?_)
        have hset : ∀ v9 : Nat → Int32, (zwM cI cB Mo Mp Ms Mj Ma_17).set 13 ((Mp 23), .inl (cI, 9, .inl v9)) = (zwM cI cB Mo Mp Ms Mj (va_up Ma_17 23 v9)) := fun _ => rfl
        obtain ⟨Ma_21, eMa_21, hP, hD⟩ : ∃ y9, y9 = (va_up Ma_17 23 (upd (Ma_17 23) (a0).toNatClampNeg v150)) ∧ va_P D vwCl (zwM cI cB Mo Mp Ms Mj y9) H ∧ va_D A (zwM cI cB Mo Mp Ms Mj y9) := ⟨_, rfl, zsetP (hset _) hP, zsetD (hset _) hD⟩
        have h := zlt_s h eMa_21
        clear hset
        refine lv_aload_n hx hb dX6_takeUp_151 rfl (lv_at hl 0 rfl) ?_
        refine va_get (D := D) (ci := 6) (v := .ref (Mp 24)) (C := RX6) (T := TX6) (N := 40) hx hb hts inX6 hown hK hP 0 rfl rfl 24 (by decide) lk50 (fun _ h9 => h9) rfl dX6_takeUp_152 ?_
        refine lv_iload_n hx hb dX6_takeUp_155 rfl (lv_at hl 1 rfl) ?_
        refine lv_aload_n hx hb dX6_takeUp_156 rfl (lv_at hl 0 rfl) ?_
        refine va_get (D := D) (ci := 6) (v := .ref (Mp 24)) (C := RX6) (T := TX6) (N := 40) hx hb hts inX6 hown hK hP 0 rfl rfl 24 (by decide) lk50 (fun _ h9 => h9) rfl dX6_takeUp_157 ?_
        refine lv_iload_n hx hb dX6_takeUp_160 rfl (lv_at hl 2 rfl) ?_
        obtain ⟨z22, h⟩ := zck_s h
        refine va_iald hx hb hK hP 14 0 rfl rfl (zin_s z22) dX6_takeUp_161 ?_
        refine lv_iconst (v := (1 : Int32)) hx hb dX6_takeUp_162 (by decide) ?_
        refine lv_iadd hx hb dX6_takeUp_163 ?_
        refine lv_aload_n hx hb dX6_takeUp_164 rfl (lv_at hl 0 rfl) ?_
        refine va_get (D := D) (ci := 6) (v := .ref (Mp 24)) (C := RX6) (T := TX6) (N := 40) hx hb hts inX6 hown hK hP 0 rfl rfl 24 (by decide) lk50 (fun _ h9 => h9) rfl dX6_takeUp_165 ?_
        refine lv_iload_n hx hb dX6_takeUp_168 rfl (lv_at hl 1 rfl) ?_
        obtain ⟨z23, h⟩ := zck_s h
        refine va_iald hx hb hK hP 14 0 rfl rfl (zin_s z23) dX6_takeUp_169 ?_
        obtain ⟨v190, j44, h⟩ := zb1_s h
        have K190 : ∀ (H : Heap) (locs : List Loc) (ls : Array Slot), va_P D vwCl (zwM cI cB Mo Mp Ms Mj Ma_21) H → va_D A (zwM cI cB Mo Mp Ms Mj Ma_21) → va_S A s.heap H locs → lv_has ls 5 [(0, .ref Mo), (1, .int a0), (3, .int x3_1), (4, .int x4_2)] → W p l e R s m args below meth c H locs 0 0 Q (F0 m 190 ls [.int v190, .int a0, .ref (Mp 24)]) := by
          intro H locs ls hP hD hS hl
          obtain ⟨z24, h⟩ := zck_s h
          refine va_iast hx hb hK hP hD hS 14 0 rfl rfl (zin_s z24) dX6_takeUp_190 (fun H locs hP hD hS => ?_)
          have hset : ∀ v9 : Nat → Int32, (zwM cI cB Mo Mp Ms Mj Ma_21).set 14 ((Mp 24), .inl (cI, 9, .inl v9)) = (zwM cI cB Mo Mp Ms Mj (va_up Ma_21 24 v9)) := fun _ => rfl
          obtain ⟨Ma_25, eMa_25, hP, hD⟩ : ∃ y9, y9 = (va_up Ma_21 24 (upd (Ma_21 24) (a0).toNatClampNeg v190)) ∧ va_P D vwCl (zwM cI cB Mo Mp Ms Mj y9) H ∧ va_D A (zwM cI cB Mo Mp Ms Mj y9) := ⟨_, rfl, zsetP (hset _) hP, zsetD (hset _) hD⟩
          have h := zlt_s h eMa_25
          clear hset
          refine lv_aload_n hx hb dX6_takeUp_191 rfl (lv_at hl 0 rfl) ?_
          refine va_get (D := D) (ci := 6) (v := .ref (Mp 25)) (C := RX6) (T := TX6) (N := 40) hx hb hts inX6 hown hK hP 0 rfl rfl 25 (by decide) lk53 (fun _ h9 => h9) rfl dX6_takeUp_192 ?_
          refine lv_iload_n hx hb dX6_takeUp_195 rfl (lv_at hl 1 rfl) ?_
          refine lv_dup2_11 hx hb dX6_takeUp_196 rfl rfl ?_
          obtain ⟨z26, h⟩ := zck_s h
          refine va_iald hx hb hK hP 15 0 rfl rfl (zin_s z26) dX6_takeUp_197 ?_
          refine lv_aload_n hx hb dX6_takeUp_198 rfl (lv_at hl 0 rfl) ?_
          refine va_get (D := D) (ci := 6) (v := .ref (Mp 25)) (C := RX6) (T := TX6) (N := 40) hx hb hts inX6 hown hK hP 0 rfl rfl 25 (by decide) lk53 (fun _ h9 => h9) rfl dX6_takeUp_199 ?_
          refine lv_iload_n hx hb dX6_takeUp_202 rfl (lv_at hl 2 rfl) ?_
          obtain ⟨z27, h⟩ := zck_s h
          refine va_iald hx hb hK hP 15 0 rfl rfl (zin_s z27) dX6_takeUp_203 ?_
          refine lv_ior hx hb dX6_takeUp_204 ?_
          obtain ⟨z28, h⟩ := zck_s h
          refine va_iast hx hb hK hP hD hS 15 0 rfl rfl (zin_s z28) dX6_takeUp_205 (fun H locs hP hD hS => ?_)
          have hset : ∀ v9 : Nat → Int32, (zwM cI cB Mo Mp Ms Mj Ma_25).set 15 ((Mp 25), .inl (cI, 9, .inl v9)) = (zwM cI cB Mo Mp Ms Mj (va_up Ma_25 25 v9)) := fun _ => rfl
          obtain ⟨Ma_29, eMa_29, hP, hD⟩ : ∃ y9, y9 = (va_up Ma_25 25 (upd (Ma_25 25) (a0).toNatClampNeg (((Ma_25 25) (a0).toNatClampNeg) ||| ((Ma_25 25) (x3_1).toNatClampNeg)))) ∧ va_P D vwCl (zwM cI cB Mo Mp Ms Mj y9) H ∧ va_D A (zwM cI cB Mo Mp Ms Mj y9) := ⟨_, rfl, zsetP (hset _) hP, zsetD (hset _) hD⟩
          have h := zlt_s h eMa_29
          clear hset
          refine lv_aload_n hx hb dX6_takeUp_206 rfl (lv_at hl 0 rfl) ?_
          refine va_get (D := D) (ci := 6) (v := .ref (Mp 26)) (C := RX6) (T := TX6) (N := 40) hx hb hts inX6 hown hK hP 0 rfl rfl 26 (by decide) lk56 (fun _ h9 => h9) rfl dX6_takeUp_207 ?_
          refine lv_iload_n hx hb dX6_takeUp_210 rfl (lv_at hl 1 rfl) ?_
          refine lv_aload_n hx hb dX6_takeUp_211 rfl (lv_at hl 0 rfl) ?_
          refine va_get (D := D) (ci := 6) (v := .ref (Mp 26)) (C := RX6) (T := TX6) (N := 40) hx hb hts inX6 hown hK hP 0 rfl rfl 26 (by decide) lk56 (fun _ h9 => h9) rfl dX6_takeUp_212 ?_
          refine lv_iload_n hx hb dX6_takeUp_215 rfl (lv_at hl 2 rfl) ?_
          obtain ⟨z30, h⟩ := zck_s h
          refine va_iald hx hb hK hP 16 0 rfl rfl (zin_s z30) dX6_takeUp_216 ?_
          refine lv_iconst (v := (-1 : Int32)) hx hb dX6_takeUp_217 (by decide) ?_
          obtain ⟨v242, j39, h⟩ := zb1_s h
          have K242 : ∀ (H : Heap) (locs : List Loc) (ls : Array Slot), va_P D vwCl (zwM cI cB Mo Mp Ms Mj Ma_29) H → va_D A (zwM cI cB Mo Mp Ms Mj Ma_29) → va_S A s.heap H locs → lv_has ls 5 [(0, .ref Mo), (1, .int a0), (3, .int x3_1)] → W p l e R s m args below meth c H locs 0 0 Q (F0 m 242 ls [.int v242, .int a0, .ref (Mp 26)]) := by
            intro H locs ls hP hD hS hl
            obtain ⟨z31, h⟩ := zck_s h
            refine va_iast hx hb hK hP hD hS 16 0 rfl rfl (zin_s z31) dX6_takeUp_242 (fun H locs hP hD hS => ?_)
            have hset : ∀ v9 : Nat → Int32, (zwM cI cB Mo Mp Ms Mj Ma_29).set 16 ((Mp 26), .inl (cI, 9, .inl v9)) = (zwM cI cB Mo Mp Ms Mj (va_up Ma_29 26 v9)) := fun _ => rfl
            obtain ⟨Ma_32, eMa_32, hP, hD⟩ : ∃ y9, y9 = (va_up Ma_29 26 (upd (Ma_29 26) (a0).toNatClampNeg v242)) ∧ va_P D vwCl (zwM cI cB Mo Mp Ms Mj y9) H ∧ va_D A (zwM cI cB Mo Mp Ms Mj y9) := ⟨_, rfl, zsetP (hset _) hP, zsetD (hset _) hD⟩
            have h := zlt_s h eMa_32
            clear hset
            refine lv_aload_n hx hb dX6_takeUp_243 rfl (lv_at hl 0 rfl) ?_
            refine va_get (D := D) (ci := 6) (v := .ref (Mp 27)) (C := RX6) (T := TX6) (N := 40) hx hb hts inX6 hown hK hP 0 rfl rfl 27 (by decide) lk59 (fun _ h9 => h9) rfl dX6_takeUp_244 ?_
            refine lv_iload_n hx hb dX6_takeUp_247 rfl (lv_at hl 1 rfl) ?_
            refine lv_dup2_11 hx hb dX6_takeUp_248 rfl rfl ?_
            obtain ⟨z33, h⟩ := zck_s h
            refine va_iald hx hb hK hP 17 0 rfl rfl (zin_s z33) dX6_takeUp_249 ?_
            refine lv_aload_n hx hb dX6_takeUp_250 rfl (lv_at hl 0 rfl) ?_
            refine va_get (D := D) (ci := 6) (v := .ref (Mp 27)) (C := RX6) (T := TX6) (N := 40) hx hb hts inX6 hown hK hP 0 rfl rfl 27 (by decide) lk59 (fun _ h9 => h9) rfl dX6_takeUp_251 ?_
            refine lv_iload_n hx hb dX6_takeUp_254 rfl (lv_at hl 2 rfl) ?_
            obtain ⟨z34, h⟩ := zck_s h
            refine va_iald hx hb hK hP 17 0 rfl rfl (zin_s z34) dX6_takeUp_255 ?_
            refine lv_aload_n hx hb dX6_takeUp_256 rfl (lv_at hl 0 rfl) ?_
            refine va_get (D := D) (ci := 6) (v := .ref (Mp 19)) (C := RX6) (T := TX6) (N := 40) hx hb hts inX6 hown hK hP 0 rfl rfl 19 (by decide) lk35 (fun _ h9 => h9) rfl dX6_takeUp_257 ?_
            refine lv_iload_n hx hb dX6_takeUp_260 rfl (lv_at hl 2 rfl) ?_
            obtain ⟨z35, h⟩ := zck_s h
            refine va_iald hx hb hK hP 9 0 rfl rfl (zin_s z35) dX6_takeUp_261 ?_
            obtain ⟨z36, h⟩ := zck_s h
            refine lv_idiv hx hb dX6_takeUp_262 (zne_s z36) ?_
            refine lv_iadd hx hb dX6_takeUp_263 ?_
            obtain ⟨z37, h⟩ := zck_s h
            refine va_iast hx hb hK hP hD hS 17 0 rfl rfl (zin_s z37) dX6_takeUp_264 (fun H locs hP hD hS => ?_)
            have hset : ∀ v9 : Nat → Int32, (zwM cI cB Mo Mp Ms Mj Ma_32).set 17 ((Mp 27), .inl (cI, 9, .inl v9)) = (zwM cI cB Mo Mp Ms Mj (va_up Ma_32 27 v9)) := fun _ => rfl
            obtain ⟨Ma_38, eMa_38, hP, hD⟩ : ∃ y9, y9 = (va_up Ma_32 27 (upd (Ma_32 27) (a0).toNatClampNeg (((Ma_32 27) (a0).toNatClampNeg) + (((Ma_32 27) (x3_1).toNatClampNeg) / ((Ma_32 19) (x3_1).toNatClampNeg))))) ∧ va_P D vwCl (zwM cI cB Mo Mp Ms Mj y9) H ∧ va_D A (zwM cI cB Mo Mp Ms Mj y9) := ⟨_, rfl, zsetP (hset _) hP, zsetD (hset _) hD⟩
            have h := zlt_s h eMa_38
            clear hset
            cases zend h
            exact hq hP hD hS dX6_takeUp_265
          clear h
          have h := j39
          clear j39
          obtain ⟨J236, eJ236, h⟩ := zjn_s h
          have K236 : ∀ (u : Unit), J236 u = some v242 → ∀ (H : Heap) (locs : List Loc) (ls : Array Slot), va_P D vwCl (zwM cI cB Mo Mp Ms Mj Ma_29) H → va_D A (zwM cI cB Mo Mp Ms Mj Ma_29) → va_S A s.heap H locs → lv_has ls 5 [(0, .ref Mo), (1, .int a0), (3, .int x3_1)] → W p l e R s m args below meth c H locs 0 0 Q (F0 m 236 ls [.int a0, .ref (Mp 26)]) := by
            subst eJ236
            intro u h H locs ls hP hD hS hl
            refine lv_aload_n hx hb dX6_takeUp_236 rfl (lv_at hl 0 rfl) ?_
            refine va_get (D := D) (ci := 6) (v := .ref (Mp 26)) (C := RX6) (T := TX6) (N := 40) hx hb hts inX6 hown hK hP 0 rfl rfl 26 (by decide) lk56 (fun _ h9 => h9) rfl dX6_takeUp_237 ?_
            refine lv_iload_n hx hb dX6_takeUp_240 rfl (lv_at hl 1 rfl) ?_
            obtain ⟨z40, h⟩ := zck_s h
            refine va_iald hx hb hK hP 16 0 rfl rfl (zin_s z40) dX6_takeUp_241 ?_
            cases zend h
            exact K242 _ _ _ hP hD hS (lv_sub hl [0, 1, 2] rfl)
          clear eJ236
          refine lv_icmp_ne (tgt := 236) hx hb dX6_takeUp_218 (by decide) (fun c41 => ?_) (fun c41 => ?_)
          · have h := zif_f c41 h
            exact K236 _ h _ _ _ hP hD hS (lv_sub hl [0, 1, 2] rfl)
          · have h := zif_t c41 h
            refine lv_aload_n hx hb dX6_takeUp_221 rfl (lv_at hl 0 rfl) ?_
            refine va_get (D := D) (ci := 6) (v := .ref (Mp 26)) (C := RX6) (T := TX6) (N := 40) hx hb hts inX6 hown hK hP 0 rfl rfl 26 (by decide) lk56 (fun _ h9 => h9) rfl dX6_takeUp_222 ?_
            refine lv_iload_n hx hb dX6_takeUp_225 rfl (lv_at hl 1 rfl) ?_
            obtain ⟨z42, h⟩ := zck_s h
            refine va_iald hx hb hK hP 16 0 rfl rfl (zin_s z42) dX6_takeUp_226 ?_
            refine lv_iconst (v := (-1 : Int32)) hx hb dX6_takeUp_227 (by decide) ?_
            refine lv_icmp_ne (tgt := 236) hx hb dX6_takeUp_228 (by decide) (fun c43 => ?_) (fun c43 => ?_)
            · have h := zif_f c43 h
              exact K236 _ h _ _ _ hP hD hS (lv_sub hl [0, 1, 2] rfl)
            · have h := zif_t c43 h
              refine lv_iload hx hb dX6_takeUp_231 (lv_at hl 3 rfl) ?_
              refine lv_goto (tgt := 242) hx hb dX6_takeUp_233 (by decide) ?_
              cases zend h
              exact K242 _ _ _ hP hD hS (lv_sub hl [0, 1, 2] rfl)
        clear h
        have h := j44
        clear j44
        refine lv_icmp_ge (tgt := 184) hx hb dX6_takeUp_170 (by decide) (fun c45 => ?_) (fun c45 => ?_)
        · have h := zif_t c45 h
          refine lv_aload_n hx hb dX6_takeUp_184 rfl (lv_at hl 0 rfl) ?_
          refine va_get (D := D) (ci := 6) (v := .ref (Mp 24)) (C := RX6) (T := TX6) (N := 40) hx hb hts inX6 hown hK hP 0 rfl rfl 24 (by decide) lk50 (fun _ h9 => h9) rfl dX6_takeUp_185 ?_
          refine lv_iload_n hx hb dX6_takeUp_188 rfl (lv_at hl 1 rfl) ?_
          obtain ⟨z46, h⟩ := zck_s h
          refine va_iald hx hb hK hP 14 0 rfl rfl (zin_s z46) dX6_takeUp_189 ?_
          cases zend h
          exact K190 _ _ _ hP hD hS (lv_sub hl [0, 1, 2, 3] rfl)
        · have h := zif_f c45 h
          refine lv_aload_n hx hb dX6_takeUp_173 rfl (lv_at hl 0 rfl) ?_
          refine va_get (D := D) (ci := 6) (v := .ref (Mp 24)) (C := RX6) (T := TX6) (N := 40) hx hb hts inX6 hown hK hP 0 rfl rfl 24 (by decide) lk50 (fun _ h9 => h9) rfl dX6_takeUp_174 ?_
          refine lv_iload_n hx hb dX6_takeUp_177 rfl (lv_at hl 2 rfl) ?_
          obtain ⟨z47, h⟩ := zck_s h
          refine va_iald hx hb hK hP 14 0 rfl rfl (zin_s z47) dX6_takeUp_178 ?_
          refine lv_iconst (v := (1 : Int32)) hx hb dX6_takeUp_179 (by decide) ?_
          refine lv_iadd hx hb dX6_takeUp_180 ?_
          refine lv_goto (tgt := 190) hx hb dX6_takeUp_181 (by decide) ?_
          cases zend h
          exact K190 _ _ _ hP hD hS (lv_sub hl [0, 1, 2, 3] rfl)
      clear h
      have h := j48
      clear j48
      refine lv_icmp_le (tgt := 144) hx hb dX6_takeUp_130 (by decide) (fun c49 => ?_) (fun c49 => ?_)
      · have h := zif_t c49 h
        refine lv_aload_n hx hb dX6_takeUp_144 rfl (lv_at hl 0 rfl) ?_
        refine va_get (D := D) (ci := 6) (v := .ref (Mp 23)) (C := RX6) (T := TX6) (N := 40) hx hb hts inX6 hown hK hP 0 rfl rfl 23 (by decide) lk47 (fun _ h9 => h9) rfl dX6_takeUp_145 ?_
        refine lv_iload_n hx hb dX6_takeUp_148 rfl (lv_at hl 1 rfl) ?_
        obtain ⟨z50, h⟩ := zck_s h
        refine va_iald hx hb hK hP 13 0 rfl rfl (zin_s z50) dX6_takeUp_149 ?_
        cases zend h
        exact K150 _ _ _ hP hD hS (lv_sub hl [0, 1, 2, 3] rfl)
      · have h := zif_f c49 h
        refine lv_aload_n hx hb dX6_takeUp_133 rfl (lv_at hl 0 rfl) ?_
        refine va_get (D := D) (ci := 6) (v := .ref (Mp 23)) (C := RX6) (T := TX6) (N := 40) hx hb hts inX6 hown hK hP 0 rfl rfl 23 (by decide) lk47 (fun _ h9 => h9) rfl dX6_takeUp_134 ?_
        refine lv_iload_n hx hb dX6_takeUp_137 rfl (lv_at hl 2 rfl) ?_
        obtain ⟨z51, h⟩ := zck_s h
        refine va_iald hx hb hK hP 13 0 rfl rfl (zin_s z51) dX6_takeUp_138 ?_
        refine lv_iconst (v := (1 : Int32)) hx hb dX6_takeUp_139 (by decide) ?_
        refine lv_iadd hx hb dX6_takeUp_140 ?_
        refine lv_goto (tgt := 150) hx hb dX6_takeUp_141 (by decide) ?_
        cases zend h
        exact K150 _ _ _ hP hD hS (lv_sub hl [0, 1, 2, 3] rfl)
    clear h
    have h := j52
    clear j52
    refine lv_icmp_ge (tgt := 104) hx hb dX6_takeUp_92 (by decide) (fun c53 => ?_) (fun c53 => ?_)
    · have h := zif_t c53 h
      refine lv_aload_n hx hb dX6_takeUp_104 rfl (lv_at hl 0 rfl) ?_
      refine va_get (D := D) (ci := 6) (v := .ref (Mp 21)) (C := RX6) (T := TX6) (N := 40) hx hb hts inX6 hown hK hP 0 rfl rfl 21 (by decide) lk41 (fun _ h9 => h9) rfl dX6_takeUp_105 ?_
      refine lv_iload_n hx hb dX6_takeUp_108 rfl (lv_at hl 1 rfl) ?_
      obtain ⟨z54, h⟩ := zck_s h
      refine va_iald hx hb hK hP 11 0 rfl rfl (zin_s z54) dX6_takeUp_109 ?_
      cases zend h
      exact K110 _ _ _ hP hD hS (lv_sub hl [0, 1, 2, 3] rfl)
    · have h := zif_f c53 h
      refine lv_aload_n hx hb dX6_takeUp_95 rfl (lv_at hl 0 rfl) ?_
      refine va_get (D := D) (ci := 6) (v := .ref (Mp 21)) (C := RX6) (T := TX6) (N := 40) hx hb hts inX6 hown hK hP 0 rfl rfl 21 (by decide) lk41 (fun _ h9 => h9) rfl dX6_takeUp_96 ?_
      refine lv_iload_n hx hb dX6_takeUp_99 rfl (lv_at hl 2 rfl) ?_
      obtain ⟨z55, h⟩ := zck_s h
      refine va_iald hx hb hK hP 11 0 rfl rfl (zin_s z55) dX6_takeUp_100 ?_
      refine lv_goto (tgt := 110) hx hb dX6_takeUp_101 (by decide) ?_
      cases zend h
      exact K110 _ _ _ hP hD hS (lv_sub hl [0, 1, 2, 3] rfl)
  clear h
  have h := j56
  clear j56
  refine lv_icmp_ge (tgt := 68) hx hb dX6_takeUp_60 (by decide) (fun c57 => ?_) (fun c57 => ?_)
  · have h := zif_t c57 h
    refine lv_aload_n hx hb dX6_takeUp_68 rfl (lv_at hl 2 rfl) ?_
    refine va_get (D := D) (ci := 6) (v := .ref (Mp 22)) (C := RX6) (T := TX6) (N := 40) hx hb hts inX6 hown hK hP 0 rfl rfl 22 (by decide) lk44 (fun _ h9 => h9) rfl dX6_takeUp_69 ?_
    refine lv_iload_n hx hb dX6_takeUp_72 rfl (lv_at hl 3 rfl) ?_
    obtain ⟨z58, h⟩ := zck_s h
    refine va_iald hx hb hK hP 12 0 rfl rfl (zin_s z58) dX6_takeUp_73 ?_
    cases zend h
    exact K74 _ _ _ hP hD hS (lv_sub hl [2, 3, 1, 0] rfl)
  · have h := zif_f c57 h
    refine lv_iload hx hb dX6_takeUp_63 (lv_at hl 0 rfl) ?_
    refine lv_goto (tgt := 74) hx hb dX6_takeUp_65 (by decide) ?_
    cases zend h
    exact K74 _ _ _ hP hD hS (lv_sub hl [2, 3, 1, 0] rfl)
set_option maxHeartbeats 4000000 in
set_option maxRecDepth 100000 in
theorem c_X6_layCourses (l : Launch) (D : va_G) (cI cB cO : ClassId) (Mo : Nat) (Mp : Nat → Nat) (Ms : Nat → Int32) (Mj : Nat → Int64) (Ma : Nat → Nat → Int32)  (Ma' : Nat → Nat → Int32) (sz : Nat) (h : fX6_layCourses Ms Ma = some Ma') : Met l yX6_layCourses wsX6_layCourses ({ frames := 4, cells := 0, slots := 0, locals := 95 } : Room) (va_Pc [.ref Mo] (zPre D (zTY cI cB cO) (zwM cI cB Mo Mp Ms Mj Ma) sz)) (va_Qv (fun (_ : Unit) => True) (fun _ => zPost D (zTY cI cB cO) (zwM cI cB Mo Mp Ms Mj Ma') (va_A (zwM cI cB Mo Mp Ms Mj Ma) sz)) (va_A (zwM cI cB Mo Mp Ms Mj Ma) sz)) 0 0 (va_A (zwM cI cB Mo Mp Ms Mj Ma) sz) := by
  unfold fX6_layCourses at h
  refine zmet_v (cc := cX6_layCourses) (maxL := 3) (by decide) rfl (Nat.le_of_ble_eq_true rfl) rfl rfl ?_
  intro p e s m args below meth c R Q A ls hx hb hts hown hml hK hP hD hE hA hS hRf hRl hl hq
  have hown : s.vm.findClass RX6 = some m.cls := hown
  have hl : lv_has ls 3 [(0, .ref Mo)] := hl
  have inX6 : ∀ w ∈ u_ws RX6 TX6 40, w ∈ wsX6_layCourses := by decide +kernel
  have lk35 : (Cond.fieldLink RX6 35 "PegFieldModel" "jumpsOf" "[I").before args s = true := hts _ (by decide +kernel)
  have lk32 : (Cond.fieldLink RX6 32 "PegFieldModel" "codeOf" "[I").before args s = true := hts _ (by decide +kernel)
  refine lv_iconst (v := (0 : Int32)) hx hb dX6_layCourses_0 (by decide) ?_
  refine lv_istore_n (lv' := [(1, .int (0 : Int32)), (0, .ref Mo)]) hx hb dX6_layCourses_1 rfl hl (by decide) rfl (fun ls hl => ?_)
  refine lv_aload_n hx hb dX6_layCourses_2 rfl (lv_at hl 1 rfl) ?_
  refine lv_iconst (v := (0 : Int32)) hx hb dX6_layCourses_3 (by decide) ?_
  obtain ⟨Ma_1, g2, h⟩ := zb1_s h
  have hFc := va_free (wc := (zwM cI cB Mo Mp Ms Mj Ma)) hD hS hA [0, 1, 2, 3, 4, 5, 6, 7, 8, 9, 10, 11, 12, 13, 14, 15, 16, 17, 18, 19, 20, 21, 22] (zC_55 (cI := cI) (cB := cB) (cO := cO))
  refine zcm_v (w2 := (zwM cI cB Mo Mp Ms Mj Ma_1)) (va_runV (As := [.int (0 : Int32)]) (rest := []) ⟨hx, hb, hml, hown, hts⟩ (c_X6_begin l D cI cB cO Mo Mp Ms Mj Ma (0 : Int32) _ _ g2) (cwV 1 hts gX6_layCourses_X6_begin rfl rfl rfl kV_X6_begin ⟨Nat.le_trans (Nat.le_of_ble_eq_true rfl) hRf, Nat.le_trans (Nat.le_of_ble_eq_true rfl) hRl⟩) (zpreV hK hP hD hS hE hFc [0, 1, 2, 3, 4, 5, 6, 7, 8, 9, 10, 11, 12, 13, 14, 15, 16, 17, 18, 19, 20, 21, 22] (zC_55 (cI := cI) (cB := cB) (cO := cO)) rfl 0 (ci := 6) rfl rfl [.int (0 : Int32)]) rfl rfl hl.1 rfl (lv_room (Nat.le_of_ble_eq_true rfl)) dX6_layCourses_4 ⟨Nat.zero_le _, Nat.zero_le _⟩) hS hFc (fun H1 t h1 h2 h3 => zM_55 (cI := cI) (cB := cB) (cO := cO) hP hD h1 h2 h3) (fun H locs hP hD hS => ?_)
  clear hFc
  obtain ⟨Ma_83x7, i23, h⟩ := zb1_s h
  have KX83 : ∀ (H : Heap) (locs : List Loc) (ls : Array Slot), va_P D vwCl (zwM cI cB Mo Mp Ms Mj Ma_83x7) H → va_D A (zwM cI cB Mo Mp Ms Mj Ma_83x7) → va_S A s.heap H locs → lv_has ls 3 [] → W p l e R s m args below meth c H locs 0 0 Q (F0 m 83 ls []) := by
    intro H locs ls hP hD hS hl
    cases zend h
    exact hq hP hD hS dX6_layCourses_83
  clear h
  refine zi2_ind (P := (fun (x1_7h : Int32) (Ma_7h : Nat → Nat → Int32) => ∀ (H : Heap) (locs : List Loc) (ls : Array Slot), va_P D vwCl (zwM cI cB Mo Mp Ms Mj Ma_7h) H → va_D A (zwM cI cB Mo Mp Ms Mj Ma_7h) → va_S A s.heap H locs → lv_has ls 3 [(0, .ref Mo), (1, .int x1_7h)] → W p l e R s m args below meth c H locs 0 0 Q (F0 m 7 ls []))) ?_ i23 _ _ _ hP hD hS (lv_sub hl [1, 0] rfl)
  clear i23 hP hD hS hl
  intro x1_7h Ma_7h z7 h zl7 zr7 H locs ls hP hD hS hl
  refine lv_iload_n hx hb dX6_layCourses_7 rfl (lv_at hl 1 rfl) ?_
  refine lv_if_lt (tgt := 83) hx hb dX6_layCourses_8 (by decide) (fun c4 => ?_) (fun c4 => ?_)
  · have h := zif_t c4 h
    cases zr7 _ (zend h).symm
    exact KX83 _ _ _ hP hD hS (lv_sub hl [] rfl)
  · have h := zif_f c4 h
    refine lv_aload_n hx hb dX6_layCourses_11 rfl (lv_at hl 0 rfl) ?_
    refine lv_iload_n hx hb dX6_layCourses_12 rfl (lv_at hl 1 rfl) ?_
    obtain ⟨r5, Ma_6, g7, h⟩ := zb2_s h
    have hFc := va_free (wc := (zwM cI cB Mo Mp Ms Mj Ma_7h)) hD hS hA [0, 1, 2, 3, 4, 5, 6, 7, 8, 9, 10, 11, 12, 13, 14, 15, 16, 17, 18, 19, 20, 21, 22] (zC_55 (cI := cI) (cB := cB) (cO := cO))
    refine zcm_i (w2 := (zwM cI cB Mo Mp Ms Mj Ma_6)) (va_runV (As := [.int x1_7h]) (rest := []) ⟨hx, hb, hml, hown, hts⟩ (c_X6_nextCode l D cI cB cO Mo Mp Ms Mj Ma_7h x1_7h _ _ _ g7) (cwV 1 hts gX6_layCourses_X6_nextCode rfl rfl rfl kV_X6_nextCode ⟨Nat.le_trans (Nat.le_of_ble_eq_true rfl) hRf, Nat.le_trans (Nat.le_of_ble_eq_true rfl) hRl⟩) (zpreV hK hP hD hS hE hFc [0, 1, 2, 3, 4, 5, 6, 7, 8, 9, 10, 11, 12, 13, 14, 15, 16, 17, 18, 19, 20, 21, 22] (zC_55 (cI := cI) (cB := cB) (cO := cO)) rfl 0 (ci := 6) rfl rfl [.int x1_7h]) rfl rfl hl.1 rfl (lv_room (Nat.le_of_ble_eq_true rfl)) dX6_layCourses_13 ⟨Nat.zero_le _, Nat.zero_le _⟩) hS hFc (fun H1 t h1 h2 h3 => zM_55 (cI := cI) (cB := cB) (cO := cO) hP hD h1 h2 h3) (fun H locs hP hD hS => ?_)
    clear hFc
    refine lv_istore_n (lv' := [(2, .int r5), (0, .ref Mo), (1, .int x1_7h)]) hx hb dX6_layCourses_16 rfl hl (by decide) rfl (fun ls hl => ?_)
    refine lv_iload_n hx hb dX6_layCourses_17 rfl (lv_at hl 0 rfl) ?_
    refine lv_iconst (v := (-1 : Int32)) hx hb dX6_layCourses_18 (by decide) ?_
    obtain ⟨x1_80, Ma_80, j8, h⟩ := zb2_s h
    have K80 : ∀ (H : Heap) (locs : List Loc) (ls : Array Slot), va_P D vwCl (zwM cI cB Mo Mp Ms Mj Ma_80) H → va_D A (zwM cI cB Mo Mp Ms Mj Ma_80) → va_S A s.heap H locs → lv_has ls 3 [(0, .ref Mo), (1, .int x1_80)] → W p l e R s m args below meth c H locs 0 0 Q (F0 m 80 ls []) := by
      intro H locs ls hP hD hS hl
      refine lv_goto (tgt := 7) hx hb dX6_layCourses_80 (by decide) ?_
      exact zl7 _ _ (zend h).symm _ _ _ hP hD hS (lv_sub hl [0, 1] rfl)
    clear h
    have h := j8
    clear j8
    refine lv_icmp_eq (tgt := 46) hx hb dX6_layCourses_19 (by decide) (fun c9 => ?_) (fun c9 => ?_)
    · have h := zif_t c9 h
      refine lv_aload_n hx hb dX6_layCourses_46 rfl (lv_at hl 1 rfl) ?_
      refine va_get (D := D) (ci := 6) (v := .ref (Mp 19)) (C := RX6) (T := TX6) (N := 40) hx hb hts inX6 hown hK hP 0 rfl rfl 19 (by decide) lk35 (fun _ h9 => h9) rfl dX6_layCourses_47 ?_
      refine lv_iload_n hx hb dX6_layCourses_50 rfl (lv_at hl 2 rfl) ?_
      obtain ⟨z10, h⟩ := zck_s h
      refine va_iald hx hb hK hP 9 0 rfl rfl (zin_s z10) dX6_layCourses_51 ?_
      obtain ⟨Ma_60, j15, h⟩ := zb1_s h
      have K60 : ∀ (H : Heap) (locs : List Loc) (ls : Array Slot), va_P D vwCl (zwM cI cB Mo Mp Ms Mj Ma_60) H → va_D A (zwM cI cB Mo Mp Ms Mj Ma_60) → va_S A s.heap H locs → lv_has ls 3 [(0, .ref Mo), (1, .int x1_7h)] → W p l e R s m args below meth c H locs 0 0 Q (F0 m 60 ls []) := by
        intro H locs ls hP hD hS hl
        refine lv_iinc (v := (x1_7h + (-1 : Int32))) (lv' := [(1, .int (x1_7h + (-1 : Int32))), (0, .ref Mo)]) hx hb dX6_layCourses_60 hl (k := 1) rfl rfl (by decide) rfl (fun ls hl => ?_)
        refine lv_iload_n hx hb dX6_layCourses_63 rfl (lv_at hl 0 rfl) ?_
        refine lv_if_lt (tgt := 80) hx hb dX6_layCourses_64 (by decide) (fun c11 => ?_) (fun c11 => ?_)
        · have h := zif_t c11 h
          have e9 := zend h
          have f9_0 := (Prod.mk.inj e9).1
          replace e9 := (Prod.mk.inj e9).2
          subst f9_0
          subst e9
          exact K80 _ _ _ hP hD hS (lv_sub hl [1, 0] rfl)
        · have h := zif_f c11 h
          refine lv_aload_n hx hb dX6_layCourses_67 rfl (lv_at hl 1 rfl) ?_
          refine lv_iload_n hx hb dX6_layCourses_68 rfl (lv_at hl 0 rfl) ?_
          refine lv_aload_n hx hb dX6_layCourses_69 rfl (lv_at hl 1 rfl) ?_
          refine va_get (D := D) (ci := 6) (v := .ref (Mp 18)) (C := RX6) (T := TX6) (N := 40) hx hb hts inX6 hown hK hP 0 rfl rfl 18 (by decide) lk32 (fun _ h9 => h9) rfl dX6_layCourses_70 ?_
          refine lv_iload_n hx hb dX6_layCourses_73 rfl (lv_at hl 0 rfl) ?_
          obtain ⟨z12, h⟩ := zck_s h
          refine va_iald hx hb hK hP 8 0 rfl rfl (zin_s z12) dX6_layCourses_74 ?_
          refine lv_iconst (v := (1 : Int32)) hx hb dX6_layCourses_75 (by decide) ?_
          refine lv_isub hx hb dX6_layCourses_76 ?_
          obtain ⟨Ma_13, g14, h⟩ := zb1_s h
          have hFc := va_free (wc := (zwM cI cB Mo Mp Ms Mj Ma_60)) hD hS hA [0, 1, 2, 3, 4, 5, 6, 7, 8, 9, 10, 11, 12, 13, 14, 15, 16, 17, 18, 19, 20, 21, 22] (zC_55 (cI := cI) (cB := cB) (cO := cO))
          refine zcm_v (w2 := (zwM cI cB Mo Mp Ms Mj Ma_13)) (va_runV (As := [.int (x1_7h + (-1 : Int32)), .int (((Ma_60 18) ((x1_7h + (-1 : Int32))).toNatClampNeg) - (1 : Int32))]) (rest := []) ⟨hx, hb, hml, hown, hts⟩ (c_X6_takeUp l D cI cB cO Mo Mp Ms Mj Ma_60 (x1_7h + (-1 : Int32)) (((Ma_60 18) ((x1_7h + (-1 : Int32))).toNatClampNeg) - (1 : Int32)) _ _ g14) (cwV 2 hts gX6_layCourses_X6_takeUp rfl rfl rfl kV_X6_takeUp ⟨Nat.le_trans (Nat.le_of_ble_eq_true rfl) hRf, Nat.le_trans (Nat.le_of_ble_eq_true rfl) hRl⟩) (zpreV hK hP hD hS hE hFc [0, 1, 2, 3, 4, 5, 6, 7, 8, 9, 10, 11, 12, 13, 14, 15, 16, 17, 18, 19, 20, 21, 22] (zC_55 (cI := cI) (cB := cB) (cO := cO)) rfl 0 (ci := 6) rfl rfl [.int (x1_7h + (-1 : Int32)), .int (((Ma_60 18) ((x1_7h + (-1 : Int32))).toNatClampNeg) - (1 : Int32))]) rfl rfl hl.1 rfl (lv_room (Nat.le_of_ble_eq_true rfl)) dX6_layCourses_77 ⟨Nat.zero_le _, Nat.zero_le _⟩) hS hFc (fun H1 t h1 h2 h3 => zM_55 (cI := cI) (cB := cB) (cO := cO) hP hD h1 h2 h3) (fun H locs hP hD hS => ?_)
          clear hFc
          have e9 := zend h
          have f9_0 := (Prod.mk.inj e9).1
          replace e9 := (Prod.mk.inj e9).2
          subst f9_0
          subst e9
          exact K80 _ _ _ hP hD hS (lv_sub hl [1, 0] rfl)
      clear h
      have h := j15
      clear j15
      refine lv_if_ne (tgt := 60) hx hb dX6_layCourses_52 (by decide) (fun c16 => ?_) (fun c16 => ?_)
      · have h := zif_f c16 h
        cases zend h
        exact K60 _ _ _ hP hD hS (lv_sub hl [1, 2] rfl)
      · have h := zif_t c16 h
        refine lv_aload_n hx hb dX6_layCourses_55 rfl (lv_at hl 1 rfl) ?_
        refine lv_iload_n hx hb dX6_layCourses_56 rfl (lv_at hl 2 rfl) ?_
        obtain ⟨Ma_17, g18, h⟩ := zb1_s h
        have hFc := va_free (wc := (zwM cI cB Mo Mp Ms Mj Ma_6)) hD hS hA [0, 1, 2, 3, 4, 5, 6, 7, 8, 9, 10, 11, 12, 13, 14, 15, 16, 17, 18, 19, 20, 21, 22] (zC_55 (cI := cI) (cB := cB) (cO := cO))
        refine zcm_v (w2 := (zwM cI cB Mo Mp Ms Mj Ma_17)) (va_runV (As := [.int x1_7h]) (rest := []) ⟨hx, hb, hml, hown, hts⟩ (c_X6_end l D cI cB cO Mo Mp Ms Mj Ma_6 x1_7h _ _ g18) (cwV 1 hts gX6_layCourses_X6_end rfl rfl rfl kV_X6_end ⟨Nat.le_trans (Nat.le_of_ble_eq_true rfl) hRf, Nat.le_trans (Nat.le_of_ble_eq_true rfl) hRl⟩) (zpreV hK hP hD hS hE hFc [0, 1, 2, 3, 4, 5, 6, 7, 8, 9, 10, 11, 12, 13, 14, 15, 16, 17, 18, 19, 20, 21, 22] (zC_55 (cI := cI) (cB := cB) (cO := cO)) rfl 0 (ci := 6) rfl rfl [.int x1_7h]) rfl rfl hl.1 rfl (lv_room (Nat.le_of_ble_eq_true rfl)) dX6_layCourses_57 ⟨Nat.zero_le _, Nat.zero_le _⟩) hS hFc (fun H1 t h1 h2 h3 => zM_55 (cI := cI) (cB := cB) (cO := cO) hP hD h1 h2 h3) (fun H locs hP hD hS => ?_)
        clear hFc
        cases zend h
        exact K60 _ _ _ hP hD hS (lv_sub hl [1, 2] rfl)
    · have h := zif_f c9 h
      refine lv_aload_n hx hb dX6_layCourses_22 rfl (lv_at hl 1 rfl) ?_
      refine lv_iload_n hx hb dX6_layCourses_23 rfl (lv_at hl 2 rfl) ?_
      refine lv_iload_n hx hb dX6_layCourses_24 rfl (lv_at hl 0 rfl) ?_
      refine lv_bipush (v := (12 : Int32)) hx hb dX6_layCourses_25 (by decide) ?_
      refine lv_idiv hx hb dX6_layCourses_27 (by decide) ?_
      refine lv_iload_n hx hb dX6_layCourses_28 rfl (lv_at hl 0 rfl) ?_
      refine lv_bipush (v := (12 : Int32)) hx hb dX6_layCourses_29 (by decide) ?_
      refine lv_irem hx hb dX6_layCourses_31 (by decide) ?_
      obtain ⟨Ma_19, g20, h⟩ := zb1_s h
      have hFc := va_free (wc := (zwM cI cB Mo Mp Ms Mj Ma_6)) hD hS hA [0, 1, 2, 3, 4, 5, 6, 7, 8, 9, 10, 11, 12, 13, 14, 15, 16, 17, 18, 19, 20, 21, 22] (zC_55 (cI := cI) (cB := cB) (cO := cO))
      refine zcm_v (w2 := (zwM cI cB Mo Mp Ms Mj Ma_19)) (va_runV (As := [.int x1_7h, .int (r5 / (12 : Int32)), .int (r5 - r5 / (12 : Int32) * (12 : Int32))]) (rest := []) ⟨hx, hb, hml, hown, hts⟩ (c_X6_goDeep l D cI cB cO Mo Mp Ms Mj Ma_6 x1_7h (r5 / (12 : Int32)) (r5 - r5 / (12 : Int32) * (12 : Int32)) _ _ g20) (cwV 3 hts gX6_layCourses_X6_goDeep rfl rfl rfl kV_X6_goDeep ⟨Nat.le_trans (Nat.le_of_ble_eq_true rfl) hRf, Nat.le_trans (Nat.le_of_ble_eq_true rfl) hRl⟩) (zpreV hK hP hD hS hE hFc [0, 1, 2, 3, 4, 5, 6, 7, 8, 9, 10, 11, 12, 13, 14, 15, 16, 17, 18, 19, 20, 21, 22] (zC_55 (cI := cI) (cB := cB) (cO := cO)) rfl 0 (ci := 6) rfl rfl [.int x1_7h, .int (r5 / (12 : Int32)), .int (r5 - r5 / (12 : Int32) * (12 : Int32))]) rfl rfl hl.1 rfl (lv_room (Nat.le_of_ble_eq_true rfl)) dX6_layCourses_32 ⟨Nat.zero_le _, Nat.zero_le _⟩) hS hFc (fun H1 t h1 h2 h3 => zM_55 (cI := cI) (cB := cB) (cO := cO) hP hD h1 h2 h3) (fun H locs hP hD hS => ?_)
      clear hFc
      refine lv_iinc (v := (x1_7h + (1 : Int32))) (lv' := [(1, .int (x1_7h + (1 : Int32))), (2, .int r5), (0, .ref Mo)]) hx hb dX6_layCourses_35 hl (k := 2) rfl rfl (by decide) rfl (fun ls hl => ?_)
      refine lv_aload_n hx hb dX6_layCourses_38 rfl (lv_at hl 2 rfl) ?_
      refine lv_iload_n hx hb dX6_layCourses_39 rfl (lv_at hl 0 rfl) ?_
      obtain ⟨Ma_21, g22, h⟩ := zb1_s h
      have hFc := va_free (wc := (zwM cI cB Mo Mp Ms Mj Ma_19)) hD hS hA [0, 1, 2, 3, 4, 5, 6, 7, 8, 9, 10, 11, 12, 13, 14, 15, 16, 17, 18, 19, 20, 21, 22] (zC_55 (cI := cI) (cB := cB) (cO := cO))
      refine zcm_v (w2 := (zwM cI cB Mo Mp Ms Mj Ma_21)) (va_runV (As := [.int (x1_7h + (1 : Int32))]) (rest := []) ⟨hx, hb, hml, hown, hts⟩ (c_X6_begin l D cI cB cO Mo Mp Ms Mj Ma_19 (x1_7h + (1 : Int32)) _ _ g22) (cwV 1 hts gX6_layCourses_X6_begin rfl rfl rfl kV_X6_begin ⟨Nat.le_trans (Nat.le_of_ble_eq_true rfl) hRf, Nat.le_trans (Nat.le_of_ble_eq_true rfl) hRl⟩) (zpreV hK hP hD hS hE hFc [0, 1, 2, 3, 4, 5, 6, 7, 8, 9, 10, 11, 12, 13, 14, 15, 16, 17, 18, 19, 20, 21, 22] (zC_55 (cI := cI) (cB := cB) (cO := cO)) rfl 0 (ci := 6) rfl rfl [.int (x1_7h + (1 : Int32))]) rfl rfl hl.1 rfl (lv_room (Nat.le_of_ble_eq_true rfl)) dX6_layCourses_40 ⟨Nat.zero_le _, Nat.zero_le _⟩) hS hFc (fun H1 t h1 h2 h3 => zM_55 (cI := cI) (cB := cB) (cO := cO) hP hD h1 h2 h3) (fun H locs hP hD hS => ?_)
      clear hFc
      refine lv_goto (tgt := 80) hx hb dX6_layCourses_43 (by decide) ?_
      have e9 := zend h
      have f9_0 := (Prod.mk.inj e9).1
      replace e9 := (Prod.mk.inj e9).2
      subst f9_0
      subst e9
      exact K80 _ _ _ hP hD hS (lv_sub hl [2, 0] rfl)
set_option maxHeartbeats 4000000 in
set_option maxRecDepth 100000 in
theorem c_X6_coursesNow (l : Launch) (D : va_G) (cI cB cO : ClassId) (Mo : Nat) (Mp : Nat → Nat) (Ms : Nat → Int32) (Mj : Nat → Int64) (Ma : Nat → Nat → Int32) (a0 : Int32) (rv : Int32) (Ma' : Nat → Nat → Int32) (sz : Nat) (h : fX6_coursesNow Ms Ma a0 = some (rv, Ma')) : Met l yX6_coursesNow wsX6_coursesNow ({ frames := 5, cells := 0, slots := 0, locals := 117 } : Room) (va_Pc [.ref Mo, .int a0] (zPre D (zTY cI cB cO) (zwM cI cB Mo Mp Ms Mj Ma) sz)) (va_Qi (fun r (_ : Unit) => r = rv) (fun _ => zPost D (zTY cI cB cO) (zwM cI cB Mo Mp Ms Mj Ma') (va_A (zwM cI cB Mo Mp Ms Mj Ma) sz)) (va_A (zwM cI cB Mo Mp Ms Mj Ma) sz)) 0 0 (va_A (zwM cI cB Mo Mp Ms Mj Ma) sz) := by
  unfold fX6_coursesNow at h
  refine zmet_i (cc := cX6_coursesNow) (maxL := 2) (by decide) rfl (Nat.le_of_ble_eq_true rfl) rfl rfl ?_
  intro p e s m args below meth c R Q A ls hx hb hts hown hml hK hP hD hE hA hS hRf hRl hl hq
  have hown : s.vm.findClass RX6 = some m.cls := hown
  have hl : lv_has ls 2 [(0, .ref Mo), (1, .int a0)] := hl
  have inX6 : ∀ w ∈ u_ws RX6 TX6 40, w ∈ wsX6_coursesNow := by decide +kernel
  have lk41 : (Cond.fieldLink RX6 41 "PegFieldModel" "fewestOf" "[I").before args s = true := hts _ (by decide +kernel)
  have lk44 : (Cond.fieldLink RX6 44 "PegFieldModel" "firstOf" "[I").before args s = true := hts _ (by decide +kernel)
  have lk38 : (Cond.fieldLink RX6 38 "PegFieldModel" "waysOf" "[I").before args s = true := hts _ (by decide +kernel)
  have lk47 : (Cond.fieldLink RX6 47 "PegFieldModel" "longestOf" "[I").before args s = true := hts _ (by decide +kernel)
  have lk50 : (Cond.fieldLink RX6 50 "PegFieldModel" "shortestOf" "[I").before args s = true := hts _ (by decide +kernel)
  have lk53 : (Cond.fieldLink RX6 53 "PegFieldModel" "aloneOf" "[I").before args s = true := hts _ (by decide +kernel)
  refine lv_aload_n hx hb dX6_coursesNow_0 rfl (lv_at hl 0 rfl) ?_
  obtain ⟨Ma_1, g2, h⟩ := zb1_s h
  have hFc := va_free (wc := (zwM cI cB Mo Mp Ms Mj Ma)) hD hS hA [0, 1, 2, 3, 4, 5, 6, 7, 8, 9, 10, 11, 12, 13, 14, 15, 16, 17, 18, 19, 20, 21, 22] (zC_55 (cI := cI) (cB := cB) (cO := cO))
  refine zcm_v (w2 := (zwM cI cB Mo Mp Ms Mj Ma_1)) (va_runV (As := []) (rest := []) ⟨hx, hb, hml, hown, hts⟩ (c_X6_putDeep l D cI cB cO Mo Mp Ms Mj Ma _ _ g2) (cwV 0 hts gX6_coursesNow_X6_putDeep rfl rfl rfl kV_X6_putDeep ⟨Nat.le_trans (Nat.le_of_ble_eq_true rfl) hRf, Nat.le_trans (Nat.le_of_ble_eq_true rfl) hRl⟩) (zpreV hK hP hD hS hE hFc [0, 1, 2, 3, 4, 5, 6, 7, 8, 9, 10, 11, 12, 13, 14, 15, 16, 17, 18, 19, 20, 21, 22] (zC_55 (cI := cI) (cB := cB) (cO := cO)) rfl 0 (ci := 6) rfl rfl []) rfl rfl hl.1 rfl (lv_room (Nat.le_of_ble_eq_true rfl)) dX6_coursesNow_1 ⟨Nat.zero_le _, Nat.zero_le _⟩) hS hFc (fun H1 t h1 h2 h3 => zM_55 (cI := cI) (cB := cB) (cO := cO) hP hD h1 h2 h3) (fun H locs hP hD hS => ?_)
  clear hFc
  refine lv_aload_n hx hb dX6_coursesNow_4 rfl (lv_at hl 0 rfl) ?_
  obtain ⟨Ma_3, g4, h⟩ := zb1_s h
  have hFc := va_free (wc := (zwM cI cB Mo Mp Ms Mj Ma_1)) hD hS hA [0, 1, 2, 3, 4, 5, 6, 7, 8, 9, 10, 11, 12, 13, 14, 15, 16, 17, 18, 19, 20, 21, 22] (zC_55 (cI := cI) (cB := cB) (cO := cO))
  refine zcm_v (w2 := (zwM cI cB Mo Mp Ms Mj Ma_3)) (va_runV (As := []) (rest := []) ⟨hx, hb, hml, hown, hts⟩ (c_X6_layCourses l D cI cB cO Mo Mp Ms Mj Ma_1 _ _ g4) (cwV 0 hts gX6_coursesNow_X6_layCourses rfl rfl rfl kV_X6_layCourses ⟨Nat.le_trans (Nat.le_of_ble_eq_true rfl) hRf, Nat.le_trans (Nat.le_of_ble_eq_true rfl) hRl⟩) (zpreV hK hP hD hS hE hFc [0, 1, 2, 3, 4, 5, 6, 7, 8, 9, 10, 11, 12, 13, 14, 15, 16, 17, 18, 19, 20, 21, 22] (zC_55 (cI := cI) (cB := cB) (cO := cO)) rfl 0 (ci := 6) rfl rfl []) rfl rfl hl.1 rfl (lv_room (Nat.le_of_ble_eq_true rfl)) dX6_coursesNow_5 ⟨Nat.zero_le _, Nat.zero_le _⟩) hS hFc (fun H1 t h1 h2 h3 => zM_55 (cI := cI) (cB := cB) (cO := cO) hP hD h1 h2 h3) (fun H locs hP hD hS => ?_)
  clear hFc
  refine lv_iload_n hx hb dX6_coursesNow_8 rfl (lv_at hl 1 rfl) ?_
  by_cases c5 : a0 = (0 : Int32)
  · have h := zif_t c5 h
    refine lv_tableIn (tgt := 44) (off := 35) hx hb dX6_coursesNow_9 (by rw [c5]; decide) (by rw [c5]; decide) (by rw [c5]; rfl) (by decide) ?_
    refine lv_aload_n hx hb dX6_coursesNow_44 rfl (lv_at hl 0 rfl) ?_
    refine va_get (D := D) (ci := 6) (v := .ref (Mp 21)) (C := RX6) (T := TX6) (N := 40) hx hb hts inX6 hown hK hP 0 rfl rfl 21 (by decide) lk41 (fun _ h9 => h9) rfl dX6_coursesNow_45 ?_
    refine lv_iconst (v := (0 : Int32)) hx hb dX6_coursesNow_48 (by decide) ?_
    obtain ⟨z6, h⟩ := zck_s h
    refine va_iald hx hb hK hP 11 0 rfl rfl (zin_s z6) dX6_coursesNow_49 ?_
    cases zend h
    exact hq hP hD hS dX6_coursesNow_50
  · have h := zif_f c5 h
    by_cases c7 : a0 = (1 : Int32)
    · have h := zif_t c7 h
      refine lv_tableIn (tgt := 51) (off := 42) hx hb dX6_coursesNow_9 (by rw [c7]; decide) (by rw [c7]; decide) (by rw [c7]; rfl) (by decide) ?_
      refine lv_aload_n hx hb dX6_coursesNow_51 rfl (lv_at hl 0 rfl) ?_
      refine va_get (D := D) (ci := 6) (v := .ref (Mp 22)) (C := RX6) (T := TX6) (N := 40) hx hb hts inX6 hown hK hP 0 rfl rfl 22 (by decide) lk44 (fun _ h9 => h9) rfl dX6_coursesNow_52 ?_
      refine lv_iconst (v := (0 : Int32)) hx hb dX6_coursesNow_55 (by decide) ?_
      obtain ⟨z8, h⟩ := zck_s h
      refine va_iald hx hb hK hP 12 0 rfl rfl (zin_s z8) dX6_coursesNow_56 ?_
      cases zend h
      exact hq hP hD hS dX6_coursesNow_57
    · have h := zif_f c7 h
      by_cases c9 : a0 = (2 : Int32)
      · have h := zif_t c9 h
        refine lv_tableIn (tgt := 58) (off := 49) hx hb dX6_coursesNow_9 (by rw [c9]; decide) (by rw [c9]; decide) (by rw [c9]; rfl) (by decide) ?_
        refine lv_aload_n hx hb dX6_coursesNow_58 rfl (lv_at hl 0 rfl) ?_
        refine va_get (D := D) (ci := 6) (v := .ref (Mp 20)) (C := RX6) (T := TX6) (N := 40) hx hb hts inX6 hown hK hP 0 rfl rfl 20 (by decide) lk38 (fun _ h9 => h9) rfl dX6_coursesNow_59 ?_
        refine lv_iconst (v := (0 : Int32)) hx hb dX6_coursesNow_62 (by decide) ?_
        obtain ⟨z10, h⟩ := zck_s h
        refine va_iald hx hb hK hP 10 0 rfl rfl (zin_s z10) dX6_coursesNow_63 ?_
        cases zend h
        exact hq hP hD hS dX6_coursesNow_64
      · have h := zif_f c9 h
        by_cases c11 : a0 = (3 : Int32)
        · have h := zif_t c11 h
          refine lv_tableIn (tgt := 65) (off := 56) hx hb dX6_coursesNow_9 (by rw [c11]; decide) (by rw [c11]; decide) (by rw [c11]; rfl) (by decide) ?_
          refine lv_aload_n hx hb dX6_coursesNow_65 rfl (lv_at hl 0 rfl) ?_
          refine va_get (D := D) (ci := 6) (v := .ref (Mp 23)) (C := RX6) (T := TX6) (N := 40) hx hb hts inX6 hown hK hP 0 rfl rfl 23 (by decide) lk47 (fun _ h9 => h9) rfl dX6_coursesNow_66 ?_
          refine lv_iconst (v := (0 : Int32)) hx hb dX6_coursesNow_69 (by decide) ?_
          obtain ⟨z12, h⟩ := zck_s h
          refine va_iald hx hb hK hP 13 0 rfl rfl (zin_s z12) dX6_coursesNow_70 ?_
          cases zend h
          exact hq hP hD hS dX6_coursesNow_71
        · have h := zif_f c11 h
          by_cases c13 : a0 = (4 : Int32)
          · have h := zif_t c13 h
            refine lv_tableIn (tgt := 72) (off := 63) hx hb dX6_coursesNow_9 (by rw [c13]; decide) (by rw [c13]; decide) (by rw [c13]; rfl) (by decide) ?_
            refine lv_aload_n hx hb dX6_coursesNow_72 rfl (lv_at hl 0 rfl) ?_
            refine va_get (D := D) (ci := 6) (v := .ref (Mp 24)) (C := RX6) (T := TX6) (N := 40) hx hb hts inX6 hown hK hP 0 rfl rfl 24 (by decide) lk50 (fun _ h9 => h9) rfl dX6_coursesNow_73 ?_
            refine lv_iconst (v := (0 : Int32)) hx hb dX6_coursesNow_76 (by decide) ?_
            obtain ⟨z14, h⟩ := zck_s h
            refine va_iald hx hb hK hP 14 0 rfl rfl (zin_s z14) dX6_coursesNow_77 ?_
            cases zend h
            exact hq hP hD hS dX6_coursesNow_78
          · have h := zif_f c13 h
            have nc5 := zne_i (k := 0) (0 : Int32) (by decide) c5
            have nc7 := zne_i (k := 1) (1 : Int32) (by decide) c7
            have nc9 := zne_i (k := 2) (2 : Int32) (by decide) c9
            have nc11 := zne_i (k := 3) (3 : Int32) (by decide) c11
            have nc13 := zne_i (k := 4) (4 : Int32) (by decide) c13
            refine lv_tableOut (tgt := 79) hx hb dX6_coursesNow_9 (by omega) (by decide) ?_
            refine lv_aload_n hx hb dX6_coursesNow_79 rfl (lv_at hl 0 rfl) ?_
            refine va_get (D := D) (ci := 6) (v := .ref (Mp 25)) (C := RX6) (T := TX6) (N := 40) hx hb hts inX6 hown hK hP 0 rfl rfl 25 (by decide) lk53 (fun _ h9 => h9) rfl dX6_coursesNow_80 ?_
            refine lv_iconst (v := (0 : Int32)) hx hb dX6_coursesNow_83 (by decide) ?_
            obtain ⟨z15, h⟩ := zck_s h
            refine va_iald hx hb hK hP 15 0 rfl rfl (zin_s z15) dX6_coursesNow_84 ?_
            cases zend h
            exact hq hP hD hS dX6_coursesNow_85
set_option maxHeartbeats 4000000 in
set_option maxRecDepth 100000 in
theorem c_X6_courses (l : Launch) (D : va_G) (cI cB cO : ClassId) (Mo : Nat) (Mp : Nat → Nat) (Ms : Nat → Int32) (Mj : Nat → Int64) (Ma : Nat → Nat → Int32) (a0 : Int32) (rv : Int32) (Ma' : Nat → Nat → Int32) (sz : Nat) (h : fX6_courses Ms Ma a0 = some (rv, Ma')) : Met l yX6_courses wsX6_courses ({ frames := 6, cells := 0, slots := 0, locals := 138 } : Room) (va_Pc [.ref Mo, .int a0] (zPre D (zTY cI cB cO) (zwM cI cB Mo Mp Ms Mj Ma) sz)) (va_Qi (fun r (_ : Unit) => r = rv) (fun _ => zPost D (zTY cI cB cO) (zwM cI cB Mo Mp Ms Mj Ma') (va_A (zwM cI cB Mo Mp Ms Mj Ma) sz)) (va_A (zwM cI cB Mo Mp Ms Mj Ma) sz)) 0 0 (va_A (zwM cI cB Mo Mp Ms Mj Ma) sz) := by
  unfold fX6_courses at h
  refine zmet_i (cc := cX6_courses) (maxL := 2) (by decide) rfl (Nat.le_of_ble_eq_true rfl) rfl rfl ?_
  intro p e s m args below meth c R Q A ls hx hb hts hown hml hK hP hD hE hA hS hRf hRl hl hq
  have hown : s.vm.findClass RX6 = some m.cls := hown
  have hl : lv_has ls 2 [(0, .ref Mo), (1, .int a0)] := hl
  have inX6 : ∀ w ∈ u_ws RX6 TX6 40, w ∈ wsX6_courses := by decide +kernel
  have lk115 : (Cond.fieldLink RX6 115 "PegFieldModel" "pegs" "I").before args s = true := hts _ (by decide +kernel)
  refine lv_iload_n hx hb dX6_courses_0 rfl (lv_at hl 1 rfl) ?_
  refine lv_iconst (v := (0 : Int32)) hx hb dX6_courses_1 (by decide) ?_
  refine lv_iconst (v := (5 : Int32)) hx hb dX6_courses_2 (by decide) ?_
  obtain ⟨r1, g2, h⟩ := zb1_s h
  have hFc := va_free (wc := ([] : va_W)) hD hS hA [] rfl
  refine zcp_i (va_runS (As := [.int a0, .int (0 : Int32), .int (5 : Int32)]) (rest := []) ⟨hx, hb, hml, hown, hts⟩ (c_X6_within l D cI cB cO a0 (0 : Int32) (5 : Int32) _ _ g2) (va_cwS 3 hts gX6_courses_X6_within rfl rfl rfl kS_X6_within ⟨Nat.le_trans (Nat.le_of_ble_eq_true rfl) hRf, Nat.le_trans (Nat.le_of_ble_eq_true rfl) hRl⟩) (zpreS hK hP hD hS hE hFc [] (rfl) rfl [.int a0, .int (0 : Int32), .int (5 : Int32)]) rfl rfl hl.1 rfl (lv_room (Nat.le_of_ble_eq_true rfl)) dX6_courses_3 ⟨Nat.zero_le _, Nat.zero_le _⟩) hP hD hS hFc [] (rfl) (fun H locs hP hS => ?_)
  clear hFc
  refine lv_if_ne (tgt := 12) hx hb dX6_courses_6 (by decide) (fun c3 => ?_) (fun c3 => ?_)
  · have h := zif_f c3 h
    refine lv_aload_n hx hb dX6_courses_12 rfl (lv_at hl 0 rfl) ?_
    refine va_get (D := D) (ci := 6) (v := .int (Ms 4)) (C := RX6) (T := TX6) (N := 40) hx hb hts inX6 hown hK hP 0 rfl rfl 4 (by decide) lk115 (fun _ h9 => h9) rfl dX6_courses_13 ?_
    refine lv_if_ne (tgt := 24) hx hb dX6_courses_16 (by decide) (fun c4 => ?_) (fun c4 => ?_)
    · have h := zif_f c4 h
      refine lv_aload_n hx hb dX6_courses_24 rfl (lv_at hl 0 rfl) ?_
      refine lv_iload_n hx hb dX6_courses_25 rfl (lv_at hl 1 rfl) ?_
      obtain ⟨r5, Ma_6, g7, h⟩ := zb2_s h
      have hFc := va_free (wc := (zwM cI cB Mo Mp Ms Mj Ma)) hD hS hA [0, 1, 2, 3, 4, 5, 6, 7, 8, 9, 10, 11, 12, 13, 14, 15, 16, 17, 18, 19, 20, 21, 22] (zC_55 (cI := cI) (cB := cB) (cO := cO))
      refine zcm_i (w2 := (zwM cI cB Mo Mp Ms Mj Ma_6)) (va_runV (As := [.int a0]) (rest := []) ⟨hx, hb, hml, hown, hts⟩ (c_X6_coursesNow l D cI cB cO Mo Mp Ms Mj Ma a0 _ _ _ g7) (cwV 1 hts gX6_courses_X6_coursesNow rfl rfl rfl kV_X6_coursesNow ⟨Nat.le_trans (Nat.le_of_ble_eq_true rfl) hRf, Nat.le_trans (Nat.le_of_ble_eq_true rfl) hRl⟩) (zpreV hK hP hD hS hE hFc [0, 1, 2, 3, 4, 5, 6, 7, 8, 9, 10, 11, 12, 13, 14, 15, 16, 17, 18, 19, 20, 21, 22] (zC_55 (cI := cI) (cB := cB) (cO := cO)) rfl 0 (ci := 6) rfl rfl [.int a0]) rfl rfl hl.1 rfl (lv_room (Nat.le_of_ble_eq_true rfl)) dX6_courses_26 ⟨Nat.zero_le _, Nat.zero_le _⟩) hS hFc (fun H1 t h1 h2 h3 => zM_55 (cI := cI) (cB := cB) (cO := cO) hP hD h1 h2 h3) (fun H locs hP hD hS => ?_)
      clear hFc
      cases zend h
      exact hq hP hD hS dX6_courses_29
    · have h := zif_t c4 h
      refine lv_bipush (v := (-103 : Int32)) hx hb dX6_courses_19 (by decide) ?_
      refine lv_goto (tgt := 29) hx hb dX6_courses_21 (by decide) ?_
      cases zend h
      exact hq hP hD hS dX6_courses_29
  · have h := zif_t c3 h
    refine lv_bipush (v := (-102 : Int32)) hx hb dX6_courses_9 (by decide) ?_
    cases zend h
    exact hq hP hD hS dX6_courses_11
set_option maxHeartbeats 4000000 in
set_option maxRecDepth 100000 in
theorem c_X6_winsNow (l : Launch) (D : va_G) (cI cB cO : ClassId) (Mo : Nat) (Mp : Nat → Nat) (Ms : Nat → Int32) (Mj : Nat → Int64) (Ma : Nat → Nat → Int32) (a0 : Int32) (rv : Int32) (Ma' : Nat → Nat → Int32) (sz : Nat) (h : fX6_winsNow Ms Ma a0 = some (rv, Ma')) : Met l yX6_winsNow wsX6_winsNow ({ frames := 5, cells := 0, slots := 0, locals := 117 } : Room) (va_Pc [.ref Mo, .int a0] (zPre D (zTY cI cB cO) (zwM cI cB Mo Mp Ms Mj Ma) sz)) (va_Qi (fun r (_ : Unit) => r = rv) (fun _ => zPost D (zTY cI cB cO) (zwM cI cB Mo Mp Ms Mj Ma') (va_A (zwM cI cB Mo Mp Ms Mj Ma) sz)) (va_A (zwM cI cB Mo Mp Ms Mj Ma) sz)) 0 0 (va_A (zwM cI cB Mo Mp Ms Mj Ma) sz) := by
  unfold fX6_winsNow at h
  refine zmet_i (cc := cX6_winsNow) (maxL := 2) (by decide) rfl (Nat.le_of_ble_eq_true rfl) rfl rfl ?_
  intro p e s m args below meth c R Q A ls hx hb hts hown hml hK hP hD hE hA hS hRf hRl hl hq
  have hown : s.vm.findClass RX6 = some m.cls := hown
  have hl : lv_has ls 2 [(0, .ref Mo), (1, .int a0)] := hl
  have inX6 : ∀ w ∈ u_ws RX6 TX6 40, w ∈ wsX6_winsNow := by decide +kernel
  have lk56 : (Cond.fieldLink RX6 56 "PegFieldModel" "winOf" "[I").before args s = true := hts _ (by decide +kernel)
  refine lv_aload_n hx hb dX6_winsNow_0 rfl (lv_at hl 0 rfl) ?_
  obtain ⟨Ma_1, g2, h⟩ := zb1_s h
  have hFc := va_free (wc := (zwM cI cB Mo Mp Ms Mj Ma)) hD hS hA [0, 1, 2, 3, 4, 5, 6, 7, 8, 9, 10, 11, 12, 13, 14, 15, 16, 17, 18, 19, 20, 21, 22] (zC_55 (cI := cI) (cB := cB) (cO := cO))
  refine zcm_v (w2 := (zwM cI cB Mo Mp Ms Mj Ma_1)) (va_runV (As := []) (rest := []) ⟨hx, hb, hml, hown, hts⟩ (c_X6_putDeep l D cI cB cO Mo Mp Ms Mj Ma _ _ g2) (cwV 0 hts gX6_winsNow_X6_putDeep rfl rfl rfl kV_X6_putDeep ⟨Nat.le_trans (Nat.le_of_ble_eq_true rfl) hRf, Nat.le_trans (Nat.le_of_ble_eq_true rfl) hRl⟩) (zpreV hK hP hD hS hE hFc [0, 1, 2, 3, 4, 5, 6, 7, 8, 9, 10, 11, 12, 13, 14, 15, 16, 17, 18, 19, 20, 21, 22] (zC_55 (cI := cI) (cB := cB) (cO := cO)) rfl 0 (ci := 6) rfl rfl []) rfl rfl hl.1 rfl (lv_room (Nat.le_of_ble_eq_true rfl)) dX6_winsNow_1 ⟨Nat.zero_le _, Nat.zero_le _⟩) hS hFc (fun H1 t h1 h2 h3 => zM_55 (cI := cI) (cB := cB) (cO := cO) hP hD h1 h2 h3) (fun H locs hP hD hS => ?_)
  clear hFc
  refine lv_aload_n hx hb dX6_winsNow_4 rfl (lv_at hl 0 rfl) ?_
  obtain ⟨Ma_3, g4, h⟩ := zb1_s h
  have hFc := va_free (wc := (zwM cI cB Mo Mp Ms Mj Ma_1)) hD hS hA [0, 1, 2, 3, 4, 5, 6, 7, 8, 9, 10, 11, 12, 13, 14, 15, 16, 17, 18, 19, 20, 21, 22] (zC_55 (cI := cI) (cB := cB) (cO := cO))
  refine zcm_v (w2 := (zwM cI cB Mo Mp Ms Mj Ma_3)) (va_runV (As := []) (rest := []) ⟨hx, hb, hml, hown, hts⟩ (c_X6_layCourses l D cI cB cO Mo Mp Ms Mj Ma_1 _ _ g4) (cwV 0 hts gX6_winsNow_X6_layCourses rfl rfl rfl kV_X6_layCourses ⟨Nat.le_trans (Nat.le_of_ble_eq_true rfl) hRf, Nat.le_trans (Nat.le_of_ble_eq_true rfl) hRl⟩) (zpreV hK hP hD hS hE hFc [0, 1, 2, 3, 4, 5, 6, 7, 8, 9, 10, 11, 12, 13, 14, 15, 16, 17, 18, 19, 20, 21, 22] (zC_55 (cI := cI) (cB := cB) (cO := cO)) rfl 0 (ci := 6) rfl rfl []) rfl rfl hl.1 rfl (lv_room (Nat.le_of_ble_eq_true rfl)) dX6_winsNow_5 ⟨Nat.zero_le _, Nat.zero_le _⟩) hS hFc (fun H1 t h1 h2 h3 => zM_55 (cI := cI) (cB := cB) (cO := cO) hP hD h1 h2 h3) (fun H locs hP hD hS => ?_)
  clear hFc
  refine lv_iload_n hx hb dX6_winsNow_8 rfl (lv_at hl 1 rfl) ?_
  refine lv_iconst (v := (1 : Int32)) hx hb dX6_winsNow_9 (by decide) ?_
  refine lv_icmp_ne (tgt := 22) hx hb dX6_winsNow_10 (by decide) (fun c5 => ?_) (fun c5 => ?_)
  · have h := zif_f c5 h
    refine lv_aload_n hx hb dX6_winsNow_22 rfl (lv_at hl 0 rfl) ?_
    refine va_get (D := D) (ci := 6) (v := .ref (Mp 26)) (C := RX6) (T := TX6) (N := 40) hx hb hts inX6 hown hK hP 0 rfl rfl 26 (by decide) lk56 (fun _ h9 => h9) rfl dX6_winsNow_23 ?_
    refine lv_iconst (v := (0 : Int32)) hx hb dX6_winsNow_26 (by decide) ?_
    obtain ⟨z6, h⟩ := zck_s h
    refine va_iald hx hb hK hP 16 0 rfl rfl (zin_s z6) dX6_winsNow_27 ?_
    refine lv_iconst (v := (-1 : Int32)) hx hb dX6_winsNow_28 (by decide) ?_
    refine lv_icmp_ne (tgt := 36) hx hb dX6_winsNow_29 (by decide) (fun c7 => ?_) (fun c7 => ?_)
    · have h := zif_f c7 h
      refine lv_iconst (v := (1 : Int32)) hx hb dX6_winsNow_36 (by decide) ?_
      cases zend h
      exact hq hP hD hS dX6_winsNow_37
    · have h := zif_t c7 h
      refine lv_iconst (v := (0 : Int32)) hx hb dX6_winsNow_32 (by decide) ?_
      refine lv_goto (tgt := 37) hx hb dX6_winsNow_33 (by decide) ?_
      cases zend h
      exact hq hP hD hS dX6_winsNow_37
  · have h := zif_t c5 h
    refine lv_aload_n hx hb dX6_winsNow_13 rfl (lv_at hl 0 rfl) ?_
    refine va_get (D := D) (ci := 6) (v := .ref (Mp 26)) (C := RX6) (T := TX6) (N := 40) hx hb hts inX6 hown hK hP 0 rfl rfl 26 (by decide) lk56 (fun _ h9 => h9) rfl dX6_winsNow_14 ?_
    refine lv_iconst (v := (0 : Int32)) hx hb dX6_winsNow_17 (by decide) ?_
    obtain ⟨z8, h⟩ := zck_s h
    refine va_iald hx hb hK hP 16 0 rfl rfl (zin_s z8) dX6_winsNow_18 ?_
    refine lv_goto (tgt := 37) hx hb dX6_winsNow_19 (by decide) ?_
    cases zend h
    exact hq hP hD hS dX6_winsNow_37
set_option maxHeartbeats 4000000 in
set_option maxRecDepth 100000 in
theorem c_X6_wins (l : Launch) (D : va_G) (cI cB cO : ClassId) (Mo : Nat) (Mp : Nat → Nat) (Ms : Nat → Int32) (Mj : Nat → Int64) (Ma : Nat → Nat → Int32) (a0 : Int32) (rv : Int32) (Ma' : Nat → Nat → Int32) (sz : Nat) (h : fX6_wins Ms Ma a0 = some (rv, Ma')) : Met l yX6_wins wsX6_wins ({ frames := 6, cells := 0, slots := 0, locals := 138 } : Room) (va_Pc [.ref Mo, .int a0] (zPre D (zTY cI cB cO) (zwM cI cB Mo Mp Ms Mj Ma) sz)) (va_Qi (fun r (_ : Unit) => r = rv) (fun _ => zPost D (zTY cI cB cO) (zwM cI cB Mo Mp Ms Mj Ma') (va_A (zwM cI cB Mo Mp Ms Mj Ma) sz)) (va_A (zwM cI cB Mo Mp Ms Mj Ma) sz)) 0 0 (va_A (zwM cI cB Mo Mp Ms Mj Ma) sz) := by
  unfold fX6_wins at h
  refine zmet_i (cc := cX6_wins) (maxL := 2) (by decide) rfl (Nat.le_of_ble_eq_true rfl) rfl rfl ?_
  intro p e s m args below meth c R Q A ls hx hb hts hown hml hK hP hD hE hA hS hRf hRl hl hq
  have hown : s.vm.findClass RX6 = some m.cls := hown
  have hl : lv_has ls 2 [(0, .ref Mo), (1, .int a0)] := hl
  have inX6 : ∀ w ∈ u_ws RX6 TX6 40, w ∈ wsX6_wins := by decide +kernel
  have lk115 : (Cond.fieldLink RX6 115 "PegFieldModel" "pegs" "I").before args s = true := hts _ (by decide +kernel)
  refine lv_iload_n hx hb dX6_wins_0 rfl (lv_at hl 1 rfl) ?_
  refine lv_iconst (v := (0 : Int32)) hx hb dX6_wins_1 (by decide) ?_
  refine lv_iconst (v := (1 : Int32)) hx hb dX6_wins_2 (by decide) ?_
  obtain ⟨r1, g2, h⟩ := zb1_s h
  have hFc := va_free (wc := ([] : va_W)) hD hS hA [] rfl
  refine zcp_i (va_runS (As := [.int a0, .int (0 : Int32), .int (1 : Int32)]) (rest := []) ⟨hx, hb, hml, hown, hts⟩ (c_X6_within l D cI cB cO a0 (0 : Int32) (1 : Int32) _ _ g2) (va_cwS 3 hts gX6_wins_X6_within rfl rfl rfl kS_X6_within ⟨Nat.le_trans (Nat.le_of_ble_eq_true rfl) hRf, Nat.le_trans (Nat.le_of_ble_eq_true rfl) hRl⟩) (zpreS hK hP hD hS hE hFc [] (rfl) rfl [.int a0, .int (0 : Int32), .int (1 : Int32)]) rfl rfl hl.1 rfl (lv_room (Nat.le_of_ble_eq_true rfl)) dX6_wins_3 ⟨Nat.zero_le _, Nat.zero_le _⟩) hP hD hS hFc [] (rfl) (fun H locs hP hS => ?_)
  clear hFc
  refine lv_if_ne (tgt := 12) hx hb dX6_wins_6 (by decide) (fun c3 => ?_) (fun c3 => ?_)
  · have h := zif_f c3 h
    refine lv_aload_n hx hb dX6_wins_12 rfl (lv_at hl 0 rfl) ?_
    refine va_get (D := D) (ci := 6) (v := .int (Ms 4)) (C := RX6) (T := TX6) (N := 40) hx hb hts inX6 hown hK hP 0 rfl rfl 4 (by decide) lk115 (fun _ h9 => h9) rfl dX6_wins_13 ?_
    refine lv_if_ne (tgt := 24) hx hb dX6_wins_16 (by decide) (fun c4 => ?_) (fun c4 => ?_)
    · have h := zif_f c4 h
      refine lv_aload_n hx hb dX6_wins_24 rfl (lv_at hl 0 rfl) ?_
      refine lv_iload_n hx hb dX6_wins_25 rfl (lv_at hl 1 rfl) ?_
      obtain ⟨r5, Ma_6, g7, h⟩ := zb2_s h
      have hFc := va_free (wc := (zwM cI cB Mo Mp Ms Mj Ma)) hD hS hA [0, 1, 2, 3, 4, 5, 6, 7, 8, 9, 10, 11, 12, 13, 14, 15, 16, 17, 18, 19, 20, 21, 22] (zC_55 (cI := cI) (cB := cB) (cO := cO))
      refine zcm_i (w2 := (zwM cI cB Mo Mp Ms Mj Ma_6)) (va_runV (As := [.int a0]) (rest := []) ⟨hx, hb, hml, hown, hts⟩ (c_X6_winsNow l D cI cB cO Mo Mp Ms Mj Ma a0 _ _ _ g7) (cwV 1 hts gX6_wins_X6_winsNow rfl rfl rfl kV_X6_winsNow ⟨Nat.le_trans (Nat.le_of_ble_eq_true rfl) hRf, Nat.le_trans (Nat.le_of_ble_eq_true rfl) hRl⟩) (zpreV hK hP hD hS hE hFc [0, 1, 2, 3, 4, 5, 6, 7, 8, 9, 10, 11, 12, 13, 14, 15, 16, 17, 18, 19, 20, 21, 22] (zC_55 (cI := cI) (cB := cB) (cO := cO)) rfl 0 (ci := 6) rfl rfl [.int a0]) rfl rfl hl.1 rfl (lv_room (Nat.le_of_ble_eq_true rfl)) dX6_wins_26 ⟨Nat.zero_le _, Nat.zero_le _⟩) hS hFc (fun H1 t h1 h2 h3 => zM_55 (cI := cI) (cB := cB) (cO := cO) hP hD h1 h2 h3) (fun H locs hP hD hS => ?_)
      clear hFc
      cases zend h
      exact hq hP hD hS dX6_wins_29
    · have h := zif_t c4 h
      refine lv_bipush (v := (-103 : Int32)) hx hb dX6_wins_19 (by decide) ?_
      refine lv_goto (tgt := 29) hx hb dX6_wins_21 (by decide) ?_
      cases zend h
      exact hq hP hD hS dX6_wins_29
  · have h := zif_t c3 h
    refine lv_bipush (v := (-102 : Int32)) hx hb dX6_wins_9 (by decide) ?_
    cases zend h
    exact hq hP hD hS dX6_wins_11
set_option maxHeartbeats 4000000 in
set_option maxRecDepth 100000 in
theorem c_X6_addNow (l : Launch) (D : va_G) (cI cB cO : ClassId) (Mo : Nat) (Mp : Nat → Nat) (Ms : Nat → Int32) (Mj : Nat → Int64) (Ma : Nat → Nat → Int32)  (rv : Int32) (Ms' : Nat → Int32) (Ma' : Nat → Nat → Int32) (sz : Nat) (h : fX6_addNow Ms Ma = some (rv, Ms', Ma')) : Met l yX6_addNow wsX6_addNow ({ frames := 6, cells := 0, slots := 0, locals := 138 } : Room) (va_Pc [.ref Mo] (zPre D (zTY cI cB cO) (zwM cI cB Mo Mp Ms Mj Ma) sz)) (va_Qi (fun r (_ : Unit) => r = rv) (fun _ => zPost D (zTY cI cB cO) (zwM cI cB Mo Mp Ms' Mj Ma') (va_A (zwM cI cB Mo Mp Ms Mj Ma) sz)) (va_A (zwM cI cB Mo Mp Ms Mj Ma) sz)) 0 0 (va_A (zwM cI cB Mo Mp Ms Mj Ma) sz) := by
  unfold fX6_addNow at h
  refine zmet_i (cc := cX6_addNow) (maxL := 3) (by decide) rfl (Nat.le_of_ble_eq_true rfl) rfl rfl ?_
  intro p e s m args below meth c R Q A ls hx hb hts hown hml hK hP hD hE hA hS hRf hRl hl hq
  have hown : s.vm.findClass RX6 = some m.cls := hown
  have hl : lv_has ls 3 [(0, .ref Mo)] := hl
  have inX6 : ∀ w ∈ u_ws RX6 TX6 40, w ∈ wsX6_addNow := by decide +kernel
  have lk7 : (Cond.fieldLink RX6 7 "PegFieldModel" "kindOf" "[I").before args s = true := hts _ (by decide +kernel)
  have lk115 : (Cond.fieldLink RX6 115 "PegFieldModel" "pegs" "I").before args s = true := hts _ (by decide +kernel)
  have lk13 : (Cond.fieldLink RX6 13 "PegFieldModel" "placeOf" "[I").before args s = true := hts _ (by decide +kernel)
  refine lv_iconst (v := (-1 : Int32)) hx hb dX6_addNow_0 (by decide) ?_
  refine lv_istore_n (lv' := [(1, .int (-1 : Int32)), (0, .ref Mo)]) hx hb dX6_addNow_1 rfl hl (by decide) rfl (fun ls hl => ?_)
  refine lv_iconst (v := (0 : Int32)) hx hb dX6_addNow_2 (by decide) ?_
  refine lv_istore_n (lv' := [(2, .int (0 : Int32)), (1, .int (-1 : Int32)), (0, .ref Mo)]) hx hb dX6_addNow_3 rfl hl (by decide) rfl (fun ls hl => ?_)
  obtain ⟨x1_86x4, Ms_86x4, Ma_86x4, i22, h⟩ := zb3_s h
  have KX86 : ∀ (H : Heap) (locs : List Loc) (ls : Array Slot), va_P D vwCl (zwM cI cB Mo Mp Ms_86x4 Mj Ma_86x4) H → va_D A (zwM cI cB Mo Mp Ms_86x4 Mj Ma_86x4) → va_S A s.heap H locs → lv_has ls 3 [(1, .int x1_86x4)] → W p l e R s m args below meth c H locs 0 0 Q (F0 m 86 ls []) := by
    intro H locs ls hP hD hS hl
    refine lv_iload_n hx hb dX6_addNow_86 rfl (lv_at hl 0 rfl) ?_
    cases zend h
    exact hq hP hD hS dX6_addNow_87
  clear h
  refine zi4_ind (P := (fun (x1_4h : Int32) (x2_4h : Int32) (Ms_4h : Nat → Int32) (Ma_4h : Nat → Nat → Int32) => ∀ (H : Heap) (locs : List Loc) (ls : Array Slot), va_P D vwCl (zwM cI cB Mo Mp Ms_4h Mj Ma_4h) H → va_D A (zwM cI cB Mo Mp Ms_4h Mj Ma_4h) → va_S A s.heap H locs → lv_has ls 3 [(0, .ref Mo), (1, .int x1_4h), (2, .int x2_4h)] → W p l e R s m args below meth c H locs 0 0 Q (F0 m 4 ls []))) ?_ i22 _ _ _ hP hD hS (lv_sub hl [2, 1, 0] rfl)
  clear i22 hP hD hS hl
  intro x1_4h x2_4h Ms_4h Ma_4h z4 h zl4 zr4 H locs ls hP hD hS hl
  refine lv_iload_n hx hb dX6_addNow_4 rfl (lv_at hl 2 rfl) ?_
  refine lv_aload_n hx hb dX6_addNow_5 rfl (lv_at hl 0 rfl) ?_
  obtain ⟨r2, g3, h⟩ := zb1_s h
  have hFc := va_free (wc := (zwM cI cB Mo Mp Ms_4h Mj Ma_4h)) hD hS hA [0, 1, 2, 3, 4, 5, 6, 7, 8, 9, 10, 11, 12, 13, 14, 15, 16, 17, 18, 19, 20, 21, 22] (zC_53 (cI := cI) (cB := cB) (cO := cO))
  refine zcp_i (va_runV (As := []) (rest := [.int x2_4h]) ⟨hx, hb, hml, hown, hts⟩ (c_X6_places l D cI cB cO Mo Mp Ms_4h Mj Ma_4h _ _ g3) (cwV 0 hts gX6_addNow_X6_places rfl rfl rfl kV_X6_places ⟨Nat.le_trans (Nat.le_of_ble_eq_true rfl) hRf, Nat.le_trans (Nat.le_of_ble_eq_true rfl) hRl⟩) (zpreV hK hP hD hS hE hFc [0, 1, 2, 3, 4, 5, 6, 7, 8, 9, 10, 11, 12, 13, 14, 15, 16, 17, 18, 19, 20, 21, 22] (zC_53 (cI := cI) (cB := cB) (cO := cO)) rfl 0 (ci := 6) rfl rfl []) rfl rfl hl.1 rfl (lv_room (Nat.le_of_ble_eq_true rfl)) dX6_addNow_6 ⟨Nat.zero_le _, Nat.zero_le _⟩) hP hD hS hFc [0, 1, 2, 3, 4, 5, 6, 7, 8, 9, 10, 11, 12, 13, 14, 15, 16, 17, 18, 19, 20, 21, 22] (zC_53 (cI := cI) (cB := cB) (cO := cO)) (fun H locs hP hS => ?_)
  clear hFc
  refine lv_icmp_ge (tgt := 86) hx hb dX6_addNow_9 (by decide) (fun c4 => ?_) (fun c4 => ?_)
  · have h := zif_t c4 h
    cases zr4 _ (zend h).symm
    exact KX86 _ _ _ hP hD hS (lv_sub hl [1] rfl)
  · have h := zif_f c4 h
    refine lv_iload_n hx hb dX6_addNow_12 rfl (lv_at hl 1 rfl) ?_
    refine lv_iconst (v := (-1 : Int32)) hx hb dX6_addNow_13 (by decide) ?_
    refine lv_icmp_ne (tgt := 86) hx hb dX6_addNow_14 (by decide) (fun c5 => ?_) (fun c5 => ?_)
    · have h := zif_f c5 h
      cases zr4 _ (zend h).symm
      exact KX86 _ _ _ hP hD hS (lv_sub hl [1] rfl)
    · have h := zif_t c5 h
      refine lv_aload_n hx hb dX6_addNow_17 rfl (lv_at hl 0 rfl) ?_
      refine lv_iload_n hx hb dX6_addNow_18 rfl (lv_at hl 2 rfl) ?_
      obtain ⟨r6, Ma_7, g8, h⟩ := zb2_s h
      have hFc := va_free (wc := (zwM cI cB Mo Mp Ms_4h Mj Ma_4h)) hD hS hA [0, 1, 2, 3, 4, 5, 6, 7, 8, 9, 10, 11, 12, 13, 14, 15, 16, 17, 18, 19, 20, 21, 22] (zC_55 (cI := cI) (cB := cB) (cO := cO))
      refine zcm_i (w2 := (zwM cI cB Mo Mp Ms_4h Mj Ma_7)) (va_runV (As := [.int x2_4h]) (rest := []) ⟨hx, hb, hml, hown, hts⟩ (c_X6_isEmpty l D cI cB cO Mo Mp Ms_4h Mj Ma_4h x2_4h _ _ _ g8) (cwV 1 hts gX6_addNow_X6_isEmpty rfl rfl rfl kV_X6_isEmpty ⟨Nat.le_trans (Nat.le_of_ble_eq_true rfl) hRf, Nat.le_trans (Nat.le_of_ble_eq_true rfl) hRl⟩) (zpreV hK hP hD hS hE hFc [0, 1, 2, 3, 4, 5, 6, 7, 8, 9, 10, 11, 12, 13, 14, 15, 16, 17, 18, 19, 20, 21, 22] (zC_55 (cI := cI) (cB := cB) (cO := cO)) rfl 0 (ci := 6) rfl rfl [.int x2_4h]) rfl rfl hl.1 rfl (lv_room (Nat.le_of_ble_eq_true rfl)) dX6_addNow_19 ⟨Nat.zero_le _, Nat.zero_le _⟩) hS hFc (fun H1 t h1 h2 h3 => zM_55 (cI := cI) (cB := cB) (cO := cO) hP hD h1 h2 h3) (fun H locs hP hD hS => ?_)
      clear hFc
      obtain ⟨x1_80, Ms_80, Ma_80, j9, h⟩ := zb3_s h
      have K80 : ∀ (H : Heap) (locs : List Loc) (ls : Array Slot), va_P D vwCl (zwM cI cB Mo Mp Ms_80 Mj Ma_80) H → va_D A (zwM cI cB Mo Mp Ms_80 Mj Ma_80) → va_S A s.heap H locs → lv_has ls 3 [(0, .ref Mo), (1, .int x1_80), (2, .int x2_4h)] → W p l e R s m args below meth c H locs 0 0 Q (F0 m 80 ls []) := by
        intro H locs ls hP hD hS hl
        refine lv_iinc (v := (x2_4h + (1 : Int32))) (lv' := [(2, .int (x2_4h + (1 : Int32))), (0, .ref Mo), (1, .int x1_80)]) hx hb dX6_addNow_80 hl (k := 2) rfl rfl (by decide) rfl (fun ls hl => ?_)
        refine lv_goto (tgt := 4) hx hb dX6_addNow_83 (by decide) ?_
        exact zl4 _ _ _ _ (zend h).symm _ _ _ hP hD hS (lv_sub hl [1, 2, 0] rfl)
      clear h
      have h := j9
      clear j9
      refine lv_if_eq (tgt := 80) hx hb dX6_addNow_22 (by decide) (fun c10 => ?_) (fun c10 => ?_)
      · have h := zif_t c10 h
        cases zend h
        exact K80 _ _ _ hP hD hS (lv_sub hl [0, 1, 2] rfl)
      · have h := zif_f c10 h
        refine lv_aload_n hx hb dX6_addNow_25 rfl (lv_at hl 0 rfl) ?_
        refine va_get (D := D) (ci := 6) (v := .ref (Mp 5)) (C := RX6) (T := TX6) (N := 40) hx hb hts inX6 hown hK hP 0 rfl rfl 5 (by decide) lk7 (fun _ h9 => h9) rfl dX6_addNow_26 ?_
        refine lv_aload_n hx hb dX6_addNow_29 rfl (lv_at hl 0 rfl) ?_
        refine va_get (D := D) (ci := 6) (v := .int (Ms_4h 4)) (C := RX6) (T := TX6) (N := 40) hx hb hts inX6 hown hK hP 0 rfl rfl 4 (by decide) lk115 (fun _ h9 => h9) rfl dX6_addNow_30 ?_
        refine lv_iconst (v := (0 : Int32)) hx hb dX6_addNow_33 (by decide) ?_
        obtain ⟨z11, h⟩ := zck_s h
        refine va_iast hx hb hK hP hD hS 1 0 rfl rfl (zin_s z11) dX6_addNow_34 (fun H locs hP hD hS => ?_)
        have hset : ∀ v9 : Nat → Int32, (zwM cI cB Mo Mp Ms_4h Mj Ma_7).set 1 ((Mp 5), .inl (cI, 8, .inl v9)) = (zwM cI cB Mo Mp Ms_4h Mj (va_up Ma_7 5 v9)) := fun _ => rfl
        obtain ⟨Ma_12, eMa_12, hP, hD⟩ : ∃ y9, y9 = (va_up Ma_7 5 (upd (Ma_7 5) ((Ms_4h 4)).toNatClampNeg (0 : Int32))) ∧ va_P D vwCl (zwM cI cB Mo Mp Ms_4h Mj y9) H ∧ va_D A (zwM cI cB Mo Mp Ms_4h Mj y9) := ⟨_, rfl, zsetP (hset _) hP, zsetD (hset _) hD⟩
        have h := zlt_s h eMa_12
        clear hset
        refine lv_aload_n hx hb dX6_addNow_35 rfl (lv_at hl 0 rfl) ?_
        refine va_get (D := D) (ci := 6) (v := .ref (Mp 6)) (C := RX6) (T := TX6) (N := 40) hx hb hts inX6 hown hK hP 0 rfl rfl 6 (by decide) lk13 (fun _ h9 => h9) rfl dX6_addNow_36 ?_
        refine lv_aload_n hx hb dX6_addNow_39 rfl (lv_at hl 0 rfl) ?_
        refine va_get (D := D) (ci := 6) (v := .int (Ms_4h 4)) (C := RX6) (T := TX6) (N := 40) hx hb hts inX6 hown hK hP 0 rfl rfl 4 (by decide) lk115 (fun _ h9 => h9) rfl dX6_addNow_40 ?_
        refine lv_iload_n hx hb dX6_addNow_43 rfl (lv_at hl 2 rfl) ?_
        obtain ⟨z13, h⟩ := zck_s h
        refine va_iast hx hb hK hP hD hS 2 0 rfl rfl (zin_s z13) dX6_addNow_44 (fun H locs hP hD hS => ?_)
        have hset : ∀ v9 : Nat → Int32, (zwM cI cB Mo Mp Ms_4h Mj Ma_12).set 2 ((Mp 6), .inl (cI, 8, .inl v9)) = (zwM cI cB Mo Mp Ms_4h Mj (va_up Ma_12 6 v9)) := fun _ => rfl
        obtain ⟨Ma_14, eMa_14, hP, hD⟩ : ∃ y9, y9 = (va_up Ma_12 6 (upd (Ma_12 6) ((Ms_4h 4)).toNatClampNeg x2_4h)) ∧ va_P D vwCl (zwM cI cB Mo Mp Ms_4h Mj y9) H ∧ va_D A (zwM cI cB Mo Mp Ms_4h Mj y9) := ⟨_, rfl, zsetP (hset _) hP, zsetD (hset _) hD⟩
        have h := zlt_s h eMa_14
        clear hset
        refine lv_aload_n hx hb dX6_addNow_45 rfl (lv_at hl 0 rfl) ?_
        refine lv_dup hx hb dX6_addNow_46 rfl ?_
        refine va_get (D := D) (ci := 6) (v := .int (Ms_4h 4)) (C := RX6) (T := TX6) (N := 40) hx hb hts inX6 hown hK hP 0 rfl rfl 4 (by decide) lk115 (fun _ h9 => h9) rfl dX6_addNow_47 ?_
        refine lv_iconst (v := (1 : Int32)) hx hb dX6_addNow_50 (by decide) ?_
        refine lv_iadd hx hb dX6_addNow_51 ?_
        refine va_put (D := D) (ci := 6) (v := .int ((Ms_4h 4) + (1 : Int32))) (ty := .int) (C := RX6) (T := TX6) (N := 40) hx hb hts inX6 tyX6 tyX6_ok nmX6 hown hK hP hD hS 0 rfl rfl 4 (by decide) lk115 (fun _ h9 => h9) rfl (by decide +kernel) rfl rfl (Nat.le_of_ble_eq_true rfl) dX6_addNow_52 (fun H locs hP hD hS => ?_)
        have hset : ∀ v9 : Int32, (zwM cI cB Mo Mp Ms_4h Mj Ma_14).set 0 (Mo, .inr (6, ([.int (Ms_4h 0), .int (Ms_4h 1), .int (Ms_4h 2), .int (Ms_4h 3), .int (Ms_4h 4), .ref (Mp 5), .ref (Mp 6), .int (Ms_4h 7), .int (Ms_4h 8), .int (Ms_4h 9), .ref (Mp 10), .ref (Mp 11), .ref (Mp 12), .int (Ms_4h 13), .ref (Mp 14), .int (Ms_4h 15), .int (Ms_4h 16), .ref (Mp 17), .ref (Mp 18), .ref (Mp 19), .ref (Mp 20), .ref (Mp 21), .ref (Mp 22), .ref (Mp 23), .ref (Mp 24), .ref (Mp 25), .ref (Mp 26), .ref (Mp 27), .long (Mj 28), .int (Ms_4h 29), .int (Ms_4h 30), .int (Ms_4h 31), .int (Ms_4h 32), .int (Ms_4h 33), .ref (Mp 34), .ref (Mp 35), .ref (Mp 36), .ref (Mp 37), .ref (Mp 38), .long (Mj 39)] : List Value).set 4 (.int v9))) = (zwM cI cB Mo Mp (upd Ms_4h 4 v9) Mj Ma_14) := fun _ => rfl
        obtain ⟨Ms_15, eMs_15, hP, hD⟩ : ∃ y9, y9 = (upd Ms_4h 4 ((Ms_4h 4) + (1 : Int32))) ∧ va_P D vwCl (zwM cI cB Mo Mp y9 Mj Ma_14) H ∧ va_D A (zwM cI cB Mo Mp y9 Mj Ma_14) := ⟨_, rfl, zsetP (hset _) hP, zsetD (hset _) hD⟩
        have h := zlt_s h eMs_15
        clear hset
        refine lv_aload_n hx hb dX6_addNow_55 rfl (lv_at hl 0 rfl) ?_
        refine lv_iconst (v := (0 : Int32)) hx hb dX6_addNow_56 (by decide) ?_
        obtain ⟨r16, Ma_17, g18, h⟩ := zb2_s h
        have hFc := va_free (wc := (zwM cI cB Mo Mp Ms_15 Mj Ma_14)) hD hS hA [0, 1, 2, 3, 4, 5, 6, 7, 8, 9, 10, 11, 12, 13, 14, 15, 16, 17, 18, 19, 20, 21, 22] (zC_55 (cI := cI) (cB := cB) (cO := cO))
        refine zcm_i (w2 := (zwM cI cB Mo Mp Ms_15 Mj Ma_17)) (va_runV (As := [.int (0 : Int32)]) (rest := []) ⟨hx, hb, hml, hown, hts⟩ (c_X6_coursesNow l D cI cB cO Mo Mp Ms_15 Mj Ma_14 (0 : Int32) _ _ _ g18) (cwV 1 hts gX6_addNow_X6_coursesNow rfl rfl rfl kV_X6_coursesNow ⟨Nat.le_trans (Nat.le_of_ble_eq_true rfl) hRf, Nat.le_trans (Nat.le_of_ble_eq_true rfl) hRl⟩) (zpreV hK hP hD hS hE hFc [0, 1, 2, 3, 4, 5, 6, 7, 8, 9, 10, 11, 12, 13, 14, 15, 16, 17, 18, 19, 20, 21, 22] (zC_55 (cI := cI) (cB := cB) (cO := cO)) rfl 0 (ci := 6) rfl rfl [.int (0 : Int32)]) rfl rfl hl.1 rfl (lv_room (Nat.le_of_ble_eq_true rfl)) dX6_addNow_57 ⟨Nat.zero_le _, Nat.zero_le _⟩) hS hFc (fun H1 t h1 h2 h3 => zM_55 (cI := cI) (cB := cB) (cO := cO) hP hD h1 h2 h3) (fun H locs hP hD hS => ?_)
        clear hFc
        refine lv_iconst (v := (1 : Int32)) hx hb dX6_addNow_60 (by decide) ?_
        obtain ⟨v69, j20, h⟩ := zb1_s h
        have K69 : ∀ (H : Heap) (locs : List Loc) (ls : Array Slot), va_P D vwCl (zwM cI cB Mo Mp Ms_15 Mj Ma_17) H → va_D A (zwM cI cB Mo Mp Ms_15 Mj Ma_17) → va_S A s.heap H locs → lv_has ls 3 [(0, .ref Mo), (2, .int x2_4h)] → W p l e R s m args below meth c H locs 0 0 Q (F0 m 69 ls [.int v69]) := by
          intro H locs ls hP hD hS hl
          refine lv_istore_n (lv' := [(1, .int v69), (0, .ref Mo), (2, .int x2_4h)]) hx hb dX6_addNow_69 rfl hl (by decide) rfl (fun ls hl => ?_)
          refine lv_aload_n hx hb dX6_addNow_70 rfl (lv_at hl 1 rfl) ?_
          refine lv_dup hx hb dX6_addNow_71 rfl ?_
          refine va_get (D := D) (ci := 6) (v := .int (Ms_15 4)) (C := RX6) (T := TX6) (N := 40) hx hb hts inX6 hown hK hP 0 rfl rfl 4 (by decide) lk115 (fun _ h9 => h9) rfl dX6_addNow_72 ?_
          refine lv_iconst (v := (1 : Int32)) hx hb dX6_addNow_75 (by decide) ?_
          refine lv_isub hx hb dX6_addNow_76 ?_
          refine va_put (D := D) (ci := 6) (v := .int ((Ms_15 4) - (1 : Int32))) (ty := .int) (C := RX6) (T := TX6) (N := 40) hx hb hts inX6 tyX6 tyX6_ok nmX6 hown hK hP hD hS 0 rfl rfl 4 (by decide) lk115 (fun _ h9 => h9) rfl (by decide +kernel) rfl rfl (Nat.le_of_ble_eq_true rfl) dX6_addNow_77 (fun H locs hP hD hS => ?_)
          have hset : ∀ v9 : Int32, (zwM cI cB Mo Mp Ms_15 Mj Ma_17).set 0 (Mo, .inr (6, ([.int (Ms_15 0), .int (Ms_15 1), .int (Ms_15 2), .int (Ms_15 3), .int (Ms_15 4), .ref (Mp 5), .ref (Mp 6), .int (Ms_15 7), .int (Ms_15 8), .int (Ms_15 9), .ref (Mp 10), .ref (Mp 11), .ref (Mp 12), .int (Ms_15 13), .ref (Mp 14), .int (Ms_15 15), .int (Ms_15 16), .ref (Mp 17), .ref (Mp 18), .ref (Mp 19), .ref (Mp 20), .ref (Mp 21), .ref (Mp 22), .ref (Mp 23), .ref (Mp 24), .ref (Mp 25), .ref (Mp 26), .ref (Mp 27), .long (Mj 28), .int (Ms_15 29), .int (Ms_15 30), .int (Ms_15 31), .int (Ms_15 32), .int (Ms_15 33), .ref (Mp 34), .ref (Mp 35), .ref (Mp 36), .ref (Mp 37), .ref (Mp 38), .long (Mj 39)] : List Value).set 4 (.int v9))) = (zwM cI cB Mo Mp (upd Ms_15 4 v9) Mj Ma_17) := fun _ => rfl
          obtain ⟨Ms_19, eMs_19, hP, hD⟩ : ∃ y9, y9 = (upd Ms_15 4 ((Ms_15 4) - (1 : Int32))) ∧ va_P D vwCl (zwM cI cB Mo Mp y9 Mj Ma_17) H ∧ va_D A (zwM cI cB Mo Mp y9 Mj Ma_17) := ⟨_, rfl, zsetP (hset _) hP, zsetD (hset _) hD⟩
          have h := zlt_s h eMs_19
          clear hset
          cases zend h
          exact K80 _ _ _ hP hD hS (lv_sub hl [1, 0, 2] rfl)
        clear h
        have h := j20
        clear j20
        refine lv_icmp_ne (tgt := 68) hx hb dX6_addNow_61 (by decide) (fun c21 => ?_) (fun c21 => ?_)
        · have h := zif_f c21 h
          refine lv_iconst (v := (-1 : Int32)) hx hb dX6_addNow_68 (by decide) ?_
          cases zend h
          exact K69 _ _ _ hP hD hS (lv_sub hl [0, 2] rfl)
        · have h := zif_t c21 h
          refine lv_iload_n hx hb dX6_addNow_64 rfl (lv_at hl 2 rfl) ?_
          refine lv_goto (tgt := 69) hx hb dX6_addNow_65 (by decide) ?_
          cases zend h
          exact K69 _ _ _ hP hD hS (lv_sub hl [0, 2] rfl)
set_option maxHeartbeats 4000000 in
set_option maxRecDepth 100000 in
theorem c_X6_add (l : Launch) (D : va_G) (cI cB cO : ClassId) (Mo : Nat) (Mp : Nat → Nat) (Ms : Nat → Int32) (Mj : Nat → Int64) (Ma : Nat → Nat → Int32)  (rv : Int32) (Ms' : Nat → Int32) (Ma' : Nat → Nat → Int32) (sz : Nat) (h : fX6_add Ms Ma = some (rv, Ms', Ma')) : Met l yX6_add wsX6_add ({ frames := 7, cells := 0, slots := 0, locals := 160 } : Room) (va_Pc [.ref Mo] (zPre D (zTY cI cB cO) (zwM cI cB Mo Mp Ms Mj Ma) sz)) (va_Qi (fun r (_ : Unit) => r = rv) (fun _ => zPost D (zTY cI cB cO) (zwM cI cB Mo Mp Ms' Mj Ma') (va_A (zwM cI cB Mo Mp Ms Mj Ma) sz)) (va_A (zwM cI cB Mo Mp Ms Mj Ma) sz)) 0 0 (va_A (zwM cI cB Mo Mp Ms Mj Ma) sz) := by
  unfold fX6_add at h
  refine zmet_i (cc := cX6_add) (maxL := 1) (by decide) rfl (Nat.le_of_ble_eq_true rfl) rfl rfl ?_
  intro p e s m args below meth c R Q A ls hx hb hts hown hml hK hP hD hE hA hS hRf hRl hl hq
  have hown : s.vm.findClass RX6 = some m.cls := hown
  have hl : lv_has ls 1 [(0, .ref Mo)] := hl
  have inX6 : ∀ w ∈ u_ws RX6 TX6 40, w ∈ wsX6_add := by decide +kernel
  have lk115 : (Cond.fieldLink RX6 115 "PegFieldModel" "pegs" "I").before args s = true := hts _ (by decide +kernel)
  have lk216 : (Cond.fieldLink RX6 216 "PegFieldModel" "asks" "I").before args s = true := hts _ (by decide +kernel)
  refine lv_aload_n hx hb dX6_add_0 rfl (lv_at hl 0 rfl) ?_
  refine va_get (D := D) (ci := 6) (v := .int (Ms 4)) (C := RX6) (T := TX6) (N := 40) hx hb hts inX6 hown hK hP 0 rfl rfl 4 (by decide) lk115 (fun _ h9 => h9) rfl dX6_add_1 ?_
  refine lv_if_eq (tgt := 16) hx hb dX6_add_4 (by decide) (fun c1 => ?_) (fun c1 => ?_)
  · have h := zif_t c1 h
    refine lv_bipush (v := (-103 : Int32)) hx hb dX6_add_16 (by decide) ?_
    cases zend h
    exact hq hP hD hS dX6_add_18
  · have h := zif_f c1 h
    refine lv_aload_n hx hb dX6_add_7 rfl (lv_at hl 0 rfl) ?_
    refine va_get (D := D) (ci := 6) (v := .int (Ms 8)) (C := RX6) (T := TX6) (N := 40) hx hb hts inX6 hown hK hP 0 rfl rfl 8 (by decide) lk216 (fun _ h9 => h9) rfl dX6_add_8 ?_
    refine lv_bipush (v := (12 : Int32)) hx hb dX6_add_11 (by decide) ?_
    refine lv_icmp_ne (tgt := 19) hx hb dX6_add_13 (by decide) (fun c2 => ?_) (fun c2 => ?_)
    · have h := zif_f c2 h
      refine lv_aload_n hx hb dX6_add_19 rfl (lv_at hl 0 rfl) ?_
      refine lv_dup hx hb dX6_add_20 rfl ?_
      refine va_get (D := D) (ci := 6) (v := .int (Ms 8)) (C := RX6) (T := TX6) (N := 40) hx hb hts inX6 hown hK hP 0 rfl rfl 8 (by decide) lk216 (fun _ h9 => h9) rfl dX6_add_21 ?_
      refine lv_iconst (v := (1 : Int32)) hx hb dX6_add_24 (by decide) ?_
      refine lv_iadd hx hb dX6_add_25 ?_
      refine va_put (D := D) (ci := 6) (v := .int ((Ms 8) + (1 : Int32))) (ty := .int) (C := RX6) (T := TX6) (N := 40) hx hb hts inX6 tyX6 tyX6_ok nmX6 hown hK hP hD hS 0 rfl rfl 8 (by decide) lk216 (fun _ h9 => h9) rfl (by decide +kernel) rfl rfl (Nat.le_of_ble_eq_true rfl) dX6_add_26 (fun H locs hP hD hS => ?_)
      have hset : ∀ v9 : Int32, (zwM cI cB Mo Mp Ms Mj Ma).set 0 (Mo, .inr (6, ([.int (Ms 0), .int (Ms 1), .int (Ms 2), .int (Ms 3), .int (Ms 4), .ref (Mp 5), .ref (Mp 6), .int (Ms 7), .int (Ms 8), .int (Ms 9), .ref (Mp 10), .ref (Mp 11), .ref (Mp 12), .int (Ms 13), .ref (Mp 14), .int (Ms 15), .int (Ms 16), .ref (Mp 17), .ref (Mp 18), .ref (Mp 19), .ref (Mp 20), .ref (Mp 21), .ref (Mp 22), .ref (Mp 23), .ref (Mp 24), .ref (Mp 25), .ref (Mp 26), .ref (Mp 27), .long (Mj 28), .int (Ms 29), .int (Ms 30), .int (Ms 31), .int (Ms 32), .int (Ms 33), .ref (Mp 34), .ref (Mp 35), .ref (Mp 36), .ref (Mp 37), .ref (Mp 38), .long (Mj 39)] : List Value).set 8 (.int v9))) = (zwM cI cB Mo Mp (upd Ms 8 v9) Mj Ma) := fun _ => rfl
      obtain ⟨Ms_3, eMs_3, hP, hD⟩ : ∃ y9, y9 = (upd Ms 8 ((Ms 8) + (1 : Int32))) ∧ va_P D vwCl (zwM cI cB Mo Mp y9 Mj Ma) H ∧ va_D A (zwM cI cB Mo Mp y9 Mj Ma) := ⟨_, rfl, zsetP (hset _) hP, zsetD (hset _) hD⟩
      have h := zlt_s h eMs_3
      clear hset
      refine lv_aload_n hx hb dX6_add_29 rfl (lv_at hl 0 rfl) ?_
      obtain ⟨r4, Ms_5, Ma_6, g7, h⟩ := zb3_s h
      have hFc := va_free (wc := (zwM cI cB Mo Mp Ms_3 Mj Ma)) hD hS hA [0, 1, 2, 3, 4, 5, 6, 7, 8, 9, 10, 11, 12, 13, 14, 15, 16, 17, 18, 19, 20, 21, 22] (zC_56 (cI := cI) (cB := cB) (cO := cO))
      refine zcm_i (w2 := (zwM cI cB Mo Mp Ms_5 Mj Ma_6)) (va_runV (As := []) (rest := []) ⟨hx, hb, hml, hown, hts⟩ (c_X6_addNow l D cI cB cO Mo Mp Ms_3 Mj Ma _ _ _ _ g7) (cwV 0 hts gX6_add_X6_addNow rfl rfl rfl kV_X6_addNow ⟨Nat.le_trans (Nat.le_of_ble_eq_true rfl) hRf, Nat.le_trans (Nat.le_of_ble_eq_true rfl) hRl⟩) (zpreV hK hP hD hS hE hFc [0, 1, 2, 3, 4, 5, 6, 7, 8, 9, 10, 11, 12, 13, 14, 15, 16, 17, 18, 19, 20, 21, 22] (zC_56 (cI := cI) (cB := cB) (cO := cO)) rfl 0 (ci := 6) rfl rfl []) rfl rfl hl.1 rfl (lv_room (Nat.le_of_ble_eq_true rfl)) dX6_add_30 ⟨Nat.zero_le _, Nat.zero_le _⟩) hS hFc (fun H1 t h1 h2 h3 => zM_56 (cI := cI) (cB := cB) (cO := cO) hP hD h1 h2 h3) (fun H locs hP hD hS => ?_)
      clear hFc
      cases zend h
      exact hq hP hD hS dX6_add_33
    · have h := zif_t c2 h
      refine lv_bipush (v := (-103 : Int32)) hx hb dX6_add_16 (by decide) ?_
      cases zend h
      exact hq hP hD hS dX6_add_18
set_option maxHeartbeats 4000000 in
set_option maxRecDepth 100000 in
theorem c_X6_meanNow (l : Launch) (D : va_G) (cI cB cO : ClassId) (Mo : Nat) (Mp : Nat → Nat) (Ms : Nat → Int32) (Mj : Nat → Int64) (Ma : Nat → Nat → Int32)  (rv : Int32) (Ma' : Nat → Nat → Int32) (sz : Nat) (h : fX6_meanNow Ms Ma = some (rv, Ma')) : Met l yX6_meanNow wsX6_meanNow ({ frames := 5, cells := 0, slots := 0, locals := 117 } : Room) (va_Pc [.ref Mo] (zPre D (zTY cI cB cO) (zwM cI cB Mo Mp Ms Mj Ma) sz)) (va_Qi (fun r (_ : Unit) => r = rv) (fun _ => zPost D (zTY cI cB cO) (zwM cI cB Mo Mp Ms Mj Ma') (va_A (zwM cI cB Mo Mp Ms Mj Ma) sz)) (va_A (zwM cI cB Mo Mp Ms Mj Ma) sz)) 0 0 (va_A (zwM cI cB Mo Mp Ms Mj Ma) sz) := by
  unfold fX6_meanNow at h
  refine zmet_i (cc := cX6_meanNow) (maxL := 1) (by decide) rfl (Nat.le_of_ble_eq_true rfl) rfl rfl ?_
  intro p e s m args below meth c R Q A ls hx hb hts hown hml hK hP hD hE hA hS hRf hRl hl hq
  have hown : s.vm.findClass RX6 = some m.cls := hown
  have hl : lv_has ls 1 [(0, .ref Mo)] := hl
  have inX6 : ∀ w ∈ u_ws RX6 TX6 40, w ∈ wsX6_meanNow := by decide +kernel
  have lk59 : (Cond.fieldLink RX6 59 "PegFieldModel" "sumOf" "[I").before args s = true := hts _ (by decide +kernel)
  have lk35 : (Cond.fieldLink RX6 35 "PegFieldModel" "jumpsOf" "[I").before args s = true := hts _ (by decide +kernel)
  refine lv_aload_n hx hb dX6_meanNow_0 rfl (lv_at hl 0 rfl) ?_
  obtain ⟨Ma_1, g2, h⟩ := zb1_s h
  have hFc := va_free (wc := (zwM cI cB Mo Mp Ms Mj Ma)) hD hS hA [0, 1, 2, 3, 4, 5, 6, 7, 8, 9, 10, 11, 12, 13, 14, 15, 16, 17, 18, 19, 20, 21, 22] (zC_55 (cI := cI) (cB := cB) (cO := cO))
  refine zcm_v (w2 := (zwM cI cB Mo Mp Ms Mj Ma_1)) (va_runV (As := []) (rest := []) ⟨hx, hb, hml, hown, hts⟩ (c_X6_putDeep l D cI cB cO Mo Mp Ms Mj Ma _ _ g2) (cwV 0 hts gX6_meanNow_X6_putDeep rfl rfl rfl kV_X6_putDeep ⟨Nat.le_trans (Nat.le_of_ble_eq_true rfl) hRf, Nat.le_trans (Nat.le_of_ble_eq_true rfl) hRl⟩) (zpreV hK hP hD hS hE hFc [0, 1, 2, 3, 4, 5, 6, 7, 8, 9, 10, 11, 12, 13, 14, 15, 16, 17, 18, 19, 20, 21, 22] (zC_55 (cI := cI) (cB := cB) (cO := cO)) rfl 0 (ci := 6) rfl rfl []) rfl rfl hl.1 rfl (lv_room (Nat.le_of_ble_eq_true rfl)) dX6_meanNow_1 ⟨Nat.zero_le _, Nat.zero_le _⟩) hS hFc (fun H1 t h1 h2 h3 => zM_55 (cI := cI) (cB := cB) (cO := cO) hP hD h1 h2 h3) (fun H locs hP hD hS => ?_)
  clear hFc
  refine lv_aload_n hx hb dX6_meanNow_4 rfl (lv_at hl 0 rfl) ?_
  obtain ⟨Ma_3, g4, h⟩ := zb1_s h
  have hFc := va_free (wc := (zwM cI cB Mo Mp Ms Mj Ma_1)) hD hS hA [0, 1, 2, 3, 4, 5, 6, 7, 8, 9, 10, 11, 12, 13, 14, 15, 16, 17, 18, 19, 20, 21, 22] (zC_55 (cI := cI) (cB := cB) (cO := cO))
  refine zcm_v (w2 := (zwM cI cB Mo Mp Ms Mj Ma_3)) (va_runV (As := []) (rest := []) ⟨hx, hb, hml, hown, hts⟩ (c_X6_layCourses l D cI cB cO Mo Mp Ms Mj Ma_1 _ _ g4) (cwV 0 hts gX6_meanNow_X6_layCourses rfl rfl rfl kV_X6_layCourses ⟨Nat.le_trans (Nat.le_of_ble_eq_true rfl) hRf, Nat.le_trans (Nat.le_of_ble_eq_true rfl) hRl⟩) (zpreV hK hP hD hS hE hFc [0, 1, 2, 3, 4, 5, 6, 7, 8, 9, 10, 11, 12, 13, 14, 15, 16, 17, 18, 19, 20, 21, 22] (zC_55 (cI := cI) (cB := cB) (cO := cO)) rfl 0 (ci := 6) rfl rfl []) rfl rfl hl.1 rfl (lv_room (Nat.le_of_ble_eq_true rfl)) dX6_meanNow_5 ⟨Nat.zero_le _, Nat.zero_le _⟩) hS hFc (fun H1 t h1 h2 h3 => zM_55 (cI := cI) (cB := cB) (cO := cO) hP hD h1 h2 h3) (fun H locs hP hD hS => ?_)
  clear hFc
  refine lv_aload_n hx hb dX6_meanNow_8 rfl (lv_at hl 0 rfl) ?_
  refine va_get (D := D) (ci := 6) (v := .ref (Mp 27)) (C := RX6) (T := TX6) (N := 40) hx hb hts inX6 hown hK hP 0 rfl rfl 27 (by decide) lk59 (fun _ h9 => h9) rfl dX6_meanNow_9 ?_
  refine lv_iconst (v := (0 : Int32)) hx hb dX6_meanNow_12 (by decide) ?_
  obtain ⟨z5, h⟩ := zck_s h
  refine va_iald hx hb hK hP 17 0 rfl rfl (zin_s z5) dX6_meanNow_13 ?_
  refine lv_aload_n hx hb dX6_meanNow_14 rfl (lv_at hl 0 rfl) ?_
  refine va_get (D := D) (ci := 6) (v := .ref (Mp 19)) (C := RX6) (T := TX6) (N := 40) hx hb hts inX6 hown hK hP 0 rfl rfl 19 (by decide) lk35 (fun _ h9 => h9) rfl dX6_meanNow_15 ?_
  refine lv_iconst (v := (0 : Int32)) hx hb dX6_meanNow_18 (by decide) ?_
  obtain ⟨z6, h⟩ := zck_s h
  refine va_iald hx hb hK hP 9 0 rfl rfl (zin_s z6) dX6_meanNow_19 ?_
  obtain ⟨z7, h⟩ := zck_s h
  refine lv_idiv hx hb dX6_meanNow_20 (zne_s z7) ?_
  cases zend h
  exact hq hP hD hS dX6_meanNow_21
set_option maxHeartbeats 4000000 in
set_option maxRecDepth 100000 in
theorem c_X6_mean (l : Launch) (D : va_G) (cI cB cO : ClassId) (Mo : Nat) (Mp : Nat → Nat) (Ms : Nat → Int32) (Mj : Nat → Int64) (Ma : Nat → Nat → Int32)  (rv : Int32) (Ma' : Nat → Nat → Int32) (sz : Nat) (h : fX6_mean Ms Ma = some (rv, Ma')) : Met l yX6_mean wsX6_mean ({ frames := 6, cells := 0, slots := 0, locals := 137 } : Room) (va_Pc [.ref Mo] (zPre D (zTY cI cB cO) (zwM cI cB Mo Mp Ms Mj Ma) sz)) (va_Qi (fun r (_ : Unit) => r = rv) (fun _ => zPost D (zTY cI cB cO) (zwM cI cB Mo Mp Ms Mj Ma') (va_A (zwM cI cB Mo Mp Ms Mj Ma) sz)) (va_A (zwM cI cB Mo Mp Ms Mj Ma) sz)) 0 0 (va_A (zwM cI cB Mo Mp Ms Mj Ma) sz) := by
  unfold fX6_mean at h
  refine zmet_i (cc := cX6_mean) (maxL := 1) (by decide) rfl (Nat.le_of_ble_eq_true rfl) rfl rfl ?_
  intro p e s m args below meth c R Q A ls hx hb hts hown hml hK hP hD hE hA hS hRf hRl hl hq
  have hown : s.vm.findClass RX6 = some m.cls := hown
  have hl : lv_has ls 1 [(0, .ref Mo)] := hl
  have inX6 : ∀ w ∈ u_ws RX6 TX6 40, w ∈ wsX6_mean := by decide +kernel
  have lk115 : (Cond.fieldLink RX6 115 "PegFieldModel" "pegs" "I").before args s = true := hts _ (by decide +kernel)
  refine lv_aload_n hx hb dX6_mean_0 rfl (lv_at hl 0 rfl) ?_
  refine va_get (D := D) (ci := 6) (v := .int (Ms 4)) (C := RX6) (T := TX6) (N := 40) hx hb hts inX6 hown hK hP 0 rfl rfl 4 (by decide) lk115 (fun _ h9 => h9) rfl dX6_mean_1 ?_
  refine lv_if_ne (tgt := 12) hx hb dX6_mean_4 (by decide) (fun c1 => ?_) (fun c1 => ?_)
  · have h := zif_f c1 h
    refine lv_aload_n hx hb dX6_mean_12 rfl (lv_at hl 0 rfl) ?_
    obtain ⟨r2, Ma_3, g4, h⟩ := zb2_s h
    have hFc := va_free (wc := (zwM cI cB Mo Mp Ms Mj Ma)) hD hS hA [0, 1, 2, 3, 4, 5, 6, 7, 8, 9, 10, 11, 12, 13, 14, 15, 16, 17, 18, 19, 20, 21, 22] (zC_55 (cI := cI) (cB := cB) (cO := cO))
    refine zcm_i (w2 := (zwM cI cB Mo Mp Ms Mj Ma_3)) (va_runV (As := []) (rest := []) ⟨hx, hb, hml, hown, hts⟩ (c_X6_meanNow l D cI cB cO Mo Mp Ms Mj Ma _ _ _ g4) (cwV 0 hts gX6_mean_X6_meanNow rfl rfl rfl kV_X6_meanNow ⟨Nat.le_trans (Nat.le_of_ble_eq_true rfl) hRf, Nat.le_trans (Nat.le_of_ble_eq_true rfl) hRl⟩) (zpreV hK hP hD hS hE hFc [0, 1, 2, 3, 4, 5, 6, 7, 8, 9, 10, 11, 12, 13, 14, 15, 16, 17, 18, 19, 20, 21, 22] (zC_55 (cI := cI) (cB := cB) (cO := cO)) rfl 0 (ci := 6) rfl rfl []) rfl rfl hl.1 rfl (lv_room (Nat.le_of_ble_eq_true rfl)) dX6_mean_13 ⟨Nat.zero_le _, Nat.zero_le _⟩) hS hFc (fun H1 t h1 h2 h3 => zM_55 (cI := cI) (cB := cB) (cO := cO) hP hD h1 h2 h3) (fun H locs hP hD hS => ?_)
    clear hFc
    cases zend h
    exact hq hP hD hS dX6_mean_16
  · have h := zif_t c1 h
    refine lv_bipush (v := (-103 : Int32)) hx hb dX6_mean_7 (by decide) ?_
    refine lv_goto (tgt := 16) hx hb dX6_mean_9 (by decide) ?_
    cases zend h
    exact hq hP hD hS dX6_mean_16
set_option maxHeartbeats 4000000 in
set_option maxRecDepth 100000 in
theorem c_X6_see (l : Launch) (D : va_G) (cI cB cO : ClassId) (Mo : Nat) (Mp : Nat → Nat) (Ms : Nat → Int32) (Mj : Nat → Int64) (Ma : Nat → Nat → Int32) (a0 : Int32) (a1 : Int32) (a2 : Int32) (rv : Int32) (Ms' : Nat → Int32) (Ma' : Nat → Nat → Int32) (sz : Nat) (h : fX6_see Ms Ma a0 a1 a2 = some (rv, Ms', Ma')) : Met l yX6_see wsX6_see ({ frames := 2, cells := 0, slots := 0, locals := 43 } : Room) (va_Pc [.ref Mo, .int a0, .int a1, .int a2] (zPre D (zTY cI cB cO) (zwM cI cB Mo Mp Ms Mj Ma) sz)) (va_Qi (fun r (_ : Unit) => r = rv) (fun _ => zPost D (zTY cI cB cO) (zwM cI cB Mo Mp Ms' Mj Ma') (va_A (zwM cI cB Mo Mp Ms Mj Ma) sz)) (va_A (zwM cI cB Mo Mp Ms Mj Ma) sz)) 0 0 (va_A (zwM cI cB Mo Mp Ms Mj Ma) sz) := by
  unfold fX6_see at h
  refine zmet_i (cc := cX6_see) (maxL := 4) (by decide) rfl (Nat.le_of_ble_eq_true rfl) rfl rfl ?_
  intro p e s m args below meth c R Q A ls hx hb hts hown hml hK hP hD hE hA hS hRf hRl hl hq
  have hown : s.vm.findClass RX6 = some m.cls := hown
  have hl : lv_has ls 4 [(0, .ref Mo), (1, .int a0), (2, .int a1), (3, .int a2)] := hl
  have inX6 : ∀ w ∈ u_ws RX6 TX6 40, w ∈ wsX6_see := by decide +kernel
  have lk127 : (Cond.fieldLink RX6 127 "PegFieldModel" "seen" "I").before args s = true := hts _ (by decide +kernel)
  have lk16 : (Cond.fieldLink RX6 16 "PegFieldModel" "seenPeg" "[I").before args s = true := hts _ (by decide +kernel)
  have lk19 : (Cond.fieldLink RX6 19 "PegFieldModel" "seenWhat" "[I").before args s = true := hts _ (by decide +kernel)
  have lk22 : (Cond.fieldLink RX6 22 "PegFieldModel" "seenCould" "[I").before args s = true := hts _ (by decide +kernel)
  refine lv_aload_n hx hb dX6_see_0 rfl (lv_at hl 0 rfl) ?_
  refine lv_iload_n hx hb dX6_see_1 rfl (lv_at hl 1 rfl) ?_
  obtain ⟨r1, g2, h⟩ := zb1_s h
  have hFc := va_free (wc := (zwM cI cB Mo Mp Ms Mj Ma)) hD hS hA [0, 1, 2, 3, 4, 5, 6, 7, 8, 9, 10, 11, 12, 13, 14, 15, 16, 17, 18, 19, 20, 21, 22] (zC_53 (cI := cI) (cB := cB) (cO := cO))
  refine zcp_i (va_runV (As := [.int a0]) (rest := []) ⟨hx, hb, hml, hown, hts⟩ (c_X6_isPeg l D cI cB cO Mo Mp Ms Mj Ma a0 _ _ g2) (cwV 1 hts gX6_see_X6_isPeg rfl rfl rfl kV_X6_isPeg ⟨Nat.le_trans (Nat.le_of_ble_eq_true rfl) hRf, Nat.le_trans (Nat.le_of_ble_eq_true rfl) hRl⟩) (zpreV hK hP hD hS hE hFc [0, 1, 2, 3, 4, 5, 6, 7, 8, 9, 10, 11, 12, 13, 14, 15, 16, 17, 18, 19, 20, 21, 22] (zC_53 (cI := cI) (cB := cB) (cO := cO)) rfl 0 (ci := 6) rfl rfl [.int a0]) rfl rfl hl.1 rfl (lv_room (Nat.le_of_ble_eq_true rfl)) dX6_see_2 ⟨Nat.zero_le _, Nat.zero_le _⟩) hP hD hS hFc [0, 1, 2, 3, 4, 5, 6, 7, 8, 9, 10, 11, 12, 13, 14, 15, 16, 17, 18, 19, 20, 21, 22] (zC_53 (cI := cI) (cB := cB) (cO := cO)) (fun H locs hP hS => ?_)
  clear hFc
  refine lv_if_ne (tgt := 11) hx hb dX6_see_5 (by decide) (fun c3 => ?_) (fun c3 => ?_)
  · have h := zif_f c3 h
    refine lv_iload_n hx hb dX6_see_11 rfl (lv_at hl 2 rfl) ?_
    refine lv_iconst (v := (0 : Int32)) hx hb dX6_see_12 (by decide) ?_
    refine lv_iconst (v := (3 : Int32)) hx hb dX6_see_13 (by decide) ?_
    obtain ⟨r4, g5, h⟩ := zb1_s h
    have hFc := va_free (wc := ([] : va_W)) hD hS hA [] rfl
    refine zcp_i (va_runS (As := [.int a1, .int (0 : Int32), .int (3 : Int32)]) (rest := []) ⟨hx, hb, hml, hown, hts⟩ (c_X6_within l D cI cB cO a1 (0 : Int32) (3 : Int32) _ _ g5) (va_cwS 3 hts gX6_see_X6_within rfl rfl rfl kS_X6_within ⟨Nat.le_trans (Nat.le_of_ble_eq_true rfl) hRf, Nat.le_trans (Nat.le_of_ble_eq_true rfl) hRl⟩) (zpreS hK hP hD hS hE hFc [] (rfl) rfl [.int a1, .int (0 : Int32), .int (3 : Int32)]) rfl rfl hl.1 rfl (lv_room (Nat.le_of_ble_eq_true rfl)) dX6_see_14 ⟨Nat.zero_le _, Nat.zero_le _⟩) hP hD hS hFc [] (rfl) (fun H locs hP hS => ?_)
    clear hFc
    refine lv_if_ne (tgt := 23) hx hb dX6_see_17 (by decide) (fun c6 => ?_) (fun c6 => ?_)
    · have h := zif_f c6 h
      refine lv_aload_n hx hb dX6_see_23 rfl (lv_at hl 0 rfl) ?_
      refine va_get (D := D) (ci := 6) (v := .int (Ms 9)) (C := RX6) (T := TX6) (N := 40) hx hb hts inX6 hown hK hP 0 rfl rfl 9 (by decide) lk127 (fun _ h9 => h9) rfl dX6_see_24 ?_
      refine lv_bipush (v := (6 : Int32)) hx hb dX6_see_27 (by decide) ?_
      refine lv_icmp_ne (tgt := 35) hx hb dX6_see_29 (by decide) (fun c7 => ?_) (fun c7 => ?_)
      · have h := zif_f c7 h
        refine lv_aload_n hx hb dX6_see_35 rfl (lv_at hl 0 rfl) ?_
        refine va_get (D := D) (ci := 6) (v := .ref (Mp 10)) (C := RX6) (T := TX6) (N := 40) hx hb hts inX6 hown hK hP 0 rfl rfl 10 (by decide) lk16 (fun _ h9 => h9) rfl dX6_see_36 ?_
        refine lv_aload_n hx hb dX6_see_39 rfl (lv_at hl 0 rfl) ?_
        refine va_get (D := D) (ci := 6) (v := .int (Ms 9)) (C := RX6) (T := TX6) (N := 40) hx hb hts inX6 hown hK hP 0 rfl rfl 9 (by decide) lk127 (fun _ h9 => h9) rfl dX6_see_40 ?_
        refine lv_iload_n hx hb dX6_see_43 rfl (lv_at hl 1 rfl) ?_
        obtain ⟨z8, h⟩ := zck_s h
        refine va_iast hx hb hK hP hD hS 3 0 rfl rfl (zin_s z8) dX6_see_44 (fun H locs hP hD hS => ?_)
        have hset : ∀ v9 : Nat → Int32, (zwM cI cB Mo Mp Ms Mj Ma).set 3 ((Mp 10), .inl (cI, 6, .inl v9)) = (zwM cI cB Mo Mp Ms Mj (va_up Ma 10 v9)) := fun _ => rfl
        obtain ⟨Ma_9, eMa_9, hP, hD⟩ : ∃ y9, y9 = (va_up Ma 10 (upd (Ma 10) ((Ms 9)).toNatClampNeg a0)) ∧ va_P D vwCl (zwM cI cB Mo Mp Ms Mj y9) H ∧ va_D A (zwM cI cB Mo Mp Ms Mj y9) := ⟨_, rfl, zsetP (hset _) hP, zsetD (hset _) hD⟩
        have h := zlt_s h eMa_9
        clear hset
        refine lv_aload_n hx hb dX6_see_45 rfl (lv_at hl 0 rfl) ?_
        refine va_get (D := D) (ci := 6) (v := .ref (Mp 11)) (C := RX6) (T := TX6) (N := 40) hx hb hts inX6 hown hK hP 0 rfl rfl 11 (by decide) lk19 (fun _ h9 => h9) rfl dX6_see_46 ?_
        refine lv_aload_n hx hb dX6_see_49 rfl (lv_at hl 0 rfl) ?_
        refine va_get (D := D) (ci := 6) (v := .int (Ms 9)) (C := RX6) (T := TX6) (N := 40) hx hb hts inX6 hown hK hP 0 rfl rfl 9 (by decide) lk127 (fun _ h9 => h9) rfl dX6_see_50 ?_
        refine lv_iload_n hx hb dX6_see_53 rfl (lv_at hl 2 rfl) ?_
        obtain ⟨z10, h⟩ := zck_s h
        refine va_iast hx hb hK hP hD hS 4 0 rfl rfl (zin_s z10) dX6_see_54 (fun H locs hP hD hS => ?_)
        have hset : ∀ v9 : Nat → Int32, (zwM cI cB Mo Mp Ms Mj Ma_9).set 4 ((Mp 11), .inl (cI, 6, .inl v9)) = (zwM cI cB Mo Mp Ms Mj (va_up Ma_9 11 v9)) := fun _ => rfl
        obtain ⟨Ma_11, eMa_11, hP, hD⟩ : ∃ y9, y9 = (va_up Ma_9 11 (upd (Ma_9 11) ((Ms 9)).toNatClampNeg a1)) ∧ va_P D vwCl (zwM cI cB Mo Mp Ms Mj y9) H ∧ va_D A (zwM cI cB Mo Mp Ms Mj y9) := ⟨_, rfl, zsetP (hset _) hP, zsetD (hset _) hD⟩
        have h := zlt_s h eMa_11
        clear hset
        refine lv_aload_n hx hb dX6_see_55 rfl (lv_at hl 0 rfl) ?_
        refine va_get (D := D) (ci := 6) (v := .ref (Mp 12)) (C := RX6) (T := TX6) (N := 40) hx hb hts inX6 hown hK hP 0 rfl rfl 12 (by decide) lk22 (fun _ h9 => h9) rfl dX6_see_56 ?_
        refine lv_aload_n hx hb dX6_see_59 rfl (lv_at hl 0 rfl) ?_
        refine va_get (D := D) (ci := 6) (v := .int (Ms 9)) (C := RX6) (T := TX6) (N := 40) hx hb hts inX6 hown hK hP 0 rfl rfl 9 (by decide) lk127 (fun _ h9 => h9) rfl dX6_see_60 ?_
        refine lv_iload_n hx hb dX6_see_63 rfl (lv_at hl 3 rfl) ?_
        obtain ⟨v72, j15, h⟩ := zb1_s h
        have K72 : ∀ (H : Heap) (locs : List Loc) (ls : Array Slot), va_P D vwCl (zwM cI cB Mo Mp Ms Mj Ma_11) H → va_D A (zwM cI cB Mo Mp Ms Mj Ma_11) → va_S A s.heap H locs → lv_has ls 4 [(0, .ref Mo)] → W p l e R s m args below meth c H locs 0 0 Q (F0 m 72 ls [.int v72, .int (Ms 9), .ref (Mp 12)]) := by
          intro H locs ls hP hD hS hl
          obtain ⟨z12, h⟩ := zck_s h
          refine va_iast hx hb hK hP hD hS 5 0 rfl rfl (zin_s z12) dX6_see_72 (fun H locs hP hD hS => ?_)
          have hset : ∀ v9 : Nat → Int32, (zwM cI cB Mo Mp Ms Mj Ma_11).set 5 ((Mp 12), .inl (cI, 6, .inl v9)) = (zwM cI cB Mo Mp Ms Mj (va_up Ma_11 12 v9)) := fun _ => rfl
          obtain ⟨Ma_13, eMa_13, hP, hD⟩ : ∃ y9, y9 = (va_up Ma_11 12 (upd (Ma_11 12) ((Ms 9)).toNatClampNeg v72)) ∧ va_P D vwCl (zwM cI cB Mo Mp Ms Mj y9) H ∧ va_D A (zwM cI cB Mo Mp Ms Mj y9) := ⟨_, rfl, zsetP (hset _) hP, zsetD (hset _) hD⟩
          have h := zlt_s h eMa_13
          clear hset
          refine lv_aload_n hx hb dX6_see_73 rfl (lv_at hl 0 rfl) ?_
          refine lv_dup hx hb dX6_see_74 rfl ?_
          refine va_get (D := D) (ci := 6) (v := .int (Ms 9)) (C := RX6) (T := TX6) (N := 40) hx hb hts inX6 hown hK hP 0 rfl rfl 9 (by decide) lk127 (fun _ h9 => h9) rfl dX6_see_75 ?_
          refine lv_iconst (v := (1 : Int32)) hx hb dX6_see_78 (by decide) ?_
          refine lv_iadd hx hb dX6_see_79 ?_
          refine va_put (D := D) (ci := 6) (v := .int ((Ms 9) + (1 : Int32))) (ty := .int) (C := RX6) (T := TX6) (N := 40) hx hb hts inX6 tyX6 tyX6_ok nmX6 hown hK hP hD hS 0 rfl rfl 9 (by decide) lk127 (fun _ h9 => h9) rfl (by decide +kernel) rfl rfl (Nat.le_of_ble_eq_true rfl) dX6_see_80 (fun H locs hP hD hS => ?_)
          have hset : ∀ v9 : Int32, (zwM cI cB Mo Mp Ms Mj Ma_13).set 0 (Mo, .inr (6, ([.int (Ms 0), .int (Ms 1), .int (Ms 2), .int (Ms 3), .int (Ms 4), .ref (Mp 5), .ref (Mp 6), .int (Ms 7), .int (Ms 8), .int (Ms 9), .ref (Mp 10), .ref (Mp 11), .ref (Mp 12), .int (Ms 13), .ref (Mp 14), .int (Ms 15), .int (Ms 16), .ref (Mp 17), .ref (Mp 18), .ref (Mp 19), .ref (Mp 20), .ref (Mp 21), .ref (Mp 22), .ref (Mp 23), .ref (Mp 24), .ref (Mp 25), .ref (Mp 26), .ref (Mp 27), .long (Mj 28), .int (Ms 29), .int (Ms 30), .int (Ms 31), .int (Ms 32), .int (Ms 33), .ref (Mp 34), .ref (Mp 35), .ref (Mp 36), .ref (Mp 37), .ref (Mp 38), .long (Mj 39)] : List Value).set 9 (.int v9))) = (zwM cI cB Mo Mp (upd Ms 9 v9) Mj Ma_13) := fun _ => rfl
          obtain ⟨Ms_14, eMs_14, hP, hD⟩ : ∃ y9, y9 = (upd Ms 9 ((Ms 9) + (1 : Int32))) ∧ va_P D vwCl (zwM cI cB Mo Mp y9 Mj Ma_13) H ∧ va_D A (zwM cI cB Mo Mp y9 Mj Ma_13) := ⟨_, rfl, zsetP (hset _) hP, zsetD (hset _) hD⟩
          have h := zlt_s h eMs_14
          clear hset
          refine lv_aload_n hx hb dX6_see_83 rfl (lv_at hl 0 rfl) ?_
          refine va_get (D := D) (ci := 6) (v := .int (Ms_14 9)) (C := RX6) (T := TX6) (N := 40) hx hb hts inX6 hown hK hP 0 rfl rfl 9 (by decide) lk127 (fun _ h9 => h9) rfl dX6_see_84 ?_
          cases zend h
          exact hq hP hD hS dX6_see_87
        clear h
        have h := j15
        clear j15
        refine lv_if_eq (tgt := 71) hx hb dX6_see_64 (by decide) (fun c16 => ?_) (fun c16 => ?_)
        · have h := zif_t c16 h
          refine lv_iconst (v := (0 : Int32)) hx hb dX6_see_71 (by decide) ?_
          cases zend h
          exact K72 _ _ _ hP hD hS (lv_sub hl [0] rfl)
        · have h := zif_f c16 h
          refine lv_iconst (v := (1 : Int32)) hx hb dX6_see_67 (by decide) ?_
          refine lv_goto (tgt := 72) hx hb dX6_see_68 (by decide) ?_
          cases zend h
          exact K72 _ _ _ hP hD hS (lv_sub hl [0] rfl)
      · have h := zif_t c7 h
        refine lv_bipush (v := (-104 : Int32)) hx hb dX6_see_32 (by decide) ?_
        cases zend h
        exact hq hP hD hS dX6_see_34
    · have h := zif_t c6 h
      refine lv_bipush (v := (-102 : Int32)) hx hb dX6_see_20 (by decide) ?_
      cases zend h
      exact hq hP hD hS dX6_see_22
  · have h := zif_t c3 h
    refine lv_bipush (v := (-101 : Int32)) hx hb dX6_see_8 (by decide) ?_
    cases zend h
    exact hq hP hD hS dX6_see_10
set_option maxHeartbeats 4000000 in
set_option maxRecDepth 100000 in
theorem c_X6_forget (l : Launch) (D : va_G) (cI cB cO : ClassId) (Mo : Nat) (Mp : Nat → Nat) (Ms : Nat → Int32) (Mj : Nat → Int64) (Ma : Nat → Nat → Int32)  (rv : Int32) (Ms' : Nat → Int32) (sz : Nat) (h : fX6_forget Ms = some (rv, Ms')) : Met l yX6_forget wsX6_forget ({ frames := 0, cells := 0, slots := 0, locals := 0 } : Room) (va_Pc [.ref Mo] (zPre D (zTY cI cB cO) (zwM cI cB Mo Mp Ms Mj Ma) sz)) (va_Qi (fun r (_ : Unit) => r = rv) (fun _ => zPost D (zTY cI cB cO) (zwM cI cB Mo Mp Ms' Mj Ma) (va_A (zwM cI cB Mo Mp Ms Mj Ma) sz)) (va_A (zwM cI cB Mo Mp Ms Mj Ma) sz)) 0 0 (va_A (zwM cI cB Mo Mp Ms Mj Ma) sz) := by
  unfold fX6_forget at h
  refine zmet_i (cc := cX6_forget) (maxL := 2) (by decide) rfl (Nat.le_of_ble_eq_true rfl) rfl rfl ?_
  intro p e s m args below meth c R Q A ls hx hb hts hown hml hK hP hD hE hA hS hRf hRl hl hq
  have hown : s.vm.findClass RX6 = some m.cls := hown
  have hl : lv_has ls 2 [(0, .ref Mo)] := hl
  have inX6 : ∀ w ∈ u_ws RX6 TX6 40, w ∈ wsX6_forget := by decide +kernel
  have lk127 : (Cond.fieldLink RX6 127 "PegFieldModel" "seen" "I").before args s = true := hts _ (by decide +kernel)
  refine lv_aload_n hx hb dX6_forget_0 rfl (lv_at hl 0 rfl) ?_
  refine va_get (D := D) (ci := 6) (v := .int (Ms 9)) (C := RX6) (T := TX6) (N := 40) hx hb hts inX6 hown hK hP 0 rfl rfl 9 (by decide) lk127 (fun _ h9 => h9) rfl dX6_forget_1 ?_
  refine lv_topi (fun x1_1 ex1_1 => ?_)
  have h := zlt_s h ex1_1
  refine lv_istore_n (lv' := [(1, .int x1_1), (0, .ref Mo)]) hx hb dX6_forget_4 rfl hl (by decide) rfl (fun ls hl => ?_)
  refine lv_aload_n hx hb dX6_forget_5 rfl (lv_at hl 1 rfl) ?_
  refine lv_iconst (v := (0 : Int32)) hx hb dX6_forget_6 (by decide) ?_
  refine va_put (D := D) (ci := 6) (v := .int (0 : Int32)) (ty := .int) (C := RX6) (T := TX6) (N := 40) hx hb hts inX6 tyX6 tyX6_ok nmX6 hown hK hP hD hS 0 rfl rfl 9 (by decide) lk127 (fun _ h9 => h9) rfl (by decide +kernel) rfl rfl (Nat.le_of_ble_eq_true rfl) dX6_forget_7 (fun H locs hP hD hS => ?_)
  have hset : ∀ v9 : Int32, (zwM cI cB Mo Mp Ms Mj Ma).set 0 (Mo, .inr (6, ([.int (Ms 0), .int (Ms 1), .int (Ms 2), .int (Ms 3), .int (Ms 4), .ref (Mp 5), .ref (Mp 6), .int (Ms 7), .int (Ms 8), .int (Ms 9), .ref (Mp 10), .ref (Mp 11), .ref (Mp 12), .int (Ms 13), .ref (Mp 14), .int (Ms 15), .int (Ms 16), .ref (Mp 17), .ref (Mp 18), .ref (Mp 19), .ref (Mp 20), .ref (Mp 21), .ref (Mp 22), .ref (Mp 23), .ref (Mp 24), .ref (Mp 25), .ref (Mp 26), .ref (Mp 27), .long (Mj 28), .int (Ms 29), .int (Ms 30), .int (Ms 31), .int (Ms 32), .int (Ms 33), .ref (Mp 34), .ref (Mp 35), .ref (Mp 36), .ref (Mp 37), .ref (Mp 38), .long (Mj 39)] : List Value).set 9 (.int v9))) = (zwM cI cB Mo Mp (upd Ms 9 v9) Mj Ma) := fun _ => rfl
  obtain ⟨Ms_2, eMs_2, hP, hD⟩ : ∃ y9, y9 = (upd Ms 9 (0 : Int32)) ∧ va_P D vwCl (zwM cI cB Mo Mp y9 Mj Ma) H ∧ va_D A (zwM cI cB Mo Mp y9 Mj Ma) := ⟨_, rfl, zsetP (hset _) hP, zsetD (hset _) hD⟩
  have h := zlt_s h eMs_2
  clear hset
  refine lv_iload_n hx hb dX6_forget_10 rfl (lv_at hl 0 rfl) ?_
  cases zend h
  exact hq hP hD hS dX6_forget_11
set_option maxHeartbeats 4000000 in
set_option maxRecDepth 100000 in
theorem c_X6_draw (l : Launch) (D : va_G) (cI cB cO : ClassId) (Mo : Nat) (Mp : Nat → Nat) (Ms : Nat → Int32) (Mj : Nat → Int64) (Ma : Nat → Nat → Int32) (a0 : Int32) (rv : Int32) (Mj' : Nat → Int64) (sz : Nat) (h : fX6_draw Mj a0 = some (rv, Mj')) : Met l yX6_draw wsX6_draw ({ frames := 0, cells := 0, slots := 0, locals := 0 } : Room) (va_Pc [.ref Mo, .int a0] (zPre D (zTY cI cB cO) (zwM cI cB Mo Mp Ms Mj Ma) sz)) (va_Qi (fun r (_ : Unit) => r = rv) (fun _ => zPost D (zTY cI cB cO) (zwM cI cB Mo Mp Ms Mj' Ma) (va_A (zwM cI cB Mo Mp Ms Mj Ma) sz)) (va_A (zwM cI cB Mo Mp Ms Mj Ma) sz)) 0 0 (va_A (zwM cI cB Mo Mp Ms Mj Ma) sz) := by
  unfold fX6_draw at h
  refine zmet_i (cc := cX6_draw) (maxL := 2) (by decide) rfl (Nat.le_of_ble_eq_true rfl) rfl rfl ?_
  intro p e s m args below meth c R Q A ls hx hb hts hown hml hK hP hD hE hA hS hRf hRl hl hq
  have hown : s.vm.findClass RX6 = some m.cls := hown
  have hl : lv_has ls 2 [(0, .ref Mo), (1, .int a0)] := hl
  have inX6 : ∀ w ∈ u_ws RX6 TX6 40, w ∈ wsX6_draw := by decide +kernel
  have lk230 : (Cond.fieldLink RX6 230 "PegFieldModel" "seedNow" "J").before args s = true := hts _ (by decide +kernel)
  refine lv_aload_n hx hb dX6_draw_0 rfl (lv_at hl 0 rfl) ?_
  refine lv_ldc2 (v := (1103515245 : Int64)) hx hb hown (hts (.constantLong RX6 228 (1103515245)) (by decide +kernel)) dX6_draw_1 ?_
  refine lv_aload_n hx hb dX6_draw_4 rfl (lv_at hl 0 rfl) ?_
  refine va_get (D := D) (ci := 6) (v := .long (Mj 28)) (C := RX6) (T := TX6) (N := 40) hx hb hts inX6 hown hK hP 0 rfl rfl 28 (by decide) lk230 (fun _ h9 => h9) rfl dX6_draw_5 ?_
  refine lv_lmul hx hb dX6_draw_8 ?_
  refine lv_ldc2 (v := (12345 : Int64)) hx hb hown (hts (.constantLong RX6 234 (12345)) (by decide +kernel)) dX6_draw_9 ?_
  refine lv_ladd hx hb dX6_draw_12 ?_
  refine lv_ldc2 (v := (2147483647 : Int64)) hx hb hown (hts (.constantLong RX6 236 (2147483647)) (by decide +kernel)) dX6_draw_13 ?_
  refine lv_land hx hb dX6_draw_16 ?_
  refine va_put (D := D) (ci := 6) (v := .long ((((1103515245 : Int64) * (Mj 28)) + (12345 : Int64)) &&& (2147483647 : Int64))) (ty := .long) (C := RX6) (T := TX6) (N := 40) hx hb hts inX6 tyX6 tyX6_ok nmX6 hown hK hP hD hS 0 rfl rfl 28 (by decide) lk230 (fun _ h9 => h9) rfl (by decide +kernel) rfl rfl (Nat.le_of_ble_eq_true rfl) dX6_draw_17 (fun H locs hP hD hS => ?_)
  have hset : ∀ v9 : Int64, (zwM cI cB Mo Mp Ms Mj Ma).set 0 (Mo, .inr (6, ([.int (Ms 0), .int (Ms 1), .int (Ms 2), .int (Ms 3), .int (Ms 4), .ref (Mp 5), .ref (Mp 6), .int (Ms 7), .int (Ms 8), .int (Ms 9), .ref (Mp 10), .ref (Mp 11), .ref (Mp 12), .int (Ms 13), .ref (Mp 14), .int (Ms 15), .int (Ms 16), .ref (Mp 17), .ref (Mp 18), .ref (Mp 19), .ref (Mp 20), .ref (Mp 21), .ref (Mp 22), .ref (Mp 23), .ref (Mp 24), .ref (Mp 25), .ref (Mp 26), .ref (Mp 27), .long (Mj 28), .int (Ms 29), .int (Ms 30), .int (Ms 31), .int (Ms 32), .int (Ms 33), .ref (Mp 34), .ref (Mp 35), .ref (Mp 36), .ref (Mp 37), .ref (Mp 38), .long (Mj 39)] : List Value).set 28 (.long v9))) = (zwM cI cB Mo Mp Ms (va_up Mj 28 v9) Ma) := fun _ => rfl
  obtain ⟨Mj_1, eMj_1, hP, hD⟩ : ∃ y9, y9 = (va_up Mj 28 ((((1103515245 : Int64) * (Mj 28)) + (12345 : Int64)) &&& (2147483647 : Int64))) ∧ va_P D vwCl (zwM cI cB Mo Mp Ms y9 Ma) H ∧ va_D A (zwM cI cB Mo Mp Ms y9 Ma) := ⟨_, rfl, zsetP (hset _) hP, zsetD (hset _) hD⟩
  have h := zlt_s h eMj_1
  clear hset
  refine lv_aload_n hx hb dX6_draw_20 rfl (lv_at hl 0 rfl) ?_
  refine va_get (D := D) (ci := 6) (v := .long (Mj_1 28)) (C := RX6) (T := TX6) (N := 40) hx hb hts inX6 hown hK hP 0 rfl rfl 28 (by decide) lk230 (fun _ h9 => h9) rfl dX6_draw_21 ?_
  refine lv_ldc2 (v := (65536 : Int64)) hx hb hown (hts (.constantLong RX6 238 (65536)) (by decide +kernel)) dX6_draw_24 ?_
  refine lv_ldiv hx hb dX6_draw_27 (by decide) ?_
  refine lv_iload_n hx hb dX6_draw_28 rfl (lv_at hl 1 rfl) ?_
  refine lv_i2l (v := (a0).toInt64) hx hb dX6_draw_29 rfl ?_
  obtain ⟨z2, h⟩ := zck_s h
  refine lv_lrem hx hb dX6_draw_30 (znl_s z2) ?_
  refine lv_l2i (v := ((((Mj_1 28) / (65536 : Int64)) - ((Mj_1 28) / (65536 : Int64)) / (a0).toInt64 * (a0).toInt64)).toInt32) hx hb dX6_draw_31 rfl ?_
  cases zend h
  exact hq hP hD hS dX6_draw_32
set_option maxHeartbeats 4000000 in
set_option maxRecDepth 100000 in
theorem c_X6_codeBy (l : Launch) (D : va_G) (cI cB cO : ClassId) (Mo : Nat) (Mp : Nat → Nat) (Ms : Nat → Int32) (Mj : Nat → Int64) (Ma : Nat → Nat → Int32) (a0 : Int32) (a1 : Int32) (rv : Int32) (Ma' : Nat → Nat → Int32) (sz : Nat) (h : fX6_codeBy Ms Ma a0 a1 = some (rv, Ma')) : Met l yX6_codeBy wsX6_codeBy ({ frames := 4, cells := 0, slots := 0, locals := 95 } : Room) (va_Pc [.ref Mo, .int a0, .int a1] (zPre D (zTY cI cB cO) (zwM cI cB Mo Mp Ms Mj Ma) sz)) (va_Qi (fun r (_ : Unit) => r = rv) (fun _ => zPost D (zTY cI cB cO) (zwM cI cB Mo Mp Ms Mj Ma') (va_A (zwM cI cB Mo Mp Ms Mj Ma) sz)) (va_A (zwM cI cB Mo Mp Ms Mj Ma) sz)) 0 0 (va_A (zwM cI cB Mo Mp Ms Mj Ma) sz) := by
  unfold fX6_codeBy at h
  refine zmet_i (cc := cX6_codeBy) (maxL := 5) (by decide) rfl (Nat.le_of_ble_eq_true rfl) rfl rfl ?_
  intro p e s m args below meth c R Q A ls hx hb hts hown hml hK hP hD hE hA hS hRf hRl hl hq
  have hown : s.vm.findClass RX6 = some m.cls := hown
  have hl : lv_has ls 5 [(0, .ref Mo), (1, .int a0), (2, .int a1)] := hl
  have inX6 : ∀ w ∈ u_ws RX6 TX6 40, w ∈ wsX6_codeBy := by decide +kernel
  have lk32 : (Cond.fieldLink RX6 32 "PegFieldModel" "codeOf" "[I").before args s = true := hts _ (by decide +kernel)
  refine lv_aload_n hx hb dX6_codeBy_0 rfl (lv_at hl 0 rfl) ?_
  refine va_get (D := D) (ci := 6) (v := .ref (Mp 18)) (C := RX6) (T := TX6) (N := 40) hx hb hts inX6 hown hK hP 0 rfl rfl 18 (by decide) lk32 (fun _ h9 => h9) rfl dX6_codeBy_1 ?_
  refine lv_iload_n hx hb dX6_codeBy_4 rfl (lv_at hl 1 rfl) ?_
  refine lv_iconst (v := (0 : Int32)) hx hb dX6_codeBy_5 (by decide) ?_
  obtain ⟨z1, h⟩ := zck_s h
  refine va_iast hx hb hK hP hD hS 8 0 rfl rfl (zin_s z1) dX6_codeBy_6 (fun H locs hP hD hS => ?_)
  have hset : ∀ v9 : Nat → Int32, (zwM cI cB Mo Mp Ms Mj Ma).set 8 ((Mp 18), .inl (cI, 9, .inl v9)) = (zwM cI cB Mo Mp Ms Mj (va_up Ma 18 v9)) := fun _ => rfl
  obtain ⟨Ma_2, eMa_2, hP, hD⟩ : ∃ y9, y9 = (va_up Ma 18 (upd (Ma 18) (a0).toNatClampNeg (0 : Int32))) ∧ va_P D vwCl (zwM cI cB Mo Mp Ms Mj y9) H ∧ va_D A (zwM cI cB Mo Mp Ms Mj y9) := ⟨_, rfl, zsetP (hset _) hP, zsetD (hset _) hD⟩
  have h := zlt_s h eMa_2
  clear hset
  refine lv_aload_n hx hb dX6_codeBy_7 rfl (lv_at hl 0 rfl) ?_
  refine lv_iload_n hx hb dX6_codeBy_8 rfl (lv_at hl 1 rfl) ?_
  obtain ⟨r3, Ma_4, g5, h⟩ := zb2_s h
  have hFc := va_free (wc := (zwM cI cB Mo Mp Ms Mj Ma_2)) hD hS hA [0, 1, 2, 3, 4, 5, 6, 7, 8, 9, 10, 11, 12, 13, 14, 15, 16, 17, 18, 19, 20, 21, 22] (zC_55 (cI := cI) (cB := cB) (cO := cO))
  refine zcm_i (w2 := (zwM cI cB Mo Mp Ms Mj Ma_4)) (va_runV (As := [.int a0]) (rest := []) ⟨hx, hb, hml, hown, hts⟩ (c_X6_nextCode l D cI cB cO Mo Mp Ms Mj Ma_2 a0 _ _ _ g5) (cwV 1 hts gX6_codeBy_X6_nextCode rfl rfl rfl kV_X6_nextCode ⟨Nat.le_trans (Nat.le_of_ble_eq_true rfl) hRf, Nat.le_trans (Nat.le_of_ble_eq_true rfl) hRl⟩) (zpreV hK hP hD hS hE hFc [0, 1, 2, 3, 4, 5, 6, 7, 8, 9, 10, 11, 12, 13, 14, 15, 16, 17, 18, 19, 20, 21, 22] (zC_55 (cI := cI) (cB := cB) (cO := cO)) rfl 0 (ci := 6) rfl rfl [.int a0]) rfl rfl hl.1 rfl (lv_room (Nat.le_of_ble_eq_true rfl)) dX6_codeBy_9 ⟨Nat.zero_le _, Nat.zero_le _⟩) hS hFc (fun H1 t h1 h2 h3 => zM_55 (cI := cI) (cB := cB) (cO := cO) hP hD h1 h2 h3) (fun H locs hP hD hS => ?_)
  clear hFc
  refine lv_istore_n (lv' := [(3, .int r3), (0, .ref Mo), (1, .int a0), (2, .int a1)]) hx hb dX6_codeBy_12 rfl hl (by decide) rfl (fun ls hl => ?_)
  refine lv_iconst (v := (0 : Int32)) hx hb dX6_codeBy_13 (by decide) ?_
  refine lv_istore (lv' := [(4, .int (0 : Int32)), (3, .int r3), (0, .ref Mo), (1, .int a0), (2, .int a1)]) hx hb dX6_codeBy_14 hl (by decide) rfl (fun ls hl => ?_)
  obtain ⟨x3_34x16, Ma_34x16, i11, h⟩ := zb2_s h
  have KX34 : ∀ (H : Heap) (locs : List Loc) (ls : Array Slot), va_P D vwCl (zwM cI cB Mo Mp Ms Mj Ma_34x16) H → va_D A (zwM cI cB Mo Mp Ms Mj Ma_34x16) → va_S A s.heap H locs → lv_has ls 5 [(3, .int x3_34x16)] → W p l e R s m args below meth c H locs 0 0 Q (F0 m 34 ls []) := by
    intro H locs ls hP hD hS hl
    refine lv_iload_n hx hb dX6_codeBy_34 rfl (lv_at hl 0 rfl) ?_
    cases zend h
    exact hq hP hD hS dX6_codeBy_35
  clear h
  refine zi3_ind (P := (fun (x3_16h : Int32) (x4_16h : Int32) (Ma_16h : Nat → Nat → Int32) => ∀ (H : Heap) (locs : List Loc) (ls : Array Slot), va_P D vwCl (zwM cI cB Mo Mp Ms Mj Ma_16h) H → va_D A (zwM cI cB Mo Mp Ms Mj Ma_16h) → va_S A s.heap H locs → lv_has ls 5 [(0, .ref Mo), (1, .int a0), (2, .int a1), (3, .int x3_16h), (4, .int x4_16h)] → W p l e R s m args below meth c H locs 0 0 Q (F0 m 16 ls []))) ?_ i11 _ _ _ hP hD hS (lv_sub hl [2, 3, 4, 1, 0] rfl)
  clear i11 hP hD hS hl
  intro x3_16h x4_16h Ma_16h z16 h zl16 zr16 H locs ls hP hD hS hl
  refine lv_iload hx hb dX6_codeBy_16 (lv_at hl 4 rfl) ?_
  refine lv_iload_n hx hb dX6_codeBy_18 rfl (lv_at hl 2 rfl) ?_
  refine lv_icmp_ge (tgt := 34) hx hb dX6_codeBy_19 (by decide) (fun c7 => ?_) (fun c7 => ?_)
  · have h := zif_t c7 h
    cases zr16 _ (zend h).symm
    exact KX34 _ _ _ hP hD hS (lv_sub hl [3] rfl)
  · have h := zif_f c7 h
    refine lv_aload_n hx hb dX6_codeBy_22 rfl (lv_at hl 0 rfl) ?_
    refine lv_iload_n hx hb dX6_codeBy_23 rfl (lv_at hl 1 rfl) ?_
    obtain ⟨r8, Ma_9, g10, h⟩ := zb2_s h
    have hFc := va_free (wc := (zwM cI cB Mo Mp Ms Mj Ma_16h)) hD hS hA [0, 1, 2, 3, 4, 5, 6, 7, 8, 9, 10, 11, 12, 13, 14, 15, 16, 17, 18, 19, 20, 21, 22] (zC_55 (cI := cI) (cB := cB) (cO := cO))
    refine zcm_i (w2 := (zwM cI cB Mo Mp Ms Mj Ma_9)) (va_runV (As := [.int a0]) (rest := []) ⟨hx, hb, hml, hown, hts⟩ (c_X6_nextCode l D cI cB cO Mo Mp Ms Mj Ma_16h a0 _ _ _ g10) (cwV 1 hts gX6_codeBy_X6_nextCode rfl rfl rfl kV_X6_nextCode ⟨Nat.le_trans (Nat.le_of_ble_eq_true rfl) hRf, Nat.le_trans (Nat.le_of_ble_eq_true rfl) hRl⟩) (zpreV hK hP hD hS hE hFc [0, 1, 2, 3, 4, 5, 6, 7, 8, 9, 10, 11, 12, 13, 14, 15, 16, 17, 18, 19, 20, 21, 22] (zC_55 (cI := cI) (cB := cB) (cO := cO)) rfl 0 (ci := 6) rfl rfl [.int a0]) rfl rfl hl.1 rfl (lv_room (Nat.le_of_ble_eq_true rfl)) dX6_codeBy_24 ⟨Nat.zero_le _, Nat.zero_le _⟩) hS hFc (fun H1 t h1 h2 h3 => zM_55 (cI := cI) (cB := cB) (cO := cO) hP hD h1 h2 h3) (fun H locs hP hD hS => ?_)
    clear hFc
    refine lv_istore_n (lv' := [(3, .int r8), (0, .ref Mo), (1, .int a0), (2, .int a1), (4, .int x4_16h)]) hx hb dX6_codeBy_27 rfl hl (by decide) rfl (fun ls hl => ?_)
    refine lv_iinc (v := (x4_16h + (1 : Int32))) (lv' := [(4, .int (x4_16h + (1 : Int32))), (3, .int r8), (0, .ref Mo), (1, .int a0), (2, .int a1)]) hx hb dX6_codeBy_28 hl (k := 4) rfl rfl (by decide) rfl (fun ls hl => ?_)
    refine lv_goto (tgt := 16) hx hb dX6_codeBy_31 (by decide) ?_
    exact zl16 _ _ _ (zend h).symm _ _ _ hP hD hS (lv_sub hl [2, 3, 4, 1, 0] rfl)
set_option maxHeartbeats 4000000 in
set_option maxRecDepth 100000 in
theorem c_X6_runsNow (l : Launch) (D : va_G) (cI cB cO : ClassId) (Mo : Nat) (Mp : Nat → Nat) (Ms : Nat → Int32) (Mj : Nat → Int64) (Ma : Nat → Nat → Int32) (a0 : Int32) (a1 : Int32) (a2 : Int32) (rv : Int32) (Mj' : Nat → Int64) (Ma' : Nat → Nat → Int32) (sz : Nat) (h : fX6_runsNow Ms Mj Ma a0 a1 a2 = some (rv, Mj', Ma')) : Met l yX6_runsNow wsX6_runsNow ({ frames := 5, cells := 0, slots := 0, locals := 120 } : Room) (va_Pc [.ref Mo, .int a0, .int a1, .int a2] (zPre D (zTY cI cB cO) (zwM cI cB Mo Mp Ms Mj Ma) sz)) (va_Qi (fun r (_ : Unit) => r = rv) (fun _ => zPost D (zTY cI cB cO) (zwM cI cB Mo Mp Ms Mj' Ma') (va_A (zwM cI cB Mo Mp Ms Mj Ma) sz)) (va_A (zwM cI cB Mo Mp Ms Mj Ma) sz)) 0 0 (va_A (zwM cI cB Mo Mp Ms Mj Ma) sz) := by
  unfold fX6_runsNow at h
  refine zmet_i (cc := cX6_runsNow) (maxL := 10) (by decide) rfl (Nat.le_of_ble_eq_true rfl) rfl rfl ?_
  intro p e s m args below meth c R Q A ls hx hb hts hown hml hK hP hD hE hA hS hRf hRl hl hq
  have hown : s.vm.findClass RX6 = some m.cls := hown
  have hl : lv_has ls 10 [(0, .ref Mo), (1, .int a0), (2, .int a1), (3, .int a2)] := hl
  have inX6 : ∀ w ∈ u_ws RX6 TX6 40, w ∈ wsX6_runsNow := by decide +kernel
  have lk230 : (Cond.fieldLink RX6 230 "PegFieldModel" "seedNow" "J").before args s = true := hts _ (by decide +kernel)
  refine lv_aload_n hx hb dX6_runsNow_0 rfl (lv_at hl 0 rfl) ?_
  refine lv_iload_n hx hb dX6_runsNow_1 rfl (lv_at hl 2 rfl) ?_
  refine lv_i2l (v := (a1).toInt64) hx hb dX6_runsNow_2 rfl ?_
  refine va_put (D := D) (ci := 6) (v := .long (a1).toInt64) (ty := .long) (C := RX6) (T := TX6) (N := 40) hx hb hts inX6 tyX6 tyX6_ok nmX6 hown hK hP hD hS 0 rfl rfl 28 (by decide) lk230 (fun _ h9 => h9) rfl (by decide +kernel) rfl rfl (Nat.le_of_ble_eq_true rfl) dX6_runsNow_3 (fun H locs hP hD hS => ?_)
  have hset : ∀ v9 : Int64, (zwM cI cB Mo Mp Ms Mj Ma).set 0 (Mo, .inr (6, ([.int (Ms 0), .int (Ms 1), .int (Ms 2), .int (Ms 3), .int (Ms 4), .ref (Mp 5), .ref (Mp 6), .int (Ms 7), .int (Ms 8), .int (Ms 9), .ref (Mp 10), .ref (Mp 11), .ref (Mp 12), .int (Ms 13), .ref (Mp 14), .int (Ms 15), .int (Ms 16), .ref (Mp 17), .ref (Mp 18), .ref (Mp 19), .ref (Mp 20), .ref (Mp 21), .ref (Mp 22), .ref (Mp 23), .ref (Mp 24), .ref (Mp 25), .ref (Mp 26), .ref (Mp 27), .long (Mj 28), .int (Ms 29), .int (Ms 30), .int (Ms 31), .int (Ms 32), .int (Ms 33), .ref (Mp 34), .ref (Mp 35), .ref (Mp 36), .ref (Mp 37), .ref (Mp 38), .long (Mj 39)] : List Value).set 28 (.long v9))) = (zwM cI cB Mo Mp Ms (va_up Mj 28 v9) Ma) := fun _ => rfl
  obtain ⟨Mj_1, eMj_1, hP, hD⟩ : ∃ y9, y9 = (va_up Mj 28 (a1).toInt64) ∧ va_P D vwCl (zwM cI cB Mo Mp Ms y9 Ma) H ∧ va_D A (zwM cI cB Mo Mp Ms y9 Ma) := ⟨_, rfl, zsetP (hset _) hP, zsetD (hset _) hD⟩
  have h := zlt_s h eMj_1
  clear hset
  refine lv_iconst (v := (0 : Int32)) hx hb dX6_runsNow_6 (by decide) ?_
  refine lv_istore (lv' := [(4, .int (0 : Int32)), (0, .ref Mo), (1, .int a0), (2, .int a1), (3, .int a2)]) hx hb dX6_runsNow_7 hl (by decide) rfl (fun ls hl => ?_)
  refine lv_iconst (v := (0 : Int32)) hx hb dX6_runsNow_9 (by decide) ?_
  refine lv_istore (lv' := [(5, .int (0 : Int32)), (4, .int (0 : Int32)), (0, .ref Mo), (1, .int a0), (2, .int a1), (3, .int a2)]) hx hb dX6_runsNow_10 hl (by decide) rfl (fun ls hl => ?_)
  refine lv_iconst (v := (0 : Int32)) hx hb dX6_runsNow_12 (by decide) ?_
  refine lv_istore (lv' := [(6, .int (0 : Int32)), (5, .int (0 : Int32)), (4, .int (0 : Int32)), (0, .ref Mo), (1, .int a0), (2, .int a1), (3, .int a2)]) hx hb dX6_runsNow_13 hl (by decide) rfl (fun ls hl => ?_)
  obtain ⟨x4_113x15, x5_113x15, Mj_113x15, Ma_113x15, i28, h⟩ := zb4_s h
  have KX113 : ∀ (H : Heap) (locs : List Loc) (ls : Array Slot), va_P D vwCl (zwM cI cB Mo Mp Ms Mj_113x15 Ma_113x15) H → va_D A (zwM cI cB Mo Mp Ms Mj_113x15 Ma_113x15) → va_S A s.heap H locs → lv_has ls 10 [(0, .ref Mo), (3, .int a2), (4, .int x4_113x15), (5, .int x5_113x15)] → W p l e R s m args below meth c H locs 0 0 Q (F0 m 113 ls []) := by
    intro H locs ls hP hD hS hl
    refine lv_iload_n hx hb dX6_runsNow_113 rfl (lv_at hl 1 rfl) ?_
    refine lv_if_ne (tgt := 122) hx hb dX6_runsNow_114 (by decide) (fun c26 => ?_) (fun c26 => ?_)
    · have h := zif_f c26 h
      refine lv_iload_n hx hb dX6_runsNow_122 rfl (lv_at hl 1 rfl) ?_
      refine lv_iconst (v := (1 : Int32)) hx hb dX6_runsNow_123 (by decide) ?_
      refine lv_icmp_ne (tgt := 132) hx hb dX6_runsNow_124 (by decide) (fun c27 => ?_) (fun c27 => ?_)
      · have h := zif_f c27 h
        refine lv_aload_n hx hb dX6_runsNow_132 rfl (lv_at hl 0 rfl) ?_
        refine va_get (D := D) (ci := 6) (v := .long (Mj_113x15 28)) (C := RX6) (T := TX6) (N := 40) hx hb hts inX6 hown hK hP 0 rfl rfl 28 (by decide) lk230 (fun _ h9 => h9) rfl dX6_runsNow_133 ?_
        refine lv_l2i (v := ((Mj_113x15 28)).toInt32) hx hb dX6_runsNow_136 rfl ?_
        cases zend h
        exact hq hP hD hS dX6_runsNow_137
      · have h := zif_t c27 h
        refine lv_iload hx hb dX6_runsNow_127 (lv_at hl 3 rfl) ?_
        refine lv_goto (tgt := 137) hx hb dX6_runsNow_129 (by decide) ?_
        cases zend h
        exact hq hP hD hS dX6_runsNow_137
    · have h := zif_t c26 h
      refine lv_iload hx hb dX6_runsNow_117 (lv_at hl 2 rfl) ?_
      refine lv_goto (tgt := 137) hx hb dX6_runsNow_119 (by decide) ?_
      cases zend h
      exact hq hP hD hS dX6_runsNow_137
  clear h
  refine zi5_ind (P := (fun (x4_15h : Int32) (x5_15h : Int32) (x6_15h : Int32) (Mj_15h : Nat → Int64) (Ma_15h : Nat → Nat → Int32) => ∀ (H : Heap) (locs : List Loc) (ls : Array Slot), va_P D vwCl (zwM cI cB Mo Mp Ms Mj_15h Ma_15h) H → va_D A (zwM cI cB Mo Mp Ms Mj_15h Ma_15h) → va_S A s.heap H locs → lv_has ls 10 [(0, .ref Mo), (1, .int a0), (3, .int a2), (4, .int x4_15h), (5, .int x5_15h), (6, .int x6_15h)] → W p l e R s m args below meth c H locs 0 0 Q (F0 m 15 ls []))) ?_ i28 _ _ _ hP hD hS (lv_sub hl [3, 4, 6, 2, 1, 0] rfl)
  clear i28 hP hD hS hl
  intro x4_15h x5_15h x6_15h Mj_15h Ma_15h z15 h zl15 zr15 H locs ls hP hD hS hl
  refine lv_iload hx hb dX6_runsNow_15 (lv_at hl 5 rfl) ?_
  refine lv_iload_n hx hb dX6_runsNow_17 rfl (lv_at hl 1 rfl) ?_
  refine lv_icmp_ge (tgt := 113) hx hb dX6_runsNow_18 (by decide) (fun c3 => ?_) (fun c3 => ?_)
  · have h := zif_t c3 h
    cases zr15 _ (zend h).symm
    exact KX113 _ _ _ hP hD hS (lv_sub hl [0, 2, 3, 4] rfl)
  · have h := zif_f c3 h
    refine lv_aload_n hx hb dX6_runsNow_21 rfl (lv_at hl 0 rfl) ?_
    obtain ⟨Ma_4, g5, h⟩ := zb1_s h
    have hFc := va_free (wc := (zwM cI cB Mo Mp Ms Mj_15h Ma_15h)) hD hS hA [0, 1, 2, 3, 4, 5, 6, 7, 8, 9, 10, 11, 12, 13, 14, 15, 16, 17, 18, 19, 20, 21, 22] (zC_55 (cI := cI) (cB := cB) (cO := cO))
    refine zcm_v (w2 := (zwM cI cB Mo Mp Ms Mj_15h Ma_4)) (va_runV (As := []) (rest := []) ⟨hx, hb, hml, hown, hts⟩ (c_X6_putDeep l D cI cB cO Mo Mp Ms Mj_15h Ma_15h _ _ g5) (cwV 0 hts gX6_runsNow_X6_putDeep rfl rfl rfl kV_X6_putDeep ⟨Nat.le_trans (Nat.le_of_ble_eq_true rfl) hRf, Nat.le_trans (Nat.le_of_ble_eq_true rfl) hRl⟩) (zpreV hK hP hD hS hE hFc [0, 1, 2, 3, 4, 5, 6, 7, 8, 9, 10, 11, 12, 13, 14, 15, 16, 17, 18, 19, 20, 21, 22] (zC_55 (cI := cI) (cB := cB) (cO := cO)) rfl 0 (ci := 6) rfl rfl []) rfl rfl hl.1 rfl (lv_room (Nat.le_of_ble_eq_true rfl)) dX6_runsNow_22 ⟨Nat.zero_le _, Nat.zero_le _⟩) hS hFc (fun H1 t h1 h2 h3 => zM_55 (cI := cI) (cB := cB) (cO := cO) hP hD h1 h2 h3) (fun H locs hP hD hS => ?_)
    clear hFc
    refine lv_iconst (v := (0 : Int32)) hx hb dX6_runsNow_25 (by decide) ?_
    refine lv_istore (lv' := [(7, .int (0 : Int32)), (0, .ref Mo), (1, .int a0), (3, .int a2), (4, .int x4_15h), (5, .int x5_15h), (6, .int x6_15h)]) hx hb dX6_runsNow_26 hl (by decide) rfl (fun ls hl => ?_)
    refine lv_aload_n hx hb dX6_runsNow_28 rfl (lv_at hl 1 rfl) ?_
    refine lv_iconst (v := (0 : Int32)) hx hb dX6_runsNow_29 (by decide) ?_
    obtain ⟨r6, g7, h⟩ := zb1_s h
    have hFc := va_free (wc := (zwM cI cB Mo Mp Ms Mj_15h Ma_4)) hD hS hA [0, 1, 2, 3, 4, 5, 6, 7, 8, 9, 10, 11, 12, 13, 14, 15, 16, 17, 18, 19, 20, 21, 22] (zC_53 (cI := cI) (cB := cB) (cO := cO))
    refine zcp_i (va_runV (As := [.int (0 : Int32)]) (rest := []) ⟨hx, hb, hml, hown, hts⟩ (c_X6_jumpsNow l D cI cB cO Mo Mp Ms Mj_15h Ma_4 (0 : Int32) _ _ g7) (cwV 1 hts gX6_runsNow_X6_jumpsNow rfl rfl rfl kV_X6_jumpsNow ⟨Nat.le_trans (Nat.le_of_ble_eq_true rfl) hRf, Nat.le_trans (Nat.le_of_ble_eq_true rfl) hRl⟩) (zpreV hK hP hD hS hE hFc [0, 1, 2, 3, 4, 5, 6, 7, 8, 9, 10, 11, 12, 13, 14, 15, 16, 17, 18, 19, 20, 21, 22] (zC_53 (cI := cI) (cB := cB) (cO := cO)) rfl 0 (ci := 6) rfl rfl [.int (0 : Int32)]) rfl rfl hl.1 rfl (lv_room (Nat.le_of_ble_eq_true rfl)) dX6_runsNow_30 ⟨Nat.zero_le _, Nat.zero_le _⟩) hP hD hS hFc [0, 1, 2, 3, 4, 5, 6, 7, 8, 9, 10, 11, 12, 13, 14, 15, 16, 17, 18, 19, 20, 21, 22] (zC_53 (cI := cI) (cB := cB) (cO := cO)) (fun H locs hP hS => ?_)
    clear hFc
    refine lv_istore (lv' := [(8, .int r6), (7, .int (0 : Int32)), (0, .ref Mo), (1, .int a0), (3, .int a2), (4, .int x4_15h), (5, .int x5_15h), (6, .int x6_15h)]) hx hb dX6_runsNow_33 hl (by decide) rfl (fun ls hl => ?_)
    obtain ⟨x4_87x35, x7_87x35, Mj_87x35, Ma_87x35, i25, h⟩ := zb4_s h
    have KX87 : ∀ (H : Heap) (locs : List Loc) (ls : Array Slot), va_P D vwCl (zwM cI cB Mo Mp Ms Mj_87x35 Ma_87x35) H → va_D A (zwM cI cB Mo Mp Ms Mj_87x35 Ma_87x35) → va_S A s.heap H locs → lv_has ls 10 [(0, .ref Mo), (1, .int a0), (3, .int a2), (4, .int x4_87x35), (5, .int x5_15h), (6, .int x6_15h), (7, .int x7_87x35)] → W p l e R s m args below meth c H locs 0 0 Q (F0 m 87 ls []) := by
      intro H locs ls hP hD hS hl
      refine lv_iload hx hb dX6_runsNow_87 (lv_at hl 4 rfl) ?_
      refine lv_aload_n hx hb dX6_runsNow_89 rfl (lv_at hl 0 rfl) ?_
      refine lv_iload hx hb dX6_runsNow_90 (lv_at hl 6 rfl) ?_
      obtain ⟨r20, g21, h⟩ := zb1_s h
      have hFc := va_free (wc := (zwM cI cB Mo Mp Ms Mj_87x35 Ma_87x35)) hD hS hA [0, 1, 2, 3, 4, 5, 6, 7, 8, 9, 10, 11, 12, 13, 14, 15, 16, 17, 18, 19, 20, 21, 22] (zC_53 (cI := cI) (cB := cB) (cO := cO))
      refine zcp_i (va_runV (As := [.int x7_87x35]) (rest := [.int x5_15h]) ⟨hx, hb, hml, hown, hts⟩ (c_X6_onBoard l D cI cB cO Mo Mp Ms Mj_87x35 Ma_87x35 x7_87x35 _ _ g21) (cwV 1 hts gX6_runsNow_X6_onBoard rfl rfl rfl kV_X6_onBoard ⟨Nat.le_trans (Nat.le_of_ble_eq_true rfl) hRf, Nat.le_trans (Nat.le_of_ble_eq_true rfl) hRl⟩) (zpreV hK hP hD hS hE hFc [0, 1, 2, 3, 4, 5, 6, 7, 8, 9, 10, 11, 12, 13, 14, 15, 16, 17, 18, 19, 20, 21, 22] (zC_53 (cI := cI) (cB := cB) (cO := cO)) rfl 0 (ci := 6) rfl rfl [.int x7_87x35]) rfl rfl hl.1 rfl (lv_room (Nat.le_of_ble_eq_true rfl)) dX6_runsNow_92 ⟨Nat.zero_le _, Nat.zero_le _⟩) hP hD hS hFc [0, 1, 2, 3, 4, 5, 6, 7, 8, 9, 10, 11, 12, 13, 14, 15, 16, 17, 18, 19, 20, 21, 22] (zC_53 (cI := cI) (cB := cB) (cO := cO)) (fun H locs hP hS => ?_)
      clear hFc
      refine lv_iconst (v := (1 : Int32)) hx hb dX6_runsNow_95 (by decide) ?_
      obtain ⟨v104, j23, h⟩ := zb1_s h
      have K104 : ∀ (H : Heap) (locs : List Loc) (ls : Array Slot), va_P D vwCl (zwM cI cB Mo Mp Ms Mj_87x35 Ma_87x35) H → va_D A (zwM cI cB Mo Mp Ms Mj_87x35 Ma_87x35) → va_S A s.heap H locs → lv_has ls 10 [(0, .ref Mo), (1, .int a0), (3, .int a2), (4, .int x4_87x35), (6, .int x6_15h)] → W p l e R s m args below meth c H locs 0 0 Q (F0 m 104 ls [.int v104, .int x5_15h]) := by
        intro H locs ls hP hD hS hl
        refine lv_iadd hx hb dX6_runsNow_104 ?_
        refine lv_topi (fun x5_22 ex5_22 => ?_)
        have h := zlt_s h ex5_22
        refine lv_istore (lv' := [(5, .int x5_22), (0, .ref Mo), (1, .int a0), (3, .int a2), (4, .int x4_87x35), (6, .int x6_15h)]) hx hb dX6_runsNow_105 hl (by decide) rfl (fun ls hl => ?_)
        refine lv_iinc (v := (x6_15h + (1 : Int32))) (lv' := [(6, .int (x6_15h + (1 : Int32))), (5, .int x5_22), (0, .ref Mo), (1, .int a0), (3, .int a2), (4, .int x4_87x35)]) hx hb dX6_runsNow_107 hl (k := 5) rfl rfl (by decide) rfl (fun ls hl => ?_)
        refine lv_goto (tgt := 15) hx hb dX6_runsNow_110 (by decide) ?_
        exact zl15 _ _ _ _ _ (zend h).symm _ _ _ hP hD hS (lv_sub hl [2, 3, 4, 5, 1, 0] rfl)
      clear h
      have h := j23
      clear j23
      refine lv_icmp_ne (tgt := 103) hx hb dX6_runsNow_96 (by decide) (fun c24 => ?_) (fun c24 => ?_)
      · have h := zif_f c24 h
        refine lv_iconst (v := (0 : Int32)) hx hb dX6_runsNow_103 (by decide) ?_
        cases zend h
        exact K104 _ _ _ hP hD hS (lv_sub hl [0, 1, 2, 3, 5] rfl)
      · have h := zif_t c24 h
        refine lv_iconst (v := (1 : Int32)) hx hb dX6_runsNow_99 (by decide) ?_
        refine lv_goto (tgt := 104) hx hb dX6_runsNow_100 (by decide) ?_
        cases zend h
        exact K104 _ _ _ hP hD hS (lv_sub hl [0, 1, 2, 3, 5] rfl)
    clear h
    refine zi5_ind (P := (fun (x4_35h : Int32) (x7_35h : Int32) (x8_35h : Int32) (Mj_35h : Nat → Int64) (Ma_35h : Nat → Nat → Int32) => ∀ (H : Heap) (locs : List Loc) (ls : Array Slot), va_P D vwCl (zwM cI cB Mo Mp Ms Mj_35h Ma_35h) H → va_D A (zwM cI cB Mo Mp Ms Mj_35h Ma_35h) → va_S A s.heap H locs → lv_has ls 10 [(0, .ref Mo), (1, .int a0), (3, .int a2), (4, .int x4_35h), (5, .int x5_15h), (6, .int x6_15h), (7, .int x7_35h), (8, .int x8_35h)] → W p l e R s m args below meth c H locs 0 0 Q (F0 m 35 ls []))) ?_ i25 _ _ _ hP hD hS (lv_sub hl [2, 3, 4, 5, 6, 7, 1, 0] rfl)
    clear i25 hP hD hS hl
    intro x4_35h x7_35h x8_35h Mj_35h Ma_35h z35 h zl35 zr35 H locs ls hP hD hS hl
    refine lv_iload hx hb dX6_runsNow_35 (lv_at hl 7 rfl) ?_
    refine lv_if_le (tgt := 87) hx hb dX6_runsNow_37 (by decide) (fun c9 => ?_) (fun c9 => ?_)
    · have h := zif_t c9 h
      cases zr35 _ (zend h).symm
      exact KX87 _ _ _ hP hD hS (lv_sub hl [0, 1, 2, 3, 4, 5, 6] rfl)
    · have h := zif_f c9 h
      refine lv_aload_n hx hb dX6_runsNow_40 rfl (lv_at hl 0 rfl) ?_
      refine lv_iload hx hb dX6_runsNow_41 (lv_at hl 6 rfl) ?_
      refine lv_aload_n hx hb dX6_runsNow_43 rfl (lv_at hl 0 rfl) ?_
      refine lv_iload hx hb dX6_runsNow_44 (lv_at hl 7 rfl) ?_
      obtain ⟨r10, Mj_11, g12, h⟩ := zb2_s h
      have hFc := va_free (wc := (zwM cI cB Mo Mp Ms Mj_35h Ma_35h)) hD hS hA [0, 1, 2, 3, 4, 5, 6, 7, 8, 9, 10, 11, 12, 13, 14, 15, 16, 17, 18, 19, 20, 21, 22] (zC_57 (cI := cI) (cB := cB) (cO := cO))
      refine zcm_i (w2 := (zwM cI cB Mo Mp Ms Mj_11 Ma_35h)) (va_runV (As := [.int x8_35h]) (rest := [.int x7_35h, .ref Mo]) ⟨hx, hb, hml, hown, hts⟩ (c_X6_draw l D cI cB cO Mo Mp Ms Mj_35h Ma_35h x8_35h _ _ _ g12) (cwV 1 hts gX6_runsNow_X6_draw rfl rfl rfl kV_X6_draw ⟨Nat.le_trans (Nat.le_of_ble_eq_true rfl) hRf, Nat.le_trans (Nat.le_of_ble_eq_true rfl) hRl⟩) (zpreV hK hP hD hS hE hFc [0, 1, 2, 3, 4, 5, 6, 7, 8, 9, 10, 11, 12, 13, 14, 15, 16, 17, 18, 19, 20, 21, 22] (zC_57 (cI := cI) (cB := cB) (cO := cO)) rfl 0 (ci := 6) rfl rfl [.int x8_35h]) rfl rfl hl.1 rfl (lv_room (Nat.le_of_ble_eq_true rfl)) dX6_runsNow_46 ⟨Nat.zero_le _, Nat.zero_le _⟩) hS hFc (fun H1 t h1 h2 h3 => zM_57 (cI := cI) (cB := cB) (cO := cO) hP hD h1 h2 h3) (fun H locs hP hD hS => ?_)
      clear hFc
      obtain ⟨r13, Ma_14, g15, h⟩ := zb2_s h
      have hFc := va_free (wc := (zwM cI cB Mo Mp Ms Mj_11 Ma_35h)) hD hS hA [0, 1, 2, 3, 4, 5, 6, 7, 8, 9, 10, 11, 12, 13, 14, 15, 16, 17, 18, 19, 20, 21, 22] (zC_55 (cI := cI) (cB := cB) (cO := cO))
      refine zcm_i (w2 := (zwM cI cB Mo Mp Ms Mj_11 Ma_14)) (va_runV (As := [.int x7_35h, .int r10]) (rest := []) ⟨hx, hb, hml, hown, hts⟩ (c_X6_codeBy l D cI cB cO Mo Mp Ms Mj_11 Ma_35h x7_35h r10 _ _ _ g15) (cwV 2 hts gX6_runsNow_X6_codeBy rfl rfl rfl kV_X6_codeBy ⟨Nat.le_trans (Nat.le_of_ble_eq_true rfl) hRf, Nat.le_trans (Nat.le_of_ble_eq_true rfl) hRl⟩) (zpreV hK hP hD hS hE hFc [0, 1, 2, 3, 4, 5, 6, 7, 8, 9, 10, 11, 12, 13, 14, 15, 16, 17, 18, 19, 20, 21, 22] (zC_55 (cI := cI) (cB := cB) (cO := cO)) rfl 0 (ci := 6) rfl rfl [.int x7_35h, .int r10]) rfl rfl hl.1 rfl (lv_room (Nat.le_of_ble_eq_true rfl)) dX6_runsNow_49 ⟨Nat.zero_le _, Nat.zero_le _⟩) hS hFc (fun H1 t h1 h2 h3 => zM_55 (cI := cI) (cB := cB) (cO := cO) hP hD h1 h2 h3) (fun H locs hP hD hS => ?_)
      clear hFc
      refine lv_istore (lv' := [(9, .int r13), (0, .ref Mo), (1, .int a0), (3, .int a2), (4, .int x4_35h), (5, .int x5_15h), (6, .int x6_15h), (7, .int x7_35h), (8, .int x8_35h)]) hx hb dX6_runsNow_52 hl (by decide) rfl (fun ls hl => ?_)
      refine lv_aload_n hx hb dX6_runsNow_54 rfl (lv_at hl 1 rfl) ?_
      refine lv_iload hx hb dX6_runsNow_55 (lv_at hl 7 rfl) ?_
      refine lv_iload hx hb dX6_runsNow_57 (lv_at hl 0 rfl) ?_
      refine lv_bipush (v := (12 : Int32)) hx hb dX6_runsNow_59 (by decide) ?_
      refine lv_idiv hx hb dX6_runsNow_61 (by decide) ?_
      refine lv_iload hx hb dX6_runsNow_62 (lv_at hl 0 rfl) ?_
      refine lv_bipush (v := (12 : Int32)) hx hb dX6_runsNow_64 (by decide) ?_
      refine lv_irem hx hb dX6_runsNow_66 (by decide) ?_
      obtain ⟨Ma_16, g17, h⟩ := zb1_s h
      have hFc := va_free (wc := (zwM cI cB Mo Mp Ms Mj_11 Ma_14)) hD hS hA [0, 1, 2, 3, 4, 5, 6, 7, 8, 9, 10, 11, 12, 13, 14, 15, 16, 17, 18, 19, 20, 21, 22] (zC_55 (cI := cI) (cB := cB) (cO := cO))
      refine zcm_v (w2 := (zwM cI cB Mo Mp Ms Mj_11 Ma_16)) (va_runV (As := [.int x7_35h, .int (r13 / (12 : Int32)), .int (r13 - r13 / (12 : Int32) * (12 : Int32))]) (rest := []) ⟨hx, hb, hml, hown, hts⟩ (c_X6_goDeep l D cI cB cO Mo Mp Ms Mj_11 Ma_14 x7_35h (r13 / (12 : Int32)) (r13 - r13 / (12 : Int32) * (12 : Int32)) _ _ g17) (cwV 3 hts gX6_runsNow_X6_goDeep rfl rfl rfl kV_X6_goDeep ⟨Nat.le_trans (Nat.le_of_ble_eq_true rfl) hRf, Nat.le_trans (Nat.le_of_ble_eq_true rfl) hRl⟩) (zpreV hK hP hD hS hE hFc [0, 1, 2, 3, 4, 5, 6, 7, 8, 9, 10, 11, 12, 13, 14, 15, 16, 17, 18, 19, 20, 21, 22] (zC_55 (cI := cI) (cB := cB) (cO := cO)) rfl 0 (ci := 6) rfl rfl [.int x7_35h, .int (r13 / (12 : Int32)), .int (r13 - r13 / (12 : Int32) * (12 : Int32))]) rfl rfl hl.1 rfl (lv_room (Nat.le_of_ble_eq_true rfl)) dX6_runsNow_67 ⟨Nat.zero_le _, Nat.zero_le _⟩) hS hFc (fun H1 t h1 h2 h3 => zM_55 (cI := cI) (cB := cB) (cO := cO) hP hD h1 h2 h3) (fun H locs hP hD hS => ?_)
      clear hFc
      refine lv_iinc (v := (x7_35h + (1 : Int32))) (lv' := [(7, .int (x7_35h + (1 : Int32))), (9, .int r13), (0, .ref Mo), (1, .int a0), (3, .int a2), (4, .int x4_35h), (5, .int x5_15h), (6, .int x6_15h), (8, .int x8_35h)]) hx hb dX6_runsNow_70 hl (k := 7) rfl rfl (by decide) rfl (fun ls hl => ?_)
      refine lv_iinc (v := (x4_35h + (1 : Int32))) (lv' := [(4, .int (x4_35h + (1 : Int32))), (7, .int (x7_35h + (1 : Int32))), (9, .int r13), (0, .ref Mo), (1, .int a0), (3, .int a2), (5, .int x5_15h), (6, .int x6_15h), (8, .int x8_35h)]) hx hb dX6_runsNow_73 hl (k := 5) rfl rfl (by decide) rfl (fun ls hl => ?_)
      refine lv_aload_n hx hb dX6_runsNow_76 rfl (lv_at hl 3 rfl) ?_
      refine lv_iload hx hb dX6_runsNow_77 (lv_at hl 1 rfl) ?_
      obtain ⟨r18, g19, h⟩ := zb1_s h
      have hFc := va_free (wc := (zwM cI cB Mo Mp Ms Mj_11 Ma_16)) hD hS hA [0, 1, 2, 3, 4, 5, 6, 7, 8, 9, 10, 11, 12, 13, 14, 15, 16, 17, 18, 19, 20, 21, 22] (zC_53 (cI := cI) (cB := cB) (cO := cO))
      refine zcp_i (va_runV (As := [.int (x7_35h + (1 : Int32))]) (rest := []) ⟨hx, hb, hml, hown, hts⟩ (c_X6_jumpsNow l D cI cB cO Mo Mp Ms Mj_11 Ma_16 (x7_35h + (1 : Int32)) _ _ g19) (cwV 1 hts gX6_runsNow_X6_jumpsNow rfl rfl rfl kV_X6_jumpsNow ⟨Nat.le_trans (Nat.le_of_ble_eq_true rfl) hRf, Nat.le_trans (Nat.le_of_ble_eq_true rfl) hRl⟩) (zpreV hK hP hD hS hE hFc [0, 1, 2, 3, 4, 5, 6, 7, 8, 9, 10, 11, 12, 13, 14, 15, 16, 17, 18, 19, 20, 21, 22] (zC_53 (cI := cI) (cB := cB) (cO := cO)) rfl 0 (ci := 6) rfl rfl [.int (x7_35h + (1 : Int32))]) rfl rfl hl.1 rfl (lv_room (Nat.le_of_ble_eq_true rfl)) dX6_runsNow_79 ⟨Nat.zero_le _, Nat.zero_le _⟩) hP hD hS hFc [0, 1, 2, 3, 4, 5, 6, 7, 8, 9, 10, 11, 12, 13, 14, 15, 16, 17, 18, 19, 20, 21, 22] (zC_53 (cI := cI) (cB := cB) (cO := cO)) (fun H locs hP hS => ?_)
      clear hFc
      refine lv_istore (lv' := [(8, .int r18), (4, .int (x4_35h + (1 : Int32))), (7, .int (x7_35h + (1 : Int32))), (9, .int r13), (0, .ref Mo), (1, .int a0), (3, .int a2), (5, .int x5_15h), (6, .int x6_15h)]) hx hb dX6_runsNow_82 hl (by decide) rfl (fun ls hl => ?_)
      refine lv_goto (tgt := 35) hx hb dX6_runsNow_84 (by decide) ?_
      exact zl35 _ _ _ _ _ (zend h).symm _ _ _ hP hD hS (lv_sub hl [4, 5, 6, 1, 7, 8, 2, 0] rfl)
set_option maxHeartbeats 4000000 in
set_option maxRecDepth 100000 in
theorem c_X6_runs (l : Launch) (D : va_G) (cI cB cO : ClassId) (Mo : Nat) (Mp : Nat → Nat) (Ms : Nat → Int32) (Mj : Nat → Int64) (Ma : Nat → Nat → Int32) (a0 : Int32) (a1 : Int32) (a2 : Int32) (rv : Int32) (Mj' : Nat → Int64) (Ma' : Nat → Nat → Int32) (sz : Nat) (h : fX6_runs Ms Mj Ma a0 a1 a2 = some (rv, Mj', Ma')) : Met l yX6_runs wsX6_runs ({ frames := 6, cells := 0, slots := 0, locals := 149 } : Room) (va_Pc [.ref Mo, .int a0, .int a1, .int a2] (zPre D (zTY cI cB cO) (zwM cI cB Mo Mp Ms Mj Ma) sz)) (va_Qi (fun r (_ : Unit) => r = rv) (fun _ => zPost D (zTY cI cB cO) (zwM cI cB Mo Mp Ms Mj' Ma') (va_A (zwM cI cB Mo Mp Ms Mj Ma) sz)) (va_A (zwM cI cB Mo Mp Ms Mj Ma) sz)) 0 0 (va_A (zwM cI cB Mo Mp Ms Mj Ma) sz) := by
  unfold fX6_runs at h
  refine zmet_i (cc := cX6_runs) (maxL := 4) (by decide) rfl (Nat.le_of_ble_eq_true rfl) rfl rfl ?_
  intro p e s m args below meth c R Q A ls hx hb hts hown hml hK hP hD hE hA hS hRf hRl hl hq
  have hown : s.vm.findClass RX6 = some m.cls := hown
  have hl : lv_has ls 4 [(0, .ref Mo), (1, .int a0), (2, .int a1), (3, .int a2)] := hl
  have inX6 : ∀ w ∈ u_ws RX6 TX6 40, w ∈ wsX6_runs := by decide +kernel
  have lk115 : (Cond.fieldLink RX6 115 "PegFieldModel" "pegs" "I").before args s = true := hts _ (by decide +kernel)
  refine lv_iload_n hx hb dX6_runs_0 rfl (lv_at hl 1 rfl) ?_
  refine lv_iconst (v := (1 : Int32)) hx hb dX6_runs_1 (by decide) ?_
  refine lv_bipush (v := (40 : Int32)) hx hb dX6_runs_2 (by decide) ?_
  obtain ⟨r1, g2, h⟩ := zb1_s h
  have hFc := va_free (wc := ([] : va_W)) hD hS hA [] rfl
  refine zcp_i (va_runS (As := [.int a0, .int (1 : Int32), .int (40 : Int32)]) (rest := []) ⟨hx, hb, hml, hown, hts⟩ (c_X6_within l D cI cB cO a0 (1 : Int32) (40 : Int32) _ _ g2) (va_cwS 3 hts gX6_runs_X6_within rfl rfl rfl kS_X6_within ⟨Nat.le_trans (Nat.le_of_ble_eq_true rfl) hRf, Nat.le_trans (Nat.le_of_ble_eq_true rfl) hRl⟩) (zpreS hK hP hD hS hE hFc [] (rfl) rfl [.int a0, .int (1 : Int32), .int (40 : Int32)]) rfl rfl hl.1 rfl (lv_room (Nat.le_of_ble_eq_true rfl)) dX6_runs_4 ⟨Nat.zero_le _, Nat.zero_le _⟩) hP hD hS hFc [] (rfl) (fun H locs hP hS => ?_)
  clear hFc
  refine lv_if_eq (tgt := 23) hx hb dX6_runs_7 (by decide) (fun c3 => ?_) (fun c3 => ?_)
  · have h := zif_t c3 h
    refine lv_bipush (v := (-102 : Int32)) hx hb dX6_runs_23 (by decide) ?_
    cases zend h
    exact hq hP hD hS dX6_runs_25
  · have h := zif_f c3 h
    refine lv_iload_n hx hb dX6_runs_10 rfl (lv_at hl 2 rfl) ?_
    refine lv_if_lt (tgt := 23) hx hb dX6_runs_11 (by decide) (fun c4 => ?_) (fun c4 => ?_)
    · have h := zif_t c4 h
      refine lv_bipush (v := (-102 : Int32)) hx hb dX6_runs_23 (by decide) ?_
      cases zend h
      exact hq hP hD hS dX6_runs_25
    · have h := zif_f c4 h
      refine lv_iload_n hx hb dX6_runs_14 rfl (lv_at hl 3 rfl) ?_
      refine lv_iconst (v := (0 : Int32)) hx hb dX6_runs_15 (by decide) ?_
      refine lv_iconst (v := (2 : Int32)) hx hb dX6_runs_16 (by decide) ?_
      obtain ⟨r5, g6, h⟩ := zb1_s h
      have hFc := va_free (wc := ([] : va_W)) hD hS hA [] rfl
      refine zcp_i (va_runS (As := [.int a2, .int (0 : Int32), .int (2 : Int32)]) (rest := []) ⟨hx, hb, hml, hown, hts⟩ (c_X6_within l D cI cB cO a2 (0 : Int32) (2 : Int32) _ _ g6) (va_cwS 3 hts gX6_runs_X6_within rfl rfl rfl kS_X6_within ⟨Nat.le_trans (Nat.le_of_ble_eq_true rfl) hRf, Nat.le_trans (Nat.le_of_ble_eq_true rfl) hRl⟩) (zpreS hK hP hD hS hE hFc [] (rfl) rfl [.int a2, .int (0 : Int32), .int (2 : Int32)]) rfl rfl hl.1 rfl (lv_room (Nat.le_of_ble_eq_true rfl)) dX6_runs_17 ⟨Nat.zero_le _, Nat.zero_le _⟩) hP hD hS hFc [] (rfl) (fun H locs hP hS => ?_)
      clear hFc
      refine lv_if_ne (tgt := 26) hx hb dX6_runs_20 (by decide) (fun c7 => ?_) (fun c7 => ?_)
      · have h := zif_f c7 h
        refine lv_aload_n hx hb dX6_runs_26 rfl (lv_at hl 0 rfl) ?_
        refine va_get (D := D) (ci := 6) (v := .int (Ms 4)) (C := RX6) (T := TX6) (N := 40) hx hb hts inX6 hown hK hP 0 rfl rfl 4 (by decide) lk115 (fun _ h9 => h9) rfl dX6_runs_27 ?_
        refine lv_if_ne (tgt := 38) hx hb dX6_runs_30 (by decide) (fun c8 => ?_) (fun c8 => ?_)
        · have h := zif_f c8 h
          refine lv_aload_n hx hb dX6_runs_38 rfl (lv_at hl 0 rfl) ?_
          refine lv_iload_n hx hb dX6_runs_39 rfl (lv_at hl 1 rfl) ?_
          refine lv_iload_n hx hb dX6_runs_40 rfl (lv_at hl 2 rfl) ?_
          refine lv_iload_n hx hb dX6_runs_41 rfl (lv_at hl 3 rfl) ?_
          obtain ⟨r9, Mj_10, Ma_11, g12, h⟩ := zb3_s h
          have hFc := va_free (wc := (zwM cI cB Mo Mp Ms Mj Ma)) hD hS hA [0, 1, 2, 3, 4, 5, 6, 7, 8, 9, 10, 11, 12, 13, 14, 15, 16, 17, 18, 19, 20, 21, 22] (zC_58 (cI := cI) (cB := cB) (cO := cO))
          refine zcm_i (w2 := (zwM cI cB Mo Mp Ms Mj_10 Ma_11)) (va_runV (As := [.int a0, .int a1, .int a2]) (rest := []) ⟨hx, hb, hml, hown, hts⟩ (c_X6_runsNow l D cI cB cO Mo Mp Ms Mj Ma a0 a1 a2 _ _ _ _ g12) (cwV 3 hts gX6_runs_X6_runsNow rfl rfl rfl kV_X6_runsNow ⟨Nat.le_trans (Nat.le_of_ble_eq_true rfl) hRf, Nat.le_trans (Nat.le_of_ble_eq_true rfl) hRl⟩) (zpreV hK hP hD hS hE hFc [0, 1, 2, 3, 4, 5, 6, 7, 8, 9, 10, 11, 12, 13, 14, 15, 16, 17, 18, 19, 20, 21, 22] (zC_58 (cI := cI) (cB := cB) (cO := cO)) rfl 0 (ci := 6) rfl rfl [.int a0, .int a1, .int a2]) rfl rfl hl.1 rfl (lv_room (Nat.le_of_ble_eq_true rfl)) dX6_runs_42 ⟨Nat.zero_le _, Nat.zero_le _⟩) hS hFc (fun H1 t h1 h2 h3 => zM_58 (cI := cI) (cB := cB) (cO := cO) hP hD h1 h2 h3) (fun H locs hP hD hS => ?_)
          clear hFc
          cases zend h
          exact hq hP hD hS dX6_runs_45
        · have h := zif_t c8 h
          refine lv_bipush (v := (-103 : Int32)) hx hb dX6_runs_33 (by decide) ?_
          refine lv_goto (tgt := 45) hx hb dX6_runs_35 (by decide) ?_
          cases zend h
          exact hq hP hD hS dX6_runs_45
      · have h := zif_t c7 h
        refine lv_bipush (v := (-102 : Int32)) hx hb dX6_runs_23 (by decide) ?_
        cases zend h
        exact hq hP hD hS dX6_runs_25
set_option maxHeartbeats 4000000 in
set_option maxRecDepth 100000 in
theorem c_X6_image (l : Launch) (D : va_G) (cI cB cO : ClassId) (Mo : Nat) (Mp : Nat → Nat) (Ms : Nat → Int32) (Mj : Nat → Int64) (Ma : Nat → Nat → Int32)  (rv : Int32) (Ms' : Nat → Int32) (Ma' : Nat → Nat → Int32) (sz : Nat) (h : fX6_image Ms Ma = some (rv, Ms', Ma')) : Met l yX6_image wsX6_image ({ frames := 0, cells := 0, slots := 0, locals := 0 } : Room) (va_Pc [.ref Mo] (zPre D (zTY cI cB cO) (zwM cI cB Mo Mp Ms Mj Ma) sz)) (va_Qi (fun r (_ : Unit) => r = rv) (fun _ => zPost D (zTY cI cB cO) (zwM cI cB Mo Mp Ms' Mj Ma') (va_A (zwM cI cB Mo Mp Ms Mj Ma) sz)) (va_A (zwM cI cB Mo Mp Ms Mj Ma) sz)) 0 0 (va_A (zwM cI cB Mo Mp Ms Mj Ma) sz) := by
  unfold fX6_image at h
  refine zmet_i (cc := cX6_image) (maxL := 2) (by decide) rfl (Nat.le_of_ble_eq_true rfl) rfl rfl ?_
  intro p e s m args below meth c R Q A ls hx hb hts hown hml hK hP hD hE hA hS hRf hRl hl hq
  have hown : s.vm.findClass RX6 = some m.cls := hown
  have hl : lv_has ls 2 [(0, .ref Mo)] := hl
  have inX6 : ∀ w ∈ u_ws RX6 TX6 40, w ∈ wsX6_image := by decide +kernel
  have lk115 : (Cond.fieldLink RX6 115 "PegFieldModel" "pegs" "I").before args s = true := hts _ (by decide +kernel)
  have lk252 : (Cond.fieldLink RX6 252 "PegFieldModel" "isKept" "Z").before args s = true := hts _ (by decide +kernel)
  have lk124 : (Cond.fieldLink RX6 124 "PegFieldModel" "boards" "I").before args s = true := hts _ (by decide +kernel)
  have lk255 : (Cond.fieldLink RX6 255 "PegFieldModel" "keptBoard" "I").before args s = true := hts _ (by decide +kernel)
  have lk112 : (Cond.fieldLink RX6 112 "PegFieldModel" "holes" "I").before args s = true := hts _ (by decide +kernel)
  have lk258 : (Cond.fieldLink RX6 258 "PegFieldModel" "keptHoles" "I").before args s = true := hts _ (by decide +kernel)
  have lk121 : (Cond.fieldLink RX6 121 "PegFieldModel" "jumps" "I").before args s = true := hts _ (by decide +kernel)
  have lk261 : (Cond.fieldLink RX6 261 "PegFieldModel" "keptJumps" "I").before args s = true := hts _ (by decide +kernel)
  have lk127 : (Cond.fieldLink RX6 127 "PegFieldModel" "seen" "I").before args s = true := hts _ (by decide +kernel)
  have lk264 : (Cond.fieldLink RX6 264 "PegFieldModel" "keptSeen" "I").before args s = true := hts _ (by decide +kernel)
  have lk62 : (Cond.fieldLink RX6 62 "PegFieldModel" "keptKind" "[I").before args s = true := hts _ (by decide +kernel)
  have lk7 : (Cond.fieldLink RX6 7 "PegFieldModel" "kindOf" "[I").before args s = true := hts _ (by decide +kernel)
  have lk65 : (Cond.fieldLink RX6 65 "PegFieldModel" "keptPlace" "[I").before args s = true := hts _ (by decide +kernel)
  have lk13 : (Cond.fieldLink RX6 13 "PegFieldModel" "placeOf" "[I").before args s = true := hts _ (by decide +kernel)
  have lk68 : (Cond.fieldLink RX6 68 "PegFieldModel" "keptPeg" "[I").before args s = true := hts _ (by decide +kernel)
  have lk16 : (Cond.fieldLink RX6 16 "PegFieldModel" "seenPeg" "[I").before args s = true := hts _ (by decide +kernel)
  have lk71 : (Cond.fieldLink RX6 71 "PegFieldModel" "keptWhat" "[I").before args s = true := hts _ (by decide +kernel)
  have lk19 : (Cond.fieldLink RX6 19 "PegFieldModel" "seenWhat" "[I").before args s = true := hts _ (by decide +kernel)
  have lk74 : (Cond.fieldLink RX6 74 "PegFieldModel" "keptCould" "[I").before args s = true := hts _ (by decide +kernel)
  have lk22 : (Cond.fieldLink RX6 22 "PegFieldModel" "seenCould" "[I").before args s = true := hts _ (by decide +kernel)
  refine lv_aload_n hx hb dX6_image_0 rfl (lv_at hl 0 rfl) ?_
  refine va_get (D := D) (ci := 6) (v := .int (Ms 4)) (C := RX6) (T := TX6) (N := 40) hx hb hts inX6 hown hK hP 0 rfl rfl 4 (by decide) lk115 (fun _ h9 => h9) rfl dX6_image_1 ?_
  refine lv_if_ne (tgt := 10) hx hb dX6_image_4 (by decide) (fun c1 => ?_) (fun c1 => ?_)
  · have h := zif_f c1 h
    refine lv_aload_n hx hb dX6_image_10 rfl (lv_at hl 0 rfl) ?_
    refine lv_iconst (v := (1 : Int32)) hx hb dX6_image_11 (by decide) ?_
    refine va_put (D := D) (ci := 6) (v := .int (1 : Int32)) (ty := .boolean) (C := RX6) (T := TX6) (N := 40) hx hb hts inX6 tyX6 tyX6_ok nmX6 hown hK hP hD hS 0 rfl rfl 29 (by decide) lk252 (fun _ h9 => h9) rfl (by decide +kernel) (by decide) (by decide) (Nat.le_of_ble_eq_true rfl) dX6_image_12 (fun H locs hP hD hS => ?_)
    have hset : ∀ v9 : Int32, (zwM cI cB Mo Mp Ms Mj Ma).set 0 (Mo, .inr (6, ([.int (Ms 0), .int (Ms 1), .int (Ms 2), .int (Ms 3), .int (Ms 4), .ref (Mp 5), .ref (Mp 6), .int (Ms 7), .int (Ms 8), .int (Ms 9), .ref (Mp 10), .ref (Mp 11), .ref (Mp 12), .int (Ms 13), .ref (Mp 14), .int (Ms 15), .int (Ms 16), .ref (Mp 17), .ref (Mp 18), .ref (Mp 19), .ref (Mp 20), .ref (Mp 21), .ref (Mp 22), .ref (Mp 23), .ref (Mp 24), .ref (Mp 25), .ref (Mp 26), .ref (Mp 27), .long (Mj 28), .int (Ms 29), .int (Ms 30), .int (Ms 31), .int (Ms 32), .int (Ms 33), .ref (Mp 34), .ref (Mp 35), .ref (Mp 36), .ref (Mp 37), .ref (Mp 38), .long (Mj 39)] : List Value).set 29 (.int v9))) = (zwM cI cB Mo Mp (upd Ms 29 v9) Mj Ma) := fun _ => rfl
    obtain ⟨Ms_2, eMs_2, hP, hD⟩ : ∃ y9, y9 = (upd Ms 29 (1 : Int32)) ∧ va_P D vwCl (zwM cI cB Mo Mp y9 Mj Ma) H ∧ va_D A (zwM cI cB Mo Mp y9 Mj Ma) := ⟨_, rfl, zsetP (hset _) hP, zsetD (hset _) hD⟩
    have h := zlt_s h eMs_2
    clear hset
    refine lv_aload_n hx hb dX6_image_15 rfl (lv_at hl 0 rfl) ?_
    refine lv_aload_n hx hb dX6_image_16 rfl (lv_at hl 0 rfl) ?_
    refine va_get (D := D) (ci := 6) (v := .int (Ms_2 0)) (C := RX6) (T := TX6) (N := 40) hx hb hts inX6 hown hK hP 0 rfl rfl 0 (by decide) lk124 (fun _ h9 => h9) rfl dX6_image_17 ?_
    refine va_put (D := D) (ci := 6) (v := .int (Ms_2 0)) (ty := .int) (C := RX6) (T := TX6) (N := 40) hx hb hts inX6 tyX6 tyX6_ok nmX6 hown hK hP hD hS 0 rfl rfl 30 (by decide) lk255 (fun _ h9 => h9) rfl (by decide +kernel) rfl rfl (Nat.le_of_ble_eq_true rfl) dX6_image_20 (fun H locs hP hD hS => ?_)
    have hset : ∀ v9 : Int32, (zwM cI cB Mo Mp Ms_2 Mj Ma).set 0 (Mo, .inr (6, ([.int (Ms_2 0), .int (Ms_2 1), .int (Ms_2 2), .int (Ms_2 3), .int (Ms_2 4), .ref (Mp 5), .ref (Mp 6), .int (Ms_2 7), .int (Ms_2 8), .int (Ms_2 9), .ref (Mp 10), .ref (Mp 11), .ref (Mp 12), .int (Ms_2 13), .ref (Mp 14), .int (Ms_2 15), .int (Ms_2 16), .ref (Mp 17), .ref (Mp 18), .ref (Mp 19), .ref (Mp 20), .ref (Mp 21), .ref (Mp 22), .ref (Mp 23), .ref (Mp 24), .ref (Mp 25), .ref (Mp 26), .ref (Mp 27), .long (Mj 28), .int (Ms_2 29), .int (Ms_2 30), .int (Ms_2 31), .int (Ms_2 32), .int (Ms_2 33), .ref (Mp 34), .ref (Mp 35), .ref (Mp 36), .ref (Mp 37), .ref (Mp 38), .long (Mj 39)] : List Value).set 30 (.int v9))) = (zwM cI cB Mo Mp (upd Ms_2 30 v9) Mj Ma) := fun _ => rfl
    obtain ⟨Ms_3, eMs_3, hP, hD⟩ : ∃ y9, y9 = (upd Ms_2 30 (Ms_2 0)) ∧ va_P D vwCl (zwM cI cB Mo Mp y9 Mj Ma) H ∧ va_D A (zwM cI cB Mo Mp y9 Mj Ma) := ⟨_, rfl, zsetP (hset _) hP, zsetD (hset _) hD⟩
    have h := zlt_s h eMs_3
    clear hset
    refine lv_aload_n hx hb dX6_image_23 rfl (lv_at hl 0 rfl) ?_
    refine lv_aload_n hx hb dX6_image_24 rfl (lv_at hl 0 rfl) ?_
    refine va_get (D := D) (ci := 6) (v := .int (Ms_3 3)) (C := RX6) (T := TX6) (N := 40) hx hb hts inX6 hown hK hP 0 rfl rfl 3 (by decide) lk112 (fun _ h9 => h9) rfl dX6_image_25 ?_
    refine va_put (D := D) (ci := 6) (v := .int (Ms_3 3)) (ty := .int) (C := RX6) (T := TX6) (N := 40) hx hb hts inX6 tyX6 tyX6_ok nmX6 hown hK hP hD hS 0 rfl rfl 31 (by decide) lk258 (fun _ h9 => h9) rfl (by decide +kernel) rfl rfl (Nat.le_of_ble_eq_true rfl) dX6_image_28 (fun H locs hP hD hS => ?_)
    have hset : ∀ v9 : Int32, (zwM cI cB Mo Mp Ms_3 Mj Ma).set 0 (Mo, .inr (6, ([.int (Ms_3 0), .int (Ms_3 1), .int (Ms_3 2), .int (Ms_3 3), .int (Ms_3 4), .ref (Mp 5), .ref (Mp 6), .int (Ms_3 7), .int (Ms_3 8), .int (Ms_3 9), .ref (Mp 10), .ref (Mp 11), .ref (Mp 12), .int (Ms_3 13), .ref (Mp 14), .int (Ms_3 15), .int (Ms_3 16), .ref (Mp 17), .ref (Mp 18), .ref (Mp 19), .ref (Mp 20), .ref (Mp 21), .ref (Mp 22), .ref (Mp 23), .ref (Mp 24), .ref (Mp 25), .ref (Mp 26), .ref (Mp 27), .long (Mj 28), .int (Ms_3 29), .int (Ms_3 30), .int (Ms_3 31), .int (Ms_3 32), .int (Ms_3 33), .ref (Mp 34), .ref (Mp 35), .ref (Mp 36), .ref (Mp 37), .ref (Mp 38), .long (Mj 39)] : List Value).set 31 (.int v9))) = (zwM cI cB Mo Mp (upd Ms_3 31 v9) Mj Ma) := fun _ => rfl
    obtain ⟨Ms_4, eMs_4, hP, hD⟩ : ∃ y9, y9 = (upd Ms_3 31 (Ms_3 3)) ∧ va_P D vwCl (zwM cI cB Mo Mp y9 Mj Ma) H ∧ va_D A (zwM cI cB Mo Mp y9 Mj Ma) := ⟨_, rfl, zsetP (hset _) hP, zsetD (hset _) hD⟩
    have h := zlt_s h eMs_4
    clear hset
    refine lv_aload_n hx hb dX6_image_31 rfl (lv_at hl 0 rfl) ?_
    refine lv_aload_n hx hb dX6_image_32 rfl (lv_at hl 0 rfl) ?_
    refine va_get (D := D) (ci := 6) (v := .int (Ms_4 7)) (C := RX6) (T := TX6) (N := 40) hx hb hts inX6 hown hK hP 0 rfl rfl 7 (by decide) lk121 (fun _ h9 => h9) rfl dX6_image_33 ?_
    refine va_put (D := D) (ci := 6) (v := .int (Ms_4 7)) (ty := .int) (C := RX6) (T := TX6) (N := 40) hx hb hts inX6 tyX6 tyX6_ok nmX6 hown hK hP hD hS 0 rfl rfl 32 (by decide) lk261 (fun _ h9 => h9) rfl (by decide +kernel) rfl rfl (Nat.le_of_ble_eq_true rfl) dX6_image_36 (fun H locs hP hD hS => ?_)
    have hset : ∀ v9 : Int32, (zwM cI cB Mo Mp Ms_4 Mj Ma).set 0 (Mo, .inr (6, ([.int (Ms_4 0), .int (Ms_4 1), .int (Ms_4 2), .int (Ms_4 3), .int (Ms_4 4), .ref (Mp 5), .ref (Mp 6), .int (Ms_4 7), .int (Ms_4 8), .int (Ms_4 9), .ref (Mp 10), .ref (Mp 11), .ref (Mp 12), .int (Ms_4 13), .ref (Mp 14), .int (Ms_4 15), .int (Ms_4 16), .ref (Mp 17), .ref (Mp 18), .ref (Mp 19), .ref (Mp 20), .ref (Mp 21), .ref (Mp 22), .ref (Mp 23), .ref (Mp 24), .ref (Mp 25), .ref (Mp 26), .ref (Mp 27), .long (Mj 28), .int (Ms_4 29), .int (Ms_4 30), .int (Ms_4 31), .int (Ms_4 32), .int (Ms_4 33), .ref (Mp 34), .ref (Mp 35), .ref (Mp 36), .ref (Mp 37), .ref (Mp 38), .long (Mj 39)] : List Value).set 32 (.int v9))) = (zwM cI cB Mo Mp (upd Ms_4 32 v9) Mj Ma) := fun _ => rfl
    obtain ⟨Ms_5, eMs_5, hP, hD⟩ : ∃ y9, y9 = (upd Ms_4 32 (Ms_4 7)) ∧ va_P D vwCl (zwM cI cB Mo Mp y9 Mj Ma) H ∧ va_D A (zwM cI cB Mo Mp y9 Mj Ma) := ⟨_, rfl, zsetP (hset _) hP, zsetD (hset _) hD⟩
    have h := zlt_s h eMs_5
    clear hset
    refine lv_aload_n hx hb dX6_image_39 rfl (lv_at hl 0 rfl) ?_
    refine lv_aload_n hx hb dX6_image_40 rfl (lv_at hl 0 rfl) ?_
    refine va_get (D := D) (ci := 6) (v := .int (Ms_5 9)) (C := RX6) (T := TX6) (N := 40) hx hb hts inX6 hown hK hP 0 rfl rfl 9 (by decide) lk127 (fun _ h9 => h9) rfl dX6_image_41 ?_
    refine va_put (D := D) (ci := 6) (v := .int (Ms_5 9)) (ty := .int) (C := RX6) (T := TX6) (N := 40) hx hb hts inX6 tyX6 tyX6_ok nmX6 hown hK hP hD hS 0 rfl rfl 33 (by decide) lk264 (fun _ h9 => h9) rfl (by decide +kernel) rfl rfl (Nat.le_of_ble_eq_true rfl) dX6_image_44 (fun H locs hP hD hS => ?_)
    have hset : ∀ v9 : Int32, (zwM cI cB Mo Mp Ms_5 Mj Ma).set 0 (Mo, .inr (6, ([.int (Ms_5 0), .int (Ms_5 1), .int (Ms_5 2), .int (Ms_5 3), .int (Ms_5 4), .ref (Mp 5), .ref (Mp 6), .int (Ms_5 7), .int (Ms_5 8), .int (Ms_5 9), .ref (Mp 10), .ref (Mp 11), .ref (Mp 12), .int (Ms_5 13), .ref (Mp 14), .int (Ms_5 15), .int (Ms_5 16), .ref (Mp 17), .ref (Mp 18), .ref (Mp 19), .ref (Mp 20), .ref (Mp 21), .ref (Mp 22), .ref (Mp 23), .ref (Mp 24), .ref (Mp 25), .ref (Mp 26), .ref (Mp 27), .long (Mj 28), .int (Ms_5 29), .int (Ms_5 30), .int (Ms_5 31), .int (Ms_5 32), .int (Ms_5 33), .ref (Mp 34), .ref (Mp 35), .ref (Mp 36), .ref (Mp 37), .ref (Mp 38), .long (Mj 39)] : List Value).set 33 (.int v9))) = (zwM cI cB Mo Mp (upd Ms_5 33 v9) Mj Ma) := fun _ => rfl
    obtain ⟨Ms_6, eMs_6, hP, hD⟩ : ∃ y9, y9 = (upd Ms_5 33 (Ms_5 9)) ∧ va_P D vwCl (zwM cI cB Mo Mp y9 Mj Ma) H ∧ va_D A (zwM cI cB Mo Mp y9 Mj Ma) := ⟨_, rfl, zsetP (hset _) hP, zsetD (hset _) hD⟩
    have h := zlt_s h eMs_6
    clear hset
    refine lv_iconst (v := (0 : Int32)) hx hb dX6_image_47 (by decide) ?_
    refine lv_istore_n (lv' := [(1, .int (0 : Int32)), (0, .ref Mo)]) hx hb dX6_image_48 rfl hl (by decide) rfl (fun ls hl => ?_)
    obtain ⟨Ma_85x49, i27, h⟩ := zb1_s h
    have KX85 : ∀ (H : Heap) (locs : List Loc) (ls : Array Slot), va_P D vwCl (zwM cI cB Mo Mp Ms_6 Mj Ma_85x49) H → va_D A (zwM cI cB Mo Mp Ms_6 Mj Ma_85x49) → va_S A s.heap H locs → lv_has ls 2 [(0, .ref Mo)] → W p l e R s m args below meth c H locs 0 0 Q (F0 m 85 ls []) := by
      intro H locs ls hP hD hS hl
      refine lv_iconst (v := (0 : Int32)) hx hb dX6_image_85 (by decide) ?_
      refine lv_istore_n (lv' := [(1, .int (0 : Int32)), (0, .ref Mo)]) hx hb dX6_image_86 rfl hl (by decide) rfl (fun ls hl => ?_)
      obtain ⟨Ma_135x87, i26, h⟩ := zb1_s h
      have KX135 : ∀ (H : Heap) (locs : List Loc) (ls : Array Slot), va_P D vwCl (zwM cI cB Mo Mp Ms_6 Mj Ma_135x87) H → va_D A (zwM cI cB Mo Mp Ms_6 Mj Ma_135x87) → va_S A s.heap H locs → lv_has ls 2 [(0, .ref Mo)] → W p l e R s m args below meth c H locs 0 0 Q (F0 m 135 ls []) := by
        intro H locs ls hP hD hS hl
        refine lv_aload_n hx hb dX6_image_135 rfl (lv_at hl 0 rfl) ?_
        refine va_get (D := D) (ci := 6) (v := .int (Ms_6 7)) (C := RX6) (T := TX6) (N := 40) hx hb hts inX6 hown hK hP 0 rfl rfl 7 (by decide) lk121 (fun _ h9 => h9) rfl dX6_image_136 ?_
        cases zend h
        exact hq hP hD hS dX6_image_139
      clear h
      refine zi2_ind (P := (fun (x1_87h : Int32) (Ma_87h : Nat → Nat → Int32) => ∀ (H : Heap) (locs : List Loc) (ls : Array Slot), va_P D vwCl (zwM cI cB Mo Mp Ms_6 Mj Ma_87h) H → va_D A (zwM cI cB Mo Mp Ms_6 Mj Ma_87h) → va_S A s.heap H locs → lv_has ls 2 [(0, .ref Mo), (1, .int x1_87h)] → W p l e R s m args below meth c H locs 0 0 Q (F0 m 87 ls []))) ?_ i26 _ _ _ hP hD hS (lv_sub hl [1, 0] rfl)
      clear i26 hP hD hS hl
      intro x1_87h Ma_87h z87 h zl87 zr87 H locs ls hP hD hS hl
      refine lv_iload_n hx hb dX6_image_87 rfl (lv_at hl 1 rfl) ?_
      refine lv_bipush (v := (6 : Int32)) hx hb dX6_image_88 (by decide) ?_
      refine lv_icmp_ge (tgt := 135) hx hb dX6_image_90 (by decide) (fun c16 => ?_) (fun c16 => ?_)
      · have h := zif_t c16 h
        cases zr87 _ (zend h).symm
        exact KX135 _ _ _ hP hD hS (lv_sub hl [0] rfl)
      · have h := zif_f c16 h
        refine lv_aload_n hx hb dX6_image_93 rfl (lv_at hl 0 rfl) ?_
        refine va_get (D := D) (ci := 6) (v := .ref (Mp 36)) (C := RX6) (T := TX6) (N := 40) hx hb hts inX6 hown hK hP 0 rfl rfl 36 (by decide) lk68 (fun _ h9 => h9) rfl dX6_image_94 ?_
        refine lv_iload_n hx hb dX6_image_97 rfl (lv_at hl 1 rfl) ?_
        refine lv_aload_n hx hb dX6_image_98 rfl (lv_at hl 0 rfl) ?_
        refine va_get (D := D) (ci := 6) (v := .ref (Mp 10)) (C := RX6) (T := TX6) (N := 40) hx hb hts inX6 hown hK hP 0 rfl rfl 10 (by decide) lk16 (fun _ h9 => h9) rfl dX6_image_99 ?_
        refine lv_iload_n hx hb dX6_image_102 rfl (lv_at hl 1 rfl) ?_
        obtain ⟨z17, h⟩ := zck_s h
        refine va_iald hx hb hK hP 3 0 rfl rfl (zin_s z17) dX6_image_103 ?_
        obtain ⟨z18, h⟩ := zck_s h
        refine va_iast hx hb hK hP hD hS 20 0 rfl rfl (zin_s z18) dX6_image_104 (fun H locs hP hD hS => ?_)
        have hset : ∀ v9 : Nat → Int32, (zwM cI cB Mo Mp Ms_6 Mj Ma_87h).set 20 ((Mp 36), .inl (cI, 6, .inl v9)) = (zwM cI cB Mo Mp Ms_6 Mj (va_up Ma_87h 36 v9)) := fun _ => rfl
        obtain ⟨Ma_19, eMa_19, hP, hD⟩ : ∃ y9, y9 = (va_up Ma_87h 36 (upd (Ma_87h 36) (x1_87h).toNatClampNeg ((Ma_87h 10) (x1_87h).toNatClampNeg))) ∧ va_P D vwCl (zwM cI cB Mo Mp Ms_6 Mj y9) H ∧ va_D A (zwM cI cB Mo Mp Ms_6 Mj y9) := ⟨_, rfl, zsetP (hset _) hP, zsetD (hset _) hD⟩
        have h := zlt_s h eMa_19
        clear hset
        refine lv_aload_n hx hb dX6_image_105 rfl (lv_at hl 0 rfl) ?_
        refine va_get (D := D) (ci := 6) (v := .ref (Mp 37)) (C := RX6) (T := TX6) (N := 40) hx hb hts inX6 hown hK hP 0 rfl rfl 37 (by decide) lk71 (fun _ h9 => h9) rfl dX6_image_106 ?_
        refine lv_iload_n hx hb dX6_image_109 rfl (lv_at hl 1 rfl) ?_
        refine lv_aload_n hx hb dX6_image_110 rfl (lv_at hl 0 rfl) ?_
        refine va_get (D := D) (ci := 6) (v := .ref (Mp 11)) (C := RX6) (T := TX6) (N := 40) hx hb hts inX6 hown hK hP 0 rfl rfl 11 (by decide) lk19 (fun _ h9 => h9) rfl dX6_image_111 ?_
        refine lv_iload_n hx hb dX6_image_114 rfl (lv_at hl 1 rfl) ?_
        obtain ⟨z20, h⟩ := zck_s h
        refine va_iald hx hb hK hP 4 0 rfl rfl (zin_s z20) dX6_image_115 ?_
        obtain ⟨z21, h⟩ := zck_s h
        refine va_iast hx hb hK hP hD hS 21 0 rfl rfl (zin_s z21) dX6_image_116 (fun H locs hP hD hS => ?_)
        have hset : ∀ v9 : Nat → Int32, (zwM cI cB Mo Mp Ms_6 Mj Ma_19).set 21 ((Mp 37), .inl (cI, 6, .inl v9)) = (zwM cI cB Mo Mp Ms_6 Mj (va_up Ma_19 37 v9)) := fun _ => rfl
        obtain ⟨Ma_22, eMa_22, hP, hD⟩ : ∃ y9, y9 = (va_up Ma_19 37 (upd (Ma_19 37) (x1_87h).toNatClampNeg ((Ma_19 11) (x1_87h).toNatClampNeg))) ∧ va_P D vwCl (zwM cI cB Mo Mp Ms_6 Mj y9) H ∧ va_D A (zwM cI cB Mo Mp Ms_6 Mj y9) := ⟨_, rfl, zsetP (hset _) hP, zsetD (hset _) hD⟩
        have h := zlt_s h eMa_22
        clear hset
        refine lv_aload_n hx hb dX6_image_117 rfl (lv_at hl 0 rfl) ?_
        refine va_get (D := D) (ci := 6) (v := .ref (Mp 38)) (C := RX6) (T := TX6) (N := 40) hx hb hts inX6 hown hK hP 0 rfl rfl 38 (by decide) lk74 (fun _ h9 => h9) rfl dX6_image_118 ?_
        refine lv_iload_n hx hb dX6_image_121 rfl (lv_at hl 1 rfl) ?_
        refine lv_aload_n hx hb dX6_image_122 rfl (lv_at hl 0 rfl) ?_
        refine va_get (D := D) (ci := 6) (v := .ref (Mp 12)) (C := RX6) (T := TX6) (N := 40) hx hb hts inX6 hown hK hP 0 rfl rfl 12 (by decide) lk22 (fun _ h9 => h9) rfl dX6_image_123 ?_
        refine lv_iload_n hx hb dX6_image_126 rfl (lv_at hl 1 rfl) ?_
        obtain ⟨z23, h⟩ := zck_s h
        refine va_iald hx hb hK hP 5 0 rfl rfl (zin_s z23) dX6_image_127 ?_
        obtain ⟨z24, h⟩ := zck_s h
        refine va_iast hx hb hK hP hD hS 22 0 rfl rfl (zin_s z24) dX6_image_128 (fun H locs hP hD hS => ?_)
        have hset : ∀ v9 : Nat → Int32, (zwM cI cB Mo Mp Ms_6 Mj Ma_22).set 22 ((Mp 38), .inl (cI, 6, .inl v9)) = (zwM cI cB Mo Mp Ms_6 Mj (va_up Ma_22 38 v9)) := fun _ => rfl
        obtain ⟨Ma_25, eMa_25, hP, hD⟩ : ∃ y9, y9 = (va_up Ma_22 38 (upd (Ma_22 38) (x1_87h).toNatClampNeg ((Ma_22 12) (x1_87h).toNatClampNeg))) ∧ va_P D vwCl (zwM cI cB Mo Mp Ms_6 Mj y9) H ∧ va_D A (zwM cI cB Mo Mp Ms_6 Mj y9) := ⟨_, rfl, zsetP (hset _) hP, zsetD (hset _) hD⟩
        have h := zlt_s h eMa_25
        clear hset
        refine lv_iinc (v := (x1_87h + (1 : Int32))) (lv' := [(1, .int (x1_87h + (1 : Int32))), (0, .ref Mo)]) hx hb dX6_image_129 hl (k := 1) rfl rfl (by decide) rfl (fun ls hl => ?_)
        refine lv_goto (tgt := 87) hx hb dX6_image_132 (by decide) ?_
        exact zl87 _ _ (zend h).symm _ _ _ hP hD hS (lv_sub hl [1, 0] rfl)
    clear h
    refine zi2_ind (P := (fun (x1_49h : Int32) (Ma_49h : Nat → Nat → Int32) => ∀ (H : Heap) (locs : List Loc) (ls : Array Slot), va_P D vwCl (zwM cI cB Mo Mp Ms_6 Mj Ma_49h) H → va_D A (zwM cI cB Mo Mp Ms_6 Mj Ma_49h) → va_S A s.heap H locs → lv_has ls 2 [(0, .ref Mo), (1, .int x1_49h)] → W p l e R s m args below meth c H locs 0 0 Q (F0 m 49 ls []))) ?_ i27 _ _ _ hP hD hS (lv_sub hl [1, 0] rfl)
    clear i27 hP hD hS hl
    intro x1_49h Ma_49h z49 h zl49 zr49 H locs ls hP hD hS hl
    refine lv_iload_n hx hb dX6_image_49 rfl (lv_at hl 1 rfl) ?_
    refine lv_bipush (v := (7 : Int32)) hx hb dX6_image_50 (by decide) ?_
    refine lv_icmp_ge (tgt := 85) hx hb dX6_image_52 (by decide) (fun c8 => ?_) (fun c8 => ?_)
    · have h := zif_t c8 h
      cases zr49 _ (zend h).symm
      exact KX85 _ _ _ hP hD hS (lv_sub hl [0] rfl)
    · have h := zif_f c8 h
      refine lv_aload_n hx hb dX6_image_55 rfl (lv_at hl 0 rfl) ?_
      refine va_get (D := D) (ci := 6) (v := .ref (Mp 34)) (C := RX6) (T := TX6) (N := 40) hx hb hts inX6 hown hK hP 0 rfl rfl 34 (by decide) lk62 (fun _ h9 => h9) rfl dX6_image_56 ?_
      refine lv_iload_n hx hb dX6_image_59 rfl (lv_at hl 1 rfl) ?_
      refine lv_aload_n hx hb dX6_image_60 rfl (lv_at hl 0 rfl) ?_
      refine va_get (D := D) (ci := 6) (v := .ref (Mp 5)) (C := RX6) (T := TX6) (N := 40) hx hb hts inX6 hown hK hP 0 rfl rfl 5 (by decide) lk7 (fun _ h9 => h9) rfl dX6_image_61 ?_
      refine lv_iload_n hx hb dX6_image_64 rfl (lv_at hl 1 rfl) ?_
      obtain ⟨z9, h⟩ := zck_s h
      refine va_iald hx hb hK hP 1 0 rfl rfl (zin_s z9) dX6_image_65 ?_
      obtain ⟨z10, h⟩ := zck_s h
      refine va_iast hx hb hK hP hD hS 18 0 rfl rfl (zin_s z10) dX6_image_66 (fun H locs hP hD hS => ?_)
      have hset : ∀ v9 : Nat → Int32, (zwM cI cB Mo Mp Ms_6 Mj Ma_49h).set 18 ((Mp 34), .inl (cI, 8, .inl v9)) = (zwM cI cB Mo Mp Ms_6 Mj (va_up Ma_49h 34 v9)) := fun _ => rfl
      obtain ⟨Ma_11, eMa_11, hP, hD⟩ : ∃ y9, y9 = (va_up Ma_49h 34 (upd (Ma_49h 34) (x1_49h).toNatClampNeg ((Ma_49h 5) (x1_49h).toNatClampNeg))) ∧ va_P D vwCl (zwM cI cB Mo Mp Ms_6 Mj y9) H ∧ va_D A (zwM cI cB Mo Mp Ms_6 Mj y9) := ⟨_, rfl, zsetP (hset _) hP, zsetD (hset _) hD⟩
      have h := zlt_s h eMa_11
      clear hset
      refine lv_aload_n hx hb dX6_image_67 rfl (lv_at hl 0 rfl) ?_
      refine va_get (D := D) (ci := 6) (v := .ref (Mp 35)) (C := RX6) (T := TX6) (N := 40) hx hb hts inX6 hown hK hP 0 rfl rfl 35 (by decide) lk65 (fun _ h9 => h9) rfl dX6_image_68 ?_
      refine lv_iload_n hx hb dX6_image_71 rfl (lv_at hl 1 rfl) ?_
      refine lv_aload_n hx hb dX6_image_72 rfl (lv_at hl 0 rfl) ?_
      refine va_get (D := D) (ci := 6) (v := .ref (Mp 6)) (C := RX6) (T := TX6) (N := 40) hx hb hts inX6 hown hK hP 0 rfl rfl 6 (by decide) lk13 (fun _ h9 => h9) rfl dX6_image_73 ?_
      refine lv_iload_n hx hb dX6_image_76 rfl (lv_at hl 1 rfl) ?_
      obtain ⟨z12, h⟩ := zck_s h
      refine va_iald hx hb hK hP 2 0 rfl rfl (zin_s z12) dX6_image_77 ?_
      obtain ⟨z13, h⟩ := zck_s h
      refine va_iast hx hb hK hP hD hS 19 0 rfl rfl (zin_s z13) dX6_image_78 (fun H locs hP hD hS => ?_)
      have hset : ∀ v9 : Nat → Int32, (zwM cI cB Mo Mp Ms_6 Mj Ma_11).set 19 ((Mp 35), .inl (cI, 8, .inl v9)) = (zwM cI cB Mo Mp Ms_6 Mj (va_up Ma_11 35 v9)) := fun _ => rfl
      obtain ⟨Ma_14, eMa_14, hP, hD⟩ : ∃ y9, y9 = (va_up Ma_11 35 (upd (Ma_11 35) (x1_49h).toNatClampNeg ((Ma_11 6) (x1_49h).toNatClampNeg))) ∧ va_P D vwCl (zwM cI cB Mo Mp Ms_6 Mj y9) H ∧ va_D A (zwM cI cB Mo Mp Ms_6 Mj y9) := ⟨_, rfl, zsetP (hset _) hP, zsetD (hset _) hD⟩
      have h := zlt_s h eMa_14
      clear hset
      refine lv_iinc (v := (x1_49h + (1 : Int32))) (lv' := [(1, .int (x1_49h + (1 : Int32))), (0, .ref Mo)]) hx hb dX6_image_79 hl (k := 1) rfl rfl (by decide) rfl (fun ls hl => ?_)
      refine lv_goto (tgt := 49) hx hb dX6_image_82 (by decide) ?_
      exact zl49 _ _ (zend h).symm _ _ _ hP hD hS (lv_sub hl [1, 0] rfl)
  · have h := zif_t c1 h
    refine lv_bipush (v := (-103 : Int32)) hx hb dX6_image_7 (by decide) ?_
    cases zend h
    exact hq hP hD hS dX6_image_9
set_option maxHeartbeats 4000000 in
set_option maxRecDepth 100000 in
theorem c_X6_restore (l : Launch) (D : va_G) (cI cB cO : ClassId) (Mo : Nat) (Mp : Nat → Nat) (Ms : Nat → Int32) (Mj : Nat → Int64) (Ma : Nat → Nat → Int32)  (rv : Int32) (Ms' : Nat → Int32) (Ma' : Nat → Nat → Int32) (sz : Nat) (h : fX6_restore Ms Ma = some (rv, Ms', Ma')) : Met l yX6_restore wsX6_restore ({ frames := 0, cells := 0, slots := 0, locals := 0 } : Room) (va_Pc [.ref Mo] (zPre D (zTY cI cB cO) (zwM cI cB Mo Mp Ms Mj Ma) sz)) (va_Qi (fun r (_ : Unit) => r = rv) (fun _ => zPost D (zTY cI cB cO) (zwM cI cB Mo Mp Ms' Mj Ma') (va_A (zwM cI cB Mo Mp Ms Mj Ma) sz)) (va_A (zwM cI cB Mo Mp Ms Mj Ma) sz)) 0 0 (va_A (zwM cI cB Mo Mp Ms Mj Ma) sz) := by
  unfold fX6_restore at h
  refine zmet_i (cc := cX6_restore) (maxL := 2) (by decide) rfl (Nat.le_of_ble_eq_true rfl) rfl rfl ?_
  intro p e s m args below meth c R Q A ls hx hb hts hown hml hK hP hD hE hA hS hRf hRl hl hq
  have hown : s.vm.findClass RX6 = some m.cls := hown
  have hl : lv_has ls 2 [(0, .ref Mo)] := hl
  have inX6 : ∀ w ∈ u_ws RX6 TX6 40, w ∈ wsX6_restore := by decide +kernel
  have lk252 : (Cond.fieldLink RX6 252 "PegFieldModel" "isKept" "Z").before args s = true := hts _ (by decide +kernel)
  have lk255 : (Cond.fieldLink RX6 255 "PegFieldModel" "keptBoard" "I").before args s = true := hts _ (by decide +kernel)
  have lk124 : (Cond.fieldLink RX6 124 "PegFieldModel" "boards" "I").before args s = true := hts _ (by decide +kernel)
  have lk258 : (Cond.fieldLink RX6 258 "PegFieldModel" "keptHoles" "I").before args s = true := hts _ (by decide +kernel)
  have lk112 : (Cond.fieldLink RX6 112 "PegFieldModel" "holes" "I").before args s = true := hts _ (by decide +kernel)
  have lk261 : (Cond.fieldLink RX6 261 "PegFieldModel" "keptJumps" "I").before args s = true := hts _ (by decide +kernel)
  have lk121 : (Cond.fieldLink RX6 121 "PegFieldModel" "jumps" "I").before args s = true := hts _ (by decide +kernel)
  have lk264 : (Cond.fieldLink RX6 264 "PegFieldModel" "keptSeen" "I").before args s = true := hts _ (by decide +kernel)
  have lk127 : (Cond.fieldLink RX6 127 "PegFieldModel" "seen" "I").before args s = true := hts _ (by decide +kernel)
  have lk7 : (Cond.fieldLink RX6 7 "PegFieldModel" "kindOf" "[I").before args s = true := hts _ (by decide +kernel)
  have lk62 : (Cond.fieldLink RX6 62 "PegFieldModel" "keptKind" "[I").before args s = true := hts _ (by decide +kernel)
  have lk13 : (Cond.fieldLink RX6 13 "PegFieldModel" "placeOf" "[I").before args s = true := hts _ (by decide +kernel)
  have lk65 : (Cond.fieldLink RX6 65 "PegFieldModel" "keptPlace" "[I").before args s = true := hts _ (by decide +kernel)
  have lk16 : (Cond.fieldLink RX6 16 "PegFieldModel" "seenPeg" "[I").before args s = true := hts _ (by decide +kernel)
  have lk68 : (Cond.fieldLink RX6 68 "PegFieldModel" "keptPeg" "[I").before args s = true := hts _ (by decide +kernel)
  have lk19 : (Cond.fieldLink RX6 19 "PegFieldModel" "seenWhat" "[I").before args s = true := hts _ (by decide +kernel)
  have lk71 : (Cond.fieldLink RX6 71 "PegFieldModel" "keptWhat" "[I").before args s = true := hts _ (by decide +kernel)
  have lk22 : (Cond.fieldLink RX6 22 "PegFieldModel" "seenCould" "[I").before args s = true := hts _ (by decide +kernel)
  have lk74 : (Cond.fieldLink RX6 74 "PegFieldModel" "keptCould" "[I").before args s = true := hts _ (by decide +kernel)
  refine lv_aload_n hx hb dX6_restore_0 rfl (lv_at hl 0 rfl) ?_
  refine va_get (D := D) (ci := 6) (v := .int (Ms 29)) (C := RX6) (T := TX6) (N := 40) hx hb hts inX6 hown hK hP 0 rfl rfl 29 (by decide) lk252 (fun _ h9 => h9) rfl dX6_restore_1 ?_
  refine lv_if_eq (tgt := 18) hx hb dX6_restore_4 (by decide) (fun c1 => ?_) (fun c1 => ?_)
  · have h := zif_t c1 h
    refine lv_bipush (v := (-103 : Int32)) hx hb dX6_restore_18 (by decide) ?_
    cases zend h
    exact hq hP hD hS dX6_restore_20
  · have h := zif_f c1 h
    refine lv_aload_n hx hb dX6_restore_7 rfl (lv_at hl 0 rfl) ?_
    refine va_get (D := D) (ci := 6) (v := .int (Ms 30)) (C := RX6) (T := TX6) (N := 40) hx hb hts inX6 hown hK hP 0 rfl rfl 30 (by decide) lk255 (fun _ h9 => h9) rfl dX6_restore_8 ?_
    refine lv_aload_n hx hb dX6_restore_11 rfl (lv_at hl 0 rfl) ?_
    refine va_get (D := D) (ci := 6) (v := .int (Ms 0)) (C := RX6) (T := TX6) (N := 40) hx hb hts inX6 hown hK hP 0 rfl rfl 0 (by decide) lk124 (fun _ h9 => h9) rfl dX6_restore_12 ?_
    refine lv_icmp_eq (tgt := 21) hx hb dX6_restore_15 (by decide) (fun c2 => ?_) (fun c2 => ?_)
    · have h := zif_t c2 h
      refine lv_aload_n hx hb dX6_restore_21 rfl (lv_at hl 0 rfl) ?_
      refine lv_aload_n hx hb dX6_restore_22 rfl (lv_at hl 0 rfl) ?_
      refine va_get (D := D) (ci := 6) (v := .int (Ms 31)) (C := RX6) (T := TX6) (N := 40) hx hb hts inX6 hown hK hP 0 rfl rfl 31 (by decide) lk258 (fun _ h9 => h9) rfl dX6_restore_23 ?_
      refine va_put (D := D) (ci := 6) (v := .int (Ms 31)) (ty := .int) (C := RX6) (T := TX6) (N := 40) hx hb hts inX6 tyX6 tyX6_ok nmX6 hown hK hP hD hS 0 rfl rfl 3 (by decide) lk112 (fun _ h9 => h9) rfl (by decide +kernel) rfl rfl (Nat.le_of_ble_eq_true rfl) dX6_restore_26 (fun H locs hP hD hS => ?_)
      have hset : ∀ v9 : Int32, (zwM cI cB Mo Mp Ms Mj Ma).set 0 (Mo, .inr (6, ([.int (Ms 0), .int (Ms 1), .int (Ms 2), .int (Ms 3), .int (Ms 4), .ref (Mp 5), .ref (Mp 6), .int (Ms 7), .int (Ms 8), .int (Ms 9), .ref (Mp 10), .ref (Mp 11), .ref (Mp 12), .int (Ms 13), .ref (Mp 14), .int (Ms 15), .int (Ms 16), .ref (Mp 17), .ref (Mp 18), .ref (Mp 19), .ref (Mp 20), .ref (Mp 21), .ref (Mp 22), .ref (Mp 23), .ref (Mp 24), .ref (Mp 25), .ref (Mp 26), .ref (Mp 27), .long (Mj 28), .int (Ms 29), .int (Ms 30), .int (Ms 31), .int (Ms 32), .int (Ms 33), .ref (Mp 34), .ref (Mp 35), .ref (Mp 36), .ref (Mp 37), .ref (Mp 38), .long (Mj 39)] : List Value).set 3 (.int v9))) = (zwM cI cB Mo Mp (upd Ms 3 v9) Mj Ma) := fun _ => rfl
      obtain ⟨Ms_3, eMs_3, hP, hD⟩ : ∃ y9, y9 = (upd Ms 3 (Ms 31)) ∧ va_P D vwCl (zwM cI cB Mo Mp y9 Mj Ma) H ∧ va_D A (zwM cI cB Mo Mp y9 Mj Ma) := ⟨_, rfl, zsetP (hset _) hP, zsetD (hset _) hD⟩
      have h := zlt_s h eMs_3
      clear hset
      refine lv_aload_n hx hb dX6_restore_29 rfl (lv_at hl 0 rfl) ?_
      refine lv_aload_n hx hb dX6_restore_30 rfl (lv_at hl 0 rfl) ?_
      refine va_get (D := D) (ci := 6) (v := .int (Ms_3 32)) (C := RX6) (T := TX6) (N := 40) hx hb hts inX6 hown hK hP 0 rfl rfl 32 (by decide) lk261 (fun _ h9 => h9) rfl dX6_restore_31 ?_
      refine va_put (D := D) (ci := 6) (v := .int (Ms_3 32)) (ty := .int) (C := RX6) (T := TX6) (N := 40) hx hb hts inX6 tyX6 tyX6_ok nmX6 hown hK hP hD hS 0 rfl rfl 7 (by decide) lk121 (fun _ h9 => h9) rfl (by decide +kernel) rfl rfl (Nat.le_of_ble_eq_true rfl) dX6_restore_34 (fun H locs hP hD hS => ?_)
      have hset : ∀ v9 : Int32, (zwM cI cB Mo Mp Ms_3 Mj Ma).set 0 (Mo, .inr (6, ([.int (Ms_3 0), .int (Ms_3 1), .int (Ms_3 2), .int (Ms_3 3), .int (Ms_3 4), .ref (Mp 5), .ref (Mp 6), .int (Ms_3 7), .int (Ms_3 8), .int (Ms_3 9), .ref (Mp 10), .ref (Mp 11), .ref (Mp 12), .int (Ms_3 13), .ref (Mp 14), .int (Ms_3 15), .int (Ms_3 16), .ref (Mp 17), .ref (Mp 18), .ref (Mp 19), .ref (Mp 20), .ref (Mp 21), .ref (Mp 22), .ref (Mp 23), .ref (Mp 24), .ref (Mp 25), .ref (Mp 26), .ref (Mp 27), .long (Mj 28), .int (Ms_3 29), .int (Ms_3 30), .int (Ms_3 31), .int (Ms_3 32), .int (Ms_3 33), .ref (Mp 34), .ref (Mp 35), .ref (Mp 36), .ref (Mp 37), .ref (Mp 38), .long (Mj 39)] : List Value).set 7 (.int v9))) = (zwM cI cB Mo Mp (upd Ms_3 7 v9) Mj Ma) := fun _ => rfl
      obtain ⟨Ms_4, eMs_4, hP, hD⟩ : ∃ y9, y9 = (upd Ms_3 7 (Ms_3 32)) ∧ va_P D vwCl (zwM cI cB Mo Mp y9 Mj Ma) H ∧ va_D A (zwM cI cB Mo Mp y9 Mj Ma) := ⟨_, rfl, zsetP (hset _) hP, zsetD (hset _) hD⟩
      have h := zlt_s h eMs_4
      clear hset
      refine lv_aload_n hx hb dX6_restore_37 rfl (lv_at hl 0 rfl) ?_
      refine lv_aload_n hx hb dX6_restore_38 rfl (lv_at hl 0 rfl) ?_
      refine va_get (D := D) (ci := 6) (v := .int (Ms_4 33)) (C := RX6) (T := TX6) (N := 40) hx hb hts inX6 hown hK hP 0 rfl rfl 33 (by decide) lk264 (fun _ h9 => h9) rfl dX6_restore_39 ?_
      refine va_put (D := D) (ci := 6) (v := .int (Ms_4 33)) (ty := .int) (C := RX6) (T := TX6) (N := 40) hx hb hts inX6 tyX6 tyX6_ok nmX6 hown hK hP hD hS 0 rfl rfl 9 (by decide) lk127 (fun _ h9 => h9) rfl (by decide +kernel) rfl rfl (Nat.le_of_ble_eq_true rfl) dX6_restore_42 (fun H locs hP hD hS => ?_)
      have hset : ∀ v9 : Int32, (zwM cI cB Mo Mp Ms_4 Mj Ma).set 0 (Mo, .inr (6, ([.int (Ms_4 0), .int (Ms_4 1), .int (Ms_4 2), .int (Ms_4 3), .int (Ms_4 4), .ref (Mp 5), .ref (Mp 6), .int (Ms_4 7), .int (Ms_4 8), .int (Ms_4 9), .ref (Mp 10), .ref (Mp 11), .ref (Mp 12), .int (Ms_4 13), .ref (Mp 14), .int (Ms_4 15), .int (Ms_4 16), .ref (Mp 17), .ref (Mp 18), .ref (Mp 19), .ref (Mp 20), .ref (Mp 21), .ref (Mp 22), .ref (Mp 23), .ref (Mp 24), .ref (Mp 25), .ref (Mp 26), .ref (Mp 27), .long (Mj 28), .int (Ms_4 29), .int (Ms_4 30), .int (Ms_4 31), .int (Ms_4 32), .int (Ms_4 33), .ref (Mp 34), .ref (Mp 35), .ref (Mp 36), .ref (Mp 37), .ref (Mp 38), .long (Mj 39)] : List Value).set 9 (.int v9))) = (zwM cI cB Mo Mp (upd Ms_4 9 v9) Mj Ma) := fun _ => rfl
      obtain ⟨Ms_5, eMs_5, hP, hD⟩ : ∃ y9, y9 = (upd Ms_4 9 (Ms_4 33)) ∧ va_P D vwCl (zwM cI cB Mo Mp y9 Mj Ma) H ∧ va_D A (zwM cI cB Mo Mp y9 Mj Ma) := ⟨_, rfl, zsetP (hset _) hP, zsetD (hset _) hD⟩
      have h := zlt_s h eMs_5
      clear hset
      refine lv_iconst (v := (0 : Int32)) hx hb dX6_restore_45 (by decide) ?_
      refine lv_istore_n (lv' := [(1, .int (0 : Int32)), (0, .ref Mo)]) hx hb dX6_restore_46 rfl hl (by decide) rfl (fun ls hl => ?_)
      obtain ⟨Ma_83x47, i26, h⟩ := zb1_s h
      have KX83 : ∀ (H : Heap) (locs : List Loc) (ls : Array Slot), va_P D vwCl (zwM cI cB Mo Mp Ms_5 Mj Ma_83x47) H → va_D A (zwM cI cB Mo Mp Ms_5 Mj Ma_83x47) → va_S A s.heap H locs → lv_has ls 2 [(0, .ref Mo)] → W p l e R s m args below meth c H locs 0 0 Q (F0 m 83 ls []) := by
        intro H locs ls hP hD hS hl
        refine lv_iconst (v := (0 : Int32)) hx hb dX6_restore_83 (by decide) ?_
        refine lv_istore_n (lv' := [(1, .int (0 : Int32)), (0, .ref Mo)]) hx hb dX6_restore_84 rfl hl (by decide) rfl (fun ls hl => ?_)
        obtain ⟨Ma_133x85, i25, h⟩ := zb1_s h
        have KX133 : ∀ (H : Heap) (locs : List Loc) (ls : Array Slot), va_P D vwCl (zwM cI cB Mo Mp Ms_5 Mj Ma_133x85) H → va_D A (zwM cI cB Mo Mp Ms_5 Mj Ma_133x85) → va_S A s.heap H locs → lv_has ls 2 [(0, .ref Mo)] → W p l e R s m args below meth c H locs 0 0 Q (F0 m 133 ls []) := by
          intro H locs ls hP hD hS hl
          refine lv_aload_n hx hb dX6_restore_133 rfl (lv_at hl 0 rfl) ?_
          refine va_get (D := D) (ci := 6) (v := .int (Ms_5 7)) (C := RX6) (T := TX6) (N := 40) hx hb hts inX6 hown hK hP 0 rfl rfl 7 (by decide) lk121 (fun _ h9 => h9) rfl dX6_restore_134 ?_
          cases zend h
          exact hq hP hD hS dX6_restore_137
        clear h
        refine zi2_ind (P := (fun (x1_85h : Int32) (Ma_85h : Nat → Nat → Int32) => ∀ (H : Heap) (locs : List Loc) (ls : Array Slot), va_P D vwCl (zwM cI cB Mo Mp Ms_5 Mj Ma_85h) H → va_D A (zwM cI cB Mo Mp Ms_5 Mj Ma_85h) → va_S A s.heap H locs → lv_has ls 2 [(0, .ref Mo), (1, .int x1_85h)] → W p l e R s m args below meth c H locs 0 0 Q (F0 m 85 ls []))) ?_ i25 _ _ _ hP hD hS (lv_sub hl [1, 0] rfl)
        clear i25 hP hD hS hl
        intro x1_85h Ma_85h z85 h zl85 zr85 H locs ls hP hD hS hl
        refine lv_iload_n hx hb dX6_restore_85 rfl (lv_at hl 1 rfl) ?_
        refine lv_bipush (v := (6 : Int32)) hx hb dX6_restore_86 (by decide) ?_
        refine lv_icmp_ge (tgt := 133) hx hb dX6_restore_88 (by decide) (fun c15 => ?_) (fun c15 => ?_)
        · have h := zif_t c15 h
          cases zr85 _ (zend h).symm
          exact KX133 _ _ _ hP hD hS (lv_sub hl [0] rfl)
        · have h := zif_f c15 h
          refine lv_aload_n hx hb dX6_restore_91 rfl (lv_at hl 0 rfl) ?_
          refine va_get (D := D) (ci := 6) (v := .ref (Mp 10)) (C := RX6) (T := TX6) (N := 40) hx hb hts inX6 hown hK hP 0 rfl rfl 10 (by decide) lk16 (fun _ h9 => h9) rfl dX6_restore_92 ?_
          refine lv_iload_n hx hb dX6_restore_95 rfl (lv_at hl 1 rfl) ?_
          refine lv_aload_n hx hb dX6_restore_96 rfl (lv_at hl 0 rfl) ?_
          refine va_get (D := D) (ci := 6) (v := .ref (Mp 36)) (C := RX6) (T := TX6) (N := 40) hx hb hts inX6 hown hK hP 0 rfl rfl 36 (by decide) lk68 (fun _ h9 => h9) rfl dX6_restore_97 ?_
          refine lv_iload_n hx hb dX6_restore_100 rfl (lv_at hl 1 rfl) ?_
          obtain ⟨z16, h⟩ := zck_s h
          refine va_iald hx hb hK hP 20 0 rfl rfl (zin_s z16) dX6_restore_101 ?_
          obtain ⟨z17, h⟩ := zck_s h
          refine va_iast hx hb hK hP hD hS 3 0 rfl rfl (zin_s z17) dX6_restore_102 (fun H locs hP hD hS => ?_)
          have hset : ∀ v9 : Nat → Int32, (zwM cI cB Mo Mp Ms_5 Mj Ma_85h).set 3 ((Mp 10), .inl (cI, 6, .inl v9)) = (zwM cI cB Mo Mp Ms_5 Mj (va_up Ma_85h 10 v9)) := fun _ => rfl
          obtain ⟨Ma_18, eMa_18, hP, hD⟩ : ∃ y9, y9 = (va_up Ma_85h 10 (upd (Ma_85h 10) (x1_85h).toNatClampNeg ((Ma_85h 36) (x1_85h).toNatClampNeg))) ∧ va_P D vwCl (zwM cI cB Mo Mp Ms_5 Mj y9) H ∧ va_D A (zwM cI cB Mo Mp Ms_5 Mj y9) := ⟨_, rfl, zsetP (hset _) hP, zsetD (hset _) hD⟩
          have h := zlt_s h eMa_18
          clear hset
          refine lv_aload_n hx hb dX6_restore_103 rfl (lv_at hl 0 rfl) ?_
          refine va_get (D := D) (ci := 6) (v := .ref (Mp 11)) (C := RX6) (T := TX6) (N := 40) hx hb hts inX6 hown hK hP 0 rfl rfl 11 (by decide) lk19 (fun _ h9 => h9) rfl dX6_restore_104 ?_
          refine lv_iload_n hx hb dX6_restore_107 rfl (lv_at hl 1 rfl) ?_
          refine lv_aload_n hx hb dX6_restore_108 rfl (lv_at hl 0 rfl) ?_
          refine va_get (D := D) (ci := 6) (v := .ref (Mp 37)) (C := RX6) (T := TX6) (N := 40) hx hb hts inX6 hown hK hP 0 rfl rfl 37 (by decide) lk71 (fun _ h9 => h9) rfl dX6_restore_109 ?_
          refine lv_iload_n hx hb dX6_restore_112 rfl (lv_at hl 1 rfl) ?_
          obtain ⟨z19, h⟩ := zck_s h
          refine va_iald hx hb hK hP 21 0 rfl rfl (zin_s z19) dX6_restore_113 ?_
          obtain ⟨z20, h⟩ := zck_s h
          refine va_iast hx hb hK hP hD hS 4 0 rfl rfl (zin_s z20) dX6_restore_114 (fun H locs hP hD hS => ?_)
          have hset : ∀ v9 : Nat → Int32, (zwM cI cB Mo Mp Ms_5 Mj Ma_18).set 4 ((Mp 11), .inl (cI, 6, .inl v9)) = (zwM cI cB Mo Mp Ms_5 Mj (va_up Ma_18 11 v9)) := fun _ => rfl
          obtain ⟨Ma_21, eMa_21, hP, hD⟩ : ∃ y9, y9 = (va_up Ma_18 11 (upd (Ma_18 11) (x1_85h).toNatClampNeg ((Ma_18 37) (x1_85h).toNatClampNeg))) ∧ va_P D vwCl (zwM cI cB Mo Mp Ms_5 Mj y9) H ∧ va_D A (zwM cI cB Mo Mp Ms_5 Mj y9) := ⟨_, rfl, zsetP (hset _) hP, zsetD (hset _) hD⟩
          have h := zlt_s h eMa_21
          clear hset
          refine lv_aload_n hx hb dX6_restore_115 rfl (lv_at hl 0 rfl) ?_
          refine va_get (D := D) (ci := 6) (v := .ref (Mp 12)) (C := RX6) (T := TX6) (N := 40) hx hb hts inX6 hown hK hP 0 rfl rfl 12 (by decide) lk22 (fun _ h9 => h9) rfl dX6_restore_116 ?_
          refine lv_iload_n hx hb dX6_restore_119 rfl (lv_at hl 1 rfl) ?_
          refine lv_aload_n hx hb dX6_restore_120 rfl (lv_at hl 0 rfl) ?_
          refine va_get (D := D) (ci := 6) (v := .ref (Mp 38)) (C := RX6) (T := TX6) (N := 40) hx hb hts inX6 hown hK hP 0 rfl rfl 38 (by decide) lk74 (fun _ h9 => h9) rfl dX6_restore_121 ?_
          refine lv_iload_n hx hb dX6_restore_124 rfl (lv_at hl 1 rfl) ?_
          obtain ⟨z22, h⟩ := zck_s h
          refine va_iald hx hb hK hP 22 0 rfl rfl (zin_s z22) dX6_restore_125 ?_
          obtain ⟨z23, h⟩ := zck_s h
          refine va_iast hx hb hK hP hD hS 5 0 rfl rfl (zin_s z23) dX6_restore_126 (fun H locs hP hD hS => ?_)
          have hset : ∀ v9 : Nat → Int32, (zwM cI cB Mo Mp Ms_5 Mj Ma_21).set 5 ((Mp 12), .inl (cI, 6, .inl v9)) = (zwM cI cB Mo Mp Ms_5 Mj (va_up Ma_21 12 v9)) := fun _ => rfl
          obtain ⟨Ma_24, eMa_24, hP, hD⟩ : ∃ y9, y9 = (va_up Ma_21 12 (upd (Ma_21 12) (x1_85h).toNatClampNeg ((Ma_21 38) (x1_85h).toNatClampNeg))) ∧ va_P D vwCl (zwM cI cB Mo Mp Ms_5 Mj y9) H ∧ va_D A (zwM cI cB Mo Mp Ms_5 Mj y9) := ⟨_, rfl, zsetP (hset _) hP, zsetD (hset _) hD⟩
          have h := zlt_s h eMa_24
          clear hset
          refine lv_iinc (v := (x1_85h + (1 : Int32))) (lv' := [(1, .int (x1_85h + (1 : Int32))), (0, .ref Mo)]) hx hb dX6_restore_127 hl (k := 1) rfl rfl (by decide) rfl (fun ls hl => ?_)
          refine lv_goto (tgt := 85) hx hb dX6_restore_130 (by decide) ?_
          exact zl85 _ _ (zend h).symm _ _ _ hP hD hS (lv_sub hl [1, 0] rfl)
      clear h
      refine zi2_ind (P := (fun (x1_47h : Int32) (Ma_47h : Nat → Nat → Int32) => ∀ (H : Heap) (locs : List Loc) (ls : Array Slot), va_P D vwCl (zwM cI cB Mo Mp Ms_5 Mj Ma_47h) H → va_D A (zwM cI cB Mo Mp Ms_5 Mj Ma_47h) → va_S A s.heap H locs → lv_has ls 2 [(0, .ref Mo), (1, .int x1_47h)] → W p l e R s m args below meth c H locs 0 0 Q (F0 m 47 ls []))) ?_ i26 _ _ _ hP hD hS (lv_sub hl [1, 0] rfl)
      clear i26 hP hD hS hl
      intro x1_47h Ma_47h z47 h zl47 zr47 H locs ls hP hD hS hl
      refine lv_iload_n hx hb dX6_restore_47 rfl (lv_at hl 1 rfl) ?_
      refine lv_bipush (v := (7 : Int32)) hx hb dX6_restore_48 (by decide) ?_
      refine lv_icmp_ge (tgt := 83) hx hb dX6_restore_50 (by decide) (fun c7 => ?_) (fun c7 => ?_)
      · have h := zif_t c7 h
        cases zr47 _ (zend h).symm
        exact KX83 _ _ _ hP hD hS (lv_sub hl [0] rfl)
      · have h := zif_f c7 h
        refine lv_aload_n hx hb dX6_restore_53 rfl (lv_at hl 0 rfl) ?_
        refine va_get (D := D) (ci := 6) (v := .ref (Mp 5)) (C := RX6) (T := TX6) (N := 40) hx hb hts inX6 hown hK hP 0 rfl rfl 5 (by decide) lk7 (fun _ h9 => h9) rfl dX6_restore_54 ?_
        refine lv_iload_n hx hb dX6_restore_57 rfl (lv_at hl 1 rfl) ?_
        refine lv_aload_n hx hb dX6_restore_58 rfl (lv_at hl 0 rfl) ?_
        refine va_get (D := D) (ci := 6) (v := .ref (Mp 34)) (C := RX6) (T := TX6) (N := 40) hx hb hts inX6 hown hK hP 0 rfl rfl 34 (by decide) lk62 (fun _ h9 => h9) rfl dX6_restore_59 ?_
        refine lv_iload_n hx hb dX6_restore_62 rfl (lv_at hl 1 rfl) ?_
        obtain ⟨z8, h⟩ := zck_s h
        refine va_iald hx hb hK hP 18 0 rfl rfl (zin_s z8) dX6_restore_63 ?_
        obtain ⟨z9, h⟩ := zck_s h
        refine va_iast hx hb hK hP hD hS 1 0 rfl rfl (zin_s z9) dX6_restore_64 (fun H locs hP hD hS => ?_)
        have hset : ∀ v9 : Nat → Int32, (zwM cI cB Mo Mp Ms_5 Mj Ma_47h).set 1 ((Mp 5), .inl (cI, 8, .inl v9)) = (zwM cI cB Mo Mp Ms_5 Mj (va_up Ma_47h 5 v9)) := fun _ => rfl
        obtain ⟨Ma_10, eMa_10, hP, hD⟩ : ∃ y9, y9 = (va_up Ma_47h 5 (upd (Ma_47h 5) (x1_47h).toNatClampNeg ((Ma_47h 34) (x1_47h).toNatClampNeg))) ∧ va_P D vwCl (zwM cI cB Mo Mp Ms_5 Mj y9) H ∧ va_D A (zwM cI cB Mo Mp Ms_5 Mj y9) := ⟨_, rfl, zsetP (hset _) hP, zsetD (hset _) hD⟩
        have h := zlt_s h eMa_10
        clear hset
        refine lv_aload_n hx hb dX6_restore_65 rfl (lv_at hl 0 rfl) ?_
        refine va_get (D := D) (ci := 6) (v := .ref (Mp 6)) (C := RX6) (T := TX6) (N := 40) hx hb hts inX6 hown hK hP 0 rfl rfl 6 (by decide) lk13 (fun _ h9 => h9) rfl dX6_restore_66 ?_
        refine lv_iload_n hx hb dX6_restore_69 rfl (lv_at hl 1 rfl) ?_
        refine lv_aload_n hx hb dX6_restore_70 rfl (lv_at hl 0 rfl) ?_
        refine va_get (D := D) (ci := 6) (v := .ref (Mp 35)) (C := RX6) (T := TX6) (N := 40) hx hb hts inX6 hown hK hP 0 rfl rfl 35 (by decide) lk65 (fun _ h9 => h9) rfl dX6_restore_71 ?_
        refine lv_iload_n hx hb dX6_restore_74 rfl (lv_at hl 1 rfl) ?_
        obtain ⟨z11, h⟩ := zck_s h
        refine va_iald hx hb hK hP 19 0 rfl rfl (zin_s z11) dX6_restore_75 ?_
        obtain ⟨z12, h⟩ := zck_s h
        refine va_iast hx hb hK hP hD hS 2 0 rfl rfl (zin_s z12) dX6_restore_76 (fun H locs hP hD hS => ?_)
        have hset : ∀ v9 : Nat → Int32, (zwM cI cB Mo Mp Ms_5 Mj Ma_10).set 2 ((Mp 6), .inl (cI, 8, .inl v9)) = (zwM cI cB Mo Mp Ms_5 Mj (va_up Ma_10 6 v9)) := fun _ => rfl
        obtain ⟨Ma_13, eMa_13, hP, hD⟩ : ∃ y9, y9 = (va_up Ma_10 6 (upd (Ma_10 6) (x1_47h).toNatClampNeg ((Ma_10 35) (x1_47h).toNatClampNeg))) ∧ va_P D vwCl (zwM cI cB Mo Mp Ms_5 Mj y9) H ∧ va_D A (zwM cI cB Mo Mp Ms_5 Mj y9) := ⟨_, rfl, zsetP (hset _) hP, zsetD (hset _) hD⟩
        have h := zlt_s h eMa_13
        clear hset
        refine lv_iinc (v := (x1_47h + (1 : Int32))) (lv' := [(1, .int (x1_47h + (1 : Int32))), (0, .ref Mo)]) hx hb dX6_restore_77 hl (k := 1) rfl rfl (by decide) rfl (fun ls hl => ?_)
        refine lv_goto (tgt := 47) hx hb dX6_restore_80 (by decide) ?_
        exact zl47 _ _ (zend h).symm _ _ _ hP hD hS (lv_sub hl [1, 0] rfl)
    · have h := zif_f c2 h
      refine lv_bipush (v := (-103 : Int32)) hx hb dX6_restore_18 (by decide) ?_
      cases zend h
      exact hq hP hD hS dX6_restore_20
set_option maxHeartbeats 4000000 in
set_option maxRecDepth 100000 in
theorem c_X6_ofBoard (l : Launch) (D : va_G) (cI cB cO : ClassId) (Mo : Nat) (Mp : Nat → Nat) (Ms : Nat → Int32) (Mj : Nat → Int64) (Ma : Nat → Nat → Int32) (a0 : Int32) (rv : Int32) (Ma' : Nat → Nat → Int32) (sz : Nat) (h : fX6_ofBoard Ms Ma a0 = some (rv, Ma')) : Met l yX6_ofBoard wsX6_ofBoard ({ frames := 5, cells := 0, slots := 0, locals := 120 } : Room) (va_Pc [.ref Mo, .int a0] (zPre D (zTY cI cB cO) (zwM cI cB Mo Mp Ms Mj Ma) sz)) (va_Qi (fun r (_ : Unit) => r = rv) (fun _ => zPost D (zTY cI cB cO) (zwM cI cB Mo Mp Ms Mj Ma') (va_A (zwM cI cB Mo Mp Ms Mj Ma) sz)) (va_A (zwM cI cB Mo Mp Ms Mj Ma) sz)) 0 0 (va_A (zwM cI cB Mo Mp Ms Mj Ma) sz) := by
  unfold fX6_ofBoard at h
  refine zmet_i (cc := cX6_ofBoard) (maxL := 2) (by decide) rfl (Nat.le_of_ble_eq_true rfl) rfl rfl ?_
  intro p e s m args below meth c R Q A ls hx hb hts hown hml hK hP hD hE hA hS hRf hRl hl hq
  have hown : s.vm.findClass RX6 = some m.cls := hown
  have hl : lv_has ls 2 [(0, .ref Mo), (1, .int a0)] := hl
  have inX6 : ∀ w ∈ u_ws RX6 TX6 40, w ∈ wsX6_ofBoard := by decide +kernel
  have lk106 : (Cond.fieldLink RX6 106 "PegFieldModel" "high" "I").before args s = true := hts _ (by decide +kernel)
  have lk109 : (Cond.fieldLink RX6 109 "PegFieldModel" "wide" "I").before args s = true := hts _ (by decide +kernel)
  have lk112 : (Cond.fieldLink RX6 112 "PegFieldModel" "holes" "I").before args s = true := hts _ (by decide +kernel)
  have lk115 : (Cond.fieldLink RX6 115 "PegFieldModel" "pegs" "I").before args s = true := hts _ (by decide +kernel)
  refine lv_aload_n hx hb dX6_ofBoard_0 rfl (lv_at hl 0 rfl) ?_
  obtain ⟨Ma_1, g2, h⟩ := zb1_s h
  have hFc := va_free (wc := (zwM cI cB Mo Mp Ms Mj Ma)) hD hS hA [0, 1, 2, 3, 4, 5, 6, 7, 8, 9, 10, 11, 12, 13, 14, 15, 16, 17, 18, 19, 20, 21, 22] (zC_55 (cI := cI) (cB := cB) (cO := cO))
  refine zcm_v (w2 := (zwM cI cB Mo Mp Ms Mj Ma_1)) (va_runV (As := []) (rest := []) ⟨hx, hb, hml, hown, hts⟩ (c_X6_putDeep l D cI cB cO Mo Mp Ms Mj Ma _ _ g2) (cwV 0 hts gX6_ofBoard_X6_putDeep rfl rfl rfl kV_X6_putDeep ⟨Nat.le_trans (Nat.le_of_ble_eq_true rfl) hRf, Nat.le_trans (Nat.le_of_ble_eq_true rfl) hRl⟩) (zpreV hK hP hD hS hE hFc [0, 1, 2, 3, 4, 5, 6, 7, 8, 9, 10, 11, 12, 13, 14, 15, 16, 17, 18, 19, 20, 21, 22] (zC_55 (cI := cI) (cB := cB) (cO := cO)) rfl 0 (ci := 6) rfl rfl []) rfl rfl hl.1 rfl (lv_room (Nat.le_of_ble_eq_true rfl)) dX6_ofBoard_1 ⟨Nat.zero_le _, Nat.zero_le _⟩) hS hFc (fun H1 t h1 h2 h3 => zM_55 (cI := cI) (cB := cB) (cO := cO) hP hD h1 h2 h3) (fun H locs hP hD hS => ?_)
  clear hFc
  refine lv_iload_n hx hb dX6_ofBoard_4 rfl (lv_at hl 1 rfl) ?_
  by_cases c3 : a0 = (0 : Int32)
  · have h := zif_t c3 h
    refine lv_tableIn (tgt := 40) (off := 35) hx hb dX6_ofBoard_5 (by rw [c3]; decide) (by rw [c3]; decide) (by rw [c3]; rfl) (by decide) ?_
    refine lv_aload_n hx hb dX6_ofBoard_40 rfl (lv_at hl 0 rfl) ?_
    refine va_get (D := D) (ci := 6) (v := .int (Ms 1)) (C := RX6) (T := TX6) (N := 40) hx hb hts inX6 hown hK hP 0 rfl rfl 1 (by decide) lk106 (fun _ h9 => h9) rfl dX6_ofBoard_41 ?_
    cases zend h
    exact hq hP hD hS dX6_ofBoard_44
  · have h := zif_f c3 h
    by_cases c4 : a0 = (1 : Int32)
    · have h := zif_t c4 h
      refine lv_tableIn (tgt := 45) (off := 40) hx hb dX6_ofBoard_5 (by rw [c4]; decide) (by rw [c4]; decide) (by rw [c4]; rfl) (by decide) ?_
      refine lv_aload_n hx hb dX6_ofBoard_45 rfl (lv_at hl 0 rfl) ?_
      refine va_get (D := D) (ci := 6) (v := .int (Ms 2)) (C := RX6) (T := TX6) (N := 40) hx hb hts inX6 hown hK hP 0 rfl rfl 2 (by decide) lk109 (fun _ h9 => h9) rfl dX6_ofBoard_46 ?_
      cases zend h
      exact hq hP hD hS dX6_ofBoard_49
    · have h := zif_f c4 h
      by_cases c5 : a0 = (2 : Int32)
      · have h := zif_t c5 h
        refine lv_tableIn (tgt := 50) (off := 45) hx hb dX6_ofBoard_5 (by rw [c5]; decide) (by rw [c5]; decide) (by rw [c5]; rfl) (by decide) ?_
        refine lv_aload_n hx hb dX6_ofBoard_50 rfl (lv_at hl 0 rfl) ?_
        refine va_get (D := D) (ci := 6) (v := .int (Ms 3)) (C := RX6) (T := TX6) (N := 40) hx hb hts inX6 hown hK hP 0 rfl rfl 3 (by decide) lk112 (fun _ h9 => h9) rfl dX6_ofBoard_51 ?_
        obtain ⟨r6, g7, h⟩ := zb1_s h
        have hFc := va_free (wc := ([] : va_W)) hD hS hA [] rfl
        refine zcp_i (va_runS (As := [.int (Ms 3)]) (rest := []) ⟨hx, hb, hml, hown, hts⟩ (c_X6_size l D cI cB cO (Ms 3) _ _ g7) (va_cwS 1 hts gX6_ofBoard_X6_size rfl rfl rfl kS_X6_size ⟨Nat.le_trans (Nat.le_of_ble_eq_true rfl) hRf, Nat.le_trans (Nat.le_of_ble_eq_true rfl) hRl⟩) (zpreS hK hP hD hS hE hFc [] (rfl) rfl [.int (Ms 3)]) rfl rfl hl.1 rfl (lv_room (Nat.le_of_ble_eq_true rfl)) dX6_ofBoard_54 ⟨Nat.zero_le _, Nat.zero_le _⟩) hP hD hS hFc [] (rfl) (fun H locs hP hS => ?_)
        clear hFc
        cases zend h
        exact hq hP hD hS dX6_ofBoard_57
      · have h := zif_f c5 h
        by_cases c8 : a0 = (3 : Int32)
        · have h := zif_t c8 h
          refine lv_tableIn (tgt := 58) (off := 53) hx hb dX6_ofBoard_5 (by rw [c8]; decide) (by rw [c8]; decide) (by rw [c8]; rfl) (by decide) ?_
          refine lv_aload_n hx hb dX6_ofBoard_58 rfl (lv_at hl 0 rfl) ?_
          refine va_get (D := D) (ci := 6) (v := .int (Ms 4)) (C := RX6) (T := TX6) (N := 40) hx hb hts inX6 hown hK hP 0 rfl rfl 4 (by decide) lk115 (fun _ h9 => h9) rfl dX6_ofBoard_59 ?_
          cases zend h
          exact hq hP hD hS dX6_ofBoard_62
        · have h := zif_f c8 h
          by_cases c9 : a0 = (4 : Int32)
          · have h := zif_t c9 h
            refine lv_tableIn (tgt := 63) (off := 58) hx hb dX6_ofBoard_5 (by rw [c9]; decide) (by rw [c9]; decide) (by rw [c9]; rfl) (by decide) ?_
            refine lv_aload_n hx hb dX6_ofBoard_63 rfl (lv_at hl 0 rfl) ?_
            refine lv_iconst (v := (0 : Int32)) hx hb dX6_ofBoard_64 (by decide) ?_
            obtain ⟨r10, g11, h⟩ := zb1_s h
            have hFc := va_free (wc := (zwM cI cB Mo Mp Ms Mj Ma_1)) hD hS hA [0, 1, 2, 3, 4, 5, 6, 7, 8, 9, 10, 11, 12, 13, 14, 15, 16, 17, 18, 19, 20, 21, 22] (zC_53 (cI := cI) (cB := cB) (cO := cO))
            refine zcp_i (va_runV (As := [.int (0 : Int32)]) (rest := []) ⟨hx, hb, hml, hown, hts⟩ (c_X6_onBoard l D cI cB cO Mo Mp Ms Mj Ma_1 (0 : Int32) _ _ g11) (cwV 1 hts gX6_ofBoard_X6_onBoard rfl rfl rfl kV_X6_onBoard ⟨Nat.le_trans (Nat.le_of_ble_eq_true rfl) hRf, Nat.le_trans (Nat.le_of_ble_eq_true rfl) hRl⟩) (zpreV hK hP hD hS hE hFc [0, 1, 2, 3, 4, 5, 6, 7, 8, 9, 10, 11, 12, 13, 14, 15, 16, 17, 18, 19, 20, 21, 22] (zC_53 (cI := cI) (cB := cB) (cO := cO)) rfl 0 (ci := 6) rfl rfl [.int (0 : Int32)]) rfl rfl hl.1 rfl (lv_room (Nat.le_of_ble_eq_true rfl)) dX6_ofBoard_65 ⟨Nat.zero_le _, Nat.zero_le _⟩) hP hD hS hFc [0, 1, 2, 3, 4, 5, 6, 7, 8, 9, 10, 11, 12, 13, 14, 15, 16, 17, 18, 19, 20, 21, 22] (zC_53 (cI := cI) (cB := cB) (cO := cO)) (fun H locs hP hS => ?_)
            clear hFc
            cases zend h
            exact hq hP hD hS dX6_ofBoard_68
          · have h := zif_f c9 h
            have nc3 := zne_i (k := 0) (0 : Int32) (by decide) c3
            have nc4 := zne_i (k := 1) (1 : Int32) (by decide) c4
            have nc5 := zne_i (k := 2) (2 : Int32) (by decide) c5
            have nc8 := zne_i (k := 3) (3 : Int32) (by decide) c8
            have nc9 := zne_i (k := 4) (4 : Int32) (by decide) c9
            refine lv_tableOut (tgt := 69) hx hb dX6_ofBoard_5 (by omega) (by decide) ?_
            refine lv_aload_n hx hb dX6_ofBoard_69 rfl (lv_at hl 0 rfl) ?_
            refine lv_iconst (v := (0 : Int32)) hx hb dX6_ofBoard_70 (by decide) ?_
            obtain ⟨r12, g13, h⟩ := zb1_s h
            have hFc := va_free (wc := (zwM cI cB Mo Mp Ms Mj Ma_1)) hD hS hA [0, 1, 2, 3, 4, 5, 6, 7, 8, 9, 10, 11, 12, 13, 14, 15, 16, 17, 18, 19, 20, 21, 22] (zC_53 (cI := cI) (cB := cB) (cO := cO))
            refine zcp_i (va_runV (As := [.int (0 : Int32)]) (rest := []) ⟨hx, hb, hml, hown, hts⟩ (c_X6_jumpsNow l D cI cB cO Mo Mp Ms Mj Ma_1 (0 : Int32) _ _ g13) (cwV 1 hts gX6_ofBoard_X6_jumpsNow rfl rfl rfl kV_X6_jumpsNow ⟨Nat.le_trans (Nat.le_of_ble_eq_true rfl) hRf, Nat.le_trans (Nat.le_of_ble_eq_true rfl) hRl⟩) (zpreV hK hP hD hS hE hFc [0, 1, 2, 3, 4, 5, 6, 7, 8, 9, 10, 11, 12, 13, 14, 15, 16, 17, 18, 19, 20, 21, 22] (zC_53 (cI := cI) (cB := cB) (cO := cO)) rfl 0 (ci := 6) rfl rfl [.int (0 : Int32)]) rfl rfl hl.1 rfl (lv_room (Nat.le_of_ble_eq_true rfl)) dX6_ofBoard_71 ⟨Nat.zero_le _, Nat.zero_le _⟩) hP hD hS hFc [0, 1, 2, 3, 4, 5, 6, 7, 8, 9, 10, 11, 12, 13, 14, 15, 16, 17, 18, 19, 20, 21, 22] (zC_53 (cI := cI) (cB := cB) (cO := cO)) (fun H locs hP hS => ?_)
            clear hFc
            cases zend h
            exact hq hP hD hS dX6_ofBoard_74
set_option maxHeartbeats 4000000 in
set_option maxRecDepth 100000 in
theorem c_X6_howMany (l : Launch) (D : va_G) (cI cB cO : ClassId) (Mo : Nat) (Mp : Nat → Nat) (Ms : Nat → Int32) (Mj : Nat → Int64) (Ma : Nat → Nat → Int32) (a0 : Int32) (rv : Int32) (Ma' : Nat → Nat → Int32) (sz : Nat) (h : fX6_howMany Ms Ma a0 = some (rv, Ma')) : Met l yX6_howMany wsX6_howMany ({ frames := 6, cells := 0, slots := 0, locals := 141 } : Room) (va_Pc [.ref Mo, .int a0] (zPre D (zTY cI cB cO) (zwM cI cB Mo Mp Ms Mj Ma) sz)) (va_Qi (fun r (_ : Unit) => r = rv) (fun _ => zPost D (zTY cI cB cO) (zwM cI cB Mo Mp Ms Mj Ma') (va_A (zwM cI cB Mo Mp Ms Mj Ma) sz)) (va_A (zwM cI cB Mo Mp Ms Mj Ma) sz)) 0 0 (va_A (zwM cI cB Mo Mp Ms Mj Ma) sz) := by
  unfold fX6_howMany at h
  refine zmet_i (cc := cX6_howMany) (maxL := 2) (by decide) rfl (Nat.le_of_ble_eq_true rfl) rfl rfl ?_
  intro p e s m args below meth c R Q A ls hx hb hts hown hml hK hP hD hE hA hS hRf hRl hl hq
  have hown : s.vm.findClass RX6 = some m.cls := hown
  have hl : lv_has ls 2 [(0, .ref Mo), (1, .int a0)] := hl
  have inX6 : ∀ w ∈ u_ws RX6 TX6 40, w ∈ wsX6_howMany := by decide +kernel
  have lk121 : (Cond.fieldLink RX6 121 "PegFieldModel" "jumps" "I").before args s = true := hts _ (by decide +kernel)
  have lk127 : (Cond.fieldLink RX6 127 "PegFieldModel" "seen" "I").before args s = true := hts _ (by decide +kernel)
  have lk81 : (Cond.fieldLink RX6 81 "PegFieldModel" "pageLength" "I").before args s = true := hts _ (by decide +kernel)
  have lk124 : (Cond.fieldLink RX6 124 "PegFieldModel" "boards" "I").before args s = true := hts _ (by decide +kernel)
  have lk216 : (Cond.fieldLink RX6 216 "PegFieldModel" "asks" "I").before args s = true := hts _ (by decide +kernel)
  refine lv_iload_n hx hb dX6_howMany_0 rfl (lv_at hl 1 rfl) ?_
  by_cases c1 : a0 = (6 : Int32)
  · have h := zif_t c1 h
    refine lv_tableIn (tgt := 36) (off := 35) hx hb dX6_howMany_1 (by rw [c1]; decide) (by rw [c1]; decide) (by rw [c1]; rfl) (by decide) ?_
    refine lv_aload_n hx hb dX6_howMany_36 rfl (lv_at hl 0 rfl) ?_
    refine va_get (D := D) (ci := 6) (v := .int (Ms 7)) (C := RX6) (T := TX6) (N := 40) hx hb hts inX6 hown hK hP 0 rfl rfl 7 (by decide) lk121 (fun _ h9 => h9) rfl dX6_howMany_37 ?_
    cases zend h
    exact hq hP hD hS dX6_howMany_40
  · have h := zif_f c1 h
    by_cases c2 : a0 = (7 : Int32)
    · have h := zif_t c2 h
      refine lv_tableIn (tgt := 41) (off := 40) hx hb dX6_howMany_1 (by rw [c2]; decide) (by rw [c2]; decide) (by rw [c2]; rfl) (by decide) ?_
      refine lv_aload_n hx hb dX6_howMany_41 rfl (lv_at hl 0 rfl) ?_
      refine va_get (D := D) (ci := 6) (v := .int (Ms 9)) (C := RX6) (T := TX6) (N := 40) hx hb hts inX6 hown hK hP 0 rfl rfl 9 (by decide) lk127 (fun _ h9 => h9) rfl dX6_howMany_42 ?_
      cases zend h
      exact hq hP hD hS dX6_howMany_45
    · have h := zif_f c2 h
      by_cases c3 : a0 = (8 : Int32)
      · have h := zif_t c3 h
        refine lv_tableIn (tgt := 46) (off := 45) hx hb dX6_howMany_1 (by rw [c3]; decide) (by rw [c3]; decide) (by rw [c3]; rfl) (by decide) ?_
        refine lv_aload_n hx hb dX6_howMany_46 rfl (lv_at hl 0 rfl) ?_
        refine va_get (D := D) (ci := 6) (v := .int (Ms 13)) (C := RX6) (T := TX6) (N := 40) hx hb hts inX6 hown hK hP 0 rfl rfl 13 (by decide) lk81 (fun _ h9 => h9) rfl dX6_howMany_47 ?_
        cases zend h
        exact hq hP hD hS dX6_howMany_50
      · have h := zif_f c3 h
        by_cases c4 : a0 = (9 : Int32)
        · have h := zif_t c4 h
          refine lv_tableIn (tgt := 51) (off := 50) hx hb dX6_howMany_1 (by rw [c4]; decide) (by rw [c4]; decide) (by rw [c4]; rfl) (by decide) ?_
          refine lv_aload_n hx hb dX6_howMany_51 rfl (lv_at hl 0 rfl) ?_
          refine va_get (D := D) (ci := 6) (v := .int (Ms 0)) (C := RX6) (T := TX6) (N := 40) hx hb hts inX6 hown hK hP 0 rfl rfl 0 (by decide) lk124 (fun _ h9 => h9) rfl dX6_howMany_52 ?_
          cases zend h
          exact hq hP hD hS dX6_howMany_55
        · have h := zif_f c4 h
          by_cases c5 : a0 = (10 : Int32)
          · have h := zif_t c5 h
            refine lv_tableIn (tgt := 56) (off := 55) hx hb dX6_howMany_1 (by rw [c5]; decide) (by rw [c5]; decide) (by rw [c5]; rfl) (by decide) ?_
            refine lv_aload_n hx hb dX6_howMany_56 rfl (lv_at hl 0 rfl) ?_
            refine va_get (D := D) (ci := 6) (v := .int (Ms 8)) (C := RX6) (T := TX6) (N := 40) hx hb hts inX6 hown hK hP 0 rfl rfl 8 (by decide) lk216 (fun _ h9 => h9) rfl dX6_howMany_57 ?_
            cases zend h
            exact hq hP hD hS dX6_howMany_60
          · have h := zif_f c5 h
            have nc1 := zne_i (k := 6) (6 : Int32) (by decide) c1
            have nc2 := zne_i (k := 7) (7 : Int32) (by decide) c2
            have nc3 := zne_i (k := 8) (8 : Int32) (by decide) c3
            have nc4 := zne_i (k := 9) (9 : Int32) (by decide) c4
            have nc5 := zne_i (k := 10) (10 : Int32) (by decide) c5
            refine lv_tableOut (tgt := 61) hx hb dX6_howMany_1 (by omega) (by decide) ?_
            refine lv_iload_n hx hb dX6_howMany_61 rfl (lv_at hl 1 rfl) ?_
            refine lv_iconst (v := (0 : Int32)) hx hb dX6_howMany_62 (by decide) ?_
            refine lv_iconst (v := (5 : Int32)) hx hb dX6_howMany_63 (by decide) ?_
            obtain ⟨r6, g7, h⟩ := zb1_s h
            have hFc := va_free (wc := ([] : va_W)) hD hS hA [] rfl
            refine zcp_i (va_runS (As := [.int a0, .int (0 : Int32), .int (5 : Int32)]) (rest := []) ⟨hx, hb, hml, hown, hts⟩ (c_X6_within l D cI cB cO a0 (0 : Int32) (5 : Int32) _ _ g7) (va_cwS 3 hts gX6_howMany_X6_within rfl rfl rfl kS_X6_within ⟨Nat.le_trans (Nat.le_of_ble_eq_true rfl) hRf, Nat.le_trans (Nat.le_of_ble_eq_true rfl) hRl⟩) (zpreS hK hP hD hS hE hFc [] (rfl) rfl [.int a0, .int (0 : Int32), .int (5 : Int32)]) rfl rfl hl.1 rfl (lv_room (Nat.le_of_ble_eq_true rfl)) dX6_howMany_64 ⟨Nat.zero_le _, Nat.zero_le _⟩) hP hD hS hFc [] (rfl) (fun H locs hP hS => ?_)
            clear hFc
            refine lv_if_eq (tgt := 78) hx hb dX6_howMany_67 (by decide) (fun c8 => ?_) (fun c8 => ?_)
            · have h := zif_t c8 h
              refine lv_bipush (v := (-102 : Int32)) hx hb dX6_howMany_78 (by decide) ?_
              cases zend h
              exact hq hP hD hS dX6_howMany_80
            · have h := zif_f c8 h
              refine lv_aload_n hx hb dX6_howMany_70 rfl (lv_at hl 0 rfl) ?_
              refine lv_iload_n hx hb dX6_howMany_71 rfl (lv_at hl 1 rfl) ?_
              obtain ⟨r9, Ma_10, g11, h⟩ := zb2_s h
              have hFc := va_free (wc := (zwM cI cB Mo Mp Ms Mj Ma)) hD hS hA [0, 1, 2, 3, 4, 5, 6, 7, 8, 9, 10, 11, 12, 13, 14, 15, 16, 17, 18, 19, 20, 21, 22] (zC_55 (cI := cI) (cB := cB) (cO := cO))
              refine zcm_i (w2 := (zwM cI cB Mo Mp Ms Mj Ma_10)) (va_runV (As := [.int a0]) (rest := []) ⟨hx, hb, hml, hown, hts⟩ (c_X6_ofBoard l D cI cB cO Mo Mp Ms Mj Ma a0 _ _ _ g11) (cwV 1 hts gX6_howMany_X6_ofBoard rfl rfl rfl kV_X6_ofBoard ⟨Nat.le_trans (Nat.le_of_ble_eq_true rfl) hRf, Nat.le_trans (Nat.le_of_ble_eq_true rfl) hRl⟩) (zpreV hK hP hD hS hE hFc [0, 1, 2, 3, 4, 5, 6, 7, 8, 9, 10, 11, 12, 13, 14, 15, 16, 17, 18, 19, 20, 21, 22] (zC_55 (cI := cI) (cB := cB) (cO := cO)) rfl 0 (ci := 6) rfl rfl [.int a0]) rfl rfl hl.1 rfl (lv_room (Nat.le_of_ble_eq_true rfl)) dX6_howMany_72 ⟨Nat.zero_le _, Nat.zero_le _⟩) hS hFc (fun H1 t h1 h2 h3 => zM_55 (cI := cI) (cB := cB) (cO := cO) hP hD h1 h2 h3) (fun H locs hP hD hS => ?_)
              clear hFc
              refine lv_goto (tgt := 80) hx hb dX6_howMany_75 (by decide) ?_
              cases zend h
              exact hq hP hD hS dX6_howMany_80
set_option maxHeartbeats 4000000 in
set_option maxRecDepth 100000 in
theorem c_X6_count (l : Launch) (D : va_G) (cI cB cO : ClassId) (Mo : Nat) (Mp : Nat → Nat) (Ms : Nat → Int32) (Mj : Nat → Int64) (Ma : Nat → Nat → Int32) (a0 : Int32) (rv : Int32) (Ma' : Nat → Nat → Int32) (sz : Nat) (h : fX6_count Ms Ma a0 = some (rv, Ma')) : Met l yX6_count wsX6_count ({ frames := 7, cells := 0, slots := 0, locals := 162 } : Room) (va_Pc [.ref Mo, .int a0] (zPre D (zTY cI cB cO) (zwM cI cB Mo Mp Ms Mj Ma) sz)) (va_Qi (fun r (_ : Unit) => r = rv) (fun _ => zPost D (zTY cI cB cO) (zwM cI cB Mo Mp Ms Mj Ma') (va_A (zwM cI cB Mo Mp Ms Mj Ma) sz)) (va_A (zwM cI cB Mo Mp Ms Mj Ma) sz)) 0 0 (va_A (zwM cI cB Mo Mp Ms Mj Ma) sz) := by
  unfold fX6_count at h
  refine zmet_i (cc := cX6_count) (maxL := 2) (by decide) rfl (Nat.le_of_ble_eq_true rfl) rfl rfl ?_
  intro p e s m args below meth c R Q A ls hx hb hts hown hml hK hP hD hE hA hS hRf hRl hl hq
  have hown : s.vm.findClass RX6 = some m.cls := hown
  have hl : lv_has ls 2 [(0, .ref Mo), (1, .int a0)] := hl
  refine lv_aload_n hx hb dX6_count_0 rfl (lv_at hl 0 rfl) ?_
  refine lv_iload_n hx hb dX6_count_1 rfl (lv_at hl 1 rfl) ?_
  obtain ⟨r1, Ma_2, g3, h⟩ := zb2_s h
  have hFc := va_free (wc := (zwM cI cB Mo Mp Ms Mj Ma)) hD hS hA [0, 1, 2, 3, 4, 5, 6, 7, 8, 9, 10, 11, 12, 13, 14, 15, 16, 17, 18, 19, 20, 21, 22] (zC_55 (cI := cI) (cB := cB) (cO := cO))
  refine zcm_i (w2 := (zwM cI cB Mo Mp Ms Mj Ma_2)) (va_runV (As := [.int a0]) (rest := []) ⟨hx, hb, hml, hown, hts⟩ (c_X6_howMany l D cI cB cO Mo Mp Ms Mj Ma a0 _ _ _ g3) (cwV 1 hts gX6_count_X6_howMany rfl rfl rfl kV_X6_howMany ⟨Nat.le_trans (Nat.le_of_ble_eq_true rfl) hRf, Nat.le_trans (Nat.le_of_ble_eq_true rfl) hRl⟩) (zpreV hK hP hD hS hE hFc [0, 1, 2, 3, 4, 5, 6, 7, 8, 9, 10, 11, 12, 13, 14, 15, 16, 17, 18, 19, 20, 21, 22] (zC_55 (cI := cI) (cB := cB) (cO := cO)) rfl 0 (ci := 6) rfl rfl [.int a0]) rfl rfl hl.1 rfl (lv_room (Nat.le_of_ble_eq_true rfl)) dX6_count_2 ⟨Nat.zero_le _, Nat.zero_le _⟩) hS hFc (fun H1 t h1 h2 h3 => zM_55 (cI := cI) (cB := cB) (cO := cO) hP hD h1 h2 h3) (fun H locs hP hD hS => ?_)
  clear hFc
  cases zend h
  exact hq hP hD hS dX6_count_5
set_option maxHeartbeats 4000000 in
set_option maxRecDepth 100000 in
theorem c_X6_mix (l : Launch) (D : va_G) (cI cB cO : ClassId) (Mo : Nat) (Mp : Nat → Nat) (Ms : Nat → Int32) (Mj : Nat → Int64) (Ma : Nat → Nat → Int32) (a0 : Int64) (Mj' : Nat → Int64) (sz : Nat) (h : fX6_mix Mj a0 = some Mj') : Met l yX6_mix wsX6_mix ({ frames := 0, cells := 0, slots := 0, locals := 0 } : Room) (va_Pc [.ref Mo, .long a0] (zPre D (zTY cI cB cO) (zwM cI cB Mo Mp Ms Mj Ma) sz)) (va_Qv (fun (_ : Unit) => True) (fun _ => zPost D (zTY cI cB cO) (zwM cI cB Mo Mp Ms Mj' Ma) (va_A (zwM cI cB Mo Mp Ms Mj Ma) sz)) (va_A (zwM cI cB Mo Mp Ms Mj Ma) sz)) 0 0 (va_A (zwM cI cB Mo Mp Ms Mj Ma) sz) := by
  unfold fX6_mix at h
  refine zmet_v (cc := cX6_mix) (maxL := 3) (by decide) rfl (Nat.le_of_ble_eq_true rfl) rfl rfl ?_
  intro p e s m args below meth c R Q A ls hx hb hts hown hml hK hP hD hE hA hS hRf hRl hl hq
  have hown : s.vm.findClass RX6 = some m.cls := hown
  have hl : lv_has ls 3 [(0, .ref Mo), (1, .long a0)] := hl
  have inX6 : ∀ w ∈ u_ws RX6 TX6 40, w ∈ wsX6_mix := by decide +kernel
  have lk275 : (Cond.fieldLink RX6 275 "PegFieldModel" "h" "J").before args s = true := hts _ (by decide +kernel)
  refine lv_aload_n hx hb dX6_mix_0 rfl (lv_at hl 0 rfl) ?_
  refine lv_ldc2 (v := (31 : Int64)) hx hb hown (hts (.constantLong RX6 273 (31)) (by decide +kernel)) dX6_mix_1 ?_
  refine lv_aload_n hx hb dX6_mix_4 rfl (lv_at hl 0 rfl) ?_
  refine va_get (D := D) (ci := 6) (v := .long (Mj 39)) (C := RX6) (T := TX6) (N := 40) hx hb hts inX6 hown hK hP 0 rfl rfl 39 (by decide) lk275 (fun _ h9 => h9) rfl dX6_mix_5 ?_
  refine lv_lmul hx hb dX6_mix_8 ?_
  refine lv_lload_n hx hb dX6_mix_9 rfl (lv_at hl 1 rfl) ?_
  refine lv_ladd hx hb dX6_mix_10 ?_
  refine va_put (D := D) (ci := 6) (v := .long (((31 : Int64) * (Mj 39)) + a0)) (ty := .long) (C := RX6) (T := TX6) (N := 40) hx hb hts inX6 tyX6 tyX6_ok nmX6 hown hK hP hD hS 0 rfl rfl 39 (by decide) lk275 (fun _ h9 => h9) rfl (by decide +kernel) rfl rfl (Nat.le_of_ble_eq_true rfl) dX6_mix_11 (fun H locs hP hD hS => ?_)
  have hset : ∀ v9 : Int64, (zwM cI cB Mo Mp Ms Mj Ma).set 0 (Mo, .inr (6, ([.int (Ms 0), .int (Ms 1), .int (Ms 2), .int (Ms 3), .int (Ms 4), .ref (Mp 5), .ref (Mp 6), .int (Ms 7), .int (Ms 8), .int (Ms 9), .ref (Mp 10), .ref (Mp 11), .ref (Mp 12), .int (Ms 13), .ref (Mp 14), .int (Ms 15), .int (Ms 16), .ref (Mp 17), .ref (Mp 18), .ref (Mp 19), .ref (Mp 20), .ref (Mp 21), .ref (Mp 22), .ref (Mp 23), .ref (Mp 24), .ref (Mp 25), .ref (Mp 26), .ref (Mp 27), .long (Mj 28), .int (Ms 29), .int (Ms 30), .int (Ms 31), .int (Ms 32), .int (Ms 33), .ref (Mp 34), .ref (Mp 35), .ref (Mp 36), .ref (Mp 37), .ref (Mp 38), .long (Mj 39)] : List Value).set 39 (.long v9))) = (zwM cI cB Mo Mp Ms (va_up Mj 39 v9) Ma) := fun _ => rfl
  obtain ⟨Mj_1, eMj_1, hP, hD⟩ : ∃ y9, y9 = (va_up Mj 39 (((31 : Int64) * (Mj 39)) + a0)) ∧ va_P D vwCl (zwM cI cB Mo Mp Ms y9 Ma) H ∧ va_D A (zwM cI cB Mo Mp Ms y9 Ma) := ⟨_, rfl, zsetP (hset _) hP, zsetD (hset _) hD⟩
  have h := zlt_s h eMj_1
  clear hset
  cases zend h
  exact hq hP hD hS dX6_mix_14
set_option maxHeartbeats 4000000 in
set_option maxRecDepth 100000 in
theorem c_X6_mixBoard (l : Launch) (D : va_G) (cI cB cO : ClassId) (Mo : Nat) (Mp : Nat → Nat) (Ms : Nat → Int32) (Mj : Nat → Int64) (Ma : Nat → Nat → Int32)  (Mj' : Nat → Int64) (Ma' : Nat → Nat → Int32) (sz : Nat) (h : fX6_mixBoard Ms Mj Ma = some (Mj', Ma')) : Met l yX6_mixBoard wsX6_mixBoard ({ frames := 6, cells := 0, slots := 0, locals := 138 } : Room) (va_Pc [.ref Mo] (zPre D (zTY cI cB cO) (zwM cI cB Mo Mp Ms Mj Ma) sz)) (va_Qv (fun (_ : Unit) => True) (fun _ => zPost D (zTY cI cB cO) (zwM cI cB Mo Mp Ms Mj' Ma') (va_A (zwM cI cB Mo Mp Ms Mj Ma) sz)) (va_A (zwM cI cB Mo Mp Ms Mj Ma) sz)) 0 0 (va_A (zwM cI cB Mo Mp Ms Mj Ma) sz) := by
  unfold fX6_mixBoard at h
  refine zmet_v (cc := cX6_mixBoard) (maxL := 2) (by decide) rfl (Nat.le_of_ble_eq_true rfl) rfl rfl ?_
  intro p e s m args below meth c R Q A ls hx hb hts hown hml hK hP hD hE hA hS hRf hRl hl hq
  have hown : s.vm.findClass RX6 = some m.cls := hown
  have hl : lv_has ls 2 [(0, .ref Mo)] := hl
  refine lv_iconst (v := (0 : Int32)) hx hb dX6_mixBoard_0 (by decide) ?_
  refine lv_istore_n (lv' := [(1, .int (0 : Int32)), (0, .ref Mo)]) hx hb dX6_mixBoard_1 rfl hl (by decide) rfl (fun ls hl => ?_)
  obtain ⟨Mj_24x2, Ma_24x2, i23, h⟩ := zb2_s h
  have KX24 : ∀ (H : Heap) (locs : List Loc) (ls : Array Slot), va_P D vwCl (zwM cI cB Mo Mp Ms Mj_24x2 Ma_24x2) H → va_D A (zwM cI cB Mo Mp Ms Mj_24x2 Ma_24x2) → va_S A s.heap H locs → lv_has ls 2 [(0, .ref Mo)] → W p l e R s m args below meth c H locs 0 0 Q (F0 m 24 ls []) := by
    intro H locs ls hP hD hS hl
    refine lv_aload_n hx hb dX6_mixBoard_24 rfl (lv_at hl 0 rfl) ?_
    refine lv_aload_n hx hb dX6_mixBoard_25 rfl (lv_at hl 0 rfl) ?_
    refine lv_iconst (v := (0 : Int32)) hx hb dX6_mixBoard_26 (by decide) ?_
    obtain ⟨r8, Ma_9, g10, h⟩ := zb2_s h
    have hFc := va_free (wc := (zwM cI cB Mo Mp Ms Mj_24x2 Ma_24x2)) hD hS hA [0, 1, 2, 3, 4, 5, 6, 7, 8, 9, 10, 11, 12, 13, 14, 15, 16, 17, 18, 19, 20, 21, 22] (zC_55 (cI := cI) (cB := cB) (cO := cO))
    refine zcm_i (w2 := (zwM cI cB Mo Mp Ms Mj_24x2 Ma_9)) (va_runV (As := [.int (0 : Int32)]) (rest := [.ref Mo]) ⟨hx, hb, hml, hown, hts⟩ (c_X6_winsNow l D cI cB cO Mo Mp Ms Mj_24x2 Ma_24x2 (0 : Int32) _ _ _ g10) (cwV 1 hts gX6_mixBoard_X6_winsNow rfl rfl rfl kV_X6_winsNow ⟨Nat.le_trans (Nat.le_of_ble_eq_true rfl) hRf, Nat.le_trans (Nat.le_of_ble_eq_true rfl) hRl⟩) (zpreV hK hP hD hS hE hFc [0, 1, 2, 3, 4, 5, 6, 7, 8, 9, 10, 11, 12, 13, 14, 15, 16, 17, 18, 19, 20, 21, 22] (zC_55 (cI := cI) (cB := cB) (cO := cO)) rfl 0 (ci := 6) rfl rfl [.int (0 : Int32)]) rfl rfl hl.1 rfl (lv_room (Nat.le_of_ble_eq_true rfl)) dX6_mixBoard_27 ⟨Nat.zero_le _, Nat.zero_le _⟩) hS hFc (fun H1 t h1 h2 h3 => zM_55 (cI := cI) (cB := cB) (cO := cO) hP hD h1 h2 h3) (fun H locs hP hD hS => ?_)
    clear hFc
    refine lv_i2l (v := (r8).toInt64) hx hb dX6_mixBoard_30 rfl ?_
    obtain ⟨Mj_11, g12, h⟩ := zb1_s h
    have hFc := va_free (wc := (zwM cI cB Mo Mp Ms Mj_24x2 Ma_9)) hD hS hA [0, 1, 2, 3, 4, 5, 6, 7, 8, 9, 10, 11, 12, 13, 14, 15, 16, 17, 18, 19, 20, 21, 22] (zC_57 (cI := cI) (cB := cB) (cO := cO))
    refine zcm_v (w2 := (zwM cI cB Mo Mp Ms Mj_11 Ma_9)) (va_runV (As := [.long (r8).toInt64]) (rest := []) ⟨hx, hb, hml, hown, hts⟩ (c_X6_mix l D cI cB cO Mo Mp Ms Mj_24x2 Ma_9 ((r8).toInt64) _ _ g12) (cwV 1 hts gX6_mixBoard_X6_mix rfl rfl rfl kV_X6_mix ⟨Nat.le_trans (Nat.le_of_ble_eq_true rfl) hRf, Nat.le_trans (Nat.le_of_ble_eq_true rfl) hRl⟩) (zpreV hK hP hD hS hE hFc [0, 1, 2, 3, 4, 5, 6, 7, 8, 9, 10, 11, 12, 13, 14, 15, 16, 17, 18, 19, 20, 21, 22] (zC_57 (cI := cI) (cB := cB) (cO := cO)) rfl 0 (ci := 6) rfl rfl [.long (r8).toInt64]) rfl rfl hl.1 rfl (lv_room (Nat.le_of_ble_eq_true rfl)) dX6_mixBoard_31 ⟨Nat.zero_le _, Nat.zero_le _⟩) hS hFc (fun H1 t h1 h2 h3 => zM_57 (cI := cI) (cB := cB) (cO := cO) hP hD h1 h2 h3) (fun H locs hP hD hS => ?_)
    clear hFc
    refine lv_aload_n hx hb dX6_mixBoard_34 rfl (lv_at hl 0 rfl) ?_
    refine lv_aload_n hx hb dX6_mixBoard_35 rfl (lv_at hl 0 rfl) ?_
    refine lv_iconst (v := (1 : Int32)) hx hb dX6_mixBoard_36 (by decide) ?_
    obtain ⟨r13, Ma_14, g15, h⟩ := zb2_s h
    have hFc := va_free (wc := (zwM cI cB Mo Mp Ms Mj_11 Ma_9)) hD hS hA [0, 1, 2, 3, 4, 5, 6, 7, 8, 9, 10, 11, 12, 13, 14, 15, 16, 17, 18, 19, 20, 21, 22] (zC_55 (cI := cI) (cB := cB) (cO := cO))
    refine zcm_i (w2 := (zwM cI cB Mo Mp Ms Mj_11 Ma_14)) (va_runV (As := [.int (1 : Int32)]) (rest := [.ref Mo]) ⟨hx, hb, hml, hown, hts⟩ (c_X6_winsNow l D cI cB cO Mo Mp Ms Mj_11 Ma_9 (1 : Int32) _ _ _ g15) (cwV 1 hts gX6_mixBoard_X6_winsNow rfl rfl rfl kV_X6_winsNow ⟨Nat.le_trans (Nat.le_of_ble_eq_true rfl) hRf, Nat.le_trans (Nat.le_of_ble_eq_true rfl) hRl⟩) (zpreV hK hP hD hS hE hFc [0, 1, 2, 3, 4, 5, 6, 7, 8, 9, 10, 11, 12, 13, 14, 15, 16, 17, 18, 19, 20, 21, 22] (zC_55 (cI := cI) (cB := cB) (cO := cO)) rfl 0 (ci := 6) rfl rfl [.int (1 : Int32)]) rfl rfl hl.1 rfl (lv_room (Nat.le_of_ble_eq_true rfl)) dX6_mixBoard_37 ⟨Nat.zero_le _, Nat.zero_le _⟩) hS hFc (fun H1 t h1 h2 h3 => zM_55 (cI := cI) (cB := cB) (cO := cO) hP hD h1 h2 h3) (fun H locs hP hD hS => ?_)
    clear hFc
    refine lv_i2l (v := (r13).toInt64) hx hb dX6_mixBoard_40 rfl ?_
    obtain ⟨Mj_16, g17, h⟩ := zb1_s h
    have hFc := va_free (wc := (zwM cI cB Mo Mp Ms Mj_11 Ma_14)) hD hS hA [0, 1, 2, 3, 4, 5, 6, 7, 8, 9, 10, 11, 12, 13, 14, 15, 16, 17, 18, 19, 20, 21, 22] (zC_57 (cI := cI) (cB := cB) (cO := cO))
    refine zcm_v (w2 := (zwM cI cB Mo Mp Ms Mj_16 Ma_14)) (va_runV (As := [.long (r13).toInt64]) (rest := []) ⟨hx, hb, hml, hown, hts⟩ (c_X6_mix l D cI cB cO Mo Mp Ms Mj_11 Ma_14 ((r13).toInt64) _ _ g17) (cwV 1 hts gX6_mixBoard_X6_mix rfl rfl rfl kV_X6_mix ⟨Nat.le_trans (Nat.le_of_ble_eq_true rfl) hRf, Nat.le_trans (Nat.le_of_ble_eq_true rfl) hRl⟩) (zpreV hK hP hD hS hE hFc [0, 1, 2, 3, 4, 5, 6, 7, 8, 9, 10, 11, 12, 13, 14, 15, 16, 17, 18, 19, 20, 21, 22] (zC_57 (cI := cI) (cB := cB) (cO := cO)) rfl 0 (ci := 6) rfl rfl [.long (r13).toInt64]) rfl rfl hl.1 rfl (lv_room (Nat.le_of_ble_eq_true rfl)) dX6_mixBoard_41 ⟨Nat.zero_le _, Nat.zero_le _⟩) hS hFc (fun H1 t h1 h2 h3 => zM_57 (cI := cI) (cB := cB) (cO := cO) hP hD h1 h2 h3) (fun H locs hP hD hS => ?_)
    clear hFc
    refine lv_aload_n hx hb dX6_mixBoard_44 rfl (lv_at hl 0 rfl) ?_
    refine lv_aload_n hx hb dX6_mixBoard_45 rfl (lv_at hl 0 rfl) ?_
    obtain ⟨r18, Ma_19, g20, h⟩ := zb2_s h
    have hFc := va_free (wc := (zwM cI cB Mo Mp Ms Mj_16 Ma_14)) hD hS hA [0, 1, 2, 3, 4, 5, 6, 7, 8, 9, 10, 11, 12, 13, 14, 15, 16, 17, 18, 19, 20, 21, 22] (zC_55 (cI := cI) (cB := cB) (cO := cO))
    refine zcm_i (w2 := (zwM cI cB Mo Mp Ms Mj_16 Ma_19)) (va_runV (As := []) (rest := [.ref Mo]) ⟨hx, hb, hml, hown, hts⟩ (c_X6_meanNow l D cI cB cO Mo Mp Ms Mj_16 Ma_14 _ _ _ g20) (cwV 0 hts gX6_mixBoard_X6_meanNow rfl rfl rfl kV_X6_meanNow ⟨Nat.le_trans (Nat.le_of_ble_eq_true rfl) hRf, Nat.le_trans (Nat.le_of_ble_eq_true rfl) hRl⟩) (zpreV hK hP hD hS hE hFc [0, 1, 2, 3, 4, 5, 6, 7, 8, 9, 10, 11, 12, 13, 14, 15, 16, 17, 18, 19, 20, 21, 22] (zC_55 (cI := cI) (cB := cB) (cO := cO)) rfl 0 (ci := 6) rfl rfl []) rfl rfl hl.1 rfl (lv_room (Nat.le_of_ble_eq_true rfl)) dX6_mixBoard_46 ⟨Nat.zero_le _, Nat.zero_le _⟩) hS hFc (fun H1 t h1 h2 h3 => zM_55 (cI := cI) (cB := cB) (cO := cO) hP hD h1 h2 h3) (fun H locs hP hD hS => ?_)
    clear hFc
    refine lv_i2l (v := (r18).toInt64) hx hb dX6_mixBoard_49 rfl ?_
    obtain ⟨Mj_21, g22, h⟩ := zb1_s h
    have hFc := va_free (wc := (zwM cI cB Mo Mp Ms Mj_16 Ma_19)) hD hS hA [0, 1, 2, 3, 4, 5, 6, 7, 8, 9, 10, 11, 12, 13, 14, 15, 16, 17, 18, 19, 20, 21, 22] (zC_57 (cI := cI) (cB := cB) (cO := cO))
    refine zcm_v (w2 := (zwM cI cB Mo Mp Ms Mj_21 Ma_19)) (va_runV (As := [.long (r18).toInt64]) (rest := []) ⟨hx, hb, hml, hown, hts⟩ (c_X6_mix l D cI cB cO Mo Mp Ms Mj_16 Ma_19 ((r18).toInt64) _ _ g22) (cwV 1 hts gX6_mixBoard_X6_mix rfl rfl rfl kV_X6_mix ⟨Nat.le_trans (Nat.le_of_ble_eq_true rfl) hRf, Nat.le_trans (Nat.le_of_ble_eq_true rfl) hRl⟩) (zpreV hK hP hD hS hE hFc [0, 1, 2, 3, 4, 5, 6, 7, 8, 9, 10, 11, 12, 13, 14, 15, 16, 17, 18, 19, 20, 21, 22] (zC_57 (cI := cI) (cB := cB) (cO := cO)) rfl 0 (ci := 6) rfl rfl [.long (r18).toInt64]) rfl rfl hl.1 rfl (lv_room (Nat.le_of_ble_eq_true rfl)) dX6_mixBoard_50 ⟨Nat.zero_le _, Nat.zero_le _⟩) hS hFc (fun H1 t h1 h2 h3 => zM_57 (cI := cI) (cB := cB) (cO := cO) hP hD h1 h2 h3) (fun H locs hP hD hS => ?_)
    clear hFc
    cases zend h
    exact hq hP hD hS dX6_mixBoard_53
  clear h
  refine zi3_ind (P := (fun (x1_2h : Int32) (Mj_2h : Nat → Int64) (Ma_2h : Nat → Nat → Int32) => ∀ (H : Heap) (locs : List Loc) (ls : Array Slot), va_P D vwCl (zwM cI cB Mo Mp Ms Mj_2h Ma_2h) H → va_D A (zwM cI cB Mo Mp Ms Mj_2h Ma_2h) → va_S A s.heap H locs → lv_has ls 2 [(0, .ref Mo), (1, .int x1_2h)] → W p l e R s m args below meth c H locs 0 0 Q (F0 m 2 ls []))) ?_ i23 _ _ _ hP hD hS (lv_sub hl [1, 0] rfl)
  clear i23 hP hD hS hl
  intro x1_2h Mj_2h Ma_2h z2 h zl2 zr2 H locs ls hP hD hS hl
  refine lv_iload_n hx hb dX6_mixBoard_2 rfl (lv_at hl 1 rfl) ?_
  refine lv_bipush (v := (6 : Int32)) hx hb dX6_mixBoard_3 (by decide) ?_
  refine lv_icmp_ge (tgt := 24) hx hb dX6_mixBoard_5 (by decide) (fun c2 => ?_) (fun c2 => ?_)
  · have h := zif_t c2 h
    cases zr2 _ (zend h).symm
    exact KX24 _ _ _ hP hD hS (lv_sub hl [0] rfl)
  · have h := zif_f c2 h
    refine lv_aload_n hx hb dX6_mixBoard_8 rfl (lv_at hl 0 rfl) ?_
    refine lv_aload_n hx hb dX6_mixBoard_9 rfl (lv_at hl 0 rfl) ?_
    refine lv_iload_n hx hb dX6_mixBoard_10 rfl (lv_at hl 1 rfl) ?_
    obtain ⟨r3, Ma_4, g5, h⟩ := zb2_s h
    have hFc := va_free (wc := (zwM cI cB Mo Mp Ms Mj_2h Ma_2h)) hD hS hA [0, 1, 2, 3, 4, 5, 6, 7, 8, 9, 10, 11, 12, 13, 14, 15, 16, 17, 18, 19, 20, 21, 22] (zC_55 (cI := cI) (cB := cB) (cO := cO))
    refine zcm_i (w2 := (zwM cI cB Mo Mp Ms Mj_2h Ma_4)) (va_runV (As := [.int x1_2h]) (rest := [.ref Mo]) ⟨hx, hb, hml, hown, hts⟩ (c_X6_coursesNow l D cI cB cO Mo Mp Ms Mj_2h Ma_2h x1_2h _ _ _ g5) (cwV 1 hts gX6_mixBoard_X6_coursesNow rfl rfl rfl kV_X6_coursesNow ⟨Nat.le_trans (Nat.le_of_ble_eq_true rfl) hRf, Nat.le_trans (Nat.le_of_ble_eq_true rfl) hRl⟩) (zpreV hK hP hD hS hE hFc [0, 1, 2, 3, 4, 5, 6, 7, 8, 9, 10, 11, 12, 13, 14, 15, 16, 17, 18, 19, 20, 21, 22] (zC_55 (cI := cI) (cB := cB) (cO := cO)) rfl 0 (ci := 6) rfl rfl [.int x1_2h]) rfl rfl hl.1 rfl (lv_room (Nat.le_of_ble_eq_true rfl)) dX6_mixBoard_11 ⟨Nat.zero_le _, Nat.zero_le _⟩) hS hFc (fun H1 t h1 h2 h3 => zM_55 (cI := cI) (cB := cB) (cO := cO) hP hD h1 h2 h3) (fun H locs hP hD hS => ?_)
    clear hFc
    refine lv_i2l (v := (r3).toInt64) hx hb dX6_mixBoard_14 rfl ?_
    obtain ⟨Mj_6, g7, h⟩ := zb1_s h
    have hFc := va_free (wc := (zwM cI cB Mo Mp Ms Mj_2h Ma_4)) hD hS hA [0, 1, 2, 3, 4, 5, 6, 7, 8, 9, 10, 11, 12, 13, 14, 15, 16, 17, 18, 19, 20, 21, 22] (zC_57 (cI := cI) (cB := cB) (cO := cO))
    refine zcm_v (w2 := (zwM cI cB Mo Mp Ms Mj_6 Ma_4)) (va_runV (As := [.long (r3).toInt64]) (rest := []) ⟨hx, hb, hml, hown, hts⟩ (c_X6_mix l D cI cB cO Mo Mp Ms Mj_2h Ma_4 ((r3).toInt64) _ _ g7) (cwV 1 hts gX6_mixBoard_X6_mix rfl rfl rfl kV_X6_mix ⟨Nat.le_trans (Nat.le_of_ble_eq_true rfl) hRf, Nat.le_trans (Nat.le_of_ble_eq_true rfl) hRl⟩) (zpreV hK hP hD hS hE hFc [0, 1, 2, 3, 4, 5, 6, 7, 8, 9, 10, 11, 12, 13, 14, 15, 16, 17, 18, 19, 20, 21, 22] (zC_57 (cI := cI) (cB := cB) (cO := cO)) rfl 0 (ci := 6) rfl rfl [.long (r3).toInt64]) rfl rfl hl.1 rfl (lv_room (Nat.le_of_ble_eq_true rfl)) dX6_mixBoard_15 ⟨Nat.zero_le _, Nat.zero_le _⟩) hS hFc (fun H1 t h1 h2 h3 => zM_57 (cI := cI) (cB := cB) (cO := cO) hP hD h1 h2 h3) (fun H locs hP hD hS => ?_)
    clear hFc
    refine lv_iinc (v := (x1_2h + (1 : Int32))) (lv' := [(1, .int (x1_2h + (1 : Int32))), (0, .ref Mo)]) hx hb dX6_mixBoard_18 hl (k := 1) rfl rfl (by decide) rfl (fun ls hl => ?_)
    refine lv_goto (tgt := 2) hx hb dX6_mixBoard_21 (by decide) ?_
    exact zl2 _ _ _ (zend h).symm _ _ _ hP hD hS (lv_sub hl [1, 0] rfl)
set_option maxHeartbeats 4000000 in
set_option maxRecDepth 100000 in
theorem c_X6_digest (l : Launch) (D : va_G) (cI cB cO : ClassId) (Mo : Nat) (Mp : Nat → Nat) (Ms : Nat → Int32) (Mj : Nat → Int64) (Ma : Nat → Nat → Int32)  (rv : Int64) (Mj' : Nat → Int64) (Ma' : Nat → Nat → Int32) (sz : Nat) (h : fX6_digest Ms Mj Ma = some (rv, Mj', Ma')) : Met l yX6_digest wsX6_digest ({ frames := 7, cells := 0, slots := 0, locals := 162 } : Room) (va_Pc [.ref Mo] (zPre D (zTY cI cB cO) (zwM cI cB Mo Mp Ms Mj Ma) sz)) (va_Ql (fun r (_ : Unit) => r = rv) (fun _ => zPost D (zTY cI cB cO) (zwM cI cB Mo Mp Ms Mj' Ma') (va_A (zwM cI cB Mo Mp Ms Mj Ma) sz)) (va_A (zwM cI cB Mo Mp Ms Mj Ma) sz)) 0 0 (va_A (zwM cI cB Mo Mp Ms Mj Ma) sz) := by
  unfold fX6_digest at h
  refine zmet_l (cc := cX6_digest) (maxL := 3) (by decide) rfl (Nat.le_of_ble_eq_true rfl) rfl rfl ?_
  intro p e s m args below meth c R Q A ls hx hb hts hown hml hK hP hD hE hA hS hRf hRl hl hq
  have hown : s.vm.findClass RX6 = some m.cls := hown
  have hl : lv_has ls 3 [(0, .ref Mo)] := hl
  have inX6 : ∀ w ∈ u_ws RX6 TX6 40, w ∈ wsX6_digest := by decide +kernel
  have lk275 : (Cond.fieldLink RX6 275 "PegFieldModel" "h" "J").before args s = true := hts _ (by decide +kernel)
  have lk115 : (Cond.fieldLink RX6 115 "PegFieldModel" "pegs" "I").before args s = true := hts _ (by decide +kernel)
  have lk81 : (Cond.fieldLink RX6 81 "PegFieldModel" "pageLength" "I").before args s = true := hts _ (by decide +kernel)
  have lk25 : (Cond.fieldLink RX6 25 "PegFieldModel" "page" "[B").before args s = true := hts _ (by decide +kernel)
  refine lv_aload_n hx hb dX6_digest_0 rfl (lv_at hl 0 rfl) ?_
  refine lv_ldc2 (v := (1307 : Int64)) hx hb hown (hts (.constantLong RX6 282 (1307)) (by decide +kernel)) dX6_digest_1 ?_
  refine va_put (D := D) (ci := 6) (v := .long (1307 : Int64)) (ty := .long) (C := RX6) (T := TX6) (N := 40) hx hb hts inX6 tyX6 tyX6_ok nmX6 hown hK hP hD hS 0 rfl rfl 39 (by decide) lk275 (fun _ h9 => h9) rfl (by decide +kernel) rfl rfl (Nat.le_of_ble_eq_true rfl) dX6_digest_4 (fun H locs hP hD hS => ?_)
  have hset : ∀ v9 : Int64, (zwM cI cB Mo Mp Ms Mj Ma).set 0 (Mo, .inr (6, ([.int (Ms 0), .int (Ms 1), .int (Ms 2), .int (Ms 3), .int (Ms 4), .ref (Mp 5), .ref (Mp 6), .int (Ms 7), .int (Ms 8), .int (Ms 9), .ref (Mp 10), .ref (Mp 11), .ref (Mp 12), .int (Ms 13), .ref (Mp 14), .int (Ms 15), .int (Ms 16), .ref (Mp 17), .ref (Mp 18), .ref (Mp 19), .ref (Mp 20), .ref (Mp 21), .ref (Mp 22), .ref (Mp 23), .ref (Mp 24), .ref (Mp 25), .ref (Mp 26), .ref (Mp 27), .long (Mj 28), .int (Ms 29), .int (Ms 30), .int (Ms 31), .int (Ms 32), .int (Ms 33), .ref (Mp 34), .ref (Mp 35), .ref (Mp 36), .ref (Mp 37), .ref (Mp 38), .long (Mj 39)] : List Value).set 39 (.long v9))) = (zwM cI cB Mo Mp Ms (va_up Mj 39 v9) Ma) := fun _ => rfl
  obtain ⟨Mj_1, eMj_1, hP, hD⟩ : ∃ y9, y9 = (va_up Mj 39 (1307 : Int64)) ∧ va_P D vwCl (zwM cI cB Mo Mp Ms y9 Ma) H ∧ va_D A (zwM cI cB Mo Mp Ms y9 Ma) := ⟨_, rfl, zsetP (hset _) hP, zsetD (hset _) hD⟩
  have h := zlt_s h eMj_1
  clear hset
  refine lv_iconst (v := (0 : Int32)) hx hb dX6_digest_7 (by decide) ?_
  refine lv_istore_n (lv' := [(1, .int (0 : Int32)), (0, .ref Mo)]) hx hb dX6_digest_8 rfl hl (by decide) rfl (fun ls hl => ?_)
  obtain ⟨Mj_47x9, Ma_47x9, i44, h⟩ := zb2_s h
  have KX47 : ∀ (H : Heap) (locs : List Loc) (ls : Array Slot), va_P D vwCl (zwM cI cB Mo Mp Ms Mj_47x9 Ma_47x9) H → va_D A (zwM cI cB Mo Mp Ms Mj_47x9 Ma_47x9) → va_S A s.heap H locs → lv_has ls 3 [(0, .ref Mo)] → W p l e R s m args below meth c H locs 0 0 Q (F0 m 47 ls []) := by
    intro H locs ls hP hD hS hl
    refine lv_iconst (v := (0 : Int32)) hx hb dX6_digest_47 (by decide) ?_
    refine lv_istore_n (lv' := [(1, .int (0 : Int32)), (0, .ref Mo)]) hx hb dX6_digest_48 rfl hl (by decide) rfl (fun ls hl => ?_)
    obtain ⟨Mj_87x49, Ma_87x49, i43, h⟩ := zb2_s h
    have KX87 : ∀ (H : Heap) (locs : List Loc) (ls : Array Slot), va_P D vwCl (zwM cI cB Mo Mp Ms Mj_87x49 Ma_87x49) H → va_D A (zwM cI cB Mo Mp Ms Mj_87x49 Ma_87x49) → va_S A s.heap H locs → lv_has ls 3 [(0, .ref Mo)] → W p l e R s m args below meth c H locs 0 0 Q (F0 m 87 ls []) := by
      intro H locs ls hP hD hS hl
      refine lv_aload_n hx hb dX6_digest_87 rfl (lv_at hl 0 rfl) ?_
      refine va_get (D := D) (ci := 6) (v := .int (Ms 4)) (C := RX6) (T := TX6) (N := 40) hx hb hts inX6 hown hK hP 0 rfl rfl 4 (by decide) lk115 (fun _ h9 => h9) rfl dX6_digest_88 ?_
      obtain ⟨Mj_98, Ma_98, j38, h⟩ := zb2_s h
      have K98 : ∀ (H : Heap) (locs : List Loc) (ls : Array Slot), va_P D vwCl (zwM cI cB Mo Mp Ms Mj_98 Ma_98) H → va_D A (zwM cI cB Mo Mp Ms Mj_98 Ma_98) → va_S A s.heap H locs → lv_has ls 3 [(0, .ref Mo)] → W p l e R s m args below meth c H locs 0 0 Q (F0 m 98 ls []) := by
        intro H locs ls hP hD hS hl
        refine lv_iconst (v := (0 : Int32)) hx hb dX6_digest_98 (by decide) ?_
        refine lv_istore_n (lv' := [(1, .int (0 : Int32)), (0, .ref Mo)]) hx hb dX6_digest_99 rfl hl (by decide) rfl (fun ls hl => ?_)
        obtain ⟨Mj_125x100, i37, h⟩ := zb1_s h
        have KX125 : ∀ (H : Heap) (locs : List Loc) (ls : Array Slot), va_P D vwCl (zwM cI cB Mo Mp Ms Mj_125x100 Ma_98) H → va_D A (zwM cI cB Mo Mp Ms Mj_125x100 Ma_98) → va_S A s.heap H locs → lv_has ls 3 [(0, .ref Mo)] → W p l e R s m args below meth c H locs 0 0 Q (F0 m 125 ls []) := by
          intro H locs ls hP hD hS hl
          refine lv_iconst (v := (0 : Int32)) hx hb dX6_digest_125 (by decide) ?_
          refine lv_istore_n (lv' := [(1, .int (0 : Int32)), (0, .ref Mo)]) hx hb dX6_digest_126 rfl hl (by decide) rfl (fun ls hl => ?_)
          obtain ⟨Mj_149x127, Ma_149x127, i36, h⟩ := zb2_s h
          have KX149 : ∀ (H : Heap) (locs : List Loc) (ls : Array Slot), va_P D vwCl (zwM cI cB Mo Mp Ms Mj_149x127 Ma_149x127) H → va_D A (zwM cI cB Mo Mp Ms Mj_149x127 Ma_149x127) → va_S A s.heap H locs → lv_has ls 3 [(0, .ref Mo)] → W p l e R s m args below meth c H locs 0 0 Q (F0 m 149 ls []) := by
            intro H locs ls hP hD hS hl
            refine lv_aload_n hx hb dX6_digest_149 rfl (lv_at hl 0 rfl) ?_
            refine va_get (D := D) (ci := 6) (v := .long (Mj_149x127 39)) (C := RX6) (T := TX6) (N := 40) hx hb hts inX6 hown hK hP 0 rfl rfl 39 (by decide) lk275 (fun _ h9 => h9) rfl dX6_digest_150 ?_
            cases zend h
            exact hq hP hD hS dX6_digest_153
          clear h
          refine zi3_ind (P := (fun (x1_127h : Int32) (Mj_127h : Nat → Int64) (Ma_127h : Nat → Nat → Int32) => ∀ (H : Heap) (locs : List Loc) (ls : Array Slot), va_P D vwCl (zwM cI cB Mo Mp Ms Mj_127h Ma_127h) H → va_D A (zwM cI cB Mo Mp Ms Mj_127h Ma_127h) → va_S A s.heap H locs → lv_has ls 3 [(0, .ref Mo), (1, .int x1_127h)] → W p l e R s m args below meth c H locs 0 0 Q (F0 m 127 ls []))) ?_ i36 _ _ _ hP hD hS (lv_sub hl [1, 0] rfl)
          clear i36 hP hD hS hl
          intro x1_127h Mj_127h Ma_127h z127 h zl127 zr127 H locs ls hP hD hS hl
          refine lv_iload_n hx hb dX6_digest_127 rfl (lv_at hl 1 rfl) ?_
          refine lv_bipush (v := (11 : Int32)) hx hb dX6_digest_128 (by decide) ?_
          refine lv_icmp_ge (tgt := 149) hx hb dX6_digest_130 (by decide) (fun c30 => ?_) (fun c30 => ?_)
          · have h := zif_t c30 h
            cases zr127 _ (zend h).symm
            exact KX149 _ _ _ hP hD hS (lv_sub hl [0] rfl)
          · have h := zif_f c30 h
            refine lv_aload_n hx hb dX6_digest_133 rfl (lv_at hl 0 rfl) ?_
            refine lv_aload_n hx hb dX6_digest_134 rfl (lv_at hl 0 rfl) ?_
            refine lv_iload_n hx hb dX6_digest_135 rfl (lv_at hl 1 rfl) ?_
            obtain ⟨r31, Ma_32, g33, h⟩ := zb2_s h
            have hFc := va_free (wc := (zwM cI cB Mo Mp Ms Mj_127h Ma_127h)) hD hS hA [0, 1, 2, 3, 4, 5, 6, 7, 8, 9, 10, 11, 12, 13, 14, 15, 16, 17, 18, 19, 20, 21, 22] (zC_55 (cI := cI) (cB := cB) (cO := cO))
            refine zcm_i (w2 := (zwM cI cB Mo Mp Ms Mj_127h Ma_32)) (va_runV (As := [.int x1_127h]) (rest := [.ref Mo]) ⟨hx, hb, hml, hown, hts⟩ (c_X6_howMany l D cI cB cO Mo Mp Ms Mj_127h Ma_127h x1_127h _ _ _ g33) (cwV 1 hts gX6_digest_X6_howMany rfl rfl rfl kV_X6_howMany ⟨Nat.le_trans (Nat.le_of_ble_eq_true rfl) hRf, Nat.le_trans (Nat.le_of_ble_eq_true rfl) hRl⟩) (zpreV hK hP hD hS hE hFc [0, 1, 2, 3, 4, 5, 6, 7, 8, 9, 10, 11, 12, 13, 14, 15, 16, 17, 18, 19, 20, 21, 22] (zC_55 (cI := cI) (cB := cB) (cO := cO)) rfl 0 (ci := 6) rfl rfl [.int x1_127h]) rfl rfl hl.1 rfl (lv_room (Nat.le_of_ble_eq_true rfl)) dX6_digest_136 ⟨Nat.zero_le _, Nat.zero_le _⟩) hS hFc (fun H1 t h1 h2 h3 => zM_55 (cI := cI) (cB := cB) (cO := cO) hP hD h1 h2 h3) (fun H locs hP hD hS => ?_)
            clear hFc
            refine lv_i2l (v := (r31).toInt64) hx hb dX6_digest_139 rfl ?_
            obtain ⟨Mj_34, g35, h⟩ := zb1_s h
            have hFc := va_free (wc := (zwM cI cB Mo Mp Ms Mj_127h Ma_32)) hD hS hA [0, 1, 2, 3, 4, 5, 6, 7, 8, 9, 10, 11, 12, 13, 14, 15, 16, 17, 18, 19, 20, 21, 22] (zC_57 (cI := cI) (cB := cB) (cO := cO))
            refine zcm_v (w2 := (zwM cI cB Mo Mp Ms Mj_34 Ma_32)) (va_runV (As := [.long (r31).toInt64]) (rest := []) ⟨hx, hb, hml, hown, hts⟩ (c_X6_mix l D cI cB cO Mo Mp Ms Mj_127h Ma_32 ((r31).toInt64) _ _ g35) (cwV 1 hts gX6_digest_X6_mix rfl rfl rfl kV_X6_mix ⟨Nat.le_trans (Nat.le_of_ble_eq_true rfl) hRf, Nat.le_trans (Nat.le_of_ble_eq_true rfl) hRl⟩) (zpreV hK hP hD hS hE hFc [0, 1, 2, 3, 4, 5, 6, 7, 8, 9, 10, 11, 12, 13, 14, 15, 16, 17, 18, 19, 20, 21, 22] (zC_57 (cI := cI) (cB := cB) (cO := cO)) rfl 0 (ci := 6) rfl rfl [.long (r31).toInt64]) rfl rfl hl.1 rfl (lv_room (Nat.le_of_ble_eq_true rfl)) dX6_digest_140 ⟨Nat.zero_le _, Nat.zero_le _⟩) hS hFc (fun H1 t h1 h2 h3 => zM_57 (cI := cI) (cB := cB) (cO := cO) hP hD h1 h2 h3) (fun H locs hP hD hS => ?_)
            clear hFc
            refine lv_iinc (v := (x1_127h + (1 : Int32))) (lv' := [(1, .int (x1_127h + (1 : Int32))), (0, .ref Mo)]) hx hb dX6_digest_143 hl (k := 1) rfl rfl (by decide) rfl (fun ls hl => ?_)
            refine lv_goto (tgt := 127) hx hb dX6_digest_146 (by decide) ?_
            exact zl127 _ _ _ (zend h).symm _ _ _ hP hD hS (lv_sub hl [1, 0] rfl)
        clear h
        refine zi2_ind (P := (fun (x1_100h : Int32) (Mj_100h : Nat → Int64) => ∀ (H : Heap) (locs : List Loc) (ls : Array Slot), va_P D vwCl (zwM cI cB Mo Mp Ms Mj_100h Ma_98) H → va_D A (zwM cI cB Mo Mp Ms Mj_100h Ma_98) → va_S A s.heap H locs → lv_has ls 3 [(0, .ref Mo), (1, .int x1_100h)] → W p l e R s m args below meth c H locs 0 0 Q (F0 m 100 ls []))) ?_ i37 _ _ _ hP hD hS (lv_sub hl [1, 0] rfl)
        clear i37 hP hD hS hl
        intro x1_100h Mj_100h z100 h zl100 zr100 H locs ls hP hD hS hl
        refine lv_iload_n hx hb dX6_digest_100 rfl (lv_at hl 1 rfl) ?_
        refine lv_aload_n hx hb dX6_digest_101 rfl (lv_at hl 0 rfl) ?_
        refine va_get (D := D) (ci := 6) (v := .int (Ms 13)) (C := RX6) (T := TX6) (N := 40) hx hb hts inX6 hown hK hP 0 rfl rfl 13 (by decide) lk81 (fun _ h9 => h9) rfl dX6_digest_102 ?_
        refine lv_icmp_ge (tgt := 125) hx hb dX6_digest_105 (by decide) (fun c25 => ?_) (fun c25 => ?_)
        · have h := zif_t c25 h
          cases zr100 _ (zend h).symm
          exact KX125 _ _ _ hP hD hS (lv_sub hl [0] rfl)
        · have h := zif_f c25 h
          refine lv_aload_n hx hb dX6_digest_108 rfl (lv_at hl 0 rfl) ?_
          refine lv_aload_n hx hb dX6_digest_109 rfl (lv_at hl 0 rfl) ?_
          refine va_get (D := D) (ci := 6) (v := .ref (Mp 14)) (C := RX6) (T := TX6) (N := 40) hx hb hts inX6 hown hK hP 0 rfl rfl 14 (by decide) lk25 (fun _ h9 => h9) rfl dX6_digest_110 ?_
          refine lv_iload_n hx hb dX6_digest_113 rfl (lv_at hl 1 rfl) ?_
          obtain ⟨z26, h⟩ := zck_s h
          refine va_bald hx hb hK hP 6 1 rfl rfl (zin_s z26) dX6_digest_114 ?_
          refine lv_i2l (v := (((Ma_98 14) (x1_100h).toNatClampNeg)).toInt64) hx hb dX6_digest_115 rfl ?_
          obtain ⟨Mj_27, g28, h⟩ := zb1_s h
          have hFc := va_free (wc := (zwM cI cB Mo Mp Ms Mj_100h Ma_98)) hD hS hA [0, 1, 2, 3, 4, 5, 6, 7, 8, 9, 10, 11, 12, 13, 14, 15, 16, 17, 18, 19, 20, 21, 22] (zC_57 (cI := cI) (cB := cB) (cO := cO))
          refine zcm_v (w2 := (zwM cI cB Mo Mp Ms Mj_27 Ma_98)) (va_runV (As := [.long (((Ma_98 14) (x1_100h).toNatClampNeg)).toInt64]) (rest := []) ⟨hx, hb, hml, hown, hts⟩ (c_X6_mix l D cI cB cO Mo Mp Ms Mj_100h Ma_98 ((((Ma_98 14) (x1_100h).toNatClampNeg)).toInt64) _ _ g28) (cwV 1 hts gX6_digest_X6_mix rfl rfl rfl kV_X6_mix ⟨Nat.le_trans (Nat.le_of_ble_eq_true rfl) hRf, Nat.le_trans (Nat.le_of_ble_eq_true rfl) hRl⟩) (zpreV hK hP hD hS hE hFc [0, 1, 2, 3, 4, 5, 6, 7, 8, 9, 10, 11, 12, 13, 14, 15, 16, 17, 18, 19, 20, 21, 22] (zC_57 (cI := cI) (cB := cB) (cO := cO)) rfl 0 (ci := 6) rfl rfl [.long (((Ma_98 14) (x1_100h).toNatClampNeg)).toInt64]) rfl rfl hl.1 rfl (lv_room (Nat.le_of_ble_eq_true rfl)) dX6_digest_116 ⟨Nat.zero_le _, Nat.zero_le _⟩) hS hFc (fun H1 t h1 h2 h3 => zM_57 (cI := cI) (cB := cB) (cO := cO) hP hD h1 h2 h3) (fun H locs hP hD hS => ?_)
          clear hFc
          refine lv_iinc (v := (x1_100h + (1 : Int32))) (lv' := [(1, .int (x1_100h + (1 : Int32))), (0, .ref Mo)]) hx hb dX6_digest_119 hl (k := 1) rfl rfl (by decide) rfl (fun ls hl => ?_)
          refine lv_goto (tgt := 100) hx hb dX6_digest_122 (by decide) ?_
          exact zl100 _ _ (zend h).symm _ _ _ hP hD hS (lv_sub hl [1, 0] rfl)
      clear h
      have h := j38
      clear j38
      refine lv_if_le (tgt := 98) hx hb dX6_digest_91 (by decide) (fun c39 => ?_) (fun c39 => ?_)
      · have h := zif_t c39 h
        cases zend h
        exact K98 _ _ _ hP hD hS (lv_sub hl [0] rfl)
      · have h := zif_f c39 h
        refine lv_aload_n hx hb dX6_digest_94 rfl (lv_at hl 0 rfl) ?_
        obtain ⟨Mj_40, Ma_41, g42, h⟩ := zb2_s h
        have hFc := va_free (wc := (zwM cI cB Mo Mp Ms Mj_87x49 Ma_87x49)) hD hS hA [0, 1, 2, 3, 4, 5, 6, 7, 8, 9, 10, 11, 12, 13, 14, 15, 16, 17, 18, 19, 20, 21, 22] (zC_58 (cI := cI) (cB := cB) (cO := cO))
        refine zcm_v (w2 := (zwM cI cB Mo Mp Ms Mj_40 Ma_41)) (va_runV (As := []) (rest := []) ⟨hx, hb, hml, hown, hts⟩ (c_X6_mixBoard l D cI cB cO Mo Mp Ms Mj_87x49 Ma_87x49 _ _ _ g42) (cwV 0 hts gX6_digest_X6_mixBoard rfl rfl rfl kV_X6_mixBoard ⟨Nat.le_trans (Nat.le_of_ble_eq_true rfl) hRf, Nat.le_trans (Nat.le_of_ble_eq_true rfl) hRl⟩) (zpreV hK hP hD hS hE hFc [0, 1, 2, 3, 4, 5, 6, 7, 8, 9, 10, 11, 12, 13, 14, 15, 16, 17, 18, 19, 20, 21, 22] (zC_58 (cI := cI) (cB := cB) (cO := cO)) rfl 0 (ci := 6) rfl rfl []) rfl rfl hl.1 rfl (lv_room (Nat.le_of_ble_eq_true rfl)) dX6_digest_95 ⟨Nat.zero_le _, Nat.zero_le _⟩) hS hFc (fun H1 t h1 h2 h3 => zM_58 (cI := cI) (cB := cB) (cO := cO) hP hD h1 h2 h3) (fun H locs hP hD hS => ?_)
        clear hFc
        cases zend h
        exact K98 _ _ _ hP hD hS (lv_sub hl [0] rfl)
    clear h
    refine zi3_ind (P := (fun (x1_49h : Int32) (Mj_49h : Nat → Int64) (Ma_49h : Nat → Nat → Int32) => ∀ (H : Heap) (locs : List Loc) (ls : Array Slot), va_P D vwCl (zwM cI cB Mo Mp Ms Mj_49h Ma_49h) H → va_D A (zwM cI cB Mo Mp Ms Mj_49h Ma_49h) → va_S A s.heap H locs → lv_has ls 3 [(0, .ref Mo), (1, .int x1_49h)] → W p l e R s m args below meth c H locs 0 0 Q (F0 m 49 ls []))) ?_ i43 _ _ _ hP hD hS (lv_sub hl [1, 0] rfl)
    clear i43 hP hD hS hl
    intro x1_49h Mj_49h Ma_49h z49 h zl49 zr49 H locs ls hP hD hS hl
    refine lv_iload_n hx hb dX6_digest_49 rfl (lv_at hl 1 rfl) ?_
    refine lv_aload_n hx hb dX6_digest_50 rfl (lv_at hl 0 rfl) ?_
    obtain ⟨r13, g14, h⟩ := zb1_s h
    have hFc := va_free (wc := (zwM cI cB Mo Mp Ms Mj_49h Ma_49h)) hD hS hA [0, 1, 2, 3, 4, 5, 6, 7, 8, 9, 10, 11, 12, 13, 14, 15, 16, 17, 18, 19, 20, 21, 22] (zC_53 (cI := cI) (cB := cB) (cO := cO))
    refine zcp_i (va_runV (As := []) (rest := [.int x1_49h]) ⟨hx, hb, hml, hown, hts⟩ (c_X6_places l D cI cB cO Mo Mp Ms Mj_49h Ma_49h _ _ g14) (cwV 0 hts gX6_digest_X6_places rfl rfl rfl kV_X6_places ⟨Nat.le_trans (Nat.le_of_ble_eq_true rfl) hRf, Nat.le_trans (Nat.le_of_ble_eq_true rfl) hRl⟩) (zpreV hK hP hD hS hE hFc [0, 1, 2, 3, 4, 5, 6, 7, 8, 9, 10, 11, 12, 13, 14, 15, 16, 17, 18, 19, 20, 21, 22] (zC_53 (cI := cI) (cB := cB) (cO := cO)) rfl 0 (ci := 6) rfl rfl []) rfl rfl hl.1 rfl (lv_room (Nat.le_of_ble_eq_true rfl)) dX6_digest_51 ⟨Nat.zero_le _, Nat.zero_le _⟩) hP hD hS hFc [0, 1, 2, 3, 4, 5, 6, 7, 8, 9, 10, 11, 12, 13, 14, 15, 16, 17, 18, 19, 20, 21, 22] (zC_53 (cI := cI) (cB := cB) (cO := cO)) (fun H locs hP hS => ?_)
    clear hFc
    refine lv_icmp_ge (tgt := 87) hx hb dX6_digest_54 (by decide) (fun c15 => ?_) (fun c15 => ?_)
    · have h := zif_t c15 h
      cases zr49 _ (zend h).symm
      exact KX87 _ _ _ hP hD hS (lv_sub hl [0] rfl)
    · have h := zif_f c15 h
      refine lv_iconst (v := (0 : Int32)) hx hb dX6_digest_57 (by decide) ?_
      refine lv_istore_n (lv' := [(2, .int (0 : Int32)), (0, .ref Mo), (1, .int x1_49h)]) hx hb dX6_digest_58 rfl hl (by decide) rfl (fun ls hl => ?_)
      obtain ⟨Mj_81x59, Ma_81x59, i23, h⟩ := zb2_s h
      have KX81 : ∀ (H : Heap) (locs : List Loc) (ls : Array Slot), va_P D vwCl (zwM cI cB Mo Mp Ms Mj_81x59 Ma_81x59) H → va_D A (zwM cI cB Mo Mp Ms Mj_81x59 Ma_81x59) → va_S A s.heap H locs → lv_has ls 3 [(0, .ref Mo), (1, .int x1_49h)] → W p l e R s m args below meth c H locs 0 0 Q (F0 m 81 ls []) := by
        intro H locs ls hP hD hS hl
        refine lv_iinc (v := (x1_49h + (1 : Int32))) (lv' := [(1, .int (x1_49h + (1 : Int32))), (0, .ref Mo)]) hx hb dX6_digest_81 hl (k := 1) rfl rfl (by decide) rfl (fun ls hl => ?_)
        refine lv_goto (tgt := 49) hx hb dX6_digest_84 (by decide) ?_
        exact zl49 _ _ _ (zend h).symm _ _ _ hP hD hS (lv_sub hl [1, 0] rfl)
      clear h
      refine zi3_ind (P := (fun (x2_59h : Int32) (Mj_59h : Nat → Int64) (Ma_59h : Nat → Nat → Int32) => ∀ (H : Heap) (locs : List Loc) (ls : Array Slot), va_P D vwCl (zwM cI cB Mo Mp Ms Mj_59h Ma_59h) H → va_D A (zwM cI cB Mo Mp Ms Mj_59h Ma_59h) → va_S A s.heap H locs → lv_has ls 3 [(0, .ref Mo), (1, .int x1_49h), (2, .int x2_59h)] → W p l e R s m args below meth c H locs 0 0 Q (F0 m 59 ls []))) ?_ i23 _ _ _ hP hD hS (lv_sub hl [1, 2, 0] rfl)
      clear i23 hP hD hS hl
      intro x2_59h Mj_59h Ma_59h z59 h zl59 zr59 H locs ls hP hD hS hl
      refine lv_iload_n hx hb dX6_digest_59 rfl (lv_at hl 2 rfl) ?_
      refine lv_iconst (v := (2 : Int32)) hx hb dX6_digest_60 (by decide) ?_
      refine lv_icmp_ge (tgt := 81) hx hb dX6_digest_61 (by decide) (fun c17 => ?_) (fun c17 => ?_)
      · have h := zif_t c17 h
        cases zr59 _ (zend h).symm
        exact KX81 _ _ _ hP hD hS (lv_sub hl [0, 1] rfl)
      · have h := zif_f c17 h
        refine lv_aload_n hx hb dX6_digest_64 rfl (lv_at hl 0 rfl) ?_
        refine lv_aload_n hx hb dX6_digest_65 rfl (lv_at hl 0 rfl) ?_
        refine lv_iload_n hx hb dX6_digest_66 rfl (lv_at hl 1 rfl) ?_
        refine lv_iload_n hx hb dX6_digest_67 rfl (lv_at hl 2 rfl) ?_
        obtain ⟨r18, Ma_19, g20, h⟩ := zb2_s h
        have hFc := va_free (wc := (zwM cI cB Mo Mp Ms Mj_59h Ma_59h)) hD hS hA [0, 1, 2, 3, 4, 5, 6, 7, 8, 9, 10, 11, 12, 13, 14, 15, 16, 17, 18, 19, 20, 21, 22] (zC_55 (cI := cI) (cB := cB) (cO := cO))
        refine zcm_i (w2 := (zwM cI cB Mo Mp Ms Mj_59h Ma_19)) (va_runV (As := [.int x1_49h, .int x2_59h]) (rest := [.ref Mo]) ⟨hx, hb, hml, hown, hts⟩ (c_X6_placeNow l D cI cB cO Mo Mp Ms Mj_59h Ma_59h x1_49h x2_59h _ _ _ g20) (cwV 2 hts gX6_digest_X6_placeNow rfl rfl rfl kV_X6_placeNow ⟨Nat.le_trans (Nat.le_of_ble_eq_true rfl) hRf, Nat.le_trans (Nat.le_of_ble_eq_true rfl) hRl⟩) (zpreV hK hP hD hS hE hFc [0, 1, 2, 3, 4, 5, 6, 7, 8, 9, 10, 11, 12, 13, 14, 15, 16, 17, 18, 19, 20, 21, 22] (zC_55 (cI := cI) (cB := cB) (cO := cO)) rfl 0 (ci := 6) rfl rfl [.int x1_49h, .int x2_59h]) rfl rfl hl.1 rfl (lv_room (Nat.le_of_ble_eq_true rfl)) dX6_digest_68 ⟨Nat.zero_le _, Nat.zero_le _⟩) hS hFc (fun H1 t h1 h2 h3 => zM_55 (cI := cI) (cB := cB) (cO := cO) hP hD h1 h2 h3) (fun H locs hP hD hS => ?_)
        clear hFc
        refine lv_i2l (v := (r18).toInt64) hx hb dX6_digest_71 rfl ?_
        obtain ⟨Mj_21, g22, h⟩ := zb1_s h
        have hFc := va_free (wc := (zwM cI cB Mo Mp Ms Mj_59h Ma_19)) hD hS hA [0, 1, 2, 3, 4, 5, 6, 7, 8, 9, 10, 11, 12, 13, 14, 15, 16, 17, 18, 19, 20, 21, 22] (zC_57 (cI := cI) (cB := cB) (cO := cO))
        refine zcm_v (w2 := (zwM cI cB Mo Mp Ms Mj_21 Ma_19)) (va_runV (As := [.long (r18).toInt64]) (rest := []) ⟨hx, hb, hml, hown, hts⟩ (c_X6_mix l D cI cB cO Mo Mp Ms Mj_59h Ma_19 ((r18).toInt64) _ _ g22) (cwV 1 hts gX6_digest_X6_mix rfl rfl rfl kV_X6_mix ⟨Nat.le_trans (Nat.le_of_ble_eq_true rfl) hRf, Nat.le_trans (Nat.le_of_ble_eq_true rfl) hRl⟩) (zpreV hK hP hD hS hE hFc [0, 1, 2, 3, 4, 5, 6, 7, 8, 9, 10, 11, 12, 13, 14, 15, 16, 17, 18, 19, 20, 21, 22] (zC_57 (cI := cI) (cB := cB) (cO := cO)) rfl 0 (ci := 6) rfl rfl [.long (r18).toInt64]) rfl rfl hl.1 rfl (lv_room (Nat.le_of_ble_eq_true rfl)) dX6_digest_72 ⟨Nat.zero_le _, Nat.zero_le _⟩) hS hFc (fun H1 t h1 h2 h3 => zM_57 (cI := cI) (cB := cB) (cO := cO) hP hD h1 h2 h3) (fun H locs hP hD hS => ?_)
        clear hFc
        refine lv_iinc (v := (x2_59h + (1 : Int32))) (lv' := [(2, .int (x2_59h + (1 : Int32))), (0, .ref Mo), (1, .int x1_49h)]) hx hb dX6_digest_75 hl (k := 2) rfl rfl (by decide) rfl (fun ls hl => ?_)
        refine lv_goto (tgt := 59) hx hb dX6_digest_78 (by decide) ?_
        exact zl59 _ _ _ (zend h).symm _ _ _ hP hD hS (lv_sub hl [1, 2, 0] rfl)
  clear h
  refine zi3_ind (P := (fun (x1_9h : Int32) (Mj_9h : Nat → Int64) (Ma_9h : Nat → Nat → Int32) => ∀ (H : Heap) (locs : List Loc) (ls : Array Slot), va_P D vwCl (zwM cI cB Mo Mp Ms Mj_9h Ma_9h) H → va_D A (zwM cI cB Mo Mp Ms Mj_9h Ma_9h) → va_S A s.heap H locs → lv_has ls 3 [(0, .ref Mo), (1, .int x1_9h)] → W p l e R s m args below meth c H locs 0 0 Q (F0 m 9 ls []))) ?_ i44 _ _ _ hP hD hS (lv_sub hl [1, 0] rfl)
  clear i44 hP hD hS hl
  intro x1_9h Mj_9h Ma_9h z9 h zl9 zr9 H locs ls hP hD hS hl
  refine lv_iload_n hx hb dX6_digest_9 rfl (lv_at hl 1 rfl) ?_
  refine lv_aload_n hx hb dX6_digest_10 rfl (lv_at hl 0 rfl) ?_
  refine va_get (D := D) (ci := 6) (v := .int (Ms 4)) (C := RX6) (T := TX6) (N := 40) hx hb hts inX6 hown hK hP 0 rfl rfl 4 (by decide) lk115 (fun _ h9 => h9) rfl dX6_digest_11 ?_
  refine lv_icmp_ge (tgt := 47) hx hb dX6_digest_14 (by decide) (fun c3 => ?_) (fun c3 => ?_)
  · have h := zif_t c3 h
    cases zr9 _ (zend h).symm
    exact KX47 _ _ _ hP hD hS (lv_sub hl [0] rfl)
  · have h := zif_f c3 h
    refine lv_iconst (v := (0 : Int32)) hx hb dX6_digest_17 (by decide) ?_
    refine lv_istore_n (lv' := [(2, .int (0 : Int32)), (0, .ref Mo), (1, .int x1_9h)]) hx hb dX6_digest_18 rfl hl (by decide) rfl (fun ls hl => ?_)
    obtain ⟨Mj_41x19, Ma_41x19, i11, h⟩ := zb2_s h
    have KX41 : ∀ (H : Heap) (locs : List Loc) (ls : Array Slot), va_P D vwCl (zwM cI cB Mo Mp Ms Mj_41x19 Ma_41x19) H → va_D A (zwM cI cB Mo Mp Ms Mj_41x19 Ma_41x19) → va_S A s.heap H locs → lv_has ls 3 [(0, .ref Mo), (1, .int x1_9h)] → W p l e R s m args below meth c H locs 0 0 Q (F0 m 41 ls []) := by
      intro H locs ls hP hD hS hl
      refine lv_iinc (v := (x1_9h + (1 : Int32))) (lv' := [(1, .int (x1_9h + (1 : Int32))), (0, .ref Mo)]) hx hb dX6_digest_41 hl (k := 1) rfl rfl (by decide) rfl (fun ls hl => ?_)
      refine lv_goto (tgt := 9) hx hb dX6_digest_44 (by decide) ?_
      exact zl9 _ _ _ (zend h).symm _ _ _ hP hD hS (lv_sub hl [1, 0] rfl)
    clear h
    refine zi3_ind (P := (fun (x2_19h : Int32) (Mj_19h : Nat → Int64) (Ma_19h : Nat → Nat → Int32) => ∀ (H : Heap) (locs : List Loc) (ls : Array Slot), va_P D vwCl (zwM cI cB Mo Mp Ms Mj_19h Ma_19h) H → va_D A (zwM cI cB Mo Mp Ms Mj_19h Ma_19h) → va_S A s.heap H locs → lv_has ls 3 [(0, .ref Mo), (1, .int x1_9h), (2, .int x2_19h)] → W p l e R s m args below meth c H locs 0 0 Q (F0 m 19 ls []))) ?_ i11 _ _ _ hP hD hS (lv_sub hl [1, 2, 0] rfl)
    clear i11 hP hD hS hl
    intro x2_19h Mj_19h Ma_19h z19 h zl19 zr19 H locs ls hP hD hS hl
    refine lv_iload_n hx hb dX6_digest_19 rfl (lv_at hl 2 rfl) ?_
    refine lv_iconst (v := (5 : Int32)) hx hb dX6_digest_20 (by decide) ?_
    refine lv_icmp_ge (tgt := 41) hx hb dX6_digest_21 (by decide) (fun c5 => ?_) (fun c5 => ?_)
    · have h := zif_t c5 h
      cases zr19 _ (zend h).symm
      exact KX41 _ _ _ hP hD hS (lv_sub hl [0, 1] rfl)
    · have h := zif_f c5 h
      refine lv_aload_n hx hb dX6_digest_24 rfl (lv_at hl 0 rfl) ?_
      refine lv_aload_n hx hb dX6_digest_25 rfl (lv_at hl 0 rfl) ?_
      refine lv_iload_n hx hb dX6_digest_26 rfl (lv_at hl 1 rfl) ?_
      refine lv_iload_n hx hb dX6_digest_27 rfl (lv_at hl 2 rfl) ?_
      obtain ⟨r6, Ma_7, g8, h⟩ := zb2_s h
      have hFc := va_free (wc := (zwM cI cB Mo Mp Ms Mj_19h Ma_19h)) hD hS hA [0, 1, 2, 3, 4, 5, 6, 7, 8, 9, 10, 11, 12, 13, 14, 15, 16, 17, 18, 19, 20, 21, 22] (zC_55 (cI := cI) (cB := cB) (cO := cO))
      refine zcm_i (w2 := (zwM cI cB Mo Mp Ms Mj_19h Ma_7)) (va_runV (As := [.int x1_9h, .int x2_19h]) (rest := [.ref Mo]) ⟨hx, hb, hml, hown, hts⟩ (c_X6_pegNow l D cI cB cO Mo Mp Ms Mj_19h Ma_19h x1_9h x2_19h _ _ _ g8) (cwV 2 hts gX6_digest_X6_pegNow rfl rfl rfl kV_X6_pegNow ⟨Nat.le_trans (Nat.le_of_ble_eq_true rfl) hRf, Nat.le_trans (Nat.le_of_ble_eq_true rfl) hRl⟩) (zpreV hK hP hD hS hE hFc [0, 1, 2, 3, 4, 5, 6, 7, 8, 9, 10, 11, 12, 13, 14, 15, 16, 17, 18, 19, 20, 21, 22] (zC_55 (cI := cI) (cB := cB) (cO := cO)) rfl 0 (ci := 6) rfl rfl [.int x1_9h, .int x2_19h]) rfl rfl hl.1 rfl (lv_room (Nat.le_of_ble_eq_true rfl)) dX6_digest_28 ⟨Nat.zero_le _, Nat.zero_le _⟩) hS hFc (fun H1 t h1 h2 h3 => zM_55 (cI := cI) (cB := cB) (cO := cO) hP hD h1 h2 h3) (fun H locs hP hD hS => ?_)
      clear hFc
      refine lv_i2l (v := (r6).toInt64) hx hb dX6_digest_31 rfl ?_
      obtain ⟨Mj_9, g10, h⟩ := zb1_s h
      have hFc := va_free (wc := (zwM cI cB Mo Mp Ms Mj_19h Ma_7)) hD hS hA [0, 1, 2, 3, 4, 5, 6, 7, 8, 9, 10, 11, 12, 13, 14, 15, 16, 17, 18, 19, 20, 21, 22] (zC_57 (cI := cI) (cB := cB) (cO := cO))
      refine zcm_v (w2 := (zwM cI cB Mo Mp Ms Mj_9 Ma_7)) (va_runV (As := [.long (r6).toInt64]) (rest := []) ⟨hx, hb, hml, hown, hts⟩ (c_X6_mix l D cI cB cO Mo Mp Ms Mj_19h Ma_7 ((r6).toInt64) _ _ g10) (cwV 1 hts gX6_digest_X6_mix rfl rfl rfl kV_X6_mix ⟨Nat.le_trans (Nat.le_of_ble_eq_true rfl) hRf, Nat.le_trans (Nat.le_of_ble_eq_true rfl) hRl⟩) (zpreV hK hP hD hS hE hFc [0, 1, 2, 3, 4, 5, 6, 7, 8, 9, 10, 11, 12, 13, 14, 15, 16, 17, 18, 19, 20, 21, 22] (zC_57 (cI := cI) (cB := cB) (cO := cO)) rfl 0 (ci := 6) rfl rfl [.long (r6).toInt64]) rfl rfl hl.1 rfl (lv_room (Nat.le_of_ble_eq_true rfl)) dX6_digest_32 ⟨Nat.zero_le _, Nat.zero_le _⟩) hS hFc (fun H1 t h1 h2 h3 => zM_57 (cI := cI) (cB := cB) (cO := cO) hP hD h1 h2 h3) (fun H locs hP hD hS => ?_)
      clear hFc
      refine lv_iinc (v := (x2_19h + (1 : Int32))) (lv' := [(2, .int (x2_19h + (1 : Int32))), (0, .ref Mo), (1, .int x1_9h)]) hx hb dX6_digest_35 hl (k := 2) rfl rfl (by decide) rfl (fun ls hl => ?_)
      refine lv_goto (tgt := 19) hx hb dX6_digest_38 (by decide) ?_
      exact zl19 _ _ _ (zend h).symm _ _ _ hP hD hS (lv_sub hl [1, 2, 0] rfl)
