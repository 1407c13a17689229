set_option maxHeartbeats 4000000 in
set_option maxRecDepth 100000 in
theorem c_X4_isPeg (l : Launch) (D : va_G) (cI cB cO : ClassId) (So : Nat) (Sp : Nat → Nat) (Sg : Nat) (Ss : Nat → Int32) (Sa : Nat → Nat → Int32) (a0 : Int32) (rv : Int32) (sz : Nat) (h : fX4_isPeg Ss a0 = some rv) : Met l yX4_isPeg wsX4_isPeg ({ frames := 0, cells := 0, slots := 0, locals := 0 } : Room) (va_Pc [.ref So, .int a0] (zPre D (zTY cI cB cO) (zwS cI So Sp Sg Ss Sa) sz)) (va_Qi (fun r (_ : Unit) => r = rv) (fun _ => zPost D (zTY cI cB cO) (zwS cI So Sp Sg Ss Sa) (va_A (zwS cI So Sp Sg Ss Sa) sz)) (va_A (zwS cI So Sp Sg Ss Sa) sz)) 0 0 (va_A (zwS cI So Sp Sg Ss Sa) sz) := by
  unfold fX4_isPeg at h
  refine zmet_z (cc := cX4_isPeg) (maxL := 2) (by decide) rfl (Nat.le_of_ble_eq_true rfl) rfl rfl ?_
  intro p e s m args below meth c R Q A ls hx hb hts hown hml hK hP hD hE hA hS hRf hRl hl hq
  have hown : s.vm.findClass RX4 = some m.cls := hown
  have hl : lv_has ls 2 [(0, .ref So), (1, .int a0)] := hl
  have inX4 : ∀ w ∈ u_ws RX4 TX4 8, w ∈ wsX4_isPeg := by decide +kernel
  have lk29 : (Cond.fieldLink RX4 29 "PegField$State" "pegs" "I").before args s = true := hts _ (by decide +kernel)
  refine lv_iload_n hx hb dX4_isPeg_0 rfl (lv_at hl 1 rfl) ?_
  refine lv_if_lt (tgt := 22) hx hb dX4_isPeg_1 (by decide) (fun c1 => ?_) (fun c1 => ?_)
  · have h := zif_t c1 h
    refine lv_iconst (v := (0 : Int32)) hx hb dX4_isPeg_22 (by decide) ?_
    cases zend h
    exact hq hP hD hS (by decide) dX4_isPeg_23
  · have h := zif_f c1 h
    refine lv_iload_n hx hb dX4_isPeg_4 rfl (lv_at hl 1 rfl) ?_
    refine lv_bipush (v := (8 : Int32)) hx hb dX4_isPeg_5 (by decide) ?_
    refine lv_icmp_ge (tgt := 22) hx hb dX4_isPeg_7 (by decide) (fun c2 => ?_) (fun c2 => ?_)
    · have h := zif_t c2 h
      refine lv_iconst (v := (0 : Int32)) hx hb dX4_isPeg_22 (by decide) ?_
      cases zend h
      exact hq hP hD hS (by decide) dX4_isPeg_23
    · have h := zif_f c2 h
      refine lv_iload_n hx hb dX4_isPeg_10 rfl (lv_at hl 1 rfl) ?_
      refine lv_aload_n hx hb dX4_isPeg_11 rfl (lv_at hl 0 rfl) ?_
      refine va_get (D := D) (ci := 4) (v := .int (Ss 2)) (C := RX4) (T := TX4) (N := 8) hx hb hts inX4 hown hK hP 0 rfl rfl 2 (by decide) lk29 (fun _ h9 => h9) rfl dX4_isPeg_12 ?_
      refine lv_icmp_ge (tgt := 22) hx hb dX4_isPeg_15 (by decide) (fun c3 => ?_) (fun c3 => ?_)
      · have h := zif_t c3 h
        refine lv_iconst (v := (0 : Int32)) hx hb dX4_isPeg_22 (by decide) ?_
        cases zend h
        exact hq hP hD hS (by decide) dX4_isPeg_23
      · have h := zif_f c3 h
        refine lv_iconst (v := (1 : Int32)) hx hb dX4_isPeg_18 (by decide) ?_
        refine lv_goto (tgt := 23) hx hb dX4_isPeg_19 (by decide) ?_
        cases zend h
        exact hq hP hD hS (by decide) dX4_isPeg_23
set_option maxHeartbeats 4000000 in
set_option maxRecDepth 100000 in
theorem c_X4_set (l : Launch) (D : va_G) (cI cB cO : ClassId) (So : Nat) (Sp : Nat → Nat) (Go : Nat) (Gp : Nat → Nat) (Ss : Nat → Int32) (Sa : Nat → Nat → Int32) (Gs : Nat → Int32) (Ga : Nat → Nat → Int32) (a0 : Int32) (a1 : Int32) (Ss' : Nat → Int32) (Sa' : Nat → Nat → Int32) (sz : Nat) (h : fX4_set Ss Sa Gs a0 a1 = some (Ss', Sa')) : Met l yX4_set wsX4_set ({ frames := 1, cells := 0, slots := 0, locals := 21 } : Room) (va_Pc [.ref So, .int a0, .int a1] (zPre D (zTY cI cB cO) (zfSG cI cO So Sp Go Gp Ss Sa Gs Ga) sz)) (va_Qv (fun (_ : Unit) => True) (fun _ => zPost D (zTY cI cB cO) (zfSG cI cO So Sp Go Gp Ss' Sa' Gs Ga) (va_A (zfSG cI cO So Sp Go Gp Ss Sa Gs Ga) sz)) (va_A (zfSG cI cO So Sp Go Gp Ss Sa Gs Ga) sz)) 0 0 (va_A (zfSG cI cO So Sp Go Gp Ss Sa Gs Ga) sz) := by
  unfold fX4_set at h
  refine zmet_v (cc := cX4_set) (maxL := 3) (by decide) rfl (Nat.le_of_ble_eq_true rfl) rfl rfl ?_
  intro p e s m args below meth c R Q A ls hx hb hts hown hml hK hP hD hE hA hS hRf hRl hl hq
  have hown : s.vm.findClass RX4 = some m.cls := hown
  have hl : lv_has ls 3 [(0, .ref So), (1, .int a0), (2, .int a1)] := hl
  have inX4 : ∀ w ∈ u_ws RX4 TX4 8, w ∈ wsX4_set := by decide +kernel
  have lk21 : (Cond.fieldLink RX4 21 "PegField$State" "grid" "LPegField$Grid;").before args s = true := hts _ (by decide +kernel)
  have lk15 : (Cond.fieldLink RX4 15 "PegField$State" "homes" "[I").before args s = true := hts _ (by decide +kernel)
  have lk18 : (Cond.fieldLink RX4 18 "PegField$State" "tenants" "[I").before args s = true := hts _ (by decide +kernel)
  have lk32 : (Cond.fieldLink RX4 32 "PegField$State" "onBoard" "I").before args s = true := hts _ (by decide +kernel)
  refine lv_aload_n hx hb dX4_set_0 rfl (lv_at hl 0 rfl) ?_
  refine lv_iload_n hx hb dX4_set_1 rfl (lv_at hl 1 rfl) ?_
  obtain ⟨r1, g2, h⟩ := zb1_s h
  have hFc := va_free (wc := (zwS cI So Sp Go Ss Sa)) hD hS hA [0, 1, 2, 3] (zC_2 (cI := cI) (cB := cB) (cO := cO))
  refine zcp_i (va_runV (As := [.int a0]) (rest := []) ⟨hx, hb, hml, hown, hts⟩ (c_X4_isPeg l D cI cB cO So Sp Go Ss Sa a0 _ _ g2) (cwV 1 hts gX4_set_X4_isPeg rfl rfl rfl kV_X4_isPeg ⟨Nat.le_trans (Nat.le_of_ble_eq_true rfl) hRf, Nat.le_trans (Nat.le_of_ble_eq_true rfl) hRl⟩) (zpreV hK hP hD hS hE hFc [0, 1, 2, 3] (zC_2 (cI := cI) (cB := cB) (cO := cO)) rfl 0 (ci := 4) rfl rfl [.int a0]) rfl rfl hl.1 rfl (lv_room (Nat.le_of_ble_eq_true rfl)) dX4_set_2 ⟨Nat.zero_le _, Nat.zero_le _⟩) hP hD hS hFc [0, 1, 2, 3] (zC_2 (cI := cI) (cB := cB) (cO := cO)) (fun H locs hP hS => ?_)
  clear hFc
  refine lv_if_eq (tgt := 43) hx hb dX4_set_5 (by decide) (fun c3 => ?_) (fun c3 => ?_)
  · have h := zif_t c3 h
    cases zend h
    exact hq hP hD hS dX4_set_43
  · have h := zif_f c3 h
    refine lv_aload_n hx hb dX4_set_8 rfl (lv_at hl 0 rfl) ?_
    refine va_get (D := D) (ci := 4) (v := .ref Go) (C := RX4) (T := TX4) (N := 8) hx hb hts inX4 hown hK hP 0 rfl rfl 0 (by decide) lk21 (fun _ h9 => h9) rfl dX4_set_9 ?_
    refine lv_iload_n hx hb dX4_set_12 rfl (lv_at hl 2 rfl) ?_
    obtain ⟨r4, g5, h⟩ := zb1_s h
    have hFc := va_free (wc := (zwG cI Go Gp Gs Ga)) hD hS hA [4, 5] (zC_3 (cI := cI) (cB := cB) (cO := cO))
    refine zcp_i (va_runV (As := [.int a1]) (rest := []) ⟨hx, hb, hml, hown, hts⟩ (c_X0_has l D cI cB cO Go Gp Gs Ga a1 _ _ g5) (cwV 1 hts gX4_set_X0_has rfl rfl rfl kV_X0_has ⟨Nat.le_trans (Nat.le_of_ble_eq_true rfl) hRf, Nat.le_trans (Nat.le_of_ble_eq_true rfl) hRl⟩) (zpreV hK hP hD hS hE hFc [4, 5] (zC_3 (cI := cI) (cB := cB) (cO := cO)) rfl 4 (ci := 0) rfl rfl [.int a1]) rfl rfl hl.1 rfl (lv_room (Nat.le_of_ble_eq_true rfl)) dX4_set_13 ⟨Nat.zero_le _, Nat.zero_le _⟩) hP hD hS hFc [4, 5] (zC_3 (cI := cI) (cB := cB) (cO := cO)) (fun H locs hP hS => ?_)
    clear hFc
    refine lv_if_eq (tgt := 43) hx hb dX4_set_16 (by decide) (fun c6 => ?_) (fun c6 => ?_)
    · have h := zif_t c6 h
      cases zend h
      exact hq hP hD hS dX4_set_43
    · have h := zif_f c6 h
      refine lv_aload_n hx hb dX4_set_19 rfl (lv_at hl 0 rfl) ?_
      refine va_get (D := D) (ci := 4) (v := .ref (Sp 6)) (C := RX4) (T := TX4) (N := 8) hx hb hts inX4 hown hK hP 0 rfl rfl 6 (by decide) lk15 (fun _ h9 => h9) rfl dX4_set_20 ?_
      refine lv_iload_n hx hb dX4_set_23 rfl (lv_at hl 1 rfl) ?_
      refine lv_iload_n hx hb dX4_set_24 rfl (lv_at hl 2 rfl) ?_
      obtain ⟨z7, h⟩ := zck_s h
      refine va_iast hx hb hK hP hD hS 2 0 rfl rfl (zin_s z7) dX4_set_25 (fun H locs hP hD hS => ?_)
      have hset : ∀ v9 : Nat → Int32, (zfSG cI cO So Sp Go Gp Ss Sa Gs Ga).set 2 ((Sp 6), .inl (cI, 8, .inl v9)) = (zfSG cI cO So Sp Go Gp Ss (va_up Sa 6 v9) Gs Ga) := fun _ => rfl
      obtain ⟨Sa_8, eSa_8, hP, hD⟩ : ∃ y9, y9 = (va_up Sa 6 (upd (Sa 6) (a0).toNatClampNeg a1)) ∧ va_P D vwCl (zfSG cI cO So Sp Go Gp Ss y9 Gs Ga) H ∧ va_D A (zfSG cI cO So Sp Go Gp Ss y9 Gs Ga) := ⟨_, rfl, zsetP (hset _) hP, zsetD (hset _) hD⟩
      have h := zlt_s h eSa_8
      clear hset
      refine lv_aload_n hx hb dX4_set_26 rfl (lv_at hl 0 rfl) ?_
      refine va_get (D := D) (ci := 4) (v := .ref (Sp 7)) (C := RX4) (T := TX4) (N := 8) hx hb hts inX4 hown hK hP 0 rfl rfl 7 (by decide) lk18 (fun _ h9 => h9) rfl dX4_set_27 ?_
      refine lv_iload_n hx hb dX4_set_30 rfl (lv_at hl 2 rfl) ?_
      refine lv_iload_n hx hb dX4_set_31 rfl (lv_at hl 1 rfl) ?_
      obtain ⟨z9, h⟩ := zck_s h
      refine va_iast hx hb hK hP hD hS 3 0 rfl rfl (zin_s z9) dX4_set_32 (fun H locs hP hD hS => ?_)
      have hset : ∀ v9 : Nat → Int32, (zfSG cI cO So Sp Go Gp Ss Sa_8 Gs Ga).set 3 ((Sp 7), .inl (cI, 12, .inl v9)) = (zfSG cI cO So Sp Go Gp Ss (va_up Sa_8 7 v9) Gs Ga) := fun _ => rfl
      obtain ⟨Sa_10, eSa_10, hP, hD⟩ : ∃ y9, y9 = (va_up Sa_8 7 (upd (Sa_8 7) (a1).toNatClampNeg a0)) ∧ va_P D vwCl (zfSG cI cO So Sp Go Gp Ss y9 Gs Ga) H ∧ va_D A (zfSG cI cO So Sp Go Gp Ss y9 Gs Ga) := ⟨_, rfl, zsetP (hset _) hP, zsetD (hset _) hD⟩
      have h := zlt_s h eSa_10
      clear hset
      refine lv_aload_n hx hb dX4_set_33 rfl (lv_at hl 0 rfl) ?_
      refine lv_dup hx hb dX4_set_34 rfl ?_
      refine va_get (D := D) (ci := 4) (v := .int (Ss 3)) (C := RX4) (T := TX4) (N := 8) hx hb hts inX4 hown hK hP 0 rfl rfl 3 (by decide) lk32 (fun _ h9 => h9) rfl dX4_set_35 ?_
      refine lv_iconst (v := (1 : Int32)) hx hb dX4_set_38 (by decide) ?_
      refine lv_iadd hx hb dX4_set_39 ?_
      refine va_put (D := D) (ci := 4) (v := .int ((Ss 3) + (1 : Int32))) (ty := .int) (C := RX4) (T := TX4) (N := 8) hx hb hts inX4 tyX4 tyX4_ok nmX4 hown hK hP hD hS 0 rfl rfl 3 (by decide) lk32 (fun _ h9 => h9) rfl (by decide +kernel) rfl rfl (Nat.le_of_ble_eq_true rfl) dX4_set_40 (fun H locs hP hD hS => ?_)
      have hset : ∀ v9 : Int32, (zfSG cI cO So Sp Go Gp Ss Sa_10 Gs Ga).set 0 (So, .inr (4, ([.ref Go, .int (Ss 1), .int (Ss 2), .int (Ss 3), .int (Ss 4), .ref (Sp 5), .ref (Sp 6), .ref (Sp 7)] : List Value).set 3 (.int v9))) = (zfSG cI cO So Sp Go Gp (upd Ss 3 v9) Sa_10 Gs Ga) := fun _ => rfl
      obtain ⟨Ss_11, eSs_11, hP, hD⟩ : ∃ y9, y9 = (upd Ss 3 ((Ss 3) + (1 : Int32))) ∧ va_P D vwCl (zfSG cI cO So Sp Go Gp y9 Sa_10 Gs Ga) H ∧ va_D A (zfSG cI cO So Sp Go Gp y9 Sa_10 Gs Ga) := ⟨_, rfl, zsetP (hset _) hP, zsetD (hset _) hD⟩
      have h := zlt_s h eSs_11
      clear hset
      cases zend h
      exact hq hP hD hS dX4_set_43
set_option maxHeartbeats 4000000 in
set_option maxRecDepth 100000 in
theorem c_X4_addPeg (l : Launch) (D : va_G) (cI cB cO : ClassId) (So : Nat) (Sp : Nat → Nat) (Go : Nat) (Gp : Nat → Nat) (Ss : Nat → Int32) (Sa : Nat → Nat → Int32) (Gs : Nat → Int32) (Ga : Nat → Nat → Int32) (a0 : Int32) (a1 : Int32) (Ss' : Nat → Int32) (Sa' : Nat → Nat → Int32) (sz : Nat) (h : fX4_addPeg Ss Sa Gs a0 a1 = some (Ss', Sa')) : Met l yX4_addPeg wsX4_addPeg ({ frames := 2, cells := 0, slots := 0, locals := 43 } : Room) (va_Pc [.ref So, .int a0, .int a1] (zPre D (zTY cI cB cO) (zfSG cI cO So Sp Go Gp Ss Sa Gs Ga) sz)) (va_Qv (fun (_ : Unit) => True) (fun _ => zPost D (zTY cI cB cO) (zfSG cI cO So Sp Go Gp Ss' Sa' Gs Ga) (va_A (zfSG cI cO So Sp Go Gp Ss Sa Gs Ga) sz)) (va_A (zfSG cI cO So Sp Go Gp Ss Sa Gs Ga) sz)) 0 0 (va_A (zfSG cI cO So Sp Go Gp Ss Sa Gs Ga) sz) := by
  unfold fX4_addPeg at h
  refine zmet_v (cc := cX4_addPeg) (maxL := 4) (by decide) rfl (Nat.le_of_ble_eq_true rfl) rfl rfl ?_
  intro p e s m args below meth c R Q A ls hx hb hts hown hml hK hP hD hE hA hS hRf hRl hl hq
  have hown : s.vm.findClass RX4 = some m.cls := hown
  have hl : lv_has ls 4 [(0, .ref So), (1, .int a0), (2, .int a1)] := hl
  have inX4 : ∀ w ∈ u_ws RX4 TX4 8, w ∈ wsX4_addPeg := by decide +kernel
  have lk29 : (Cond.fieldLink RX4 29 "PegField$State" "pegs" "I").before args s = true := hts _ (by decide +kernel)
  have lk9 : (Cond.fieldLink RX4 9 "PegField$State" "kinds" "[I").before args s = true := hts _ (by decide +kernel)
  have lk15 : (Cond.fieldLink RX4 15 "PegField$State" "homes" "[I").before args s = true := hts _ (by decide +kernel)
  refine lv_iload_n hx hb dX4_addPeg_0 rfl (lv_at hl 1 rfl) ?_
  refine lv_iconst (v := (-1 : Int32)) hx hb dX4_addPeg_1 (by decide) ?_
  refine lv_icmp_eq (tgt := 24) hx hb dX4_addPeg_2 (by decide) (fun c1 => ?_) (fun c1 => ?_)
  · have h := zif_t c1 h
    cases zend h
    exact hq hP hD hS dX4_addPeg_24
  · have h := zif_f c1 h
    refine lv_aload_n hx hb dX4_addPeg_5 rfl (lv_at hl 0 rfl) ?_
    refine va_get (D := D) (ci := 4) (v := .int (Ss 2)) (C := RX4) (T := TX4) (N := 8) hx hb hts inX4 hown hK hP 0 rfl rfl 2 (by decide) lk29 (fun _ h9 => h9) rfl dX4_addPeg_6 ?_
    refine lv_if_lt (tgt := 24) hx hb dX4_addPeg_9 (by decide) (fun c2 => ?_) (fun c2 => ?_)
    · have h := zif_t c2 h
      cases zend h
      exact hq hP hD hS dX4_addPeg_24
    · have h := zif_f c2 h
      refine lv_aload_n hx hb dX4_addPeg_12 rfl (lv_at hl 0 rfl) ?_
      refine va_get (D := D) (ci := 4) (v := .int (Ss 2)) (C := RX4) (T := TX4) (N := 8) hx hb hts inX4 hown hK hP 0 rfl rfl 2 (by decide) lk29 (fun _ h9 => h9) rfl dX4_addPeg_13 ?_
      refine lv_aload_n hx hb dX4_addPeg_16 rfl (lv_at hl 0 rfl) ?_
      refine va_get (D := D) (ci := 4) (v := .ref (Sp 5)) (C := RX4) (T := TX4) (N := 8) hx hb hts inX4 hown hK hP 0 rfl rfl 5 (by decide) lk9 (fun _ h9 => h9) rfl dX4_addPeg_17 ?_
      refine va_alen hx hb hK hP 1 0 rfl rfl (v := (8 : Int32)) rfl dX4_addPeg_20 ?_
      refine lv_icmp_lt (tgt := 25) hx hb dX4_addPeg_21 (by decide) (fun c3 => ?_) (fun c3 => ?_)
      · have h := zif_t c3 h
        refine lv_aload_n hx hb dX4_addPeg_25 rfl (lv_at hl 0 rfl) ?_
        refine va_get (D := D) (ci := 4) (v := .int (Ss 2)) (C := RX4) (T := TX4) (N := 8) hx hb hts inX4 hown hK hP 0 rfl rfl 2 (by decide) lk29 (fun _ h9 => h9) rfl dX4_addPeg_26 ?_
        refine lv_topi (fun x3_4 ex3_4 => ?_)
        have h := zlt_s h ex3_4
        refine lv_istore_n (lv' := [(3, .int x3_4), (0, .ref So), (1, .int a0), (2, .int a1)]) hx hb dX4_addPeg_29 rfl hl (by decide) rfl (fun ls hl => ?_)
        refine lv_aload_n hx hb dX4_addPeg_30 rfl (lv_at hl 1 rfl) ?_
        refine lv_dup hx hb dX4_addPeg_31 rfl ?_
        refine va_get (D := D) (ci := 4) (v := .int (Ss 2)) (C := RX4) (T := TX4) (N := 8) hx hb hts inX4 hown hK hP 0 rfl rfl 2 (by decide) lk29 (fun _ h9 => h9) rfl dX4_addPeg_32 ?_
        refine lv_iconst (v := (1 : Int32)) hx hb dX4_addPeg_35 (by decide) ?_
        refine lv_iadd hx hb dX4_addPeg_36 ?_
        refine va_put (D := D) (ci := 4) (v := .int ((Ss 2) + (1 : Int32))) (ty := .int) (C := RX4) (T := TX4) (N := 8) hx hb hts inX4 tyX4 tyX4_ok nmX4 hown hK hP hD hS 0 rfl rfl 2 (by decide) lk29 (fun _ h9 => h9) rfl (by decide +kernel) rfl rfl (Nat.le_of_ble_eq_true rfl) dX4_addPeg_37 (fun H locs hP hD hS => ?_)
        have hset : ∀ v9 : Int32, (zfSG cI cO So Sp Go Gp Ss Sa Gs Ga).set 0 (So, .inr (4, ([.ref Go, .int (Ss 1), .int (Ss 2), .int (Ss 3), .int (Ss 4), .ref (Sp 5), .ref (Sp 6), .ref (Sp 7)] : List Value).set 2 (.int v9))) = (zfSG cI cO So Sp Go Gp (upd Ss 2 v9) Sa Gs Ga) := fun _ => rfl
        obtain ⟨Ss_5, eSs_5, hP, hD⟩ : ∃ y9, y9 = (upd Ss 2 ((Ss 2) + (1 : Int32))) ∧ va_P D vwCl (zfSG cI cO So Sp Go Gp y9 Sa Gs Ga) H ∧ va_D A (zfSG cI cO So Sp Go Gp y9 Sa Gs Ga) := ⟨_, rfl, zsetP (hset _) hP, zsetD (hset _) hD⟩
        have h := zlt_s h eSs_5
        clear hset
        refine lv_aload_n hx hb dX4_addPeg_40 rfl (lv_at hl 1 rfl) ?_
        refine va_get (D := D) (ci := 4) (v := .ref (Sp 5)) (C := RX4) (T := TX4) (N := 8) hx hb hts inX4 hown hK hP 0 rfl rfl 5 (by decide) lk9 (fun _ h9 => h9) rfl dX4_addPeg_41 ?_
        refine lv_iload_n hx hb dX4_addPeg_44 rfl (lv_at hl 0 rfl) ?_
        refine lv_iload_n hx hb dX4_addPeg_45 rfl (lv_at hl 2 rfl) ?_
        obtain ⟨z6, h⟩ := zck_s h
        refine va_iast hx hb hK hP hD hS 1 0 rfl rfl (zin_s z6) dX4_addPeg_46 (fun H locs hP hD hS => ?_)
        have hset : ∀ v9 : Nat → Int32, (zfSG cI cO So Sp Go Gp Ss_5 Sa Gs Ga).set 1 ((Sp 5), .inl (cI, 8, .inl v9)) = (zfSG cI cO So Sp Go Gp Ss_5 (va_up Sa 5 v9) Gs Ga) := fun _ => rfl
        obtain ⟨Sa_7, eSa_7, hP, hD⟩ : ∃ y9, y9 = (va_up Sa 5 (upd (Sa 5) (x3_4).toNatClampNeg a0)) ∧ va_P D vwCl (zfSG cI cO So Sp Go Gp Ss_5 y9 Gs Ga) H ∧ va_D A (zfSG cI cO So Sp Go Gp Ss_5 y9 Gs Ga) := ⟨_, rfl, zsetP (hset _) hP, zsetD (hset _) hD⟩
        have h := zlt_s h eSa_7
        clear hset
        refine lv_aload_n hx hb dX4_addPeg_47 rfl (lv_at hl 1 rfl) ?_
        refine va_get (D := D) (ci := 4) (v := .ref (Sp 6)) (C := RX4) (T := TX4) (N := 8) hx hb hts inX4 hown hK hP 0 rfl rfl 6 (by decide) lk15 (fun _ h9 => h9) rfl dX4_addPeg_48 ?_
        refine lv_iload_n hx hb dX4_addPeg_51 rfl (lv_at hl 0 rfl) ?_
        refine lv_iconst (v := (-1 : Int32)) hx hb dX4_addPeg_52 (by decide) ?_
        obtain ⟨z8, h⟩ := zck_s h
        refine va_iast hx hb hK hP hD hS 2 0 rfl rfl (zin_s z8) dX4_addPeg_53 (fun H locs hP hD hS => ?_)
        have hset : ∀ v9 : Nat → Int32, (zfSG cI cO So Sp Go Gp Ss_5 Sa_7 Gs Ga).set 2 ((Sp 6), .inl (cI, 8, .inl v9)) = (zfSG cI cO So Sp Go Gp Ss_5 (va_up Sa_7 6 v9) Gs Ga) := fun _ => rfl
        obtain ⟨Sa_9, eSa_9, hP, hD⟩ : ∃ y9, y9 = (va_up Sa_7 6 (upd (Sa_7 6) (x3_4).toNatClampNeg (-1 : Int32))) ∧ va_P D vwCl (zfSG cI cO So Sp Go Gp Ss_5 y9 Gs Ga) H ∧ va_D A (zfSG cI cO So Sp Go Gp Ss_5 y9 Gs Ga) := ⟨_, rfl, zsetP (hset _) hP, zsetD (hset _) hD⟩
        have h := zlt_s h eSa_9
        clear hset
        refine lv_aload_n hx hb dX4_addPeg_54 rfl (lv_at hl 1 rfl) ?_
        refine lv_iload_n hx hb dX4_addPeg_55 rfl (lv_at hl 0 rfl) ?_
        refine lv_iload_n hx hb dX4_addPeg_56 rfl (lv_at hl 3 rfl) ?_
        obtain ⟨Ss_10, Sa_11, g12, h⟩ := zb2_s h
        have hFc := va_free (wc := (zfSG cI cO So Sp Go Gp Ss_5 Sa_9 Gs Ga)) hD hS hA [0, 1, 2, 3, 4, 5] (zC_4 (cI := cI) (cB := cB) (cO := cO))
        refine zcm_v (w2 := (zfSG cI cO So Sp Go Gp Ss_10 Sa_11 Gs Ga)) (va_runV (As := [.int x3_4, .int a1]) (rest := []) ⟨hx, hb, hml, hown, hts⟩ (c_X4_set l D cI cB cO So Sp Go Gp Ss_5 Sa_9 Gs Ga x3_4 a1 _ _ _ g12) (cwV 2 hts gX4_addPeg_X4_set rfl rfl rfl kV_X4_set ⟨Nat.le_trans (Nat.le_of_ble_eq_true rfl) hRf, Nat.le_trans (Nat.le_of_ble_eq_true rfl) hRl⟩) (zpreV hK hP hD hS hE hFc [0, 1, 2, 3, 4, 5] (zC_4 (cI := cI) (cB := cB) (cO := cO)) rfl 0 (ci := 4) rfl rfl [.int x3_4, .int a1]) rfl rfl hl.1 rfl (lv_room (Nat.le_of_ble_eq_true rfl)) dX4_addPeg_57 ⟨Nat.zero_le _, Nat.zero_le _⟩) hS hFc (fun H1 t h1 h2 h3 => zM_4 (cI := cI) (cB := cB) (cO := cO) hP hD h1 h2 h3) (fun H locs hP hD hS => ?_)
        clear hFc
        cases zend h
        exact hq hP hD hS dX4_addPeg_60
      · have h := zif_f c3 h
        cases zend h
        exact hq hP hD hS dX4_addPeg_24
set_option maxHeartbeats 4000000 in
set_option maxRecDepth 100000 in
theorem c_X4_read (l : Launch) (D : va_G) (cI cB cO : ClassId) (So : Nat) (Sp : Nat → Nat) (Go : Nat) (Gp : Nat → Nat) (Po : Nat) (Pp : Nat → Nat) (Ss : Nat → Int32) (Sa : Nat → Nat → Int32) (Gs : Nat → Int32) (Ga : Nat → Nat → Int32) (Ps : Nat → Int32) (Pa : Nat → Nat → Int32)  (Ss' : Nat → Int32) (Sa' : Nat → Nat → Int32) (sz : Nat) (h : fX4_read Ss Sa Gs Ps Pa = some (Ss', Sa')) : Met l yX4_read wsX4_read ({ frames := 3, cells := 0, slots := 0, locals := 66 } : Room) (va_Pc [.ref So, .ref Po] (zPre D (zTY cI cB cO) (zfSGP cI cO So Sp Go Gp Po Pp Ss Sa Gs Ga Ps Pa) sz)) (va_Qv (fun (_ : Unit) => True) (fun _ => zPost D (zTY cI cB cO) (zfSGP cI cO So Sp Go Gp Po Pp Ss' Sa' Gs Ga Ps Pa) (va_A (zfSGP cI cO So Sp Go Gp Po Pp Ss Sa Gs Ga Ps Pa) sz)) (va_A (zfSGP cI cO So Sp Go Gp Po Pp Ss Sa Gs Ga Ps Pa) sz)) 0 0 (va_A (zfSGP cI cO So Sp Go Gp Po Pp Ss Sa Gs Ga Ps Pa) sz) := by
  unfold fX4_read at h
  refine zmet_v (cc := cX4_read) (maxL := 3) (by decide) rfl (Nat.le_of_ble_eq_true rfl) rfl rfl ?_
  intro p e s m args below meth c R Q A ls hx hb hts hown hml hK hP hD hE hA hS hRf hRl hl hq
  have hown : s.vm.findClass RX4 = some m.cls := hown
  have hl : lv_has ls 3 [(0, .ref So), (1, .ref Po)] := hl
  have inX4 : ∀ w ∈ u_ws RX4 TX4 8, w ∈ wsX4_read := by decide +kernel
  have lk25 : (Cond.fieldLink RX4 25 "PegField$State" "holes" "I").before args s = true := hts _ (by decide +kernel)
  have lk29 : (Cond.fieldLink RX4 29 "PegField$State" "pegs" "I").before args s = true := hts _ (by decide +kernel)
  have lk32 : (Cond.fieldLink RX4 32 "PegField$State" "onBoard" "I").before args s = true := hts _ (by decide +kernel)
  have lk35 : (Cond.fieldLink RX4 35 "PegField$State" "jumps" "I").before args s = true := hts _ (by decide +kernel)
  have lk18 : (Cond.fieldLink RX4 18 "PegField$State" "tenants" "[I").before args s = true := hts _ (by decide +kernel)
  have lk21 : (Cond.fieldLink RX4 21 "PegField$State" "grid" "LPegField$Grid;").before args s = true := hts _ (by decide +kernel)
  have inX0 : ∀ w ∈ u_ws RX0 TX0 4, w ∈ wsX4_read := by decide +kernel
  have lk38 : (Cond.fieldLinkNest RX4 38 "PegField$Grid" "places" "I" "PegField").before args s = true := hE.2.use (by decide +kernel)
  refine lv_aload_n hx hb dX4_read_0 rfl (lv_at hl 0 rfl) ?_
  refine lv_iconst (v := (0 : Int32)) hx hb dX4_read_1 (by decide) ?_
  refine va_put (D := D) (ci := 4) (v := .int (0 : Int32)) (ty := .int) (C := RX4) (T := TX4) (N := 8) hx hb hts inX4 tyX4 tyX4_ok nmX4 hown hK hP hD hS 0 rfl rfl 1 (by decide) lk25 (fun _ h9 => h9) rfl (by decide +kernel) rfl rfl (Nat.le_of_ble_eq_true rfl) dX4_read_2 (fun H locs hP hD hS => ?_)
  have hset : ∀ v9 : Int32, (zfSGP cI cO So Sp Go Gp Po Pp Ss Sa Gs Ga Ps Pa).set 0 (So, .inr (4, ([.ref Go, .int (Ss 1), .int (Ss 2), .int (Ss 3), .int (Ss 4), .ref (Sp 5), .ref (Sp 6), .ref (Sp 7)] : List Value).set 1 (.int v9))) = (zfSGP cI cO So Sp Go Gp Po Pp (upd Ss 1 v9) Sa Gs Ga Ps Pa) := fun _ => rfl
  obtain ⟨Ss_1, eSs_1, hP, hD⟩ : ∃ y9, y9 = (upd Ss 1 (0 : Int32)) ∧ va_P D vwCl (zfSGP cI cO So Sp Go Gp Po Pp y9 Sa Gs Ga Ps Pa) H ∧ va_D A (zfSGP cI cO So Sp Go Gp Po Pp y9 Sa Gs Ga Ps Pa) := ⟨_, rfl, zsetP (hset _) hP, zsetD (hset _) hD⟩
  have h := zlt_s h eSs_1
  clear hset
  refine lv_aload_n hx hb dX4_read_5 rfl (lv_at hl 0 rfl) ?_
  refine lv_iconst (v := (0 : Int32)) hx hb dX4_read_6 (by decide) ?_
  refine va_put (D := D) (ci := 4) (v := .int (0 : Int32)) (ty := .int) (C := RX4) (T := TX4) (N := 8) hx hb hts inX4 tyX4 tyX4_ok nmX4 hown hK hP hD hS 0 rfl rfl 2 (by decide) lk29 (fun _ h9 => h9) rfl (by decide +kernel) rfl rfl (Nat.le_of_ble_eq_true rfl) dX4_read_7 (fun H locs hP hD hS => ?_)
  have hset : ∀ v9 : Int32, (zfSGP cI cO So Sp Go Gp Po Pp Ss_1 Sa Gs Ga Ps Pa).set 0 (So, .inr (4, ([.ref Go, .int (Ss_1 1), .int (Ss_1 2), .int (Ss_1 3), .int (Ss_1 4), .ref (Sp 5), .ref (Sp 6), .ref (Sp 7)] : List Value).set 2 (.int v9))) = (zfSGP cI cO So Sp Go Gp Po Pp (upd Ss_1 2 v9) Sa Gs Ga Ps Pa) := fun _ => rfl
  obtain ⟨Ss_2, eSs_2, hP, hD⟩ : ∃ y9, y9 = (upd Ss_1 2 (0 : Int32)) ∧ va_P D vwCl (zfSGP cI cO So Sp Go Gp Po Pp y9 Sa Gs Ga Ps Pa) H ∧ va_D A (zfSGP cI cO So Sp Go Gp Po Pp y9 Sa Gs Ga Ps Pa) := ⟨_, rfl, zsetP (hset _) hP, zsetD (hset _) hD⟩
  have h := zlt_s h eSs_2
  clear hset
  refine lv_aload_n hx hb dX4_read_10 rfl (lv_at hl 0 rfl) ?_
  refine lv_iconst (v := (0 : Int32)) hx hb dX4_read_11 (by decide) ?_
  refine va_put (D := D) (ci := 4) (v := .int (0 : Int32)) (ty := .int) (C := RX4) (T := TX4) (N := 8) hx hb hts inX4 tyX4 tyX4_ok nmX4 hown hK hP hD hS 0 rfl rfl 3 (by decide) lk32 (fun _ h9 => h9) rfl (by decide +kernel) rfl rfl (Nat.le_of_ble_eq_true rfl) dX4_read_12 (fun H locs hP hD hS => ?_)
  have hset : ∀ v9 : Int32, (zfSGP cI cO So Sp Go Gp Po Pp Ss_2 Sa Gs Ga Ps Pa).set 0 (So, .inr (4, ([.ref Go, .int (Ss_2 1), .int (Ss_2 2), .int (Ss_2 3), .int (Ss_2 4), .ref (Sp 5), .ref (Sp 6), .ref (Sp 7)] : List Value).set 3 (.int v9))) = (zfSGP cI cO So Sp Go Gp Po Pp (upd Ss_2 3 v9) Sa Gs Ga Ps Pa) := fun _ => rfl
  obtain ⟨Ss_3, eSs_3, hP, hD⟩ : ∃ y9, y9 = (upd Ss_2 3 (0 : Int32)) ∧ va_P D vwCl (zfSGP cI cO So Sp Go Gp Po Pp y9 Sa Gs Ga Ps Pa) H ∧ va_D A (zfSGP cI cO So Sp Go Gp Po Pp y9 Sa Gs Ga Ps Pa) := ⟨_, rfl, zsetP (hset _) hP, zsetD (hset _) hD⟩
  have h := zlt_s h eSs_3
  clear hset
  refine lv_aload_n hx hb dX4_read_15 rfl (lv_at hl 0 rfl) ?_
  refine lv_iconst (v := (0 : Int32)) hx hb dX4_read_16 (by decide) ?_
  refine va_put (D := D) (ci := 4) (v := .int (0 : Int32)) (ty := .int) (C := RX4) (T := TX4) (N := 8) hx hb hts inX4 tyX4 tyX4_ok nmX4 hown hK hP hD hS 0 rfl rfl 4 (by decide) lk35 (fun _ h9 => h9) rfl (by decide +kernel) rfl rfl (Nat.le_of_ble_eq_true rfl) dX4_read_17 (fun H locs hP hD hS => ?_)
  have hset : ∀ v9 : Int32, (zfSGP cI cO So Sp Go Gp Po Pp Ss_3 Sa Gs Ga Ps Pa).set 0 (So, .inr (4, ([.ref Go, .int (Ss_3 1), .int (Ss_3 2), .int (Ss_3 3), .int (Ss_3 4), .ref (Sp 5), .ref (Sp 6), .ref (Sp 7)] : List Value).set 4 (.int v9))) = (zfSGP cI cO So Sp Go Gp Po Pp (upd Ss_3 4 v9) Sa Gs Ga Ps Pa) := fun _ => rfl
  obtain ⟨Ss_4, eSs_4, hP, hD⟩ : ∃ y9, y9 = (upd Ss_3 4 (0 : Int32)) ∧ va_P D vwCl (zfSGP cI cO So Sp Go Gp Po Pp y9 Sa Gs Ga Ps Pa) H ∧ va_D A (zfSGP cI cO So Sp Go Gp Po Pp y9 Sa Gs Ga Ps Pa) := ⟨_, rfl, zsetP (hset _) hP, zsetD (hset _) hD⟩
  have h := zlt_s h eSs_4
  clear hset
  refine lv_iconst (v := (0 : Int32)) hx hb dX4_read_20 (by decide) ?_
  refine lv_istore_n (lv' := [(2, .int (0 : Int32)), (0, .ref So), (1, .ref Po)]) hx hb dX4_read_21 rfl hl (by decide) rfl (fun ls hl => ?_)
  obtain ⟨Ss_88x22, Sa_88x22, i20, h⟩ := zb2_s h
  have KX88 : ∀ (H : Heap) (locs : List Loc) (ls : Array Slot), va_P D vwCl (zfSGP cI cO So Sp Go Gp Po Pp Ss_88x22 Sa_88x22 Gs Ga Ps Pa) H → va_D A (zfSGP cI cO So Sp Go Gp Po Pp Ss_88x22 Sa_88x22 Gs Ga Ps Pa) → va_S A s.heap H locs → lv_has ls 3 [] → W p l e R s m args below meth c H locs 0 0 Q (F0 m 88 ls []) := by
    intro H locs ls hP hD hS hl
    cases zend h
    exact hq hP hD hS dX4_read_88
  clear h
  refine zi3_ind (P := (fun (x2_22h : Int32) (Ss_22h : Nat → Int32) (Sa_22h : Nat → Nat → Int32) => ∀ (H : Heap) (locs : List Loc) (ls : Array Slot), va_P D vwCl (zfSGP cI cO So Sp Go Gp Po Pp Ss_22h Sa_22h Gs Ga Ps Pa) H → va_D A (zfSGP cI cO So Sp Go Gp Po Pp Ss_22h Sa_22h Gs Ga Ps Pa) → va_S A s.heap H locs → lv_has ls 3 [(0, .ref So), (1, .ref Po), (2, .int x2_22h)] → W p l e R s m args below meth c H locs 0 0 Q (F0 m 22 ls []))) ?_ i20 _ _ _ hP hD hS (lv_sub hl [1, 2, 0] rfl)
  clear i20 hP hD hS hl
  intro x2_22h Ss_22h Sa_22h z22 h zl22 zr22 H locs ls hP hD hS hl
  refine lv_iload_n hx hb dX4_read_22 rfl (lv_at hl 2 rfl) ?_
  refine lv_bipush (v := (12 : Int32)) hx hb dX4_read_23 (by decide) ?_
  refine lv_icmp_ge (tgt := 88) hx hb dX4_read_25 (by decide) (fun c6 => ?_) (fun c6 => ?_)
  · have h := zif_t c6 h
    cases zr22 _ (zend h).symm
    exact KX88 _ _ _ hP hD hS (lv_sub hl [] rfl)
  · have h := zif_f c6 h
    refine lv_aload_n hx hb dX4_read_28 rfl (lv_at hl 0 rfl) ?_
    refine va_get (D := D) (ci := 4) (v := .ref (Sp 7)) (C := RX4) (T := TX4) (N := 8) hx hb hts inX4 hown hK hP 0 rfl rfl 7 (by decide) lk18 (fun _ h9 => h9) rfl dX4_read_29 ?_
    refine lv_iload_n hx hb dX4_read_32 rfl (lv_at hl 2 rfl) ?_
    refine lv_iconst (v := (-1 : Int32)) hx hb dX4_read_33 (by decide) ?_
    obtain ⟨z7, h⟩ := zck_s h
    refine va_iast hx hb hK hP hD hS 3 0 rfl rfl (zin_s z7) dX4_read_34 (fun H locs hP hD hS => ?_)
    have hset : ∀ v9 : Nat → Int32, (zfSGP cI cO So Sp Go Gp Po Pp Ss_22h Sa_22h Gs Ga Ps Pa).set 3 ((Sp 7), .inl (cI, 12, .inl v9)) = (zfSGP cI cO So Sp Go Gp Po Pp Ss_22h (va_up Sa_22h 7 v9) Gs Ga Ps Pa) := fun _ => rfl
    obtain ⟨Sa_8, eSa_8, hP, hD⟩ : ∃ y9, y9 = (va_up Sa_22h 7 (upd (Sa_22h 7) (x2_22h).toNatClampNeg (-1 : Int32))) ∧ va_P D vwCl (zfSGP cI cO So Sp Go Gp Po Pp Ss_22h y9 Gs Ga Ps Pa) H ∧ va_D A (zfSGP cI cO So Sp Go Gp Po Pp Ss_22h y9 Gs Ga Ps Pa) := ⟨_, rfl, zsetP (hset _) hP, zsetD (hset _) hD⟩
    have h := zlt_s h eSa_8
    clear hset
    refine lv_iload_n hx hb dX4_read_35 rfl (lv_at hl 2 rfl) ?_
    refine lv_aload_n hx hb dX4_read_36 rfl (lv_at hl 0 rfl) ?_
    refine va_get (D := D) (ci := 4) (v := .ref Go) (C := RX4) (T := TX4) (N := 8) hx hb hts inX4 hown hK hP 0 rfl rfl 0 (by decide) lk21 (fun _ h9 => h9) rfl dX4_read_37 ?_
    refine va_getN (D := D) (ci := 0) (v := .int (Gs 2)) (C := RX0) (T := TX0) (N := 4) hx hb hts inX0 hown hK hP 4 rfl rfl 2 (by decide) lk38 (fun _ h9 => h9) rfl dX4_read_40 ?_
    obtain ⟨Ss_82, Sa_82, j9, h⟩ := zb2_s h
    have K82 : ∀ (H : Heap) (locs : List Loc) (ls : Array Slot), va_P D vwCl (zfSGP cI cO So Sp Go Gp Po Pp Ss_82 Sa_82 Gs Ga Ps Pa) H → va_D A (zfSGP cI cO So Sp Go Gp Po Pp Ss_82 Sa_82 Gs Ga Ps Pa) → va_S A s.heap H locs → lv_has ls 3 [(0, .ref So), (1, .ref Po), (2, .int x2_22h)] → W p l e R s m args below meth c H locs 0 0 Q (F0 m 82 ls []) := by
      intro H locs ls hP hD hS hl
      refine lv_iinc (v := (x2_22h + (1 : Int32))) (lv' := [(2, .int (x2_22h + (1 : Int32))), (0, .ref So), (1, .ref Po)]) hx hb dX4_read_82 hl (k := 2) rfl rfl (by decide) rfl (fun ls hl => ?_)
      refine lv_goto (tgt := 22) hx hb dX4_read_85 (by decide) ?_
      exact zl22 _ _ _ (zend h).symm _ _ _ hP hD hS (lv_sub hl [1, 2, 0] rfl)
    clear h
    have h := j9
    clear j9
    refine lv_icmp_ge (tgt := 82) hx hb dX4_read_43 (by decide) (fun c10 => ?_) (fun c10 => ?_)
    · have h := zif_t c10 h
      cases zend h
      exact K82 _ _ _ hP hD hS (lv_sub hl [0, 1, 2] rfl)
    · have h := zif_f c10 h
      refine lv_aload_n hx hb dX4_read_46 rfl (lv_at hl 1 rfl) ?_
      refine lv_iconst (v := (3 : Int32)) hx hb dX4_read_47 (by decide) ?_
      refine lv_iload_n hx hb dX4_read_48 rfl (lv_at hl 2 rfl) ?_
      refine lv_iadd hx hb dX4_read_49 ?_
      obtain ⟨r11, g12, h⟩ := zb1_s h
      have hFc := va_free (wc := (zwP cI Po Pp Ps Pa)) hD hS hA [6, 7] (zC_5 (cI := cI) (cB := cB) (cO := cO))
      refine zcp_i (va_runV (As := [.int ((3 : Int32) + x2_22h)]) (rest := []) ⟨hx, hb, hml, hown, hts⟩ (c_X2_codeAt l D cI cB cO Po Pp Ps Pa ((3 : Int32) + x2_22h) _ _ g12) (cwV 1 hts gX4_read_X2_codeAt rfl rfl rfl kV_X2_codeAt ⟨Nat.le_trans (Nat.le_of_ble_eq_true rfl) hRf, Nat.le_trans (Nat.le_of_ble_eq_true rfl) hRl⟩) (zpreV hK hP hD hS hE hFc [6, 7] (zC_5 (cI := cI) (cB := cB) (cO := cO)) rfl 6 (ci := 2) rfl rfl [.int ((3 : Int32) + x2_22h)]) rfl rfl hl.1 rfl (lv_room (Nat.le_of_ble_eq_true rfl)) dX4_read_50 ⟨Nat.zero_le _, Nat.zero_le _⟩) hP hD hS hFc [6, 7] (zC_5 (cI := cI) (cB := cB) (cO := cO)) (fun H locs hP hS => ?_)
      clear hFc
      refine lv_bipush (v := (35 : Int32)) hx hb dX4_read_53 (by decide) ?_
      refine lv_icmp_eq (tgt := 82) hx hb dX4_read_55 (by decide) (fun c13 => ?_) (fun c13 => ?_)
      · have h := zif_t c13 h
        cases zend h
        exact K82 _ _ _ hP hD hS (lv_sub hl [0, 1, 2] rfl)
      · have h := zif_f c13 h
        refine lv_aload_n hx hb dX4_read_58 rfl (lv_at hl 0 rfl) ?_
        refine lv_dup hx hb dX4_read_59 rfl ?_
        refine va_get (D := D) (ci := 4) (v := .int (Ss_22h 1)) (C := RX4) (T := TX4) (N := 8) hx hb hts inX4 hown hK hP 0 rfl rfl 1 (by decide) lk25 (fun _ h9 => h9) rfl dX4_read_60 ?_
        refine lv_iconst (v := (1 : Int32)) hx hb dX4_read_63 (by decide) ?_
        refine lv_iload_n hx hb dX4_read_64 rfl (lv_at hl 2 rfl) ?_
        refine lv_ishl hx hb dX4_read_65 ?_
        refine lv_ior hx hb dX4_read_66 ?_
        refine va_put (D := D) (ci := 4) (v := .int ((Ss_22h 1) ||| ((1 : Int32) <<< (x2_22h &&& 31)))) (ty := .int) (C := RX4) (T := TX4) (N := 8) hx hb hts inX4 tyX4 tyX4_ok nmX4 hown hK hP hD hS 0 rfl rfl 1 (by decide) lk25 (fun _ h9 => h9) rfl (by decide +kernel) rfl rfl (Nat.le_of_ble_eq_true rfl) dX4_read_67 (fun H locs hP hD hS => ?_)
        have hset : ∀ v9 : Int32, (zfSGP cI cO So Sp Go Gp Po Pp Ss_22h Sa_8 Gs Ga Ps Pa).set 0 (So, .inr (4, ([.ref Go, .int (Ss_22h 1), .int (Ss_22h 2), .int (Ss_22h 3), .int (Ss_22h 4), .ref (Sp 5), .ref (Sp 6), .ref (Sp 7)] : List Value).set 1 (.int v9))) = (zfSGP cI cO So Sp Go Gp Po Pp (upd Ss_22h 1 v9) Sa_8 Gs Ga Ps Pa) := fun _ => rfl
        obtain ⟨Ss_14, eSs_14, hP, hD⟩ : ∃ y9, y9 = (upd Ss_22h 1 ((Ss_22h 1) ||| ((1 : Int32) <<< (x2_22h &&& 31)))) ∧ va_P D vwCl (zfSGP cI cO So Sp Go Gp Po Pp y9 Sa_8 Gs Ga Ps Pa) H ∧ va_D A (zfSGP cI cO So Sp Go Gp Po Pp y9 Sa_8 Gs Ga Ps Pa) := ⟨_, rfl, zsetP (hset _) hP, zsetD (hset _) hD⟩
        have h := zlt_s h eSs_14
        clear hset
        refine lv_aload_n hx hb dX4_read_70 rfl (lv_at hl 0 rfl) ?_
        refine lv_aload_n hx hb dX4_read_71 rfl (lv_at hl 1 rfl) ?_
        refine lv_iconst (v := (3 : Int32)) hx hb dX4_read_72 (by decide) ?_
        refine lv_iload_n hx hb dX4_read_73 rfl (lv_at hl 2 rfl) ?_
        refine lv_iadd hx hb dX4_read_74 ?_
        obtain ⟨r15, g16, h⟩ := zb1_s h
        have hFc := va_free (wc := (zwP cI Po Pp Ps Pa)) hD hS hA [6, 7] (zC_5 (cI := cI) (cB := cB) (cO := cO))
        refine zcp_i (va_runV (As := [.int ((3 : Int32) + x2_22h)]) (rest := [.ref So]) ⟨hx, hb, hml, hown, hts⟩ (c_X2_kindAt l D cI cB cO Po Pp Ps Pa ((3 : Int32) + x2_22h) _ _ g16) (cwV 1 hts gX4_read_X2_kindAt rfl rfl rfl kV_X2_kindAt ⟨Nat.le_trans (Nat.le_of_ble_eq_true rfl) hRf, Nat.le_trans (Nat.le_of_ble_eq_true rfl) hRl⟩) (zpreV hK hP hD hS hE hFc [6, 7] (zC_5 (cI := cI) (cB := cB) (cO := cO)) rfl 6 (ci := 2) rfl rfl [.int ((3 : Int32) + x2_22h)]) rfl rfl hl.1 rfl (lv_room (Nat.le_of_ble_eq_true rfl)) dX4_read_75 ⟨Nat.zero_le _, Nat.zero_le _⟩) hP hD hS hFc [6, 7] (zC_5 (cI := cI) (cB := cB) (cO := cO)) (fun H locs hP hS => ?_)
        clear hFc
        refine lv_iload_n hx hb dX4_read_78 rfl (lv_at hl 2 rfl) ?_
        obtain ⟨Ss_17, Sa_18, g19, h⟩ := zb2_s h
        have hFc := va_free (wc := (zfSG cI cO So Sp Go Gp Ss_14 Sa_8 Gs Ga)) hD hS hA [0, 1, 2, 3, 4, 5] (zC_6 (cI := cI) (cB := cB) (cO := cO))
        refine zcm_v (w2 := (zfSGP cI cO So Sp Go Gp Po Pp Ss_17 Sa_18 Gs Ga Ps Pa)) (va_runV (As := [.int r15, .int x2_22h]) (rest := []) ⟨hx, hb, hml, hown, hts⟩ (c_X4_addPeg l D cI cB cO So Sp Go Gp Ss_14 Sa_8 Gs Ga r15 x2_22h _ _ _ g19) (cwV 2 hts gX4_read_X4_addPeg rfl rfl rfl kV_X4_addPeg ⟨Nat.le_trans (Nat.le_of_ble_eq_true rfl) hRf, Nat.le_trans (Nat.le_of_ble_eq_true rfl) hRl⟩) (zpreV hK hP hD hS hE hFc [0, 1, 2, 3, 4, 5] (zC_6 (cI := cI) (cB := cB) (cO := cO)) rfl 0 (ci := 4) rfl rfl [.int r15, .int x2_22h]) rfl rfl hl.1 rfl (lv_room (Nat.le_of_ble_eq_true rfl)) dX4_read_79 ⟨Nat.zero_le _, Nat.zero_le _⟩) hS hFc (fun H1 t h1 h2 h3 => zM_6 (cI := cI) (cB := cB) (cO := cO) hP hD h1 h2 h3) (fun H locs hP hD hS => ?_)
        clear hFc
        cases zend h
        exact K82 _ _ _ hP hD hS (lv_sub hl [0, 1, 2] rfl)
set_option maxHeartbeats 4000000 in
set_option maxRecDepth 100000 in
theorem c_X4_addPlain (l : Launch) (D : va_G) (cI cB cO : ClassId) (So : Nat) (Sp : Nat → Nat) (Go : Nat) (Gp : Nat → Nat) (Ss : Nat → Int32) (Sa : Nat → Nat → Int32) (Gs : Nat → Int32) (Ga : Nat → Nat → Int32) (a0 : Int32) (Ss' : Nat → Int32) (Sa' : Nat → Nat → Int32) (sz : Nat) (h : fX4_addPlain Ss Sa Gs a0 = some (Ss', Sa')) : Met l yX4_addPlain wsX4_addPlain ({ frames := 3, cells := 0, slots := 0, locals := 66 } : Room) (va_Pc [.ref So, .int a0] (zPre D (zTY cI cB cO) (zfSG cI cO So Sp Go Gp Ss Sa Gs Ga) sz)) (va_Qv (fun (_ : Unit) => True) (fun _ => zPost D (zTY cI cB cO) (zfSG cI cO So Sp Go Gp Ss' Sa' Gs Ga) (va_A (zfSG cI cO So Sp Go Gp Ss Sa Gs Ga) sz)) (va_A (zfSG cI cO So Sp Go Gp Ss Sa Gs Ga) sz)) 0 0 (va_A (zfSG cI cO So Sp Go Gp Ss Sa Gs Ga) sz) := by
  unfold fX4_addPlain at h
  refine zmet_v (cc := cX4_addPlain) (maxL := 2) (by decide) rfl (Nat.le_of_ble_eq_true rfl) rfl rfl ?_
  intro p e s m args below meth c R Q A ls hx hb hts hown hml hK hP hD hE hA hS hRf hRl hl hq
  have hown : s.vm.findClass RX4 = some m.cls := hown
  have hl : lv_has ls 2 [(0, .ref So), (1, .int a0)] := hl
  refine lv_aload_n hx hb dX4_addPlain_0 rfl (lv_at hl 0 rfl) ?_
  refine lv_iconst (v := (0 : Int32)) hx hb dX4_addPlain_1 (by decide) ?_
  refine lv_iload_n hx hb dX4_addPlain_2 rfl (lv_at hl 1 rfl) ?_
  obtain ⟨Ss_1, Sa_2, g3, h⟩ := zb2_s h
  have hFc := va_free (wc := (zfSG cI cO So Sp Go Gp Ss Sa Gs Ga)) hD hS hA [0, 1, 2, 3, 4, 5] (zC_4 (cI := cI) (cB := cB) (cO := cO))
  refine zcm_v (w2 := (zfSG cI cO So Sp Go Gp Ss_1 Sa_2 Gs Ga)) (va_runV (As := [.int (0 : Int32), .int a0]) (rest := []) ⟨hx, hb, hml, hown, hts⟩ (c_X4_addPeg l D cI cB cO So Sp Go Gp Ss Sa Gs Ga (0 : Int32) a0 _ _ _ g3) (cwV 2 hts gX4_addPlain_X4_addPeg rfl rfl rfl kV_X4_addPeg ⟨Nat.le_trans (Nat.le_of_ble_eq_true rfl) hRf, Nat.le_trans (Nat.le_of_ble_eq_true rfl) hRl⟩) (zpreV hK hP hD hS hE hFc [0, 1, 2, 3, 4, 5] (zC_4 (cI := cI) (cB := cB) (cO := cO)) rfl 0 (ci := 4) rfl rfl [.int (0 : Int32), .int a0]) rfl rfl hl.1 rfl (lv_room (Nat.le_of_ble_eq_true rfl)) dX4_addPlain_3 ⟨Nat.zero_le _, Nat.zero_le _⟩) hS hFc (fun H1 t h1 h2 h3 => zM_4 (cI := cI) (cB := cB) (cO := cO) hP hD h1 h2 h3) (fun H locs hP hD hS => ?_)
  clear hFc
  cases zend h
  exact hq hP hD hS dX4_addPlain_6
set_option maxHeartbeats 4000000 in
set_option maxRecDepth 100000 in
theorem c_X4_copyFrom (l : Launch) (D : va_G) (cI cB cO : ClassId) (So : Nat) (Sp : Nat → Nat) (Sg : Nat) (Uo : Nat) (Up : Nat → Nat) (Ss : Nat → Int32) (Sa : Nat → Nat → Int32) (Us : Nat → Int32) (Ua : Nat → Nat → Int32)  (Ss' : Nat → Int32) (Sa' : Nat → Nat → Int32) (sz : Nat) (h : fX4_copyFrom Ss Sa Us Ua = some (Ss', Sa')) : Met l yX4_copyFrom wsX4_copyFrom ({ frames := 0, cells := 0, slots := 0, locals := 0 } : Room) (va_Pc [.ref So, .ref Uo] (zPre D (zTY cI cB cO) (zfSS cI cO So Sp Sg Uo Up Ss Sa Us Ua) sz)) (va_Qv (fun (_ : Unit) => True) (fun _ => zPost D (zTY cI cB cO) (zfSS cI cO So Sp Sg Uo Up Ss' Sa' Us Ua) (va_A (zfSS cI cO So Sp Sg Uo Up Ss Sa Us Ua) sz)) (va_A (zfSS cI cO So Sp Sg Uo Up Ss Sa Us Ua) sz)) 0 0 (va_A (zfSS cI cO So Sp Sg Uo Up Ss Sa Us Ua) sz) := by
  unfold fX4_copyFrom at h
  refine zmet_v (cc := cX4_copyFrom) (maxL := 3) (by decide) rfl (Nat.le_of_ble_eq_true rfl) rfl rfl ?_
  intro p e s m args below meth c R Q A ls hx hb hts hown hml hK hP hD hE hA hS hRf hRl hl hq
  have hown : s.vm.findClass RX4 = some m.cls := hown
  have hl : lv_has ls 3 [(0, .ref So), (1, .ref Uo)] := hl
  have inX4 : ∀ w ∈ u_ws RX4 TX4 8, w ∈ wsX4_copyFrom := by decide +kernel
  have lk25 : (Cond.fieldLink RX4 25 "PegField$State" "holes" "I").before args s = true := hts _ (by decide +kernel)
  have lk29 : (Cond.fieldLink RX4 29 "PegField$State" "pegs" "I").before args s = true := hts _ (by decide +kernel)
  have lk32 : (Cond.fieldLink RX4 32 "PegField$State" "onBoard" "I").before args s = true := hts _ (by decide +kernel)
  have lk35 : (Cond.fieldLink RX4 35 "PegField$State" "jumps" "I").before args s = true := hts _ (by decide +kernel)
  have lk9 : (Cond.fieldLink RX4 9 "PegField$State" "kinds" "[I").before args s = true := hts _ (by decide +kernel)
  have lk15 : (Cond.fieldLink RX4 15 "PegField$State" "homes" "[I").before args s = true := hts _ (by decide +kernel)
  have lk18 : (Cond.fieldLink RX4 18 "PegField$State" "tenants" "[I").before args s = true := hts _ (by decide +kernel)
  refine lv_aload_n hx hb dX4_copyFrom_0 rfl (lv_at hl 0 rfl) ?_
  refine lv_aload_n hx hb dX4_copyFrom_1 rfl (lv_at hl 1 rfl) ?_
  refine va_get (D := D) (ci := 4) (v := .int (Us 1)) (C := RX4) (T := TX4) (N := 8) hx hb hts inX4 hown hK hP 4 rfl rfl 1 (by decide) lk25 (fun _ h9 => h9) rfl dX4_copyFrom_2 ?_
  refine va_put (D := D) (ci := 4) (v := .int (Us 1)) (ty := .int) (C := RX4) (T := TX4) (N := 8) hx hb hts inX4 tyX4 tyX4_ok nmX4 hown hK hP hD hS 0 rfl rfl 1 (by decide) lk25 (fun _ h9 => h9) rfl (by decide +kernel) rfl rfl (Nat.le_of_ble_eq_true rfl) dX4_copyFrom_5 (fun H locs hP hD hS => ?_)
  have hset : ∀ v9 : Int32, (zfSS cI cO So Sp Sg Uo Up Ss Sa Us Ua).set 0 (So, .inr (4, ([.ref Sg, .int (Ss 1), .int (Ss 2), .int (Ss 3), .int (Ss 4), .ref (Sp 5), .ref (Sp 6), .ref (Sp 7)] : List Value).set 1 (.int v9))) = (zfSS cI cO So Sp Sg Uo Up (upd Ss 1 v9) Sa Us Ua) := fun _ => rfl
  obtain ⟨Ss_1, eSs_1, hP, hD⟩ : ∃ y9, y9 = (upd Ss 1 (Us 1)) ∧ va_P D vwCl (zfSS cI cO So Sp Sg Uo Up y9 Sa Us Ua) H ∧ va_D A (zfSS cI cO So Sp Sg Uo Up y9 Sa Us Ua) := ⟨_, rfl, zsetP (hset _) hP, zsetD (hset _) hD⟩
  have h := zlt_s h eSs_1
  clear hset
  refine lv_aload_n hx hb dX4_copyFrom_8 rfl (lv_at hl 0 rfl) ?_
  refine lv_aload_n hx hb dX4_copyFrom_9 rfl (lv_at hl 1 rfl) ?_
  refine va_get (D := D) (ci := 4) (v := .int (Us 2)) (C := RX4) (T := TX4) (N := 8) hx hb hts inX4 hown hK hP 4 rfl rfl 2 (by decide) lk29 (fun _ h9 => h9) rfl dX4_copyFrom_10 ?_
  refine va_put (D := D) (ci := 4) (v := .int (Us 2)) (ty := .int) (C := RX4) (T := TX4) (N := 8) hx hb hts inX4 tyX4 tyX4_ok nmX4 hown hK hP hD hS 0 rfl rfl 2 (by decide) lk29 (fun _ h9 => h9) rfl (by decide +kernel) rfl rfl (Nat.le_of_ble_eq_true rfl) dX4_copyFrom_13 (fun H locs hP hD hS => ?_)
  have hset : ∀ v9 : Int32, (zfSS cI cO So Sp Sg Uo Up Ss_1 Sa Us Ua).set 0 (So, .inr (4, ([.ref Sg, .int (Ss_1 1), .int (Ss_1 2), .int (Ss_1 3), .int (Ss_1 4), .ref (Sp 5), .ref (Sp 6), .ref (Sp 7)] : List Value).set 2 (.int v9))) = (zfSS cI cO So Sp Sg Uo Up (upd Ss_1 2 v9) Sa Us Ua) := fun _ => rfl
  obtain ⟨Ss_2, eSs_2, hP, hD⟩ : ∃ y9, y9 = (upd Ss_1 2 (Us 2)) ∧ va_P D vwCl (zfSS cI cO So Sp Sg Uo Up y9 Sa Us Ua) H ∧ va_D A (zfSS cI cO So Sp Sg Uo Up y9 Sa Us Ua) := ⟨_, rfl, zsetP (hset _) hP, zsetD (hset _) hD⟩
  have h := zlt_s h eSs_2
  clear hset
  refine lv_aload_n hx hb dX4_copyFrom_16 rfl (lv_at hl 0 rfl) ?_
  refine lv_aload_n hx hb dX4_copyFrom_17 rfl (lv_at hl 1 rfl) ?_
  refine va_get (D := D) (ci := 4) (v := .int (Us 3)) (C := RX4) (T := TX4) (N := 8) hx hb hts inX4 hown hK hP 4 rfl rfl 3 (by decide) lk32 (fun _ h9 => h9) rfl dX4_copyFrom_18 ?_
  refine va_put (D := D) (ci := 4) (v := .int (Us 3)) (ty := .int) (C := RX4) (T := TX4) (N := 8) hx hb hts inX4 tyX4 tyX4_ok nmX4 hown hK hP hD hS 0 rfl rfl 3 (by decide) lk32 (fun _ h9 => h9) rfl (by decide +kernel) rfl rfl (Nat.le_of_ble_eq_true rfl) dX4_copyFrom_21 (fun H locs hP hD hS => ?_)
  have hset : ∀ v9 : Int32, (zfSS cI cO So Sp Sg Uo Up Ss_2 Sa Us Ua).set 0 (So, .inr (4, ([.ref Sg, .int (Ss_2 1), .int (Ss_2 2), .int (Ss_2 3), .int (Ss_2 4), .ref (Sp 5), .ref (Sp 6), .ref (Sp 7)] : List Value).set 3 (.int v9))) = (zfSS cI cO So Sp Sg Uo Up (upd Ss_2 3 v9) Sa Us Ua) := fun _ => rfl
  obtain ⟨Ss_3, eSs_3, hP, hD⟩ : ∃ y9, y9 = (upd Ss_2 3 (Us 3)) ∧ va_P D vwCl (zfSS cI cO So Sp Sg Uo Up y9 Sa Us Ua) H ∧ va_D A (zfSS cI cO So Sp Sg Uo Up y9 Sa Us Ua) := ⟨_, rfl, zsetP (hset _) hP, zsetD (hset _) hD⟩
  have h := zlt_s h eSs_3
  clear hset
  refine lv_aload_n hx hb dX4_copyFrom_24 rfl (lv_at hl 0 rfl) ?_
  refine lv_aload_n hx hb dX4_copyFrom_25 rfl (lv_at hl 1 rfl) ?_
  refine va_get (D := D) (ci := 4) (v := .int (Us 4)) (C := RX4) (T := TX4) (N := 8) hx hb hts inX4 hown hK hP 4 rfl rfl 4 (by decide) lk35 (fun _ h9 => h9) rfl dX4_copyFrom_26 ?_
  refine va_put (D := D) (ci := 4) (v := .int (Us 4)) (ty := .int) (C := RX4) (T := TX4) (N := 8) hx hb hts inX4 tyX4 tyX4_ok nmX4 hown hK hP hD hS 0 rfl rfl 4 (by decide) lk35 (fun _ h9 => h9) rfl (by decide +kernel) rfl rfl (Nat.le_of_ble_eq_true rfl) dX4_copyFrom_29 (fun H locs hP hD hS => ?_)
  have hset : ∀ v9 : Int32, (zfSS cI cO So Sp Sg Uo Up Ss_3 Sa Us Ua).set 0 (So, .inr (4, ([.ref Sg, .int (Ss_3 1), .int (Ss_3 2), .int (Ss_3 3), .int (Ss_3 4), .ref (Sp 5), .ref (Sp 6), .ref (Sp 7)] : List Value).set 4 (.int v9))) = (zfSS cI cO So Sp Sg Uo Up (upd Ss_3 4 v9) Sa Us Ua) := fun _ => rfl
  obtain ⟨Ss_4, eSs_4, hP, hD⟩ : ∃ y9, y9 = (upd Ss_3 4 (Us 4)) ∧ va_P D vwCl (zfSS cI cO So Sp Sg Uo Up y9 Sa Us Ua) H ∧ va_D A (zfSS cI cO So Sp Sg Uo Up y9 Sa Us Ua) := ⟨_, rfl, zsetP (hset _) hP, zsetD (hset _) hD⟩
  have h := zlt_s h eSs_4
  clear hset
  refine lv_iconst (v := (0 : Int32)) hx hb dX4_copyFrom_32 (by decide) ?_
  refine lv_istore_n (lv' := [(2, .int (0 : Int32)), (0, .ref So), (1, .ref Uo)]) hx hb dX4_copyFrom_33 rfl hl (by decide) rfl (fun ls hl => ?_)
  obtain ⟨Sa_70x34, i19, h⟩ := zb1_s h
  have KX70 : ∀ (H : Heap) (locs : List Loc) (ls : Array Slot), va_P D vwCl (zfSS cI cO So Sp Sg Uo Up Ss_4 Sa_70x34 Us Ua) H → va_D A (zfSS cI cO So Sp Sg Uo Up Ss_4 Sa_70x34 Us Ua) → va_S A s.heap H locs → lv_has ls 3 [(0, .ref So), (1, .ref Uo)] → W p l e R s m args below meth c H locs 0 0 Q (F0 m 70 ls []) := by
    intro H locs ls hP hD hS hl
    refine lv_iconst (v := (0 : Int32)) hx hb dX4_copyFrom_70 (by decide) ?_
    refine lv_istore_n (lv' := [(2, .int (0 : Int32)), (0, .ref So), (1, .ref Uo)]) hx hb dX4_copyFrom_71 rfl hl (by decide) rfl (fun ls hl => ?_)
    obtain ⟨Sa_96x72, i18, h⟩ := zb1_s h
    have KX96 : ∀ (H : Heap) (locs : List Loc) (ls : Array Slot), va_P D vwCl (zfSS cI cO So Sp Sg Uo Up Ss_4 Sa_96x72 Us Ua) H → va_D A (zfSS cI cO So Sp Sg Uo Up Ss_4 Sa_96x72 Us Ua) → va_S A s.heap H locs → lv_has ls 3 [] → W p l e R s m args below meth c H locs 0 0 Q (F0 m 96 ls []) := by
      intro H locs ls hP hD hS hl
      cases zend h
      exact hq hP hD hS dX4_copyFrom_96
    clear h
    refine zi2_ind (P := (fun (x2_72h : Int32) (Sa_72h : Nat → Nat → Int32) => ∀ (H : Heap) (locs : List Loc) (ls : Array Slot), va_P D vwCl (zfSS cI cO So Sp Sg Uo Up Ss_4 Sa_72h Us Ua) H → va_D A (zfSS cI cO So Sp Sg Uo Up Ss_4 Sa_72h Us Ua) → va_S A s.heap H locs → lv_has ls 3 [(0, .ref So), (1, .ref Uo), (2, .int x2_72h)] → W p l e R s m args below meth c H locs 0 0 Q (F0 m 72 ls []))) ?_ i18 _ _ _ hP hD hS (lv_sub hl [1, 2, 0] rfl)
    clear i18 hP hD hS hl
    intro x2_72h Sa_72h z72 h zl72 zr72 H locs ls hP hD hS hl
    refine lv_iload_n hx hb dX4_copyFrom_72 rfl (lv_at hl 2 rfl) ?_
    refine lv_bipush (v := (12 : Int32)) hx hb dX4_copyFrom_73 (by decide) ?_
    refine lv_icmp_ge (tgt := 96) hx hb dX4_copyFrom_75 (by decide) (fun c14 => ?_) (fun c14 => ?_)
    · have h := zif_t c14 h
      cases zr72 _ (zend h).symm
      exact KX96 _ _ _ hP hD hS (lv_sub hl [] rfl)
    · have h := zif_f c14 h
      refine lv_aload_n hx hb dX4_copyFrom_78 rfl (lv_at hl 0 rfl) ?_
      refine va_get (D := D) (ci := 4) (v := .ref (Sp 7)) (C := RX4) (T := TX4) (N := 8) hx hb hts inX4 hown hK hP 0 rfl rfl 7 (by decide) lk18 (fun _ h9 => h9) rfl dX4_copyFrom_79 ?_
      refine lv_iload_n hx hb dX4_copyFrom_82 rfl (lv_at hl 2 rfl) ?_
      refine lv_aload_n hx hb dX4_copyFrom_83 rfl (lv_at hl 1 rfl) ?_
      refine va_get (D := D) (ci := 4) (v := .ref (Up 7)) (C := RX4) (T := TX4) (N := 8) hx hb hts inX4 hown hK hP 4 rfl rfl 7 (by decide) lk18 (fun _ h9 => h9) rfl dX4_copyFrom_84 ?_
      refine lv_iload_n hx hb dX4_copyFrom_87 rfl (lv_at hl 2 rfl) ?_
      obtain ⟨z15, h⟩ := zck_s h
      refine va_iald hx hb hK hP 7 0 rfl rfl (zin_s z15) dX4_copyFrom_88 ?_
      obtain ⟨z16, h⟩ := zck_s h
      refine va_iast hx hb hK hP hD hS 3 0 rfl rfl (zin_s z16) dX4_copyFrom_89 (fun H locs hP hD hS => ?_)
      have hset : ∀ v9 : Nat → Int32, (zfSS cI cO So Sp Sg Uo Up Ss_4 Sa_72h Us Ua).set 3 ((Sp 7), .inl (cI, 12, .inl v9)) = (zfSS cI cO So Sp Sg Uo Up Ss_4 (va_up Sa_72h 7 v9) Us Ua) := fun _ => rfl
      obtain ⟨Sa_17, eSa_17, hP, hD⟩ : ∃ y9, y9 = (va_up Sa_72h 7 (upd (Sa_72h 7) (x2_72h).toNatClampNeg ((Ua 7) (x2_72h).toNatClampNeg))) ∧ va_P D vwCl (zfSS cI cO So Sp Sg Uo Up Ss_4 y9 Us Ua) H ∧ va_D A (zfSS cI cO So Sp Sg Uo Up Ss_4 y9 Us Ua) := ⟨_, rfl, zsetP (hset _) hP, zsetD (hset _) hD⟩
      have h := zlt_s h eSa_17
      clear hset
      refine lv_iinc (v := (x2_72h + (1 : Int32))) (lv' := [(2, .int (x2_72h + (1 : Int32))), (0, .ref So), (1, .ref Uo)]) hx hb dX4_copyFrom_90 hl (k := 2) rfl rfl (by decide) rfl (fun ls hl => ?_)
      refine lv_goto (tgt := 72) hx hb dX4_copyFrom_93 (by decide) ?_
      exact zl72 _ _ (zend h).symm _ _ _ hP hD hS (lv_sub hl [1, 2, 0] rfl)
  clear h
  refine zi2_ind (P := (fun (x2_34h : Int32) (Sa_34h : Nat → Nat → Int32) => ∀ (H : Heap) (locs : List Loc) (ls : Array Slot), va_P D vwCl (zfSS cI cO So Sp Sg Uo Up Ss_4 Sa_34h Us Ua) H → va_D A (zfSS cI cO So Sp Sg Uo Up Ss_4 Sa_34h Us Ua) → va_S A s.heap H locs → lv_has ls 3 [(0, .ref So), (1, .ref Uo), (2, .int x2_34h)] → W p l e R s m args below meth c H locs 0 0 Q (F0 m 34 ls []))) ?_ i19 _ _ _ hP hD hS (lv_sub hl [1, 2, 0] rfl)
  clear i19 hP hD hS hl
  intro x2_34h Sa_34h z34 h zl34 zr34 H locs ls hP hD hS hl
  refine lv_iload_n hx hb dX4_copyFrom_34 rfl (lv_at hl 2 rfl) ?_
  refine lv_bipush (v := (8 : Int32)) hx hb dX4_copyFrom_35 (by decide) ?_
  refine lv_icmp_ge (tgt := 70) hx hb dX4_copyFrom_37 (by decide) (fun c6 => ?_) (fun c6 => ?_)
  · have h := zif_t c6 h
    cases zr34 _ (zend h).symm
    exact KX70 _ _ _ hP hD hS (lv_sub hl [0, 1] rfl)
  · have h := zif_f c6 h
    refine lv_aload_n hx hb dX4_copyFrom_40 rfl (lv_at hl 0 rfl) ?_
    refine va_get (D := D) (ci := 4) (v := .ref (Sp 5)) (C := RX4) (T := TX4) (N := 8) hx hb hts inX4 hown hK hP 0 rfl rfl 5 (by decide) lk9 (fun _ h9 => h9) rfl dX4_copyFrom_41 ?_
    refine lv_iload_n hx hb dX4_copyFrom_44 rfl (lv_at hl 2 rfl) ?_
    refine lv_aload_n hx hb dX4_copyFrom_45 rfl (lv_at hl 1 rfl) ?_
    refine va_get (D := D) (ci := 4) (v := .ref (Up 5)) (C := RX4) (T := TX4) (N := 8) hx hb hts inX4 hown hK hP 4 rfl rfl 5 (by decide) lk9 (fun _ h9 => h9) rfl dX4_copyFrom_46 ?_
    refine lv_iload_n hx hb dX4_copyFrom_49 rfl (lv_at hl 2 rfl) ?_
    obtain ⟨z7, h⟩ := zck_s h
    refine va_iald hx hb hK hP 5 0 rfl rfl (zin_s z7) dX4_copyFrom_50 ?_
    obtain ⟨z8, h⟩ := zck_s h
    refine va_iast hx hb hK hP hD hS 1 0 rfl rfl (zin_s z8) dX4_copyFrom_51 (fun H locs hP hD hS => ?_)
    have hset : ∀ v9 : Nat → Int32, (zfSS cI cO So Sp Sg Uo Up Ss_4 Sa_34h Us Ua).set 1 ((Sp 5), .inl (cI, 8, .inl v9)) = (zfSS cI cO So Sp Sg Uo Up Ss_4 (va_up Sa_34h 5 v9) Us Ua) := fun _ => rfl
    obtain ⟨Sa_9, eSa_9, hP, hD⟩ : ∃ y9, y9 = (va_up Sa_34h 5 (upd (Sa_34h 5) (x2_34h).toNatClampNeg ((Ua 5) (x2_34h).toNatClampNeg))) ∧ va_P D vwCl (zfSS cI cO So Sp Sg Uo Up Ss_4 y9 Us Ua) H ∧ va_D A (zfSS cI cO So Sp Sg Uo Up Ss_4 y9 Us Ua) := ⟨_, rfl, zsetP (hset _) hP, zsetD (hset _) hD⟩
    have h := zlt_s h eSa_9
    clear hset
    refine lv_aload_n hx hb dX4_copyFrom_52 rfl (lv_at hl 0 rfl) ?_
    refine va_get (D := D) (ci := 4) (v := .ref (Sp 6)) (C := RX4) (T := TX4) (N := 8) hx hb hts inX4 hown hK hP 0 rfl rfl 6 (by decide) lk15 (fun _ h9 => h9) rfl dX4_copyFrom_53 ?_
    refine lv_iload_n hx hb dX4_copyFrom_56 rfl (lv_at hl 2 rfl) ?_
    refine lv_aload_n hx hb dX4_copyFrom_57 rfl (lv_at hl 1 rfl) ?_
    refine va_get (D := D) (ci := 4) (v := .ref (Up 6)) (C := RX4) (T := TX4) (N := 8) hx hb hts inX4 hown hK hP 4 rfl rfl 6 (by decide) lk15 (fun _ h9 => h9) rfl dX4_copyFrom_58 ?_
    refine lv_iload_n hx hb dX4_copyFrom_61 rfl (lv_at hl 2 rfl) ?_
    obtain ⟨z10, h⟩ := zck_s h
    refine va_iald hx hb hK hP 6 0 rfl rfl (zin_s z10) dX4_copyFrom_62 ?_
    obtain ⟨z11, h⟩ := zck_s h
    refine va_iast hx hb hK hP hD hS 2 0 rfl rfl (zin_s z11) dX4_copyFrom_63 (fun H locs hP hD hS => ?_)
    have hset : ∀ v9 : Nat → Int32, (zfSS cI cO So Sp Sg Uo Up Ss_4 Sa_9 Us Ua).set 2 ((Sp 6), .inl (cI, 8, .inl v9)) = (zfSS cI cO So Sp Sg Uo Up Ss_4 (va_up Sa_9 6 v9) Us Ua) := fun _ => rfl
    obtain ⟨Sa_12, eSa_12, hP, hD⟩ : ∃ y9, y9 = (va_up Sa_9 6 (upd (Sa_9 6) (x2_34h).toNatClampNeg ((Ua 6) (x2_34h).toNatClampNeg))) ∧ va_P D vwCl (zfSS cI cO So Sp Sg Uo Up Ss_4 y9 Us Ua) H ∧ va_D A (zfSS cI cO So Sp Sg Uo Up Ss_4 y9 Us Ua) := ⟨_, rfl, zsetP (hset _) hP, zsetD (hset _) hD⟩
    have h := zlt_s h eSa_12
    clear hset
    refine lv_iinc (v := (x2_34h + (1 : Int32))) (lv' := [(2, .int (x2_34h + (1 : Int32))), (0, .ref So), (1, .ref Uo)]) hx hb dX4_copyFrom_64 hl (k := 2) rfl rfl (by decide) rfl (fun ls hl => ?_)
    refine lv_goto (tgt := 34) hx hb dX4_copyFrom_67 (by decide) ?_
    exact zl34 _ _ (zend h).symm _ _ _ hP hD hS (lv_sub hl [1, 2, 0] rfl)
set_option maxHeartbeats 4000000 in
set_option maxRecDepth 100000 in
theorem c_X4_kindOf (l : Launch) (D : va_G) (cI cB cO : ClassId) (So : Nat) (Sp : Nat → Nat) (Sg : Nat) (Ss : Nat → Int32) (Sa : Nat → Nat → Int32) (a0 : Int32) (rv : Int32) (sz : Nat) (h : fX4_kindOf Ss Sa a0 = some rv) : Met l yX4_kindOf wsX4_kindOf ({ frames := 1, cells := 0, slots := 0, locals := 21 } : Room) (va_Pc [.ref So, .int a0] (zPre D (zTY cI cB cO) (zwS cI So Sp Sg Ss Sa) sz)) (va_Qi (fun r (_ : Unit) => r = rv) (fun _ => zPost D (zTY cI cB cO) (zwS cI So Sp Sg Ss Sa) (va_A (zwS cI So Sp Sg Ss Sa) sz)) (va_A (zwS cI So Sp Sg Ss Sa) sz)) 0 0 (va_A (zwS cI So Sp Sg Ss Sa) sz) := by
  unfold fX4_kindOf at h
  refine zmet_i (cc := cX4_kindOf) (maxL := 2) (by decide) rfl (Nat.le_of_ble_eq_true rfl) rfl rfl ?_
  intro p e s m args below meth c R Q A ls hx hb hts hown hml hK hP hD hE hA hS hRf hRl hl hq
  have hown : s.vm.findClass RX4 = some m.cls := hown
  have hl : lv_has ls 2 [(0, .ref So), (1, .int a0)] := hl
  have inX4 : ∀ w ∈ u_ws RX4 TX4 8, w ∈ wsX4_kindOf := by decide +kernel
  have lk9 : (Cond.fieldLink RX4 9 "PegField$State" "kinds" "[I").before args s = true := hts _ (by decide +kernel)
  refine lv_aload_n hx hb dX4_kindOf_0 rfl (lv_at hl 0 rfl) ?_
  refine lv_iload_n hx hb dX4_kindOf_1 rfl (lv_at hl 1 rfl) ?_
  obtain ⟨r1, g2, h⟩ := zb1_s h
  have hFc := va_free (wc := (zwS cI So Sp Sg Ss Sa)) hD hS hA [0, 1, 2, 3] (zC_7 (cI := cI) (cB := cB) (cO := cO))
  refine zcp_i (va_runV (As := [.int a0]) (rest := []) ⟨hx, hb, hml, hown, hts⟩ (c_X4_isPeg l D cI cB cO So Sp Sg Ss Sa a0 _ _ g2) (cwV 1 hts gX4_kindOf_X4_isPeg rfl rfl rfl kV_X4_isPeg ⟨Nat.le_trans (Nat.le_of_ble_eq_true rfl) hRf, Nat.le_trans (Nat.le_of_ble_eq_true rfl) hRl⟩) (zpreV hK hP hD hS hE hFc [0, 1, 2, 3] (zC_7 (cI := cI) (cB := cB) (cO := cO)) rfl 0 (ci := 4) rfl rfl [.int a0]) rfl rfl hl.1 rfl (lv_room (Nat.le_of_ble_eq_true rfl)) dX4_kindOf_2 ⟨Nat.zero_le _, Nat.zero_le _⟩) hP hD hS hFc [0, 1, 2, 3] (zC_7 (cI := cI) (cB := cB) (cO := cO)) (fun H locs hP hS => ?_)
  clear hFc
  refine lv_if_eq (tgt := 17) hx hb dX4_kindOf_5 (by decide) (fun c3 => ?_) (fun c3 => ?_)
  · have h := zif_t c3 h
    refine lv_iconst (v := (-1 : Int32)) hx hb dX4_kindOf_17 (by decide) ?_
    cases zend h
    exact hq hP hD hS dX4_kindOf_18
  · have h := zif_f c3 h
    refine lv_aload_n hx hb dX4_kindOf_8 rfl (lv_at hl 0 rfl) ?_
    refine va_get (D := D) (ci := 4) (v := .ref (Sp 5)) (C := RX4) (T := TX4) (N := 8) hx hb hts inX4 hown hK hP 0 rfl rfl 5 (by decide) lk9 (fun _ h9 => h9) rfl dX4_kindOf_9 ?_
    refine lv_iload_n hx hb dX4_kindOf_12 rfl (lv_at hl 1 rfl) ?_
    obtain ⟨z4, h⟩ := zck_s h
    refine va_iald hx hb hK hP 1 0 rfl rfl (zin_s z4) dX4_kindOf_13 ?_
    refine lv_goto (tgt := 18) hx hb dX4_kindOf_14 (by decide) ?_
    cases zend h
    exact hq hP hD hS dX4_kindOf_18
set_option maxHeartbeats 4000000 in
set_option maxRecDepth 100000 in
theorem c_X4_homeOf (l : Launch) (D : va_G) (cI cB cO : ClassId) (So : Nat) (Sp : Nat → Nat) (Sg : Nat) (Ss : Nat → Int32) (Sa : Nat → Nat → Int32) (a0 : Int32) (rv : Int32) (sz : Nat) (h : fX4_homeOf Ss Sa a0 = some rv) : Met l yX4_homeOf wsX4_homeOf ({ frames := 1, cells := 0, slots := 0, locals := 21 } : Room) (va_Pc [.ref So, .int a0] (zPre D (zTY cI cB cO) (zwS cI So Sp Sg Ss Sa) sz)) (va_Qi (fun r (_ : Unit) => r = rv) (fun _ => zPost D (zTY cI cB cO) (zwS cI So Sp Sg Ss Sa) (va_A (zwS cI So Sp Sg Ss Sa) sz)) (va_A (zwS cI So Sp Sg Ss Sa) sz)) 0 0 (va_A (zwS cI So Sp Sg Ss Sa) sz) := by
  unfold fX4_homeOf at h
  refine zmet_i (cc := cX4_homeOf) (maxL := 2) (by decide) rfl (Nat.le_of_ble_eq_true rfl) rfl rfl ?_
  intro p e s m args below meth c R Q A ls hx hb hts hown hml hK hP hD hE hA hS hRf hRl hl hq
  have hown : s.vm.findClass RX4 = some m.cls := hown
  have hl : lv_has ls 2 [(0, .ref So), (1, .int a0)] := hl
  have inX4 : ∀ w ∈ u_ws RX4 TX4 8, w ∈ wsX4_homeOf := by decide +kernel
  have lk15 : (Cond.fieldLink RX4 15 "PegField$State" "homes" "[I").before args s = true := hts _ (by decide +kernel)
  refine lv_aload_n hx hb dX4_homeOf_0 rfl (lv_at hl 0 rfl) ?_
  refine lv_iload_n hx hb dX4_homeOf_1 rfl (lv_at hl 1 rfl) ?_
  obtain ⟨r1, g2, h⟩ := zb1_s h
  have hFc := va_free (wc := (zwS cI So Sp Sg Ss Sa)) hD hS hA [0, 1, 2, 3] (zC_7 (cI := cI) (cB := cB) (cO := cO))
  refine zcp_i (va_runV (As := [.int a0]) (rest := []) ⟨hx, hb, hml, hown, hts⟩ (c_X4_isPeg l D cI cB cO So Sp Sg Ss Sa a0 _ _ g2) (cwV 1 hts gX4_homeOf_X4_isPeg rfl rfl rfl kV_X4_isPeg ⟨Nat.le_trans (Nat.le_of_ble_eq_true rfl) hRf, Nat.le_trans (Nat.le_of_ble_eq_true rfl) hRl⟩) (zpreV hK hP hD hS hE hFc [0, 1, 2, 3] (zC_7 (cI := cI) (cB := cB) (cO := cO)) rfl 0 (ci := 4) rfl rfl [.int a0]) rfl rfl hl.1 rfl (lv_room (Nat.le_of_ble_eq_true rfl)) dX4_homeOf_2 ⟨Nat.zero_le _, Nat.zero_le _⟩) hP hD hS hFc [0, 1, 2, 3] (zC_7 (cI := cI) (cB := cB) (cO := cO)) (fun H locs hP hS => ?_)
  clear hFc
  refine lv_if_eq (tgt := 17) hx hb dX4_homeOf_5 (by decide) (fun c3 => ?_) (fun c3 => ?_)
  · have h := zif_t c3 h
    refine lv_iconst (v := (-1 : Int32)) hx hb dX4_homeOf_17 (by decide) ?_
    cases zend h
    exact hq hP hD hS dX4_homeOf_18
  · have h := zif_f c3 h
    refine lv_aload_n hx hb dX4_homeOf_8 rfl (lv_at hl 0 rfl) ?_
    refine va_get (D := D) (ci := 4) (v := .ref (Sp 6)) (C := RX4) (T := TX4) (N := 8) hx hb hts inX4 hown hK hP 0 rfl rfl 6 (by decide) lk15 (fun _ h9 => h9) rfl dX4_homeOf_9 ?_
    refine lv_iload_n hx hb dX4_homeOf_12 rfl (lv_at hl 1 rfl) ?_
    obtain ⟨z4, h⟩ := zck_s h
    refine va_iald hx hb hK hP 2 0 rfl rfl (zin_s z4) dX4_homeOf_13 ?_
    refine lv_goto (tgt := 18) hx hb dX4_homeOf_14 (by decide) ?_
    cases zend h
    exact hq hP hD hS dX4_homeOf_18
set_option maxHeartbeats 4000000 in
set_option maxRecDepth 100000 in
theorem c_X4_turn (l : Launch) (D : va_G) (cI cB cO : ClassId) (So : Nat) (Sp : Nat → Nat) (Sg : Nat) (Ss : Nat → Int32) (Sa : Nat → Nat → Int32) (a0 : Int32) (a1 : Int32) (Sa' : Nat → Nat → Int32) (sz : Nat) (h : fX4_turn Ss Sa a0 a1 = some Sa') : Met l yX4_turn wsX4_turn ({ frames := 1, cells := 0, slots := 0, locals := 21 } : Room) (va_Pc [.ref So, .int a0, .int a1] (zPre D (zTY cI cB cO) (zwS cI So Sp Sg Ss Sa) sz)) (va_Qv (fun (_ : Unit) => True) (fun _ => zPost D (zTY cI cB cO) (zwS cI So Sp Sg Ss Sa') (va_A (zwS cI So Sp Sg Ss Sa) sz)) (va_A (zwS cI So Sp Sg Ss Sa) sz)) 0 0 (va_A (zwS cI So Sp Sg Ss Sa) sz) := by
  unfold fX4_turn at h
  refine zmet_v (cc := cX4_turn) (maxL := 3) (by decide) rfl (Nat.le_of_ble_eq_true rfl) rfl rfl ?_
  intro p e s m args below meth c R Q A ls hx hb hts hown hml hK hP hD hE hA hS hRf hRl hl hq
  have hown : s.vm.findClass RX4 = some m.cls := hown
  have hl : lv_has ls 3 [(0, .ref So), (1, .int a0), (2, .int a1)] := hl
  have inX4 : ∀ w ∈ u_ws RX4 TX4 8, w ∈ wsX4_turn := by decide +kernel
  have lk9 : (Cond.fieldLink RX4 9 "PegField$State" "kinds" "[I").before args s = true := hts _ (by decide +kernel)
  refine lv_aload_n hx hb dX4_turn_0 rfl (lv_at hl 0 rfl) ?_
  refine lv_iload_n hx hb dX4_turn_1 rfl (lv_at hl 1 rfl) ?_
  obtain ⟨r1, g2, h⟩ := zb1_s h
  have hFc := va_free (wc := (zwS cI So Sp Sg Ss Sa)) hD hS hA [0, 1, 2, 3] (zC_7 (cI := cI) (cB := cB) (cO := cO))
  refine zcp_i (va_runV (As := [.int a0]) (rest := []) ⟨hx, hb, hml, hown, hts⟩ (c_X4_isPeg l D cI cB cO So Sp Sg Ss Sa a0 _ _ g2) (cwV 1 hts gX4_turn_X4_isPeg rfl rfl rfl kV_X4_isPeg ⟨Nat.le_trans (Nat.le_of_ble_eq_true rfl) hRf, Nat.le_trans (Nat.le_of_ble_eq_true rfl) hRl⟩) (zpreV hK hP hD hS hE hFc [0, 1, 2, 3] (zC_7 (cI := cI) (cB := cB) (cO := cO)) rfl 0 (ci := 4) rfl rfl [.int a0]) rfl rfl hl.1 rfl (lv_room (Nat.le_of_ble_eq_true rfl)) dX4_turn_2 ⟨Nat.zero_le _, Nat.zero_le _⟩) hP hD hS hFc [0, 1, 2, 3] (zC_7 (cI := cI) (cB := cB) (cO := cO)) (fun H locs hP hS => ?_)
  clear hFc
  refine lv_if_eq (tgt := 15) hx hb dX4_turn_5 (by decide) (fun c3 => ?_) (fun c3 => ?_)
  · have h := zif_t c3 h
    cases zend h
    exact hq hP hD hS dX4_turn_15
  · have h := zif_f c3 h
    refine lv_aload_n hx hb dX4_turn_8 rfl (lv_at hl 0 rfl) ?_
    refine va_get (D := D) (ci := 4) (v := .ref (Sp 5)) (C := RX4) (T := TX4) (N := 8) hx hb hts inX4 hown hK hP 0 rfl rfl 5 (by decide) lk9 (fun _ h9 => h9) rfl dX4_turn_9 ?_
    refine lv_iload_n hx hb dX4_turn_12 rfl (lv_at hl 1 rfl) ?_
    refine lv_iload_n hx hb dX4_turn_13 rfl (lv_at hl 2 rfl) ?_
    obtain ⟨z4, h⟩ := zck_s h
    refine va_iast hx hb hK hP hD hS 1 0 rfl rfl (zin_s z4) dX4_turn_14 (fun H locs hP hD hS => ?_)
    have hset : ∀ v9 : Nat → Int32, (zwS cI So Sp Sg Ss Sa).set 1 ((Sp 5), .inl (cI, 8, .inl v9)) = (zwS cI So Sp Sg Ss (va_up Sa 5 v9)) := fun _ => rfl
    obtain ⟨Sa_5, eSa_5, hP, hD⟩ : ∃ y9, y9 = (va_up Sa 5 (upd (Sa 5) (a0).toNatClampNeg a1)) ∧ va_P D vwCl (zwS cI So Sp Sg Ss y9) H ∧ va_D A (zwS cI So Sp Sg Ss y9) := ⟨_, rfl, zsetP (hset _) hP, zsetD (hset _) hD⟩
    have h := zlt_s h eSa_5
    clear hset
    cases zend h
    exact hq hP hD hS dX4_turn_15
set_option maxHeartbeats 4000000 in
set_option maxRecDepth 100000 in
theorem c_X4_isHole (l : Launch) (D : va_G) (cI cB cO : ClassId) (So : Nat) (Sp : Nat → Nat) (Go : Nat) (Gp : Nat → Nat) (Ss : Nat → Int32) (Sa : Nat → Nat → Int32) (Gs : Nat → Int32) (Ga : Nat → Nat → Int32) (a0 : Int32) (rv : Int32) (sz : Nat) (h : fX4_isHole Ss Gs a0 = some rv) : Met l yX4_isHole wsX4_isHole ({ frames := 1, cells := 0, slots := 0, locals := 21 } : Room) (va_Pc [.ref So, .int a0] (zPre D (zTY cI cB cO) (zfSG cI cO So Sp Go Gp Ss Sa Gs Ga) sz)) (va_Qi (fun r (_ : Unit) => r = rv) (fun _ => zPost D (zTY cI cB cO) (zfSG cI cO So Sp Go Gp Ss Sa Gs Ga) (va_A (zfSG cI cO So Sp Go Gp Ss Sa Gs Ga) sz)) (va_A (zfSG cI cO So Sp Go Gp Ss Sa Gs Ga) sz)) 0 0 (va_A (zfSG cI cO So Sp Go Gp Ss Sa Gs Ga) sz) := by
  unfold fX4_isHole at h
  refine zmet_z (cc := cX4_isHole) (maxL := 2) (by decide) rfl (Nat.le_of_ble_eq_true rfl) rfl rfl ?_
  intro p e s m args below meth c R Q A ls hx hb hts hown hml hK hP hD hE hA hS hRf hRl hl hq
  have hown : s.vm.findClass RX4 = some m.cls := hown
  have hl : lv_has ls 2 [(0, .ref So), (1, .int a0)] := hl
  have inX4 : ∀ w ∈ u_ws RX4 TX4 8, w ∈ wsX4_isHole := by decide +kernel
  have lk21 : (Cond.fieldLink RX4 21 "PegField$State" "grid" "LPegField$Grid;").before args s = true := hts _ (by decide +kernel)
  have lk25 : (Cond.fieldLink RX4 25 "PegField$State" "holes" "I").before args s = true := hts _ (by decide +kernel)
  refine lv_aload_n hx hb dX4_isHole_0 rfl (lv_at hl 0 rfl) ?_
  refine va_get (D := D) (ci := 4) (v := .ref Go) (C := RX4) (T := TX4) (N := 8) hx hb hts inX4 hown hK hP 0 rfl rfl 0 (by decide) lk21 (fun _ h9 => h9) rfl dX4_isHole_1 ?_
  refine lv_iload_n hx hb dX4_isHole_4 rfl (lv_at hl 1 rfl) ?_
  obtain ⟨r1, g2, h⟩ := zb1_s h
  have hFc := va_free (wc := (zwG cI Go Gp Gs Ga)) hD hS hA [4, 5] (zC_3 (cI := cI) (cB := cB) (cO := cO))
  refine zcp_i (va_runV (As := [.int a0]) (rest := []) ⟨hx, hb, hml, hown, hts⟩ (c_X0_has l D cI cB cO Go Gp Gs Ga a0 _ _ g2) (cwV 1 hts gX4_isHole_X0_has rfl rfl rfl kV_X0_has ⟨Nat.le_trans (Nat.le_of_ble_eq_true rfl) hRf, Nat.le_trans (Nat.le_of_ble_eq_true rfl) hRl⟩) (zpreV hK hP hD hS hE hFc [4, 5] (zC_3 (cI := cI) (cB := cB) (cO := cO)) rfl 4 (ci := 0) rfl rfl [.int a0]) rfl rfl hl.1 rfl (lv_room (Nat.le_of_ble_eq_true rfl)) dX4_isHole_5 ⟨Nat.zero_le _, Nat.zero_le _⟩) hP hD hS hFc [4, 5] (zC_3 (cI := cI) (cB := cB) (cO := cO)) (fun H locs hP hS => ?_)
  clear hFc
  refine lv_if_eq (tgt := 26) hx hb dX4_isHole_8 (by decide) (fun c3 => ?_) (fun c3 => ?_)
  · have h := zif_t c3 h
    refine lv_iconst (v := (0 : Int32)) hx hb dX4_isHole_26 (by decide) ?_
    cases zend h
    exact hq hP hD hS (by decide) dX4_isHole_27
  · have h := zif_f c3 h
    refine lv_aload_n hx hb dX4_isHole_11 rfl (lv_at hl 0 rfl) ?_
    refine va_get (D := D) (ci := 4) (v := .int (Ss 1)) (C := RX4) (T := TX4) (N := 8) hx hb hts inX4 hown hK hP 0 rfl rfl 1 (by decide) lk25 (fun _ h9 => h9) rfl dX4_isHole_12 ?_
    refine lv_iload_n hx hb dX4_isHole_15 rfl (lv_at hl 1 rfl) ?_
    obtain ⟨r4, g5, h⟩ := zb1_s h
    have hFc := va_free (wc := ([] : va_W)) hD hS hA [] rfl
    refine zcp_i (va_runSN (As := [.int (Ss 1), .int a0]) (rest := []) ⟨hx, hb, hml, hown, hts⟩ (c_X5_hasBit l D cI cB cO (Ss 1) a0 _ _ g5) ⟨va_cnB 2 hts ggX4_isHole_X5_hasBit rfl rfl rfl (hE.2.1 _ (List.mem_of_getElem? (i := 25) rfl)) (hts (.initialized RX5) (by decide +kernel)) kS_X5_hasBit ⟨Nat.le_trans (Nat.le_of_ble_eq_true rfl) hRf, Nat.le_trans (Nat.le_of_ble_eq_true rfl) hRl⟩, hts (.static yX5_hasBit) (by decide +kernel), trivial⟩ (zpreS hK hP hD hS hE hFc [] (rfl) rfl [.int (Ss 1), .int a0]) rfl rfl hl.1 rfl (lv_room (Nat.le_of_ble_eq_true rfl)) dX4_isHole_16 ⟨Nat.zero_le _, Nat.zero_le _⟩) hP hD hS hFc [] (rfl) (fun H locs hP hS => ?_)
    clear hFc
    refine lv_if_eq (tgt := 26) hx hb dX4_isHole_19 (by decide) (fun c6 => ?_) (fun c6 => ?_)
    · have h := zif_t c6 h
      refine lv_iconst (v := (0 : Int32)) hx hb dX4_isHole_26 (by decide) ?_
      cases zend h
      exact hq hP hD hS (by decide) dX4_isHole_27
    · have h := zif_f c6 h
      refine lv_iconst (v := (1 : Int32)) hx hb dX4_isHole_22 (by decide) ?_
      refine lv_goto (tgt := 27) hx hb dX4_isHole_23 (by decide) ?_
      cases zend h
      exact hq hP hD hS (by decide) dX4_isHole_27
set_option maxHeartbeats 4000000 in
set_option maxRecDepth 100000 in
theorem c_X4_pegIn (l : Launch) (D : va_G) (cI cB cO : ClassId) (So : Nat) (Sp : Nat → Nat) (Go : Nat) (Gp : Nat → Nat) (Ss : Nat → Int32) (Sa : Nat → Nat → Int32) (Gs : Nat → Int32) (Ga : Nat → Nat → Int32) (a0 : Int32) (rv : Int32) (sz : Nat) (h : fX4_pegIn Sa Gs a0 = some rv) : Met l yX4_pegIn wsX4_pegIn ({ frames := 1, cells := 0, slots := 0, locals := 21 } : Room) (va_Pc [.ref So, .int a0] (zPre D (zTY cI cB cO) (zfSG cI cO So Sp Go Gp Ss Sa Gs Ga) sz)) (va_Qi (fun r (_ : Unit) => r = rv) (fun _ => zPost D (zTY cI cB cO) (zfSG cI cO So Sp Go Gp Ss Sa Gs Ga) (va_A (zfSG cI cO So Sp Go Gp Ss Sa Gs Ga) sz)) (va_A (zfSG cI cO So Sp Go Gp Ss Sa Gs Ga) sz)) 0 0 (va_A (zfSG cI cO So Sp Go Gp Ss Sa Gs Ga) sz) := by
  unfold fX4_pegIn at h
  refine zmet_i (cc := cX4_pegIn) (maxL := 2) (by decide) rfl (Nat.le_of_ble_eq_true rfl) rfl rfl ?_
  intro p e s m args below meth c R Q A ls hx hb hts hown hml hK hP hD hE hA hS hRf hRl hl hq
  have hown : s.vm.findClass RX4 = some m.cls := hown
  have hl : lv_has ls 2 [(0, .ref So), (1, .int a0)] := hl
  have inX4 : ∀ w ∈ u_ws RX4 TX4 8, w ∈ wsX4_pegIn := by decide +kernel
  have lk21 : (Cond.fieldLink RX4 21 "PegField$State" "grid" "LPegField$Grid;").before args s = true := hts _ (by decide +kernel)
  have lk18 : (Cond.fieldLink RX4 18 "PegField$State" "tenants" "[I").before args s = true := hts _ (by decide +kernel)
  refine lv_aload_n hx hb dX4_pegIn_0 rfl (lv_at hl 0 rfl) ?_
  refine va_get (D := D) (ci := 4) (v := .ref Go) (C := RX4) (T := TX4) (N := 8) hx hb hts inX4 hown hK hP 0 rfl rfl 0 (by decide) lk21 (fun _ h9 => h9) rfl dX4_pegIn_1 ?_
  refine lv_iload_n hx hb dX4_pegIn_4 rfl (lv_at hl 1 rfl) ?_
  obtain ⟨r1, g2, h⟩ := zb1_s h
  have hFc := va_free (wc := (zwG cI Go Gp Gs Ga)) hD hS hA [4, 5] (zC_3 (cI := cI) (cB := cB) (cO := cO))
  refine zcp_i (va_runV (As := [.int a0]) (rest := []) ⟨hx, hb, hml, hown, hts⟩ (c_X0_has l D cI cB cO Go Gp Gs Ga a0 _ _ g2) (cwV 1 hts gX4_pegIn_X0_has rfl rfl rfl kV_X0_has ⟨Nat.le_trans (Nat.le_of_ble_eq_true rfl) hRf, Nat.le_trans (Nat.le_of_ble_eq_true rfl) hRl⟩) (zpreV hK hP hD hS hE hFc [4, 5] (zC_3 (cI := cI) (cB := cB) (cO := cO)) rfl 4 (ci := 0) rfl rfl [.int a0]) rfl rfl hl.1 rfl (lv_room (Nat.le_of_ble_eq_true rfl)) dX4_pegIn_5 ⟨Nat.zero_le _, Nat.zero_le _⟩) hP hD hS hFc [4, 5] (zC_3 (cI := cI) (cB := cB) (cO := cO)) (fun H locs hP hS => ?_)
  clear hFc
  refine lv_if_eq (tgt := 20) hx hb dX4_pegIn_8 (by decide) (fun c3 => ?_) (fun c3 => ?_)
  · have h := zif_t c3 h
    refine lv_iconst (v := (-1 : Int32)) hx hb dX4_pegIn_20 (by decide) ?_
    cases zend h
    exact hq hP hD hS dX4_pegIn_21
  · have h := zif_f c3 h
    refine lv_aload_n hx hb dX4_pegIn_11 rfl (lv_at hl 0 rfl) ?_
    refine va_get (D := D) (ci := 4) (v := .ref (Sp 7)) (C := RX4) (T := TX4) (N := 8) hx hb hts inX4 hown hK hP 0 rfl rfl 7 (by decide) lk18 (fun _ h9 => h9) rfl dX4_pegIn_12 ?_
    refine lv_iload_n hx hb dX4_pegIn_15 rfl (lv_at hl 1 rfl) ?_
    obtain ⟨z4, h⟩ := zck_s h
    refine va_iald hx hb hK hP 3 0 rfl rfl (zin_s z4) dX4_pegIn_16 ?_
    refine lv_goto (tgt := 21) hx hb dX4_pegIn_17 (by decide) ?_
    cases zend h
    exact hq hP hD hS dX4_pegIn_21
set_option maxHeartbeats 4000000 in
set_option maxRecDepth 100000 in
theorem c_X4_isEmptyHole (l : Launch) (D : va_G) (cI cB cO : ClassId) (So : Nat) (Sp : Nat → Nat) (Go : Nat) (Gp : Nat → Nat) (Ss : Nat → Int32) (Sa : Nat → Nat → Int32) (Gs : Nat → Int32) (Ga : Nat → Nat → Int32) (a0 : Int32) (rv : Int32) (sz : Nat) (h : fX4_isEmptyHole Ss Sa Gs a0 = some rv) : Met l yX4_isEmptyHole wsX4_isEmptyHole ({ frames := 1, cells := 0, slots := 0, locals := 21 } : Room) (va_Pc [.ref So, .int a0] (zPre D (zTY cI cB cO) (zfSG cI cO So Sp Go Gp Ss Sa Gs Ga) sz)) (va_Qi (fun r (_ : Unit) => r = rv) (fun _ => zPost D (zTY cI cB cO) (zfSG cI cO So Sp Go Gp Ss Sa Gs Ga) (va_A (zfSG cI cO So Sp Go Gp Ss Sa Gs Ga) sz)) (va_A (zfSG cI cO So Sp Go Gp Ss Sa Gs Ga) sz)) 0 0 (va_A (zfSG cI cO So Sp Go Gp Ss Sa Gs Ga) sz) := by
  unfold fX4_isEmptyHole at h
  refine zmet_z (cc := cX4_isEmptyHole) (maxL := 2) (by decide) rfl (Nat.le_of_ble_eq_true rfl) rfl rfl ?_
  intro p e s m args below meth c R Q A ls hx hb hts hown hml hK hP hD hE hA hS hRf hRl hl hq
  have hown : s.vm.findClass RX4 = some m.cls := hown
  have hl : lv_has ls 2 [(0, .ref So), (1, .int a0)] := hl
  have inX4 : ∀ w ∈ u_ws RX4 TX4 8, w ∈ wsX4_isEmptyHole := by decide +kernel
  have lk21 : (Cond.fieldLink RX4 21 "PegField$State" "grid" "LPegField$Grid;").before args s = true := hts _ (by decide +kernel)
  have lk25 : (Cond.fieldLink RX4 25 "PegField$State" "holes" "I").before args s = true := hts _ (by decide +kernel)
  have lk18 : (Cond.fieldLink RX4 18 "PegField$State" "tenants" "[I").before args s = true := hts _ (by decide +kernel)
  refine lv_aload_n hx hb dX4_isEmptyHole_0 rfl (lv_at hl 0 rfl) ?_
  refine va_get (D := D) (ci := 4) (v := .ref Go) (C := RX4) (T := TX4) (N := 8) hx hb hts inX4 hown hK hP 0 rfl rfl 0 (by decide) lk21 (fun _ h9 => h9) rfl dX4_isEmptyHole_1 ?_
  refine lv_iload_n hx hb dX4_isEmptyHole_4 rfl (lv_at hl 1 rfl) ?_
  obtain ⟨r1, g2, h⟩ := zb1_s h
  have hFc := va_free (wc := (zwG cI Go Gp Gs Ga)) hD hS hA [4, 5] (zC_3 (cI := cI) (cB := cB) (cO := cO))
  refine zcp_i (va_runV (As := [.int a0]) (rest := []) ⟨hx, hb, hml, hown, hts⟩ (c_X0_has l D cI cB cO Go Gp Gs Ga a0 _ _ g2) (cwV 1 hts gX4_isEmptyHole_X0_has rfl rfl rfl kV_X0_has ⟨Nat.le_trans (Nat.le_of_ble_eq_true rfl) hRf, Nat.le_trans (Nat.le_of_ble_eq_true rfl) hRl⟩) (zpreV hK hP hD hS hE hFc [4, 5] (zC_3 (cI := cI) (cB := cB) (cO := cO)) rfl 4 (ci := 0) rfl rfl [.int a0]) rfl rfl hl.1 rfl (lv_room (Nat.le_of_ble_eq_true rfl)) dX4_isEmptyHole_5 ⟨Nat.zero_le _, Nat.zero_le _⟩) hP hD hS hFc [4, 5] (zC_3 (cI := cI) (cB := cB) (cO := cO)) (fun H locs hP hS => ?_)
  clear hFc
  refine lv_if_eq (tgt := 36) hx hb dX4_isEmptyHole_8 (by decide) (fun c3 => ?_) (fun c3 => ?_)
  · have h := zif_t c3 h
    refine lv_iconst (v := (0 : Int32)) hx hb dX4_isEmptyHole_36 (by decide) ?_
    cases zend h
    exact hq hP hD hS (by decide) dX4_isEmptyHole_37
  · have h := zif_f c3 h
    refine lv_aload_n hx hb dX4_isEmptyHole_11 rfl (lv_at hl 0 rfl) ?_
    refine va_get (D := D) (ci := 4) (v := .int (Ss 1)) (C := RX4) (T := TX4) (N := 8) hx hb hts inX4 hown hK hP 0 rfl rfl 1 (by decide) lk25 (fun _ h9 => h9) rfl dX4_isEmptyHole_12 ?_
    refine lv_iload_n hx hb dX4_isEmptyHole_15 rfl (lv_at hl 1 rfl) ?_
    obtain ⟨r4, g5, h⟩ := zb1_s h
    have hFc := va_free (wc := ([] : va_W)) hD hS hA [] rfl
    refine zcp_i (va_runSN (As := [.int (Ss 1), .int a0]) (rest := []) ⟨hx, hb, hml, hown, hts⟩ (c_X5_hasBit l D cI cB cO (Ss 1) a0 _ _ g5) ⟨va_cnB 2 hts ggX4_isEmptyHole_X5_hasBit rfl rfl rfl (hE.2.1 _ (List.mem_of_getElem? (i := 25) rfl)) (hts (.initialized RX5) (by decide +kernel)) kS_X5_hasBit ⟨Nat.le_trans (Nat.le_of_ble_eq_true rfl) hRf, Nat.le_trans (Nat.le_of_ble_eq_true rfl) hRl⟩, hts (.static yX5_hasBit) (by decide +kernel), trivial⟩ (zpreS hK hP hD hS hE hFc [] (rfl) rfl [.int (Ss 1), .int a0]) rfl rfl hl.1 rfl (lv_room (Nat.le_of_ble_eq_true rfl)) dX4_isEmptyHole_16 ⟨Nat.zero_le _, Nat.zero_le _⟩) hP hD hS hFc [] (rfl) (fun H locs hP hS => ?_)
    clear hFc
    refine lv_if_eq (tgt := 36) hx hb dX4_isEmptyHole_19 (by decide) (fun c6 => ?_) (fun c6 => ?_)
    · have h := zif_t c6 h
      refine lv_iconst (v := (0 : Int32)) hx hb dX4_isEmptyHole_36 (by decide) ?_
      cases zend h
      exact hq hP hD hS (by decide) dX4_isEmptyHole_37
    · have h := zif_f c6 h
      refine lv_aload_n hx hb dX4_isEmptyHole_22 rfl (lv_at hl 0 rfl) ?_
      refine va_get (D := D) (ci := 4) (v := .ref (Sp 7)) (C := RX4) (T := TX4) (N := 8) hx hb hts inX4 hown hK hP 0 rfl rfl 7 (by decide) lk18 (fun _ h9 => h9) rfl dX4_isEmptyHole_23 ?_
      refine lv_iload_n hx hb dX4_isEmptyHole_26 rfl (lv_at hl 1 rfl) ?_
      obtain ⟨z7, h⟩ := zck_s h
      refine va_iald hx hb hK hP 3 0 rfl rfl (zin_s z7) dX4_isEmptyHole_27 ?_
      refine lv_iconst (v := (-1 : Int32)) hx hb dX4_isEmptyHole_28 (by decide) ?_
      refine lv_icmp_ne (tgt := 36) hx hb dX4_isEmptyHole_29 (by decide) (fun c8 => ?_) (fun c8 => ?_)
      · have h := zif_f c8 h
        refine lv_iconst (v := (0 : Int32)) hx hb dX4_isEmptyHole_36 (by decide) ?_
        cases zend h
        exact hq hP hD hS (by decide) dX4_isEmptyHole_37
      · have h := zif_t c8 h
        refine lv_iconst (v := (1 : Int32)) hx hb dX4_isEmptyHole_32 (by decide) ?_
        refine lv_goto (tgt := 37) hx hb dX4_isEmptyHole_33 (by decide) ?_
        cases zend h
        exact hq hP hD hS (by decide) dX4_isEmptyHole_37
set_option maxHeartbeats 4000000 in
set_option maxRecDepth 100000 in
theorem c_X4_lift (l : Launch) (D : va_G) (cI cB cO : ClassId) (So : Nat) (Sp : Nat → Nat) (Go : Nat) (Gp : Nat → Nat) (Ss : Nat → Int32) (Sa : Nat → Nat → Int32) (Gs : Nat → Int32) (Ga : Nat → Nat → Int32) (a0 : Int32) (Ss' : Nat → Int32) (Sa' : Nat → Nat → Int32) (sz : Nat) (h : fX4_lift Ss Sa Gs a0 = some (Ss', Sa')) : Met l yX4_lift wsX4_lift ({ frames := 1, cells := 0, slots := 0, locals := 21 } : Room) (va_Pc [.ref So, .int a0] (zPre D (zTY cI cB cO) (zfSG cI cO So Sp Go Gp Ss Sa Gs Ga) sz)) (va_Qv (fun (_ : Unit) => True) (fun _ => zPost D (zTY cI cB cO) (zfSG cI cO So Sp Go Gp Ss' Sa' Gs Ga) (va_A (zfSG cI cO So Sp Go Gp Ss Sa Gs Ga) sz)) (va_A (zfSG cI cO So Sp Go Gp Ss Sa Gs Ga) sz)) 0 0 (va_A (zfSG cI cO So Sp Go Gp Ss Sa Gs Ga) sz) := by
  unfold fX4_lift at h
  refine zmet_v (cc := cX4_lift) (maxL := 2) (by decide) rfl (Nat.le_of_ble_eq_true rfl) rfl rfl ?_
  intro p e s m args below meth c R Q A ls hx hb hts hown hml hK hP hD hE hA hS hRf hRl hl hq
  have hown : s.vm.findClass RX4 = some m.cls := hown
  have hl : lv_has ls 2 [(0, .ref So), (1, .int a0)] := hl
  have inX4 : ∀ w ∈ u_ws RX4 TX4 8, w ∈ wsX4_lift := by decide +kernel
  have lk21 : (Cond.fieldLink RX4 21 "PegField$State" "grid" "LPegField$Grid;").before args s = true := hts _ (by decide +kernel)
  have lk15 : (Cond.fieldLink RX4 15 "PegField$State" "homes" "[I").before args s = true := hts _ (by decide +kernel)
  have lk18 : (Cond.fieldLink RX4 18 "PegField$State" "tenants" "[I").before args s = true := hts _ (by decide +kernel)
  have lk32 : (Cond.fieldLink RX4 32 "PegField$State" "onBoard" "I").before args s = true := hts _ (by decide +kernel)
  refine lv_aload_n hx hb dX4_lift_0 rfl (lv_at hl 0 rfl) ?_
  refine lv_iload_n hx hb dX4_lift_1 rfl (lv_at hl 1 rfl) ?_
  obtain ⟨r1, g2, h⟩ := zb1_s h
  have hFc := va_free (wc := (zwS cI So Sp Go Ss Sa)) hD hS hA [0, 1, 2, 3] (zC_2 (cI := cI) (cB := cB) (cO := cO))
  refine zcp_i (va_runV (As := [.int a0]) (rest := []) ⟨hx, hb, hml, hown, hts⟩ (c_X4_isPeg l D cI cB cO So Sp Go Ss Sa a0 _ _ g2) (cwV 1 hts gX4_lift_X4_isPeg rfl rfl rfl kV_X4_isPeg ⟨Nat.le_trans (Nat.le_of_ble_eq_true rfl) hRf, Nat.le_trans (Nat.le_of_ble_eq_true rfl) hRl⟩) (zpreV hK hP hD hS hE hFc [0, 1, 2, 3] (zC_2 (cI := cI) (cB := cB) (cO := cO)) rfl 0 (ci := 4) rfl rfl [.int a0]) rfl rfl hl.1 rfl (lv_room (Nat.le_of_ble_eq_true rfl)) dX4_lift_2 ⟨Nat.zero_le _, Nat.zero_le _⟩) hP hD hS hFc [0, 1, 2, 3] (zC_2 (cI := cI) (cB := cB) (cO := cO)) (fun H locs hP hS => ?_)
  clear hFc
  refine lv_if_eq (tgt := 53) hx hb dX4_lift_5 (by decide) (fun c3 => ?_) (fun c3 => ?_)
  · have h := zif_t c3 h
    cases zend h
    exact hq hP hD hS dX4_lift_53
  · have h := zif_f c3 h
    refine lv_aload_n hx hb dX4_lift_8 rfl (lv_at hl 0 rfl) ?_
    refine va_get (D := D) (ci := 4) (v := .ref Go) (C := RX4) (T := TX4) (N := 8) hx hb hts inX4 hown hK hP 0 rfl rfl 0 (by decide) lk21 (fun _ h9 => h9) rfl dX4_lift_9 ?_
    refine lv_aload_n hx hb dX4_lift_12 rfl (lv_at hl 0 rfl) ?_
    refine va_get (D := D) (ci := 4) (v := .ref (Sp 6)) (C := RX4) (T := TX4) (N := 8) hx hb hts inX4 hown hK hP 0 rfl rfl 6 (by decide) lk15 (fun _ h9 => h9) rfl dX4_lift_13 ?_
    refine lv_iload_n hx hb dX4_lift_16 rfl (lv_at hl 1 rfl) ?_
    obtain ⟨z4, h⟩ := zck_s h
    refine va_iald hx hb hK hP 2 0 rfl rfl (zin_s z4) dX4_lift_17 ?_
    obtain ⟨r5, g6, h⟩ := zb1_s h
    have hFc := va_free (wc := (zwG cI Go Gp Gs Ga)) hD hS hA [4, 5] (zC_3 (cI := cI) (cB := cB) (cO := cO))
    refine zcp_i (va_runV (As := [.int ((Sa 6) (a0).toNatClampNeg)]) (rest := []) ⟨hx, hb, hml, hown, hts⟩ (c_X0_has l D cI cB cO Go Gp Gs Ga ((Sa 6) (a0).toNatClampNeg) _ _ g6) (cwV 1 hts gX4_lift_X0_has rfl rfl rfl kV_X0_has ⟨Nat.le_trans (Nat.le_of_ble_eq_true rfl) hRf, Nat.le_trans (Nat.le_of_ble_eq_true rfl) hRl⟩) (zpreV hK hP hD hS hE hFc [4, 5] (zC_3 (cI := cI) (cB := cB) (cO := cO)) rfl 4 (ci := 0) rfl rfl [.int ((Sa 6) (a0).toNatClampNeg)]) rfl rfl hl.1 rfl (lv_room (Nat.le_of_ble_eq_true rfl)) dX4_lift_18 ⟨Nat.zero_le _, Nat.zero_le _⟩) hP hD hS hFc [4, 5] (zC_3 (cI := cI) (cB := cB) (cO := cO)) (fun H locs hP hS => ?_)
    clear hFc
    refine lv_if_eq (tgt := 53) hx hb dX4_lift_21 (by decide) (fun c7 => ?_) (fun c7 => ?_)
    · have h := zif_t c7 h
      cases zend h
      exact hq hP hD hS dX4_lift_53
    · have h := zif_f c7 h
      refine lv_aload_n hx hb dX4_lift_24 rfl (lv_at hl 0 rfl) ?_
      refine va_get (D := D) (ci := 4) (v := .ref (Sp 7)) (C := RX4) (T := TX4) (N := 8) hx hb hts inX4 hown hK hP 0 rfl rfl 7 (by decide) lk18 (fun _ h9 => h9) rfl dX4_lift_25 ?_
      refine lv_aload_n hx hb dX4_lift_28 rfl (lv_at hl 0 rfl) ?_
      refine va_get (D := D) (ci := 4) (v := .ref (Sp 6)) (C := RX4) (T := TX4) (N := 8) hx hb hts inX4 hown hK hP 0 rfl rfl 6 (by decide) lk15 (fun _ h9 => h9) rfl dX4_lift_29 ?_
      refine lv_iload_n hx hb dX4_lift_32 rfl (lv_at hl 1 rfl) ?_
      obtain ⟨z8, h⟩ := zck_s h
      refine va_iald hx hb hK hP 2 0 rfl rfl (zin_s z8) dX4_lift_33 ?_
      refine lv_iconst (v := (-1 : Int32)) hx hb dX4_lift_34 (by decide) ?_
      obtain ⟨z9, h⟩ := zck_s h
      refine va_iast hx hb hK hP hD hS 3 0 rfl rfl (zin_s z9) dX4_lift_35 (fun H locs hP hD hS => ?_)
      have hset : ∀ v9 : Nat → Int32, (zfSG cI cO So Sp Go Gp Ss Sa Gs Ga).set 3 ((Sp 7), .inl (cI, 12, .inl v9)) = (zfSG cI cO So Sp Go Gp Ss (va_up Sa 7 v9) Gs Ga) := fun _ => rfl
      obtain ⟨Sa_10, eSa_10, hP, hD⟩ : ∃ y9, y9 = (va_up Sa 7 (upd (Sa 7) (((Sa 6) (a0).toNatClampNeg)).toNatClampNeg (-1 : Int32))) ∧ va_P D vwCl (zfSG cI cO So Sp Go Gp Ss y9 Gs Ga) H ∧ va_D A (zfSG cI cO So Sp Go Gp Ss y9 Gs Ga) := ⟨_, rfl, zsetP (hset _) hP, zsetD (hset _) hD⟩
      have h := zlt_s h eSa_10
      clear hset
      refine lv_aload_n hx hb dX4_lift_36 rfl (lv_at hl 0 rfl) ?_
      refine va_get (D := D) (ci := 4) (v := .ref (Sp 6)) (C := RX4) (T := TX4) (N := 8) hx hb hts inX4 hown hK hP 0 rfl rfl 6 (by decide) lk15 (fun _ h9 => h9) rfl dX4_lift_37 ?_
      refine lv_iload_n hx hb dX4_lift_40 rfl (lv_at hl 1 rfl) ?_
      refine lv_iconst (v := (-1 : Int32)) hx hb dX4_lift_41 (by decide) ?_
      obtain ⟨z11, h⟩ := zck_s h
      refine va_iast hx hb hK hP hD hS 2 0 rfl rfl (zin_s z11) dX4_lift_42 (fun H locs hP hD hS => ?_)
      have hset : ∀ v9 : Nat → Int32, (zfSG cI cO So Sp Go Gp Ss Sa_10 Gs Ga).set 2 ((Sp 6), .inl (cI, 8, .inl v9)) = (zfSG cI cO So Sp Go Gp Ss (va_up Sa_10 6 v9) Gs Ga) := fun _ => rfl
      obtain ⟨Sa_12, eSa_12, hP, hD⟩ : ∃ y9, y9 = (va_up Sa_10 6 (upd (Sa_10 6) (a0).toNatClampNeg (-1 : Int32))) ∧ va_P D vwCl (zfSG cI cO So Sp Go Gp Ss y9 Gs Ga) H ∧ va_D A (zfSG cI cO So Sp Go Gp Ss y9 Gs Ga) := ⟨_, rfl, zsetP (hset _) hP, zsetD (hset _) hD⟩
      have h := zlt_s h eSa_12
      clear hset
      refine lv_aload_n hx hb dX4_lift_43 rfl (lv_at hl 0 rfl) ?_
      refine lv_dup hx hb dX4_lift_44 rfl ?_
      refine va_get (D := D) (ci := 4) (v := .int (Ss 3)) (C := RX4) (T := TX4) (N := 8) hx hb hts inX4 hown hK hP 0 rfl rfl 3 (by decide) lk32 (fun _ h9 => h9) rfl dX4_lift_45 ?_
      refine lv_iconst (v := (1 : Int32)) hx hb dX4_lift_48 (by decide) ?_
      refine lv_isub hx hb dX4_lift_49 ?_
      refine va_put (D := D) (ci := 4) (v := .int ((Ss 3) - (1 : Int32))) (ty := .int) (C := RX4) (T := TX4) (N := 8) hx hb hts inX4 tyX4 tyX4_ok nmX4 hown hK hP hD hS 0 rfl rfl 3 (by decide) lk32 (fun _ h9 => h9) rfl (by decide +kernel) rfl rfl (Nat.le_of_ble_eq_true rfl) dX4_lift_50 (fun H locs hP hD hS => ?_)
      have hset : ∀ v9 : Int32, (zfSG cI cO So Sp Go Gp Ss Sa_12 Gs Ga).set 0 (So, .inr (4, ([.ref Go, .int (Ss 1), .int (Ss 2), .int (Ss 3), .int (Ss 4), .ref (Sp 5), .ref (Sp 6), .ref (Sp 7)] : List Value).set 3 (.int v9))) = (zfSG cI cO So Sp Go Gp (upd Ss 3 v9) Sa_12 Gs Ga) := fun _ => rfl
      obtain ⟨Ss_13, eSs_13, hP, hD⟩ : ∃ y9, y9 = (upd Ss 3 ((Ss 3) - (1 : Int32))) ∧ va_P D vwCl (zfSG cI cO So Sp Go Gp y9 Sa_12 Gs Ga) H ∧ va_D A (zfSG cI cO So Sp Go Gp y9 Sa_12 Gs Ga) := ⟨_, rfl, zsetP (hset _) hP, zsetD (hset _) hD⟩
      have h := zlt_s h eSs_13
      clear hset
      cases zend h
      exact hq hP hD hS dX4_lift_53
set_option maxHeartbeats 4000000 in
set_option maxRecDepth 100000 in
theorem c_X4_neighbourOf (l : Launch) (D : va_G) (cI cB cO : ClassId) (So : Nat) (Sp : Nat → Nat) (Go : Nat) (Gp : Nat → Nat) (Ss : Nat → Int32) (Sa : Nat → Nat → Int32) (Gs : Nat → Int32) (Ga : Nat → Nat → Int32) (a0 : Int32) (a1 : Int32) (rv : Int32) (sz : Nat) (h : fX4_neighbourOf Ss Sa Gs Ga a0 a1 = some rv) : Met l yX4_neighbourOf wsX4_neighbourOf ({ frames := 2, cells := 0, slots := 0, locals := 44 } : Room) (va_Pc [.ref So, .int a0, .int a1] (zPre D (zTY cI cB cO) (zfSG cI cO So Sp Go Gp Ss Sa Gs Ga) sz)) (va_Qi (fun r (_ : Unit) => r = rv) (fun _ => zPost D (zTY cI cB cO) (zfSG cI cO So Sp Go Gp Ss Sa Gs Ga) (va_A (zfSG cI cO So Sp Go Gp Ss Sa Gs Ga) sz)) (va_A (zfSG cI cO So Sp Go Gp Ss Sa Gs Ga) sz)) 0 0 (va_A (zfSG cI cO So Sp Go Gp Ss Sa Gs Ga) sz) := by
  unfold fX4_neighbourOf at h
  refine zmet_i (cc := cX4_neighbourOf) (maxL := 3) (by decide) rfl (Nat.le_of_ble_eq_true rfl) rfl rfl ?_
  intro p e s m args below meth c R Q A ls hx hb hts hown hml hK hP hD hE hA hS hRf hRl hl hq
  have hown : s.vm.findClass RX4 = some m.cls := hown
  have hl : lv_has ls 3 [(0, .ref So), (1, .int a0), (2, .int a1)] := hl
  have inX4 : ∀ w ∈ u_ws RX4 TX4 8, w ∈ wsX4_neighbourOf := by decide +kernel
  have lk21 : (Cond.fieldLink RX4 21 "PegField$State" "grid" "LPegField$Grid;").before args s = true := hts _ (by decide +kernel)
  refine lv_aload_n hx hb dX4_neighbourOf_0 rfl (lv_at hl 0 rfl) ?_
  refine lv_aload_n hx hb dX4_neighbourOf_1 rfl (lv_at hl 0 rfl) ?_
  refine va_get (D := D) (ci := 4) (v := .ref Go) (C := RX4) (T := TX4) (N := 8) hx hb hts inX4 hown hK hP 0 rfl rfl 0 (by decide) lk21 (fun _ h9 => h9) rfl dX4_neighbourOf_2 ?_
  refine lv_aload_n hx hb dX4_neighbourOf_5 rfl (lv_at hl 0 rfl) ?_
  refine lv_iload_n hx hb dX4_neighbourOf_6 rfl (lv_at hl 1 rfl) ?_
  obtain ⟨r1, g2, h⟩ := zb1_s h
  have hFc := va_free (wc := (zwS cI So Sp Go Ss Sa)) hD hS hA [0, 1, 2, 3] (zC_2 (cI := cI) (cB := cB) (cO := cO))
  refine zcp_i (va_runV (As := [.int a0]) (rest := [.ref Go, .ref So]) ⟨hx, hb, hml, hown, hts⟩ (c_X4_homeOf l D cI cB cO So Sp Go Ss Sa a0 _ _ g2) (cwV 1 hts gX4_neighbourOf_X4_homeOf rfl rfl rfl kV_X4_homeOf ⟨Nat.le_trans (Nat.le_of_ble_eq_true rfl) hRf, Nat.le_trans (Nat.le_of_ble_eq_true rfl) hRl⟩) (zpreV hK hP hD hS hE hFc [0, 1, 2, 3] (zC_2 (cI := cI) (cB := cB) (cO := cO)) rfl 0 (ci := 4) rfl rfl [.int a0]) rfl rfl hl.1 rfl (lv_room (Nat.le_of_ble_eq_true rfl)) dX4_neighbourOf_7 ⟨Nat.zero_le _, Nat.zero_le _⟩) hP hD hS hFc [0, 1, 2, 3] (zC_2 (cI := cI) (cB := cB) (cO := cO)) (fun H locs hP hS => ?_)
  clear hFc
  refine lv_iload_n hx hb dX4_neighbourOf_10 rfl (lv_at hl 2 rfl) ?_
  obtain ⟨r3, g4, h⟩ := zb1_s h
  have hFc := va_free (wc := (zwG cI Go Gp Gs Ga)) hD hS hA [4, 5] (zC_3 (cI := cI) (cB := cB) (cO := cO))
  refine zcp_i (va_runV (As := [.int r1, .int a1]) (rest := [.ref So]) ⟨hx, hb, hml, hown, hts⟩ (c_X0_next l D cI cB cO Go Gp Gs Ga r1 a1 _ _ g4) (cwV 2 hts gX4_neighbourOf_X0_next rfl rfl rfl kV_X0_next ⟨Nat.le_trans (Nat.le_of_ble_eq_true rfl) hRf, Nat.le_trans (Nat.le_of_ble_eq_true rfl) hRl⟩) (zpreV hK hP hD hS hE hFc [4, 5] (zC_3 (cI := cI) (cB := cB) (cO := cO)) rfl 4 (ci := 0) rfl rfl [.int r1, .int a1]) rfl rfl hl.1 rfl (lv_room (Nat.le_of_ble_eq_true rfl)) dX4_neighbourOf_11 ⟨Nat.zero_le _, Nat.zero_le _⟩) hP hD hS hFc [4, 5] (zC_3 (cI := cI) (cB := cB) (cO := cO)) (fun H locs hP hS => ?_)
  clear hFc
  obtain ⟨r5, g6, h⟩ := zb1_s h
  have hFc := va_free (wc := (zfSG cI cO So Sp Go Gp Ss Sa Gs Ga)) hD hS hA [0, 1, 2, 3, 4, 5] (zC_8 (cI := cI) (cB := cB) (cO := cO))
  refine zcp_i (va_runV (As := [.int r3]) (rest := []) ⟨hx, hb, hml, hown, hts⟩ (c_X4_pegIn l D cI cB cO So Sp Go Gp Ss Sa Gs Ga r3 _ _ g6) (cwV 1 hts gX4_neighbourOf_X4_pegIn rfl rfl rfl kV_X4_pegIn ⟨Nat.le_trans (Nat.le_of_ble_eq_true rfl) hRf, Nat.le_trans (Nat.le_of_ble_eq_true rfl) hRl⟩) (zpreV hK hP hD hS hE hFc [0, 1, 2, 3, 4, 5] (zC_8 (cI := cI) (cB := cB) (cO := cO)) rfl 0 (ci := 4) rfl rfl [.int r3]) rfl rfl hl.1 rfl (lv_room (Nat.le_of_ble_eq_true rfl)) dX4_neighbourOf_14 ⟨Nat.zero_le _, Nat.zero_le _⟩) hP hD hS hFc [0, 1, 2, 3, 4, 5] (zC_8 (cI := cI) (cB := cB) (cO := cO)) (fun H locs hP hS => ?_)
  clear hFc
  cases zend h
  exact hq hP hD hS dX4_neighbourOf_17
set_option maxHeartbeats 4000000 in
set_option maxRecDepth 100000 in
theorem c_X4_targetOf (l : Launch) (D : va_G) (cI cB cO : ClassId) (So : Nat) (Sp : Nat → Nat) (Go : Nat) (Gp : Nat → Nat) (Ss : Nat → Int32) (Sa : Nat → Nat → Int32) (Gs : Nat → Int32) (Ga : Nat → Nat → Int32) (a0 : Int32) (a1 : Int32) (rv : Int32) (sz : Nat) (h : fX4_targetOf Ss Sa Gs Ga a0 a1 = some rv) : Met l yX4_targetOf wsX4_targetOf ({ frames := 2, cells := 0, slots := 0, locals := 44 } : Room) (va_Pc [.ref So, .int a0, .int a1] (zPre D (zTY cI cB cO) (zfSG cI cO So Sp Go Gp Ss Sa Gs Ga) sz)) (va_Qi (fun r (_ : Unit) => r = rv) (fun _ => zPost D (zTY cI cB cO) (zfSG cI cO So Sp Go Gp Ss Sa Gs Ga) (va_A (zfSG cI cO So Sp Go Gp Ss Sa Gs Ga) sz)) (va_A (zfSG cI cO So Sp Go Gp Ss Sa Gs Ga) sz)) 0 0 (va_A (zfSG cI cO So Sp Go Gp Ss Sa Gs Ga) sz) := by
  unfold fX4_targetOf at h
  refine zmet_i (cc := cX4_targetOf) (maxL := 6) (by decide) rfl (Nat.le_of_ble_eq_true rfl) rfl rfl ?_
  intro p e s m args below meth c R Q A ls hx hb hts hown hml hK hP hD hE hA hS hRf hRl hl hq
  have hown : s.vm.findClass RX4 = some m.cls := hown
  have hl : lv_has ls 6 [(0, .ref So), (1, .int a0), (2, .int a1)] := hl
  have inX4 : ∀ w ∈ u_ws RX4 TX4 8, w ∈ wsX4_targetOf := by decide +kernel
  have lk21 : (Cond.fieldLink RX4 21 "PegField$State" "grid" "LPegField$Grid;").before args s = true := hts _ (by decide +kernel)
  refine lv_aload_n hx hb dX4_targetOf_0 rfl (lv_at hl 0 rfl) ?_
  refine va_get (D := D) (ci := 4) (v := .ref Go) (C := RX4) (T := TX4) (N := 8) hx hb hts inX4 hown hK hP 0 rfl rfl 0 (by decide) lk21 (fun _ h9 => h9) rfl dX4_targetOf_1 ?_
  refine lv_aload_n hx hb dX4_targetOf_4 rfl (lv_at hl 0 rfl) ?_
  refine lv_iload_n hx hb dX4_targetOf_5 rfl (lv_at hl 1 rfl) ?_
  obtain ⟨r1, g2, h⟩ := zb1_s h
  have hFc := va_free (wc := (zwS cI So Sp Go Ss Sa)) hD hS hA [0, 1, 2, 3] (zC_2 (cI := cI) (cB := cB) (cO := cO))
  refine zcp_i (va_runV (As := [.int a0]) (rest := [.ref Go]) ⟨hx, hb, hml, hown, hts⟩ (c_X4_homeOf l D cI cB cO So Sp Go Ss Sa a0 _ _ g2) (cwV 1 hts gX4_targetOf_X4_homeOf rfl rfl rfl kV_X4_homeOf ⟨Nat.le_trans (Nat.le_of_ble_eq_true rfl) hRf, Nat.le_trans (Nat.le_of_ble_eq_true rfl) hRl⟩) (zpreV hK hP hD hS hE hFc [0, 1, 2, 3] (zC_2 (cI := cI) (cB := cB) (cO := cO)) rfl 0 (ci := 4) rfl rfl [.int a0]) rfl rfl hl.1 rfl (lv_room (Nat.le_of_ble_eq_true rfl)) dX4_targetOf_6 ⟨Nat.zero_le _, Nat.zero_le _⟩) hP hD hS hFc [0, 1, 2, 3] (zC_2 (cI := cI) (cB := cB) (cO := cO)) (fun H locs hP hS => ?_)
  clear hFc
  refine lv_iload_n hx hb dX4_targetOf_9 rfl (lv_at hl 2 rfl) ?_
  obtain ⟨r3, g4, h⟩ := zb1_s h
  have hFc := va_free (wc := (zwG cI Go Gp Gs Ga)) hD hS hA [4, 5] (zC_3 (cI := cI) (cB := cB) (cO := cO))
  refine zcp_i (va_runV (As := [.int r1, .int a1]) (rest := []) ⟨hx, hb, hml, hown, hts⟩ (c_X0_next l D cI cB cO Go Gp Gs Ga r1 a1 _ _ g4) (cwV 2 hts gX4_targetOf_X0_next rfl rfl rfl kV_X0_next ⟨Nat.le_trans (Nat.le_of_ble_eq_true rfl) hRf, Nat.le_trans (Nat.le_of_ble_eq_true rfl) hRl⟩) (zpreV hK hP hD hS hE hFc [4, 5] (zC_3 (cI := cI) (cB := cB) (cO := cO)) rfl 4 (ci := 0) rfl rfl [.int r1, .int a1]) rfl rfl hl.1 rfl (lv_room (Nat.le_of_ble_eq_true rfl)) dX4_targetOf_10 ⟨Nat.zero_le _, Nat.zero_le _⟩) hP hD hS hFc [4, 5] (zC_3 (cI := cI) (cB := cB) (cO := cO)) (fun H locs hP hS => ?_)
  clear hFc
  refine lv_istore_n (lv' := [(3, .int r3), (0, .ref So), (1, .int a0), (2, .int a1)]) hx hb dX4_targetOf_13 rfl hl (by decide) rfl (fun ls hl => ?_)
  refine lv_aload_n hx hb dX4_targetOf_14 rfl (lv_at hl 1 rfl) ?_
  refine lv_iload_n hx hb dX4_targetOf_15 rfl (lv_at hl 0 rfl) ?_
  obtain ⟨r5, g6, h⟩ := zb1_s h
  have hFc := va_free (wc := (zfSG cI cO So Sp Go Gp Ss Sa Gs Ga)) hD hS hA [0, 1, 2, 3, 4, 5] (zC_8 (cI := cI) (cB := cB) (cO := cO))
  refine zcp_i (va_runV (As := [.int r3]) (rest := []) ⟨hx, hb, hml, hown, hts⟩ (c_X4_pegIn l D cI cB cO So Sp Go Gp Ss Sa Gs Ga r3 _ _ g6) (cwV 1 hts gX4_targetOf_X4_pegIn rfl rfl rfl kV_X4_pegIn ⟨Nat.le_trans (Nat.le_of_ble_eq_true rfl) hRf, Nat.le_trans (Nat.le_of_ble_eq_true rfl) hRl⟩) (zpreV hK hP hD hS hE hFc [0, 1, 2, 3, 4, 5] (zC_8 (cI := cI) (cB := cB) (cO := cO)) rfl 0 (ci := 4) rfl rfl [.int r3]) rfl rfl hl.1 rfl (lv_room (Nat.le_of_ble_eq_true rfl)) dX4_targetOf_16 ⟨Nat.zero_le _, Nat.zero_le _⟩) hP hD hS hFc [0, 1, 2, 3, 4, 5] (zC_8 (cI := cI) (cB := cB) (cO := cO)) (fun H locs hP hS => ?_)
  clear hFc
  refine lv_istore (lv' := [(4, .int r5), (3, .int r3), (0, .ref So), (1, .int a0), (2, .int a1)]) hx hb dX4_targetOf_19 hl (by decide) rfl (fun ls hl => ?_)
  refine lv_iload hx hb dX4_targetOf_21 (lv_at hl 0 rfl) ?_
  refine lv_iconst (v := (-1 : Int32)) hx hb dX4_targetOf_23 (by decide) ?_
  refine lv_icmp_eq (tgt := 52) hx hb dX4_targetOf_24 (by decide) (fun c7 => ?_) (fun c7 => ?_)
  · have h := zif_t c7 h
    refine lv_iconst (v := (-1 : Int32)) hx hb dX4_targetOf_52 (by decide) ?_
    cases zend h
    exact hq hP hD hS dX4_targetOf_53
  · have h := zif_f c7 h
    refine lv_aload_n hx hb dX4_targetOf_27 rfl (lv_at hl 2 rfl) ?_
    refine lv_iload_n hx hb dX4_targetOf_28 rfl (lv_at hl 3 rfl) ?_
    obtain ⟨r8, g9, h⟩ := zb1_s h
    have hFc := va_free (wc := (zwS cI So Sp Go Ss Sa)) hD hS hA [0, 1, 2, 3] (zC_2 (cI := cI) (cB := cB) (cO := cO))
    refine zcp_i (va_runV (As := [.int a0]) (rest := []) ⟨hx, hb, hml, hown, hts⟩ (c_X4_kindOf l D cI cB cO So Sp Go Ss Sa a0 _ _ g9) (cwV 1 hts gX4_targetOf_X4_kindOf rfl rfl rfl kV_X4_kindOf ⟨Nat.le_trans (Nat.le_of_ble_eq_true rfl) hRf, Nat.le_trans (Nat.le_of_ble_eq_true rfl) hRl⟩) (zpreV hK hP hD hS hE hFc [0, 1, 2, 3] (zC_2 (cI := cI) (cB := cB) (cO := cO)) rfl 0 (ci := 4) rfl rfl [.int a0]) rfl rfl hl.1 rfl (lv_room (Nat.le_of_ble_eq_true rfl)) dX4_targetOf_29 ⟨Nat.zero_le _, Nat.zero_le _⟩) hP hD hS hFc [0, 1, 2, 3] (zC_2 (cI := cI) (cB := cB) (cO := cO)) (fun H locs hP hS => ?_)
    clear hFc
    refine lv_iload_n hx hb dX4_targetOf_32 rfl (lv_at hl 4 rfl) ?_
    obtain ⟨r10, g11, h⟩ := zb1_s h
    have hFc := va_free (wc := ([] : va_W)) hD hS hA [] rfl
    refine zcp_i (va_runSN (As := [.int r8, .int a1]) (rest := []) ⟨hx, hb, hml, hown, hts⟩ (c_X5_kindGoes l D cI cB cO r8 a1 _ _ g11) ⟨va_cnB 2 hts ggX4_targetOf_X5_kindGoes rfl rfl rfl (hE.2.1 _ (List.mem_of_getElem? (i := 26) rfl)) (hts (.initialized RX5) (by decide +kernel)) kS_X5_kindGoes ⟨Nat.le_trans (Nat.le_of_ble_eq_true rfl) hRf, Nat.le_trans (Nat.le_of_ble_eq_true rfl) hRl⟩, hts (.static yX5_kindGoes) (by decide +kernel), trivial⟩ (zpreS hK hP hD hS hE hFc [] (rfl) rfl [.int r8, .int a1]) rfl rfl hl.1 rfl (lv_room (Nat.le_of_ble_eq_true rfl)) dX4_targetOf_33 ⟨Nat.zero_le _, Nat.zero_le _⟩) hP hD hS hFc [] (rfl) (fun H locs hP hS => ?_)
    clear hFc
    refine lv_if_eq (tgt := 52) hx hb dX4_targetOf_36 (by decide) (fun c12 => ?_) (fun c12 => ?_)
    · have h := zif_t c12 h
      refine lv_iconst (v := (-1 : Int32)) hx hb dX4_targetOf_52 (by decide) ?_
      cases zend h
      exact hq hP hD hS dX4_targetOf_53
    · have h := zif_f c12 h
      refine lv_aload_n hx hb dX4_targetOf_39 rfl (lv_at hl 2 rfl) ?_
      refine lv_iload hx hb dX4_targetOf_40 (lv_at hl 0 rfl) ?_
      obtain ⟨r13, g14, h⟩ := zb1_s h
      have hFc := va_free (wc := (zwS cI So Sp Go Ss Sa)) hD hS hA [0, 1, 2, 3] (zC_2 (cI := cI) (cB := cB) (cO := cO))
      refine zcp_i (va_runV (As := [.int r5]) (rest := []) ⟨hx, hb, hml, hown, hts⟩ (c_X4_kindOf l D cI cB cO So Sp Go Ss Sa r5 _ _ g14) (cwV 1 hts gX4_targetOf_X4_kindOf rfl rfl rfl kV_X4_kindOf ⟨Nat.le_trans (Nat.le_of_ble_eq_true rfl) hRf, Nat.le_trans (Nat.le_of_ble_eq_true rfl) hRl⟩) (zpreV hK hP hD hS hE hFc [0, 1, 2, 3] (zC_2 (cI := cI) (cB := cB) (cO := cO)) rfl 0 (ci := 4) rfl rfl [.int r5]) rfl rfl hl.1 rfl (lv_room (Nat.le_of_ble_eq_true rfl)) dX4_targetOf_42 ⟨Nat.zero_le _, Nat.zero_le _⟩) hP hD hS hFc [0, 1, 2, 3] (zC_2 (cI := cI) (cB := cB) (cO := cO)) (fun H locs hP hS => ?_)
      clear hFc
      refine lv_iconst (v := (2 : Int32)) hx hb dX4_targetOf_45 (by decide) ?_
      obtain ⟨r15, g16, h⟩ := zb1_s h
      have hFc := va_free (wc := ([] : va_W)) hD hS hA [] rfl
      refine zcp_i (va_runSN (As := [.int r13, .int (2 : Int32)]) (rest := []) ⟨hx, hb, hml, hown, hts⟩ (c_X5_kindCould l D cI cB cO r13 (2 : Int32) _ _ g16) ⟨va_cnB 2 hts ggX4_targetOf_X5_kindCould rfl rfl rfl (hE.2.1 _ (List.mem_of_getElem? (i := 27) rfl)) (hts (.initialized RX5) (by decide +kernel)) kS_X5_kindCould ⟨Nat.le_trans (Nat.le_of_ble_eq_true rfl) hRf, Nat.le_trans (Nat.le_of_ble_eq_true rfl) hRl⟩, hts (.static yX5_kindCould) (by decide +kernel), trivial⟩ (zpreS hK hP hD hS hE hFc [] (rfl) rfl [.int r13, .int (2 : Int32)]) rfl rfl hl.1 rfl (lv_room (Nat.le_of_ble_eq_true rfl)) dX4_targetOf_46 ⟨Nat.zero_le _, Nat.zero_le _⟩) hP hD hS hFc [] (rfl) (fun H locs hP hS => ?_)
      clear hFc
      refine lv_if_ne (tgt := 54) hx hb dX4_targetOf_49 (by decide) (fun c17 => ?_) (fun c17 => ?_)
      · have h := zif_f c17 h
        refine lv_aload_n hx hb dX4_targetOf_54 rfl (lv_at hl 2 rfl) ?_
        refine va_get (D := D) (ci := 4) (v := .ref Go) (C := RX4) (T := TX4) (N := 8) hx hb hts inX4 hown hK hP 0 rfl rfl 0 (by decide) lk21 (fun _ h9 => h9) rfl dX4_targetOf_55 ?_
        refine lv_iload_n hx hb dX4_targetOf_58 rfl (lv_at hl 1 rfl) ?_
        refine lv_iload_n hx hb dX4_targetOf_59 rfl (lv_at hl 4 rfl) ?_
        obtain ⟨r18, g19, h⟩ := zb1_s h
        have hFc := va_free (wc := (zwG cI Go Gp Gs Ga)) hD hS hA [4, 5] (zC_3 (cI := cI) (cB := cB) (cO := cO))
        refine zcp_i (va_runV (As := [.int r3, .int a1]) (rest := []) ⟨hx, hb, hml, hown, hts⟩ (c_X0_next l D cI cB cO Go Gp Gs Ga r3 a1 _ _ g19) (cwV 2 hts gX4_targetOf_X0_next rfl rfl rfl kV_X0_next ⟨Nat.le_trans (Nat.le_of_ble_eq_true rfl) hRf, Nat.le_trans (Nat.le_of_ble_eq_true rfl) hRl⟩) (zpreV hK hP hD hS hE hFc [4, 5] (zC_3 (cI := cI) (cB := cB) (cO := cO)) rfl 4 (ci := 0) rfl rfl [.int r3, .int a1]) rfl rfl hl.1 rfl (lv_room (Nat.le_of_ble_eq_true rfl)) dX4_targetOf_60 ⟨Nat.zero_le _, Nat.zero_le _⟩) hP hD hS hFc [4, 5] (zC_3 (cI := cI) (cB := cB) (cO := cO)) (fun H locs hP hS => ?_)
        clear hFc
        refine lv_istore (lv' := [(5, .int r18), (4, .int r5), (3, .int r3), (0, .ref So), (1, .int a0), (2, .int a1)]) hx hb dX4_targetOf_63 hl (by decide) rfl (fun ls hl => ?_)
        refine lv_aload_n hx hb dX4_targetOf_65 rfl (lv_at hl 3 rfl) ?_
        refine lv_iload hx hb dX4_targetOf_66 (lv_at hl 0 rfl) ?_
        obtain ⟨r20, g21, h⟩ := zb1_s h
        have hFc := va_free (wc := (zfSG cI cO So Sp Go Gp Ss Sa Gs Ga)) hD hS hA [0, 1, 2, 3, 4, 5] (zC_8 (cI := cI) (cB := cB) (cO := cO))
        refine zcp_i (va_runV (As := [.int r18]) (rest := []) ⟨hx, hb, hml, hown, hts⟩ (c_X4_isEmptyHole l D cI cB cO So Sp Go Gp Ss Sa Gs Ga r18 _ _ g21) (cwV 1 hts gX4_targetOf_X4_isEmptyHole rfl rfl rfl kV_X4_isEmptyHole ⟨Nat.le_trans (Nat.le_of_ble_eq_true rfl) hRf, Nat.le_trans (Nat.le_of_ble_eq_true rfl) hRl⟩) (zpreV hK hP hD hS hE hFc [0, 1, 2, 3, 4, 5] (zC_8 (cI := cI) (cB := cB) (cO := cO)) rfl 0 (ci := 4) rfl rfl [.int r18]) rfl rfl hl.1 rfl (lv_room (Nat.le_of_ble_eq_true rfl)) dX4_targetOf_68 ⟨Nat.zero_le _, Nat.zero_le _⟩) hP hD hS hFc [0, 1, 2, 3, 4, 5] (zC_8 (cI := cI) (cB := cB) (cO := cO)) (fun H locs hP hS => ?_)
        clear hFc
        refine lv_if_eq (tgt := 79) hx hb dX4_targetOf_71 (by decide) (fun c22 => ?_) (fun c22 => ?_)
        · have h := zif_t c22 h
          refine lv_iconst (v := (-1 : Int32)) hx hb dX4_targetOf_79 (by decide) ?_
          cases zend h
          exact hq hP hD hS dX4_targetOf_80
        · have h := zif_f c22 h
          refine lv_iload hx hb dX4_targetOf_74 (lv_at hl 0 rfl) ?_
          refine lv_goto (tgt := 80) hx hb dX4_targetOf_76 (by decide) ?_
          cases zend h
          exact hq hP hD hS dX4_targetOf_80
      · have h := zif_t c17 h
        refine lv_iconst (v := (-1 : Int32)) hx hb dX4_targetOf_52 (by decide) ?_
        cases zend h
        exact hq hP hD hS dX4_targetOf_53
set_option maxHeartbeats 4000000 in
set_option maxRecDepth 100000 in
theorem c_X4_targetsOf (l : Launch) (D : va_G) (cI cB cO : ClassId) (So : Nat) (Sp : Nat → Nat) (Go : Nat) (Gp : Nat → Nat) (Ss : Nat → Int32) (Sa : Nat → Nat → Int32) (Gs : Nat → Int32) (Ga : Nat → Nat → Int32) (a0 : Int32) (rv : Int32) (sz : Nat) (h : fX4_targetsOf Ss Sa Gs Ga a0 = some rv) : Met l yX4_targetsOf wsX4_targetsOf ({ frames := 3, cells := 0, slots := 0, locals := 69 } : Room) (va_Pc [.ref So, .int a0] (zPre D (zTY cI cB cO) (zfSG cI cO So Sp Go Gp Ss Sa Gs Ga) sz)) (va_Qi (fun r (_ : Unit) => r = rv) (fun _ => zPost D (zTY cI cB cO) (zfSG cI cO So Sp Go Gp Ss Sa Gs Ga) (va_A (zfSG cI cO So Sp Go Gp Ss Sa Gs Ga) sz)) (va_A (zfSG cI cO So Sp Go Gp Ss Sa Gs Ga) sz)) 0 0 (va_A (zfSG cI cO So Sp Go Gp Ss Sa Gs Ga) sz) := by
  unfold fX4_targetsOf at h
  refine zmet_i (cc := cX4_targetsOf) (maxL := 5) (by decide) rfl (Nat.le_of_ble_eq_true rfl) rfl rfl ?_
  intro p e s m args below meth c R Q A ls hx hb hts hown hml hK hP hD hE hA hS hRf hRl hl hq
  have hown : s.vm.findClass RX4 = some m.cls := hown
  have hl : lv_has ls 5 [(0, .ref So), (1, .int a0)] := hl
  refine lv_iconst (v := (0 : Int32)) hx hb dX4_targetsOf_0 (by decide) ?_
  refine lv_istore_n (lv' := [(2, .int (0 : Int32)), (0, .ref So), (1, .int a0)]) hx hb dX4_targetsOf_1 rfl hl (by decide) rfl (fun ls hl => ?_)
  refine lv_iconst (v := (0 : Int32)) hx hb dX4_targetsOf_2 (by decide) ?_
  refine lv_istore_n (lv' := [(3, .int (0 : Int32)), (2, .int (0 : Int32)), (0, .ref So), (1, .int a0)]) hx hb dX4_targetsOf_3 rfl hl (by decide) rfl (fun ls hl => ?_)
  obtain ⟨x2_37x4, i8, h⟩ := zb1_s h
  have KX37 : ∀ (H : Heap) (locs : List Loc) (ls : Array Slot), va_P D vwCl (zfSG cI cO So Sp Go Gp Ss Sa Gs Ga) H → va_D A (zfSG cI cO So Sp Go Gp Ss Sa Gs Ga) → va_S A s.heap H locs → lv_has ls 5 [(2, .int x2_37x4)] → W p l e R s m args below meth c H locs 0 0 Q (F0 m 37 ls []) := by
    intro H locs ls hP hD hS hl
    refine lv_iload_n hx hb dX4_targetsOf_37 rfl (lv_at hl 0 rfl) ?_
    cases zend h
    exact hq hP hD hS dX4_targetsOf_38
  clear h
  refine zi2_ind (P := (fun (x2_4h : Int32) (x3_4h : Int32) => ∀ (H : Heap) (locs : List Loc) (ls : Array Slot), va_P D vwCl (zfSG cI cO So Sp Go Gp Ss Sa Gs Ga) H → va_D A (zfSG cI cO So Sp Go Gp Ss Sa Gs Ga) → va_S A s.heap H locs → lv_has ls 5 [(0, .ref So), (1, .int a0), (2, .int x2_4h), (3, .int x3_4h)] → W p l e R s m args below meth c H locs 0 0 Q (F0 m 4 ls []))) ?_ i8 _ _ _ hP hD hS (lv_sub hl [2, 3, 1, 0] rfl)
  clear i8 hP hD hS hl
  intro x2_4h x3_4h z4 h zl4 zr4 H locs ls hP hD hS hl
  refine lv_iload_n hx hb dX4_targetsOf_4 rfl (lv_at hl 3 rfl) ?_
  refine lv_bipush (v := (8 : Int32)) hx hb dX4_targetsOf_5 (by decide) ?_
  refine lv_icmp_ge (tgt := 37) hx hb dX4_targetsOf_7 (by decide) (fun c2 => ?_) (fun c2 => ?_)
  · have h := zif_t c2 h
    cases zr4 _ (zend h).symm
    exact KX37 _ _ _ hP hD hS (lv_sub hl [2] rfl)
  · have h := zif_f c2 h
    refine lv_aload_n hx hb dX4_targetsOf_10 rfl (lv_at hl 0 rfl) ?_
    refine lv_iload_n hx hb dX4_targetsOf_11 rfl (lv_at hl 1 rfl) ?_
    refine lv_iload_n hx hb dX4_targetsOf_12 rfl (lv_at hl 3 rfl) ?_
    obtain ⟨r3, g4, h⟩ := zb1_s h
    have hFc := va_free (wc := (zfSG cI cO So Sp Go Gp Ss Sa Gs Ga)) hD hS hA [0, 1, 2, 3, 4, 5] (zC_8 (cI := cI) (cB := cB) (cO := cO))
    refine zcp_i (va_runV (As := [.int a0, .int x3_4h]) (rest := []) ⟨hx, hb, hml, hown, hts⟩ (c_X4_targetOf l D cI cB cO So Sp Go Gp Ss Sa Gs Ga a0 x3_4h _ _ g4) (cwV 2 hts gX4_targetsOf_X4_targetOf rfl rfl rfl kV_X4_targetOf ⟨Nat.le_trans (Nat.le_of_ble_eq_true rfl) hRf, Nat.le_trans (Nat.le_of_ble_eq_true rfl) hRl⟩) (zpreV hK hP hD hS hE hFc [0, 1, 2, 3, 4, 5] (zC_8 (cI := cI) (cB := cB) (cO := cO)) rfl 0 (ci := 4) rfl rfl [.int a0, .int x3_4h]) rfl rfl hl.1 rfl (lv_room (Nat.le_of_ble_eq_true rfl)) dX4_targetsOf_13 ⟨Nat.zero_le _, Nat.zero_le _⟩) hP hD hS hFc [0, 1, 2, 3, 4, 5] (zC_8 (cI := cI) (cB := cB) (cO := cO)) (fun H locs hP hS => ?_)
    clear hFc
    refine lv_istore (lv' := [(4, .int r3), (0, .ref So), (1, .int a0), (2, .int x2_4h), (3, .int x3_4h)]) hx hb dX4_targetsOf_16 hl (by decide) rfl (fun ls hl => ?_)
    refine lv_iload hx hb dX4_targetsOf_18 (lv_at hl 0 rfl) ?_
    refine lv_iconst (v := (-1 : Int32)) hx hb dX4_targetsOf_20 (by decide) ?_
    obtain ⟨x2_31, j5, h⟩ := zb1_s h
    have K31 : ∀ (H : Heap) (locs : List Loc) (ls : Array Slot), va_P D vwCl (zfSG cI cO So Sp Go Gp Ss Sa Gs Ga) H → va_D A (zfSG cI cO So Sp Go Gp Ss Sa Gs Ga) → va_S A s.heap H locs → lv_has ls 5 [(0, .ref So), (1, .int a0), (2, .int x2_31), (3, .int x3_4h)] → W p l e R s m args below meth c H locs 0 0 Q (F0 m 31 ls []) := by
      intro H locs ls hP hD hS hl
      refine lv_iinc (v := (x3_4h + (1 : Int32))) (lv' := [(3, .int (x3_4h + (1 : Int32))), (0, .ref So), (1, .int a0), (2, .int x2_31)]) hx hb dX4_targetsOf_31 hl (k := 3) rfl rfl (by decide) rfl (fun ls hl => ?_)
      refine lv_goto (tgt := 4) hx hb dX4_targetsOf_34 (by decide) ?_
      exact zl4 _ _ (zend h).symm _ _ _ hP hD hS (lv_sub hl [1, 2, 3, 0] rfl)
    clear h
    have h := j5
    clear j5
    refine lv_icmp_eq (tgt := 31) hx hb dX4_targetsOf_21 (by decide) (fun c6 => ?_) (fun c6 => ?_)
    · have h := zif_t c6 h
      cases zend h
      exact K31 _ _ _ hP hD hS (lv_sub hl [1, 2, 3, 4] rfl)
    · have h := zif_f c6 h
      refine lv_iload_n hx hb dX4_targetsOf_24 rfl (lv_at hl 3 rfl) ?_
      refine lv_iconst (v := (1 : Int32)) hx hb dX4_targetsOf_25 (by decide) ?_
      refine lv_iload hx hb dX4_targetsOf_26 (lv_at hl 0 rfl) ?_
      refine lv_ishl hx hb dX4_targetsOf_28 ?_
      refine lv_ior hx hb dX4_targetsOf_29 ?_
      refine lv_topi (fun x2_7 ex2_7 => ?_)
      have h := zlt_s h ex2_7
      refine lv_istore_n (lv' := [(2, .int x2_7), (4, .int r3), (0, .ref So), (1, .int a0), (3, .int x3_4h)]) hx hb dX4_targetsOf_30 rfl hl (by decide) rfl (fun ls hl => ?_)
      cases zend h
      exact K31 _ _ _ hP hD hS (lv_sub hl [2, 3, 0, 4] rfl)
set_option maxHeartbeats 4000000 in
set_option maxRecDepth 100000 in
theorem c_X4_directionTo (l : Launch) (D : va_G) (cI cB cO : ClassId) (So : Nat) (Sp : Nat → Nat) (Go : Nat) (Gp : Nat → Nat) (Ss : Nat → Int32) (Sa : Nat → Nat → Int32) (Gs : Nat → Int32) (Ga : Nat → Nat → Int32) (a0 : Int32) (a1 : Int32) (rv : Int32) (sz : Nat) (h : fX4_directionTo Ss Sa Gs Ga a0 a1 = some rv) : Met l yX4_directionTo wsX4_directionTo ({ frames := 3, cells := 0, slots := 0, locals := 69 } : Room) (va_Pc [.ref So, .int a0, .int a1] (zPre D (zTY cI cB cO) (zfSG cI cO So Sp Go Gp Ss Sa Gs Ga) sz)) (va_Qi (fun r (_ : Unit) => r = rv) (fun _ => zPost D (zTY cI cB cO) (zfSG cI cO So Sp Go Gp Ss Sa Gs Ga) (va_A (zfSG cI cO So Sp Go Gp Ss Sa Gs Ga) sz)) (va_A (zfSG cI cO So Sp Go Gp Ss Sa Gs Ga) sz)) 0 0 (va_A (zfSG cI cO So Sp Go Gp Ss Sa Gs Ga) sz) := by
  unfold fX4_directionTo at h
  refine zmet_i (cc := cX4_directionTo) (maxL := 4) (by decide) rfl (Nat.le_of_ble_eq_true rfl) rfl rfl ?_
  intro p e s m args below meth c R Q A ls hx hb hts hown hml hK hP hD hE hA hS hRf hRl hl hq
  have hown : s.vm.findClass RX4 = some m.cls := hown
  have hl : lv_has ls 4 [(0, .ref So), (1, .int a0), (2, .int a1)] := hl
  refine lv_iconst (v := (0 : Int32)) hx hb dX4_directionTo_0 (by decide) ?_
  refine lv_istore_n (lv' := [(3, .int (0 : Int32)), (0, .ref So), (1, .int a0), (2, .int a1)]) hx hb dX4_directionTo_1 rfl hl (by decide) rfl (fun ls hl => ?_)
  obtain ⟨y1, i7, h1y1, h2y1⟩ := zbs_s h
  clear h
  have KX23 : ∀ (x3_23x2 : Int32), y1 = (.inl x3_23x2) → ∀ (H : Heap) (locs : List Loc) (ls : Array Slot), va_P D vwCl (zfSG cI cO So Sp Go Gp Ss Sa Gs Ga) H → va_D A (zfSG cI cO So Sp Go Gp Ss Sa Gs Ga) → va_S A s.heap H locs → lv_has ls 4 [(3, .int x3_23x2)] → W p l e R s m args below meth c H locs 0 0 Q (F0 m 23 ls []) := by
    intro x3_23x2 ey1 H locs ls hP hD hS hl
    have h := h1y1 _ ey1
    refine lv_iload_n hx hb dX4_directionTo_23 rfl (lv_at hl 0 rfl) ?_
    cases zend h
    exact hq hP hD hS dX4_directionTo_24
  have KX31 : ∀ (u : Unit), y1 = (.inr u) → ∀ (H : Heap) (locs : List Loc) (ls : Array Slot), va_P D vwCl (zfSG cI cO So Sp Go Gp Ss Sa Gs Ga) H → va_D A (zfSG cI cO So Sp Go Gp Ss Sa Gs Ga) → va_S A s.heap H locs → lv_has ls 4 [] → W p l e R s m args below meth c H locs 0 0 Q (F0 m 31 ls []) := by
    intro u ey1 H locs ls hP hD hS hl
    have h := h2y1 _ ey1
    refine lv_iconst (v := (-1 : Int32)) hx hb dX4_directionTo_31 (by decide) ?_
    cases zend h
    exact hq hP hD hS dX4_directionTo_32
  refine zi1_ind (P := (fun (x3_2h : Int32) => ∀ (H : Heap) (locs : List Loc) (ls : Array Slot), va_P D vwCl (zfSG cI cO So Sp Go Gp Ss Sa Gs Ga) H → va_D A (zfSG cI cO So Sp Go Gp Ss Sa Gs Ga) → va_S A s.heap H locs → lv_has ls 4 [(0, .ref So), (1, .int a0), (2, .int a1), (3, .int x3_2h)] → W p l e R s m args below meth c H locs 0 0 Q (F0 m 2 ls []))) ?_ i7 _ _ _ hP hD hS (lv_sub hl [1, 2, 3, 0] rfl)
  clear i7 hP hD hS hl
  intro x3_2h z2 h zl2 zr2 H locs ls hP hD hS hl
  refine lv_iload_n hx hb dX4_directionTo_2 rfl (lv_at hl 3 rfl) ?_
  refine lv_bipush (v := (8 : Int32)) hx hb dX4_directionTo_3 (by decide) ?_
  refine lv_icmp_ge (tgt := 31) hx hb dX4_directionTo_5 (by decide) (fun c2 => ?_) (fun c2 => ?_)
  · have h := zif_t c2 h
    exact KX31 _ (zr2 _ (zend h).symm).symm _ _ _ hP hD hS (lv_sub hl [] rfl)
  · have h := zif_f c2 h
    refine lv_iload_n hx hb dX4_directionTo_8 rfl (lv_at hl 2 rfl) ?_
    refine lv_iconst (v := (-1 : Int32)) hx hb dX4_directionTo_9 (by decide) ?_
    obtain ⟨J25, eJ25, h⟩ := zjn_s h
    have K25 : ∀ (u : Unit), J25 u = some z2 → ∀ (H : Heap) (locs : List Loc) (ls : Array Slot), va_P D vwCl (zfSG cI cO So Sp Go Gp Ss Sa Gs Ga) H → va_D A (zfSG cI cO So Sp Go Gp Ss Sa Gs Ga) → va_S A s.heap H locs → lv_has ls 4 [(0, .ref So), (1, .int a0), (2, .int a1), (3, .int x3_2h)] → W p l e R s m args below meth c H locs 0 0 Q (F0 m 25 ls []) := by
      subst eJ25
      intro u h H locs ls hP hD hS hl
      refine lv_iinc (v := (x3_2h + (1 : Int32))) (lv' := [(3, .int (x3_2h + (1 : Int32))), (0, .ref So), (1, .int a0), (2, .int a1)]) hx hb dX4_directionTo_25 hl (k := 3) rfl rfl (by decide) rfl (fun ls hl => ?_)
      refine lv_goto (tgt := 2) hx hb dX4_directionTo_28 (by decide) ?_
      exact zl2 _ (zend h).symm _ _ _ hP hD hS (lv_sub hl [1, 2, 3, 0] rfl)
    clear eJ25
    refine lv_icmp_eq (tgt := 25) hx hb dX4_directionTo_10 (by decide) (fun c3 => ?_) (fun c3 => ?_)
    · have h := zif_t c3 h
      exact K25 _ h _ _ _ hP hD hS (lv_sub hl [0, 1, 2, 3] rfl)
    · have h := zif_f c3 h
      refine lv_aload_n hx hb dX4_directionTo_13 rfl (lv_at hl 0 rfl) ?_
      refine lv_iload_n hx hb dX4_directionTo_14 rfl (lv_at hl 1 rfl) ?_
      refine lv_iload_n hx hb dX4_directionTo_15 rfl (lv_at hl 3 rfl) ?_
      obtain ⟨r4, g5, h⟩ := zb1_s h
      have hFc := va_free (wc := (zfSG cI cO So Sp Go Gp Ss Sa Gs Ga)) hD hS hA [0, 1, 2, 3, 4, 5] (zC_8 (cI := cI) (cB := cB) (cO := cO))
      refine zcp_i (va_runV (As := [.int a0, .int x3_2h]) (rest := []) ⟨hx, hb, hml, hown, hts⟩ (c_X4_targetOf l D cI cB cO So Sp Go Gp Ss Sa Gs Ga a0 x3_2h _ _ g5) (cwV 2 hts gX4_directionTo_X4_targetOf rfl rfl rfl kV_X4_targetOf ⟨Nat.le_trans (Nat.le_of_ble_eq_true rfl) hRf, Nat.le_trans (Nat.le_of_ble_eq_true rfl) hRl⟩) (zpreV hK hP hD hS hE hFc [0, 1, 2, 3, 4, 5] (zC_8 (cI := cI) (cB := cB) (cO := cO)) rfl 0 (ci := 4) rfl rfl [.int a0, .int x3_2h]) rfl rfl hl.1 rfl (lv_room (Nat.le_of_ble_eq_true rfl)) dX4_directionTo_16 ⟨Nat.zero_le _, Nat.zero_le _⟩) hP hD hS hFc [0, 1, 2, 3, 4, 5] (zC_8 (cI := cI) (cB := cB) (cO := cO)) (fun H locs hP hS => ?_)
      clear hFc
      refine lv_iload_n hx hb dX4_directionTo_19 rfl (lv_at hl 2 rfl) ?_
      refine lv_icmp_ne (tgt := 25) hx hb dX4_directionTo_20 (by decide) (fun c6 => ?_) (fun c6 => ?_)
      · have h := zif_f c6 h
        exact K25 _ h _ _ _ hP hD hS (lv_sub hl [0, 1, 2, 3] rfl)
      · have h := zif_t c6 h
        exact KX23 _ (zr2 _ (zend h).symm).symm _ _ _ hP hD hS (lv_sub hl [3] rfl)
set_option maxHeartbeats 4000000 in
set_option maxRecDepth 100000 in
theorem c_X4_choices (l : Launch) (D : va_G) (cI cB cO : ClassId) (So : Nat) (Sp : Nat → Nat) (Go : Nat) (Gp : Nat → Nat) (Ss : Nat → Int32) (Sa : Nat → Nat → Int32) (Gs : Nat → Int32) (Ga : Nat → Nat → Int32)  (rv : Int32) (sz : Nat) (h : fX4_choices Ss Sa Gs Ga = some rv) : Met l yX4_choices wsX4_choices ({ frames := 4, cells := 0, slots := 0, locals := 93 } : Room) (va_Pc [.ref So] (zPre D (zTY cI cB cO) (zfSG cI cO So Sp Go Gp Ss Sa Gs Ga) sz)) (va_Qi (fun r (_ : Unit) => r = rv) (fun _ => zPost D (zTY cI cB cO) (zfSG cI cO So Sp Go Gp Ss Sa Gs Ga) (va_A (zfSG cI cO So Sp Go Gp Ss Sa Gs Ga) sz)) (va_A (zfSG cI cO So Sp Go Gp Ss Sa Gs Ga) sz)) 0 0 (va_A (zfSG cI cO So Sp Go Gp Ss Sa Gs Ga) sz) := by
  unfold fX4_choices at h
  refine zmet_i (cc := cX4_choices) (maxL := 3) (by decide) rfl (Nat.le_of_ble_eq_true rfl) rfl rfl ?_
  intro p e s m args below meth c R Q A ls hx hb hts hown hml hK hP hD hE hA hS hRf hRl hl hq
  have hown : s.vm.findClass RX4 = some m.cls := hown
  have hl : lv_has ls 3 [(0, .ref So)] := hl
  have inX4 : ∀ w ∈ u_ws RX4 TX4 8, w ∈ wsX4_choices := by decide +kernel
  have lk29 : (Cond.fieldLink RX4 29 "PegField$State" "pegs" "I").before args s = true := hts _ (by decide +kernel)
  refine lv_iconst (v := (0 : Int32)) hx hb dX4_choices_0 (by decide) ?_
  refine lv_istore_n (lv' := [(1, .int (0 : Int32)), (0, .ref So)]) hx hb dX4_choices_1 rfl hl (by decide) rfl (fun ls hl => ?_)
  refine lv_iconst (v := (0 : Int32)) hx hb dX4_choices_2 (by decide) ?_
  refine lv_istore_n (lv' := [(2, .int (0 : Int32)), (1, .int (0 : Int32)), (0, .ref So)]) hx hb dX4_choices_3 rfl hl (by decide) rfl (fun ls hl => ?_)
  obtain ⟨x1_29x4, i8, h⟩ := zb1_s h
  have KX29 : ∀ (H : Heap) (locs : List Loc) (ls : Array Slot), va_P D vwCl (zfSG cI cO So Sp Go Gp Ss Sa Gs Ga) H → va_D A (zfSG cI cO So Sp Go Gp Ss Sa Gs Ga) → va_S A s.heap H locs → lv_has ls 3 [(1, .int x1_29x4)] → W p l e R s m args below meth c H locs 0 0 Q (F0 m 29 ls []) := by
    intro H locs ls hP hD hS hl
    refine lv_iload_n hx hb dX4_choices_29 rfl (lv_at hl 0 rfl) ?_
    cases zend h
    exact hq hP hD hS dX4_choices_30
  clear h
  refine zi2_ind (P := (fun (x1_4h : Int32) (x2_4h : Int32) => ∀ (H : Heap) (locs : List Loc) (ls : Array Slot), va_P D vwCl (zfSG cI cO So Sp Go Gp Ss Sa Gs Ga) H → va_D A (zfSG cI cO So Sp Go Gp Ss Sa Gs Ga) → va_S A s.heap H locs → lv_has ls 3 [(0, .ref So), (1, .int x1_4h), (2, .int x2_4h)] → W p l e R s m args below meth c H locs 0 0 Q (F0 m 4 ls []))) ?_ i8 _ _ _ hP hD hS (lv_sub hl [2, 1, 0] rfl)
  clear i8 hP hD hS hl
  intro x1_4h x2_4h z4 h zl4 zr4 H locs ls hP hD hS hl
  refine lv_iload_n hx hb dX4_choices_4 rfl (lv_at hl 2 rfl) ?_
  refine lv_aload_n hx hb dX4_choices_5 rfl (lv_at hl 0 rfl) ?_
  refine va_get (D := D) (ci := 4) (v := .int (Ss 2)) (C := RX4) (T := TX4) (N := 8) hx hb hts inX4 hown hK hP 0 rfl rfl 2 (by decide) lk29 (fun _ h9 => h9) rfl dX4_choices_6 ?_
  refine lv_icmp_ge (tgt := 29) hx hb dX4_choices_9 (by decide) (fun c2 => ?_) (fun c2 => ?_)
  · have h := zif_t c2 h
    cases zr4 _ (zend h).symm
    exact KX29 _ _ _ hP hD hS (lv_sub hl [1] rfl)
  · have h := zif_f c2 h
    refine lv_iload_n hx hb dX4_choices_12 rfl (lv_at hl 1 rfl) ?_
    refine lv_aload_n hx hb dX4_choices_13 rfl (lv_at hl 0 rfl) ?_
    refine lv_iload_n hx hb dX4_choices_14 rfl (lv_at hl 2 rfl) ?_
    obtain ⟨r3, g4, h⟩ := zb1_s h
    have hFc := va_free (wc := (zfSG cI cO So Sp Go Gp Ss Sa Gs Ga)) hD hS hA [0, 1, 2, 3, 4, 5] (zC_8 (cI := cI) (cB := cB) (cO := cO))
    refine zcp_i (va_runV (As := [.int x2_4h]) (rest := [.int x1_4h]) ⟨hx, hb, hml, hown, hts⟩ (c_X4_targetsOf l D cI cB cO So Sp Go Gp Ss Sa Gs Ga x2_4h _ _ g4) (cwV 1 hts gX4_choices_X4_targetsOf rfl rfl rfl kV_X4_targetsOf ⟨Nat.le_trans (Nat.le_of_ble_eq_true rfl) hRf, Nat.le_trans (Nat.le_of_ble_eq_true rfl) hRl⟩) (zpreV hK hP hD hS hE hFc [0, 1, 2, 3, 4, 5] (zC_8 (cI := cI) (cB := cB) (cO := cO)) rfl 0 (ci := 4) rfl rfl [.int x2_4h]) rfl rfl hl.1 rfl (lv_room (Nat.le_of_ble_eq_true rfl)) dX4_choices_15 ⟨Nat.zero_le _, Nat.zero_le _⟩) hP hD hS hFc [0, 1, 2, 3, 4, 5] (zC_8 (cI := cI) (cB := cB) (cO := cO)) (fun H locs hP hS => ?_)
    clear hFc
    obtain ⟨r5, g6, h⟩ := zb1_s h
    have hFc := va_free (wc := ([] : va_W)) hD hS hA [] rfl
    refine zcp_i (va_runS (As := [.int r3]) (rest := [.int x1_4h]) ⟨hx, hb, hml, hown, hts⟩ (c_J6_bitCount_0f7a4 l D cI cB cO r3 _ _ g6) (va_cwS 1 hts gX4_choices_J6_bitCount_0f7a4 rfl rfl rfl kS_J6_bitCount_0f7a4 ⟨Nat.le_trans (Nat.le_of_ble_eq_true rfl) hRf, Nat.le_trans (Nat.le_of_ble_eq_true rfl) hRl⟩) (zpreS hK hP hD hS hE hFc [] (rfl) rfl [.int r3]) rfl rfl hl.1 rfl (lv_room (Nat.le_of_ble_eq_true rfl)) dX4_choices_18 ⟨Nat.zero_le _, Nat.zero_le _⟩) hP hD hS hFc [] (rfl) (fun H locs hP hS => ?_)
    clear hFc
    refine lv_iadd hx hb dX4_choices_21 ?_
    refine lv_topi (fun x1_7 ex1_7 => ?_)
    have h := zlt_s h ex1_7
    refine lv_istore_n (lv' := [(1, .int x1_7), (0, .ref So), (2, .int x2_4h)]) hx hb dX4_choices_22 rfl hl (by decide) rfl (fun ls hl => ?_)
    refine lv_iinc (v := (x2_4h + (1 : Int32))) (lv' := [(2, .int (x2_4h + (1 : Int32))), (1, .int x1_7), (0, .ref So)]) hx hb dX4_choices_23 hl (k := 2) rfl rfl (by decide) rfl (fun ls hl => ?_)
    refine lv_goto (tgt := 4) hx hb dX4_choices_26 (by decide) ?_
    exact zl4 _ _ (zend h).symm _ _ _ hP hD hS (lv_sub hl [2, 1, 0] rfl)
set_option maxHeartbeats 4000000 in
set_option maxRecDepth 100000 in
theorem c_X4_leap (l : Launch) (D : va_G) (cI cB cO : ClassId) (So : Nat) (Sp : Nat → Nat) (Go : Nat) (Gp : Nat → Nat) (Ss : Nat → Int32) (Sa : Nat → Nat → Int32) (Gs : Nat → Int32) (Ga : Nat → Nat → Int32) (a0 : Int32) (a1 : Int32) (a2 : Int32) (Ss' : Nat → Int32) (Sa' : Nat → Nat → Int32) (sz : Nat) (h : fX4_leap Ss Sa Gs a0 a1 a2 = some (Ss', Sa')) : Met l yX4_leap wsX4_leap ({ frames := 2, cells := 0, slots := 0, locals := 43 } : Room) (va_Pc [.ref So, .int a0, .int a1, .int a2] (zPre D (zTY cI cB cO) (zfSG cI cO So Sp Go Gp Ss Sa Gs Ga) sz)) (va_Qv (fun (_ : Unit) => True) (fun _ => zPost D (zTY cI cB cO) (zfSG cI cO So Sp Go Gp Ss' Sa' Gs Ga) (va_A (zfSG cI cO So Sp Go Gp Ss Sa Gs Ga) sz)) (va_A (zfSG cI cO So Sp Go Gp Ss Sa Gs Ga) sz)) 0 0 (va_A (zfSG cI cO So Sp Go Gp Ss Sa Gs Ga) sz) := by
  unfold fX4_leap at h
  refine zmet_v (cc := cX4_leap) (maxL := 4) (by decide) rfl (Nat.le_of_ble_eq_true rfl) rfl rfl ?_
  intro p e s m args below meth c R Q A ls hx hb hts hown hml hK hP hD hE hA hS hRf hRl hl hq
  have hown : s.vm.findClass RX4 = some m.cls := hown
  have hl : lv_has ls 4 [(0, .ref So), (1, .int a0), (2, .int a1), (3, .int a2)] := hl
  refine lv_aload_n hx hb dX4_leap_0 rfl (lv_at hl 0 rfl) ?_
  refine lv_iload_n hx hb dX4_leap_1 rfl (lv_at hl 2 rfl) ?_
  obtain ⟨Ss_1, Sa_2, g3, h⟩ := zb2_s h
  have hFc := va_free (wc := (zfSG cI cO So Sp Go Gp Ss Sa Gs Ga)) hD hS hA [0, 1, 2, 3, 4, 5] (zC_4 (cI := cI) (cB := cB) (cO := cO))
  refine zcm_v (w2 := (zfSG cI cO So Sp Go Gp Ss_1 Sa_2 Gs Ga)) (va_runV (As := [.int a1]) (rest := []) ⟨hx, hb, hml, hown, hts⟩ (c_X4_lift l D cI cB cO So Sp Go Gp Ss Sa Gs Ga a1 _ _ _ g3) (cwV 1 hts gX4_leap_X4_lift rfl rfl rfl kV_X4_lift ⟨Nat.le_trans (Nat.le_of_ble_eq_true rfl) hRf, Nat.le_trans (Nat.le_of_ble_eq_true rfl) hRl⟩) (zpreV hK hP hD hS hE hFc [0, 1, 2, 3, 4, 5] (zC_4 (cI := cI) (cB := cB) (cO := cO)) rfl 0 (ci := 4) rfl rfl [.int a1]) rfl rfl hl.1 rfl (lv_room (Nat.le_of_ble_eq_true rfl)) dX4_leap_2 ⟨Nat.zero_le _, Nat.zero_le _⟩) hS hFc (fun H1 t h1 h2 h3 => zM_4 (cI := cI) (cB := cB) (cO := cO) hP hD h1 h2 h3) (fun H locs hP hD hS => ?_)
  clear hFc
  refine lv_aload_n hx hb dX4_leap_5 rfl (lv_at hl 0 rfl) ?_
  refine lv_iload_n hx hb dX4_leap_6 rfl (lv_at hl 1 rfl) ?_
  obtain ⟨Ss_4, Sa_5, g6, h⟩ := zb2_s h
  have hFc := va_free (wc := (zfSG cI cO So Sp Go Gp Ss_1 Sa_2 Gs Ga)) hD hS hA [0, 1, 2, 3, 4, 5] (zC_4 (cI := cI) (cB := cB) (cO := cO))
  refine zcm_v (w2 := (zfSG cI cO So Sp Go Gp Ss_4 Sa_5 Gs Ga)) (va_runV (As := [.int a0]) (rest := []) ⟨hx, hb, hml, hown, hts⟩ (c_X4_lift l D cI cB cO So Sp Go Gp Ss_1 Sa_2 Gs Ga a0 _ _ _ g6) (cwV 1 hts gX4_leap_X4_lift rfl rfl rfl kV_X4_lift ⟨Nat.le_trans (Nat.le_of_ble_eq_true rfl) hRf, Nat.le_trans (Nat.le_of_ble_eq_true rfl) hRl⟩) (zpreV hK hP hD hS hE hFc [0, 1, 2, 3, 4, 5] (zC_4 (cI := cI) (cB := cB) (cO := cO)) rfl 0 (ci := 4) rfl rfl [.int a0]) rfl rfl hl.1 rfl (lv_room (Nat.le_of_ble_eq_true rfl)) dX4_leap_7 ⟨Nat.zero_le _, Nat.zero_le _⟩) hS hFc (fun H1 t h1 h2 h3 => zM_4 (cI := cI) (cB := cB) (cO := cO) hP hD h1 h2 h3) (fun H locs hP hD hS => ?_)
  clear hFc
  refine lv_aload_n hx hb dX4_leap_10 rfl (lv_at hl 0 rfl) ?_
  refine lv_iload_n hx hb dX4_leap_11 rfl (lv_at hl 1 rfl) ?_
  obtain ⟨r7, g8, h⟩ := zb1_s h
  have hFc := va_free (wc := (zwS cI So Sp Go Ss_4 Sa_5)) hD hS hA [0, 1, 2, 3] (zC_2 (cI := cI) (cB := cB) (cO := cO))
  refine zcp_i (va_runV (As := [.int a0]) (rest := []) ⟨hx, hb, hml, hown, hts⟩ (c_X4_kindOf l D cI cB cO So Sp Go Ss_4 Sa_5 a0 _ _ g8) (cwV 1 hts gX4_leap_X4_kindOf rfl rfl rfl kV_X4_kindOf ⟨Nat.le_trans (Nat.le_of_ble_eq_true rfl) hRf, Nat.le_trans (Nat.le_of_ble_eq_true rfl) hRl⟩) (zpreV hK hP hD hS hE hFc [0, 1, 2, 3] (zC_2 (cI := cI) (cB := cB) (cO := cO)) rfl 0 (ci := 4) rfl rfl [.int a0]) rfl rfl hl.1 rfl (lv_room (Nat.le_of_ble_eq_true rfl)) dX4_leap_12 ⟨Nat.zero_le _, Nat.zero_le _⟩) hP hD hS hFc [0, 1, 2, 3] (zC_2 (cI := cI) (cB := cB) (cO := cO)) (fun H locs hP hS => ?_)
  clear hFc
  refine lv_iconst (v := (3 : Int32)) hx hb dX4_leap_15 (by decide) ?_
  obtain ⟨r9, g10, h⟩ := zb1_s h
  have hFc := va_free (wc := ([] : va_W)) hD hS hA [] rfl
  refine zcp_i (va_runSN (As := [.int r7, .int (3 : Int32)]) (rest := []) ⟨hx, hb, hml, hown, hts⟩ (c_X5_kindCould l D cI cB cO r7 (3 : Int32) _ _ g10) ⟨va_cnB 2 hts ggX4_leap_X5_kindCould rfl rfl rfl (hE.2.1 _ (List.mem_of_getElem? (i := 27) rfl)) (hts (.initialized RX5) (by decide +kernel)) kS_X5_kindCould ⟨Nat.le_trans (Nat.le_of_ble_eq_true rfl) hRf, Nat.le_trans (Nat.le_of_ble_eq_true rfl) hRl⟩, hts (.static yX5_kindCould) (by decide +kernel), trivial⟩ (zpreS hK hP hD hS hE hFc [] (rfl) rfl [.int r7, .int (3 : Int32)]) rfl rfl hl.1 rfl (lv_room (Nat.le_of_ble_eq_true rfl)) dX4_leap_16 ⟨Nat.zero_le _, Nat.zero_le _⟩) hP hD hS hFc [] (rfl) (fun H locs hP hS => ?_)
  clear hFc
  refine lv_if_eq (tgt := 28) hx hb dX4_leap_19 (by decide) (fun c11 => ?_) (fun c11 => ?_)
  · have h := zif_t c11 h
    cases zend h
    exact hq hP hD hS dX4_leap_28
  · have h := zif_f c11 h
    refine lv_aload_n hx hb dX4_leap_22 rfl (lv_at hl 0 rfl) ?_
    refine lv_iload_n hx hb dX4_leap_23 rfl (lv_at hl 1 rfl) ?_
    refine lv_iload_n hx hb dX4_leap_24 rfl (lv_at hl 3 rfl) ?_
    obtain ⟨Ss_12, Sa_13, g14, h⟩ := zb2_s h
    have hFc := va_free (wc := (zfSG cI cO So Sp Go Gp Ss_4 Sa_5 Gs Ga)) hD hS hA [0, 1, 2, 3, 4, 5] (zC_4 (cI := cI) (cB := cB) (cO := cO))
    refine zcm_v (w2 := (zfSG cI cO So Sp Go Gp Ss_12 Sa_13 Gs Ga)) (va_runV (As := [.int a0, .int a2]) (rest := []) ⟨hx, hb, hml, hown, hts⟩ (c_X4_set l D cI cB cO So Sp Go Gp Ss_4 Sa_5 Gs Ga a0 a2 _ _ _ g14) (cwV 2 hts gX4_leap_X4_set rfl rfl rfl kV_X4_set ⟨Nat.le_trans (Nat.le_of_ble_eq_true rfl) hRf, Nat.le_trans (Nat.le_of_ble_eq_true rfl) hRl⟩) (zpreV hK hP hD hS hE hFc [0, 1, 2, 3, 4, 5] (zC_4 (cI := cI) (cB := cB) (cO := cO)) rfl 0 (ci := 4) rfl rfl [.int a0, .int a2]) rfl rfl hl.1 rfl (lv_room (Nat.le_of_ble_eq_true rfl)) dX4_leap_25 ⟨Nat.zero_le _, Nat.zero_le _⟩) hS hFc (fun H1 t h1 h2 h3 => zM_4 (cI := cI) (cB := cB) (cO := cO) hP hD h1 h2 h3) (fun H locs hP hD hS => ?_)
    clear hFc
    cases zend h
    exact hq hP hD hS dX4_leap_28
set_option maxHeartbeats 4000000 in
set_option maxRecDepth 100000 in
theorem c_X4_leapByChoice (l : Launch) (D : va_G) (cI cB cO : ClassId) (So : Nat) (Sp : Nat → Nat) (Go : Nat) (Gp : Nat → Nat) (Ss : Nat → Int32) (Sa : Nat → Nat → Int32) (Gs : Nat → Int32) (Ga : Nat → Nat → Int32) (a0 : Int32) (Ss' : Nat → Int32) (Sa' : Nat → Nat → Int32) (sz : Nat) (h : fX4_leapByChoice Ss Sa Gs Ga a0 = some (Ss', Sa')) : Met l yX4_leapByChoice wsX4_leapByChoice ({ frames := 3, cells := 0, slots := 0, locals := 69 } : Room) (va_Pc [.ref So, .int a0] (zPre D (zTY cI cB cO) (zfSG cI cO So Sp Go Gp Ss Sa Gs Ga) sz)) (va_Qv (fun (_ : Unit) => True) (fun _ => zPost D (zTY cI cB cO) (zfSG cI cO So Sp Go Gp Ss' Sa' Gs Ga) (va_A (zfSG cI cO So Sp Go Gp Ss Sa Gs Ga) sz)) (va_A (zfSG cI cO So Sp Go Gp Ss Sa Gs Ga) sz)) 0 0 (va_A (zfSG cI cO So Sp Go Gp Ss Sa Gs Ga) sz) := by
  unfold fX4_leapByChoice at h
  refine zmet_v (cc := cX4_leapByChoice) (maxL := 6) (by decide) rfl (Nat.le_of_ble_eq_true rfl) rfl rfl ?_
  intro p e s m args below meth c R Q A ls hx hb hts hown hml hK hP hD hE hA hS hRf hRl hl hq
  have hown : s.vm.findClass RX4 = some m.cls := hown
  have hl : lv_has ls 6 [(0, .ref So), (1, .int a0)] := hl
  have inX4 : ∀ w ∈ u_ws RX4 TX4 8, w ∈ wsX4_leapByChoice := by decide +kernel
  have lk29 : (Cond.fieldLink RX4 29 "PegField$State" "pegs" "I").before args s = true := hts _ (by decide +kernel)
  refine lv_iload_n hx hb dX4_leapByChoice_0 rfl (lv_at hl 1 rfl) ?_
  refine lv_istore_n (lv' := [(2, .int a0), (0, .ref So), (1, .int a0)]) hx hb dX4_leapByChoice_1 rfl hl (by decide) rfl (fun ls hl => ?_)
  refine lv_iconst (v := (0 : Int32)) hx hb dX4_leapByChoice_2 (by decide) ?_
  refine lv_istore_n (lv' := [(3, .int (0 : Int32)), (2, .int a0), (0, .ref So), (1, .int a0)]) hx hb dX4_leapByChoice_3 rfl hl (by decide) rfl (fun ls hl => ?_)
  obtain ⟨y1, i17, h1y1, h2y1⟩ := zbs_s h
  clear h
  have KX41 : ∀ (x3_41x4 : Int32) (x4_41x4 : Int32) (x5_41x4 : Int32), y1 = (.inl (x3_41x4, x4_41x4, x5_41x4)) → ∀ (H : Heap) (locs : List Loc) (ls : Array Slot), va_P D vwCl (zfSG cI cO So Sp Go Gp Ss Sa Gs Ga) H → va_D A (zfSG cI cO So Sp Go Gp Ss Sa Gs Ga) → va_S A s.heap H locs → lv_has ls 6 [(0, .ref So), (3, .int x3_41x4), (4, .int x4_41x4), (5, .int x5_41x4)] → W p l e R s m args below meth c H locs 0 0 Q (F0 m 41 ls []) := by
    intro x3_41x4 x4_41x4 x5_41x4 ey1 H locs ls hP hD hS hl
    have h := h1y1 _ ey1
    simp only [zu3] at h
    refine lv_aload_n hx hb dX4_leapByChoice_41 rfl (lv_at hl 0 rfl) ?_
    refine lv_iload_n hx hb dX4_leapByChoice_42 rfl (lv_at hl 1 rfl) ?_
    refine lv_aload_n hx hb dX4_leapByChoice_43 rfl (lv_at hl 0 rfl) ?_
    refine lv_iload_n hx hb dX4_leapByChoice_44 rfl (lv_at hl 1 rfl) ?_
    refine lv_iload hx hb dX4_leapByChoice_45 (lv_at hl 2 rfl) ?_
    obtain ⟨r12, g13, h⟩ := zb1_s h
    have hFc := va_free (wc := (zfSG cI cO So Sp Go Gp Ss Sa Gs Ga)) hD hS hA [0, 1, 2, 3, 4, 5] (zC_8 (cI := cI) (cB := cB) (cO := cO))
    refine zcp_i (va_runV (As := [.int x3_41x4, .int x4_41x4]) (rest := [.int x3_41x4, .ref So]) ⟨hx, hb, hml, hown, hts⟩ (c_X4_neighbourOf l D cI cB cO So Sp Go Gp Ss Sa Gs Ga x3_41x4 x4_41x4 _ _ g13) (cwV 2 hts gX4_leapByChoice_X4_neighbourOf rfl rfl rfl kV_X4_neighbourOf ⟨Nat.le_trans (Nat.le_of_ble_eq_true rfl) hRf, Nat.le_trans (Nat.le_of_ble_eq_true rfl) hRl⟩) (zpreV hK hP hD hS hE hFc [0, 1, 2, 3, 4, 5] (zC_8 (cI := cI) (cB := cB) (cO := cO)) rfl 0 (ci := 4) rfl rfl [.int x3_41x4, .int x4_41x4]) rfl rfl hl.1 rfl (lv_room (Nat.le_of_ble_eq_true rfl)) dX4_leapByChoice_47 ⟨Nat.zero_le _, Nat.zero_le _⟩) hP hD hS hFc [0, 1, 2, 3, 4, 5] (zC_8 (cI := cI) (cB := cB) (cO := cO)) (fun H locs hP hS => ?_)
    clear hFc
    refine lv_iload hx hb dX4_leapByChoice_50 (lv_at hl 3 rfl) ?_
    obtain ⟨Ss_14, Sa_15, g16, h⟩ := zb2_s h
    have hFc := va_free (wc := (zfSG cI cO So Sp Go Gp Ss Sa Gs Ga)) hD hS hA [0, 1, 2, 3, 4, 5] (zC_4 (cI := cI) (cB := cB) (cO := cO))
    refine zcm_v (w2 := (zfSG cI cO So Sp Go Gp Ss_14 Sa_15 Gs Ga)) (va_runV (As := [.int x3_41x4, .int r12, .int x5_41x4]) (rest := []) ⟨hx, hb, hml, hown, hts⟩ (c_X4_leap l D cI cB cO So Sp Go Gp Ss Sa Gs Ga x3_41x4 r12 x5_41x4 _ _ _ g16) (cwV 3 hts gX4_leapByChoice_X4_leap rfl rfl rfl kV_X4_leap ⟨Nat.le_trans (Nat.le_of_ble_eq_true rfl) hRf, Nat.le_trans (Nat.le_of_ble_eq_true rfl) hRl⟩) (zpreV hK hP hD hS hE hFc [0, 1, 2, 3, 4, 5] (zC_4 (cI := cI) (cB := cB) (cO := cO)) rfl 0 (ci := 4) rfl rfl [.int x3_41x4, .int r12, .int x5_41x4]) rfl rfl hl.1 rfl (lv_room (Nat.le_of_ble_eq_true rfl)) dX4_leapByChoice_52 ⟨Nat.zero_le _, Nat.zero_le _⟩) hS hFc (fun H1 t h1 h2 h3 => zM_4 (cI := cI) (cB := cB) (cO := cO) hP hD h1 h2 h3) (fun H locs hP hD hS => ?_)
    clear hFc
    cases zend h
    exact hq hP hD hS dX4_leapByChoice_55
  have KX77 : ∀ (u : Unit), y1 = (.inr u) → ∀ (H : Heap) (locs : List Loc) (ls : Array Slot), va_P D vwCl (zfSG cI cO So Sp Go Gp Ss Sa Gs Ga) H → va_D A (zfSG cI cO So Sp Go Gp Ss Sa Gs Ga) → va_S A s.heap H locs → lv_has ls 6 [] → W p l e R s m args below meth c H locs 0 0 Q (F0 m 77 ls []) := by
    intro u ey1 H locs ls hP hD hS hl
    have h := h2y1 _ ey1
    cases zend h
    exact hq hP hD hS dX4_leapByChoice_77
  refine zi2_ind (P := (fun (x2_4h : Int32) (x3_4h : Int32) => ∀ (H : Heap) (locs : List Loc) (ls : Array Slot), va_P D vwCl (zfSG cI cO So Sp Go Gp Ss Sa Gs Ga) H → va_D A (zfSG cI cO So Sp Go Gp Ss Sa Gs Ga) → va_S A s.heap H locs → lv_has ls 6 [(0, .ref So), (2, .int x2_4h), (3, .int x3_4h)] → W p l e R s m args below meth c H locs 0 0 Q (F0 m 4 ls []))) ?_ i17 _ _ _ hP hD hS (lv_sub hl [2, 1, 0] rfl)
  clear i17 hP hD hS hl
  intro x2_4h x3_4h z4 h zl4 zr4 H locs ls hP hD hS hl
  refine lv_iload_n hx hb dX4_leapByChoice_4 rfl (lv_at hl 2 rfl) ?_
  refine lv_aload_n hx hb dX4_leapByChoice_5 rfl (lv_at hl 0 rfl) ?_
  refine va_get (D := D) (ci := 4) (v := .int (Ss 2)) (C := RX4) (T := TX4) (N := 8) hx hb hts inX4 hown hK hP 0 rfl rfl 2 (by decide) lk29 (fun _ h9 => h9) rfl dX4_leapByChoice_6 ?_
  refine lv_icmp_ge (tgt := 77) hx hb dX4_leapByChoice_9 (by decide) (fun c2 => ?_) (fun c2 => ?_)
  · have h := zif_t c2 h
    exact KX77 _ (zr4 _ (zend h).symm).symm _ _ _ hP hD hS (lv_sub hl [] rfl)
  · have h := zif_f c2 h
    refine lv_iconst (v := (0 : Int32)) hx hb dX4_leapByChoice_12 (by decide) ?_
    refine lv_istore (lv' := [(4, .int (0 : Int32)), (0, .ref So), (2, .int x2_4h), (3, .int x3_4h)]) hx hb dX4_leapByChoice_13 hl (by decide) rfl (fun ls hl => ?_)
    obtain ⟨y3, i11, h1y3, h2y3⟩ := zbs_s h
    clear h
    have KX41 : ∀ (x4_41x15 : Int32) (x5_41x15 : Int32), y3 = (.inl (x4_41x15, x5_41x15)) → ∀ (H : Heap) (locs : List Loc) (ls : Array Slot), va_P D vwCl (zfSG cI cO So Sp Go Gp Ss Sa Gs Ga) H → va_D A (zfSG cI cO So Sp Go Gp Ss Sa Gs Ga) → va_S A s.heap H locs → lv_has ls 6 [(0, .ref So), (3, .int x3_4h), (4, .int x4_41x15), (5, .int x5_41x15)] → W p l e R s m args below meth c H locs 0 0 Q (F0 m 41 ls []) := by
      intro x4_41x15 x5_41x15 ey3 H locs ls hP hD hS hl
      have h := h1y3 _ ey3
      simp only [zu2] at h
      exact KX41 _ _ _ (zr4 _ (zend h).symm).symm _ _ _ hP hD hS (lv_sub hl [0, 1, 2, 3] rfl)
    have KX71 : ∀ (x2_71x15 : Int32), y3 = (.inr x2_71x15) → ∀ (H : Heap) (locs : List Loc) (ls : Array Slot), va_P D vwCl (zfSG cI cO So Sp Go Gp Ss Sa Gs Ga) H → va_D A (zfSG cI cO So Sp Go Gp Ss Sa Gs Ga) → va_S A s.heap H locs → lv_has ls 6 [(0, .ref So), (2, .int x2_71x15), (3, .int x3_4h)] → W p l e R s m args below meth c H locs 0 0 Q (F0 m 71 ls []) := by
      intro x2_71x15 ey3 H locs ls hP hD hS hl
      have h := h2y3 _ ey3
      refine lv_iinc (v := (x3_4h + (1 : Int32))) (lv' := [(3, .int (x3_4h + (1 : Int32))), (0, .ref So), (2, .int x2_71x15)]) hx hb dX4_leapByChoice_71 hl (k := 2) rfl rfl (by decide) rfl (fun ls hl => ?_)
      refine lv_goto (tgt := 4) hx hb dX4_leapByChoice_74 (by decide) ?_
      exact zl4 _ _ (zend h).symm _ _ _ hP hD hS (lv_sub hl [1, 2, 0] rfl)
    refine zi2_ind (P := (fun (x2_15h : Int32) (x4_15h : Int32) => ∀ (H : Heap) (locs : List Loc) (ls : Array Slot), va_P D vwCl (zfSG cI cO So Sp Go Gp Ss Sa Gs Ga) H → va_D A (zfSG cI cO So Sp Go Gp Ss Sa Gs Ga) → va_S A s.heap H locs → lv_has ls 6 [(0, .ref So), (2, .int x2_15h), (3, .int x3_4h), (4, .int x4_15h)] → W p l e R s m args below meth c H locs 0 0 Q (F0 m 15 ls []))) ?_ i11 _ _ _ hP hD hS (lv_sub hl [1, 2, 3, 0] rfl)
    clear i11 hP hD hS hl
    intro x2_15h x4_15h z15 h zl15 zr15 H locs ls hP hD hS hl
    refine lv_iload hx hb dX4_leapByChoice_15 (lv_at hl 3 rfl) ?_
    refine lv_bipush (v := (8 : Int32)) hx hb dX4_leapByChoice_17 (by decide) ?_
    refine lv_icmp_ge (tgt := 71) hx hb dX4_leapByChoice_19 (by decide) (fun c4 => ?_) (fun c4 => ?_)
    · have h := zif_t c4 h
      exact KX71 _ (zr15 _ (zend h).symm).symm _ _ _ hP hD hS (lv_sub hl [0, 1, 2] rfl)
    · have h := zif_f c4 h
      refine lv_aload_n hx hb dX4_leapByChoice_22 rfl (lv_at hl 0 rfl) ?_
      refine lv_iload_n hx hb dX4_leapByChoice_23 rfl (lv_at hl 2 rfl) ?_
      refine lv_iload hx hb dX4_leapByChoice_24 (lv_at hl 3 rfl) ?_
      obtain ⟨r5, g6, h⟩ := zb1_s h
      have hFc := va_free (wc := (zfSG cI cO So Sp Go Gp Ss Sa Gs Ga)) hD hS hA [0, 1, 2, 3, 4, 5] (zC_8 (cI := cI) (cB := cB) (cO := cO))
      refine zcp_i (va_runV (As := [.int x3_4h, .int x4_15h]) (rest := []) ⟨hx, hb, hml, hown, hts⟩ (c_X4_targetOf l D cI cB cO So Sp Go Gp Ss Sa Gs Ga x3_4h x4_15h _ _ g6) (cwV 2 hts gX4_leapByChoice_X4_targetOf rfl rfl rfl kV_X4_targetOf ⟨Nat.le_trans (Nat.le_of_ble_eq_true rfl) hRf, Nat.le_trans (Nat.le_of_ble_eq_true rfl) hRl⟩) (zpreV hK hP hD hS hE hFc [0, 1, 2, 3, 4, 5] (zC_8 (cI := cI) (cB := cB) (cO := cO)) rfl 0 (ci := 4) rfl rfl [.int x3_4h, .int x4_15h]) rfl rfl hl.1 rfl (lv_room (Nat.le_of_ble_eq_true rfl)) dX4_leapByChoice_26 ⟨Nat.zero_le _, Nat.zero_le _⟩) hP hD hS hFc [0, 1, 2, 3, 4, 5] (zC_8 (cI := cI) (cB := cB) (cO := cO)) (fun H locs hP hS => ?_)
      clear hFc
      refine lv_istore (lv' := [(5, .int r5), (0, .ref So), (2, .int x2_15h), (3, .int x3_4h), (4, .int x4_15h)]) hx hb dX4_leapByChoice_29 hl (by decide) rfl (fun ls hl => ?_)
      refine lv_iload hx hb dX4_leapByChoice_31 (lv_at hl 0 rfl) ?_
      refine lv_iconst (v := (-1 : Int32)) hx hb dX4_leapByChoice_33 (by decide) ?_
      obtain ⟨J56, eJ56, h⟩ := zjn_s h
      have K56 : ∀ (u : Unit), J56 u = some z15 → ∀ (H : Heap) (locs : List Loc) (ls : Array Slot), va_P D vwCl (zfSG cI cO So Sp Go Gp Ss Sa Gs Ga) H → va_D A (zfSG cI cO So Sp Go Gp Ss Sa Gs Ga) → va_S A s.heap H locs → lv_has ls 6 [(0, .ref So), (2, .int x2_15h), (3, .int x3_4h), (4, .int x4_15h), (5, .int r5)] → W p l e R s m args below meth c H locs 0 0 Q (F0 m 56 ls []) := by
        subst eJ56
        intro u h H locs ls hP hD hS hl
        refine lv_iload hx hb dX4_leapByChoice_56 (lv_at hl 4 rfl) ?_
        refine lv_iconst (v := (-1 : Int32)) hx hb dX4_leapByChoice_58 (by decide) ?_
        obtain ⟨x2_65, j7, h⟩ := zb1_s h
        have K65 : ∀ (H : Heap) (locs : List Loc) (ls : Array Slot), va_P D vwCl (zfSG cI cO So Sp Go Gp Ss Sa Gs Ga) H → va_D A (zfSG cI cO So Sp Go Gp Ss Sa Gs Ga) → va_S A s.heap H locs → lv_has ls 6 [(0, .ref So), (2, .int x2_65), (3, .int x3_4h), (4, .int x4_15h)] → W p l e R s m args below meth c H locs 0 0 Q (F0 m 65 ls []) := by
          intro H locs ls hP hD hS hl
          refine lv_iinc (v := (x4_15h + (1 : Int32))) (lv' := [(4, .int (x4_15h + (1 : Int32))), (0, .ref So), (2, .int x2_65), (3, .int x3_4h)]) hx hb dX4_leapByChoice_65 hl (k := 3) rfl rfl (by decide) rfl (fun ls hl => ?_)
          refine lv_goto (tgt := 15) hx hb dX4_leapByChoice_68 (by decide) ?_
          exact zl15 _ _ (zend h).symm _ _ _ hP hD hS (lv_sub hl [1, 2, 3, 0] rfl)
        clear h
        have h := j7
        clear j7
        refine lv_icmp_eq (tgt := 65) hx hb dX4_leapByChoice_59 (by decide) (fun c8 => ?_) (fun c8 => ?_)
        · have h := zif_t c8 h
          cases zend h
          exact K65 _ _ _ hP hD hS (lv_sub hl [0, 1, 2, 3] rfl)
        · have h := zif_f c8 h
          refine lv_iinc (v := (x2_15h + (-1 : Int32))) (lv' := [(2, .int (x2_15h + (-1 : Int32))), (0, .ref So), (3, .int x3_4h), (4, .int x4_15h), (5, .int r5)]) hx hb dX4_leapByChoice_62 hl (k := 1) rfl rfl (by decide) rfl (fun ls hl => ?_)
          cases zend h
          exact K65 _ _ _ hP hD hS (lv_sub hl [1, 0, 2, 3] rfl)
      clear eJ56
      refine lv_icmp_eq (tgt := 56) hx hb dX4_leapByChoice_34 (by decide) (fun c9 => ?_) (fun c9 => ?_)
      · have h := zif_t c9 h
        exact K56 _ h _ _ _ hP hD hS (lv_sub hl [1, 2, 3, 4, 0] rfl)
      · have h := zif_f c9 h
        refine lv_iload_n hx hb dX4_leapByChoice_37 rfl (lv_at hl 2 rfl) ?_
        refine lv_if_ne (tgt := 56) hx hb dX4_leapByChoice_38 (by decide) (fun c10 => ?_) (fun c10 => ?_)
        · have h := zif_f c10 h
          exact K56 _ h _ _ _ hP hD hS (lv_sub hl [1, 2, 3, 4, 0] rfl)
        · have h := zif_t c10 h
          exact KX41 _ _ (zr15 _ (zend h).symm).symm _ _ _ hP hD hS (lv_sub hl [1, 3, 4, 0] rfl)
set_option maxHeartbeats 4000000 in
set_option maxRecDepth 100000 in
theorem c_X4_takeBack (l : Launch) (D : va_G) (cI cB cO : ClassId) (So : Nat) (Sp : Nat → Nat) (Go : Nat) (Gp : Nat → Nat) (Ss : Nat → Int32) (Sa : Nat → Nat → Int32) (Gs : Nat → Int32) (Ga : Nat → Nat → Int32) (a0 : Int32) (a1 : Int32) (a2 : Int32) (a3 : Int32) (Ss' : Nat → Int32) (Sa' : Nat → Nat → Int32) (sz : Nat) (h : fX4_takeBack Ss Sa Gs Ga a0 a1 a2 a3 = some (Ss', Sa')) : Met l yX4_takeBack wsX4_takeBack ({ frames := 2, cells := 0, slots := 0, locals := 44 } : Room) (va_Pc [.ref So, .int a0, .int a1, .int a2, .int a3] (zPre D (zTY cI cB cO) (zfSG cI cO So Sp Go Gp Ss Sa Gs Ga) sz)) (va_Qv (fun (_ : Unit) => True) (fun _ => zPost D (zTY cI cB cO) (zfSG cI cO So Sp Go Gp Ss' Sa' Gs Ga) (va_A (zfSG cI cO So Sp Go Gp Ss Sa Gs Ga) sz)) (va_A (zfSG cI cO So Sp Go Gp Ss Sa Gs Ga) sz)) 0 0 (va_A (zfSG cI cO So Sp Go Gp Ss Sa Gs Ga) sz) := by
  unfold fX4_takeBack at h
  refine zmet_v (cc := cX4_takeBack) (maxL := 5) (by decide) rfl (Nat.le_of_ble_eq_true rfl) rfl rfl ?_
  intro p e s m args below meth c R Q A ls hx hb hts hown hml hK hP hD hE hA hS hRf hRl hl hq
  have hown : s.vm.findClass RX4 = some m.cls := hown
  have hl : lv_has ls 5 [(0, .ref So), (1, .int a0), (2, .int a1), (3, .int a2), (4, .int a3)] := hl
  have inX4 : ∀ w ∈ u_ws RX4 TX4 8, w ∈ wsX4_takeBack := by decide +kernel
  have lk21 : (Cond.fieldLink RX4 21 "PegField$State" "grid" "LPegField$Grid;").before args s = true := hts _ (by decide +kernel)
  refine lv_aload_n hx hb dX4_takeBack_0 rfl (lv_at hl 0 rfl) ?_
  refine lv_iload_n hx hb dX4_takeBack_1 rfl (lv_at hl 1 rfl) ?_
  obtain ⟨Ss_1, Sa_2, g3, h⟩ := zb2_s h
  have hFc := va_free (wc := (zfSG cI cO So Sp Go Gp Ss Sa Gs Ga)) hD hS hA [0, 1, 2, 3, 4, 5] (zC_4 (cI := cI) (cB := cB) (cO := cO))
  refine zcm_v (w2 := (zfSG cI cO So Sp Go Gp Ss_1 Sa_2 Gs Ga)) (va_runV (As := [.int a0]) (rest := []) ⟨hx, hb, hml, hown, hts⟩ (c_X4_lift l D cI cB cO So Sp Go Gp Ss Sa Gs Ga a0 _ _ _ g3) (cwV 1 hts gX4_takeBack_X4_lift rfl rfl rfl kV_X4_lift ⟨Nat.le_trans (Nat.le_of_ble_eq_true rfl) hRf, Nat.le_trans (Nat.le_of_ble_eq_true rfl) hRl⟩) (zpreV hK hP hD hS hE hFc [0, 1, 2, 3, 4, 5] (zC_4 (cI := cI) (cB := cB) (cO := cO)) rfl 0 (ci := 4) rfl rfl [.int a0]) rfl rfl hl.1 rfl (lv_room (Nat.le_of_ble_eq_true rfl)) dX4_takeBack_2 ⟨Nat.zero_le _, Nat.zero_le _⟩) hS hFc (fun H1 t h1 h2 h3 => zM_4 (cI := cI) (cB := cB) (cO := cO) hP hD h1 h2 h3) (fun H locs hP hD hS => ?_)
  clear hFc
  refine lv_aload_n hx hb dX4_takeBack_5 rfl (lv_at hl 0 rfl) ?_
  refine lv_iload_n hx hb dX4_takeBack_6 rfl (lv_at hl 1 rfl) ?_
  refine lv_iload_n hx hb dX4_takeBack_7 rfl (lv_at hl 2 rfl) ?_
  obtain ⟨Ss_4, Sa_5, g6, h⟩ := zb2_s h
  have hFc := va_free (wc := (zfSG cI cO So Sp Go Gp Ss_1 Sa_2 Gs Ga)) hD hS hA [0, 1, 2, 3, 4, 5] (zC_4 (cI := cI) (cB := cB) (cO := cO))
  refine zcm_v (w2 := (zfSG cI cO So Sp Go Gp Ss_4 Sa_5 Gs Ga)) (va_runV (As := [.int a0, .int a1]) (rest := []) ⟨hx, hb, hml, hown, hts⟩ (c_X4_set l D cI cB cO So Sp Go Gp Ss_1 Sa_2 Gs Ga a0 a1 _ _ _ g6) (cwV 2 hts gX4_takeBack_X4_set rfl rfl rfl kV_X4_set ⟨Nat.le_trans (Nat.le_of_ble_eq_true rfl) hRf, Nat.le_trans (Nat.le_of_ble_eq_true rfl) hRl⟩) (zpreV hK hP hD hS hE hFc [0, 1, 2, 3, 4, 5] (zC_4 (cI := cI) (cB := cB) (cO := cO)) rfl 0 (ci := 4) rfl rfl [.int a0, .int a1]) rfl rfl hl.1 rfl (lv_room (Nat.le_of_ble_eq_true rfl)) dX4_takeBack_8 ⟨Nat.zero_le _, Nat.zero_le _⟩) hS hFc (fun H1 t h1 h2 h3 => zM_4 (cI := cI) (cB := cB) (cO := cO) hP hD h1 h2 h3) (fun H locs hP hD hS => ?_)
  clear hFc
  refine lv_aload_n hx hb dX4_takeBack_11 rfl (lv_at hl 0 rfl) ?_
  refine lv_iload_n hx hb dX4_takeBack_12 rfl (lv_at hl 3 rfl) ?_
  refine lv_aload_n hx hb dX4_takeBack_13 rfl (lv_at hl 0 rfl) ?_
  refine va_get (D := D) (ci := 4) (v := .ref Go) (C := RX4) (T := TX4) (N := 8) hx hb hts inX4 hown hK hP 0 rfl rfl 0 (by decide) lk21 (fun _ h9 => h9) rfl dX4_takeBack_14 ?_
  refine lv_iload_n hx hb dX4_takeBack_17 rfl (lv_at hl 2 rfl) ?_
  refine lv_iload hx hb dX4_takeBack_18 (lv_at hl 4 rfl) ?_
  obtain ⟨r7, g8, h⟩ := zb1_s h
  have hFc := va_free (wc := (zwG cI Go Gp Gs Ga)) hD hS hA [4, 5] (zC_3 (cI := cI) (cB := cB) (cO := cO))
  refine zcp_i (va_runV (As := [.int a1, .int a3]) (rest := [.int a2, .ref So]) ⟨hx, hb, hml, hown, hts⟩ (c_X0_next l D cI cB cO Go Gp Gs Ga a1 a3 _ _ g8) (cwV 2 hts gX4_takeBack_X0_next rfl rfl rfl kV_X0_next ⟨Nat.le_trans (Nat.le_of_ble_eq_true rfl) hRf, Nat.le_trans (Nat.le_of_ble_eq_true rfl) hRl⟩) (zpreV hK hP hD hS hE hFc [4, 5] (zC_3 (cI := cI) (cB := cB) (cO := cO)) rfl 4 (ci := 0) rfl rfl [.int a1, .int a3]) rfl rfl hl.1 rfl (lv_room (Nat.le_of_ble_eq_true rfl)) dX4_takeBack_20 ⟨Nat.zero_le _, Nat.zero_le _⟩) hP hD hS hFc [4, 5] (zC_3 (cI := cI) (cB := cB) (cO := cO)) (fun H locs hP hS => ?_)
  clear hFc
  obtain ⟨Ss_9, Sa_10, g11, h⟩ := zb2_s h
  have hFc := va_free (wc := (zfSG cI cO So Sp Go Gp Ss_4 Sa_5 Gs Ga)) hD hS hA [0, 1, 2, 3, 4, 5] (zC_4 (cI := cI) (cB := cB) (cO := cO))
  refine zcm_v (w2 := (zfSG cI cO So Sp Go Gp Ss_9 Sa_10 Gs Ga)) (va_runV (As := [.int a2, .int r7]) (rest := []) ⟨hx, hb, hml, hown, hts⟩ (c_X4_set l D cI cB cO So Sp Go Gp Ss_4 Sa_5 Gs Ga a2 r7 _ _ _ g11) (cwV 2 hts gX4_takeBack_X4_set rfl rfl rfl kV_X4_set ⟨Nat.le_trans (Nat.le_of_ble_eq_true rfl) hRf, Nat.le_trans (Nat.le_of_ble_eq_true rfl) hRl⟩) (zpreV hK hP hD hS hE hFc [0, 1, 2, 3, 4, 5] (zC_4 (cI := cI) (cB := cB) (cO := cO)) rfl 0 (ci := 4) rfl rfl [.int a2, .int r7]) rfl rfl hl.1 rfl (lv_room (Nat.le_of_ble_eq_true rfl)) dX4_takeBack_23 ⟨Nat.zero_le _, Nat.zero_le _⟩) hS hFc (fun H1 t h1 h2 h3 => zM_4 (cI := cI) (cB := cB) (cO := cO) hP hD h1 h2 h3) (fun H locs hP hD hS => ?_)
  clear hFc
  cases zend h
  exact hq hP hD hS dX4_takeBack_26
set_option maxHeartbeats 4000000 in
set_option maxRecDepth 100000 in
theorem c_X4_aloneBit (l : Launch) (D : va_G) (cI cB cO : ClassId) (So : Nat) (Sp : Nat → Nat) (Go : Nat) (Gp : Nat → Nat) (Ss : Nat → Int32) (Sa : Nat → Nat → Int32) (Gs : Nat → Int32) (Ga : Nat → Nat → Int32)  (rv : Int32) (sz : Nat) (h : fX4_aloneBit Ss Sa = some rv) : Met l yX4_aloneBit wsX4_aloneBit ({ frames := 2, cells := 0, slots := 0, locals := 42 } : Room) (va_Pc [.ref So] (zPre D (zTY cI cB cO) (zfSG cI cO So Sp Go Gp Ss Sa Gs Ga) sz)) (va_Qi (fun r (_ : Unit) => r = rv) (fun _ => zPost D (zTY cI cB cO) (zfSG cI cO So Sp Go Gp Ss Sa Gs Ga) (va_A (zfSG cI cO So Sp Go Gp Ss Sa Gs Ga) sz)) (va_A (zfSG cI cO So Sp Go Gp Ss Sa Gs Ga) sz)) 0 0 (va_A (zfSG cI cO So Sp Go Gp Ss Sa Gs Ga) sz) := by
  unfold fX4_aloneBit at h
  refine zmet_i (cc := cX4_aloneBit) (maxL := 4) (by decide) rfl (Nat.le_of_ble_eq_true rfl) rfl rfl ?_
  intro p e s m args below meth c R Q A ls hx hb hts hown hml hK hP hD hE hA hS hRf hRl hl hq
  have hown : s.vm.findClass RX4 = some m.cls := hown
  have hl : lv_has ls 4 [(0, .ref So)] := hl
  have inX4 : ∀ w ∈ u_ws RX4 TX4 8, w ∈ wsX4_aloneBit := by decide +kernel
  have lk32 : (Cond.fieldLink RX4 32 "PegField$State" "onBoard" "I").before args s = true := hts _ (by decide +kernel)
  have lk29 : (Cond.fieldLink RX4 29 "PegField$State" "pegs" "I").before args s = true := hts _ (by decide +kernel)
  refine lv_aload_n hx hb dX4_aloneBit_0 rfl (lv_at hl 0 rfl) ?_
  refine va_get (D := D) (ci := 4) (v := .int (Ss 3)) (C := RX4) (T := TX4) (N := 8) hx hb hts inX4 hown hK hP 0 rfl rfl 3 (by decide) lk32 (fun _ h9 => h9) rfl dX4_aloneBit_1 ?_
  refine lv_iconst (v := (1 : Int32)) hx hb dX4_aloneBit_4 (by decide) ?_
  refine lv_icmp_eq (tgt := 10) hx hb dX4_aloneBit_5 (by decide) (fun c1 => ?_) (fun c1 => ?_)
  · have h := zif_t c1 h
    refine lv_iconst (v := (0 : Int32)) hx hb dX4_aloneBit_10 (by decide) ?_
    refine lv_istore_n (lv' := [(1, .int (0 : Int32)), (0, .ref So)]) hx hb dX4_aloneBit_11 rfl hl (by decide) rfl (fun ls hl => ?_)
    refine lv_iconst (v := (0 : Int32)) hx hb dX4_aloneBit_12 (by decide) ?_
    refine lv_istore_n (lv' := [(2, .int (0 : Int32)), (1, .int (0 : Int32)), (0, .ref So)]) hx hb dX4_aloneBit_13 rfl hl (by decide) rfl (fun ls hl => ?_)
    obtain ⟨x1_43x14, i9, h⟩ := zb1_s h
    have KX43 : ∀ (H : Heap) (locs : List Loc) (ls : Array Slot), va_P D vwCl (zfSG cI cO So Sp Go Gp Ss Sa Gs Ga) H → va_D A (zfSG cI cO So Sp Go Gp Ss Sa Gs Ga) → va_S A s.heap H locs → lv_has ls 4 [(1, .int x1_43x14)] → W p l e R s m args below meth c H locs 0 0 Q (F0 m 43 ls []) := by
      intro H locs ls hP hD hS hl
      refine lv_iload_n hx hb dX4_aloneBit_43 rfl (lv_at hl 0 rfl) ?_
      cases zend h
      exact hq hP hD hS dX4_aloneBit_44
    clear h
    refine zi2_ind (P := (fun (x1_14h : Int32) (x2_14h : Int32) => ∀ (H : Heap) (locs : List Loc) (ls : Array Slot), va_P D vwCl (zfSG cI cO So Sp Go Gp Ss Sa Gs Ga) H → va_D A (zfSG cI cO So Sp Go Gp Ss Sa Gs Ga) → va_S A s.heap H locs → lv_has ls 4 [(0, .ref So), (1, .int x1_14h), (2, .int x2_14h)] → W p l e R s m args below meth c H locs 0 0 Q (F0 m 14 ls []))) ?_ i9 _ _ _ hP hD hS (lv_sub hl [2, 1, 0] rfl)
    clear i9 hP hD hS hl
    intro x1_14h x2_14h z14 h zl14 zr14 H locs ls hP hD hS hl
    refine lv_iload_n hx hb dX4_aloneBit_14 rfl (lv_at hl 2 rfl) ?_
    refine lv_aload_n hx hb dX4_aloneBit_15 rfl (lv_at hl 0 rfl) ?_
    refine va_get (D := D) (ci := 4) (v := .int (Ss 2)) (C := RX4) (T := TX4) (N := 8) hx hb hts inX4 hown hK hP 0 rfl rfl 2 (by decide) lk29 (fun _ h9 => h9) rfl dX4_aloneBit_16 ?_
    refine lv_icmp_ge (tgt := 43) hx hb dX4_aloneBit_19 (by decide) (fun c3 => ?_) (fun c3 => ?_)
    · have h := zif_t c3 h
      cases zr14 _ (zend h).symm
      exact KX43 _ _ _ hP hD hS (lv_sub hl [1] rfl)
    · have h := zif_f c3 h
      refine lv_aload_n hx hb dX4_aloneBit_22 rfl (lv_at hl 0 rfl) ?_
      refine lv_iload_n hx hb dX4_aloneBit_23 rfl (lv_at hl 2 rfl) ?_
      obtain ⟨r4, g5, h⟩ := zb1_s h
      have hFc := va_free (wc := (zwS cI So Sp Go Ss Sa)) hD hS hA [0, 1, 2, 3] (zC_2 (cI := cI) (cB := cB) (cO := cO))
      refine zcp_i (va_runV (As := [.int x2_14h]) (rest := []) ⟨hx, hb, hml, hown, hts⟩ (c_X4_homeOf l D cI cB cO So Sp Go Ss Sa x2_14h _ _ g5) (cwV 1 hts gX4_aloneBit_X4_homeOf rfl rfl rfl kV_X4_homeOf ⟨Nat.le_trans (Nat.le_of_ble_eq_true rfl) hRf, Nat.le_trans (Nat.le_of_ble_eq_true rfl) hRl⟩) (zpreV hK hP hD hS hE hFc [0, 1, 2, 3] (zC_2 (cI := cI) (cB := cB) (cO := cO)) rfl 0 (ci := 4) rfl rfl [.int x2_14h]) rfl rfl hl.1 rfl (lv_room (Nat.le_of_ble_eq_true rfl)) dX4_aloneBit_24 ⟨Nat.zero_le _, Nat.zero_le _⟩) hP hD hS hFc [0, 1, 2, 3] (zC_2 (cI := cI) (cB := cB) (cO := cO)) (fun H locs hP hS => ?_)
      clear hFc
      refine lv_istore_n (lv' := [(3, .int r4), (0, .ref So), (1, .int x1_14h), (2, .int x2_14h)]) hx hb dX4_aloneBit_27 rfl hl (by decide) rfl (fun ls hl => ?_)
      refine lv_iload_n hx hb dX4_aloneBit_28 rfl (lv_at hl 0 rfl) ?_
      refine lv_iconst (v := (-1 : Int32)) hx hb dX4_aloneBit_29 (by decide) ?_
      obtain ⟨x1_37, j6, h⟩ := zb1_s h
      have K37 : ∀ (H : Heap) (locs : List Loc) (ls : Array Slot), va_P D vwCl (zfSG cI cO So Sp Go Gp Ss Sa Gs Ga) H → va_D A (zfSG cI cO So Sp Go Gp Ss Sa Gs Ga) → va_S A s.heap H locs → lv_has ls 4 [(0, .ref So), (1, .int x1_37), (2, .int x2_14h)] → W p l e R s m args below meth c H locs 0 0 Q (F0 m 37 ls []) := by
        intro H locs ls hP hD hS hl
        refine lv_iinc (v := (x2_14h + (1 : Int32))) (lv' := [(2, .int (x2_14h + (1 : Int32))), (0, .ref So), (1, .int x1_37)]) hx hb dX4_aloneBit_37 hl (k := 2) rfl rfl (by decide) rfl (fun ls hl => ?_)
        refine lv_goto (tgt := 14) hx hb dX4_aloneBit_40 (by decide) ?_
        exact zl14 _ _ (zend h).symm _ _ _ hP hD hS (lv_sub hl [1, 2, 0] rfl)
      clear h
      have h := j6
      clear j6
      refine lv_icmp_eq (tgt := 37) hx hb dX4_aloneBit_30 (by decide) (fun c7 => ?_) (fun c7 => ?_)
      · have h := zif_t c7 h
        cases zend h
        exact K37 _ _ _ hP hD hS (lv_sub hl [1, 2, 3] rfl)
      · have h := zif_f c7 h
        refine lv_iconst (v := (1 : Int32)) hx hb dX4_aloneBit_33 (by decide) ?_
        refine lv_iload_n hx hb dX4_aloneBit_34 rfl (lv_at hl 0 rfl) ?_
        refine lv_ishl hx hb dX4_aloneBit_35 ?_
        refine lv_topi (fun x1_8 ex1_8 => ?_)
        have h := zlt_s h ex1_8
        refine lv_istore_n (lv' := [(1, .int x1_8), (3, .int r4), (0, .ref So), (2, .int x2_14h)]) hx hb dX4_aloneBit_36 rfl hl (by decide) rfl (fun ls hl => ?_)
        cases zend h
        exact K37 _ _ _ hP hD hS (lv_sub hl [2, 0, 3] rfl)
  · have h := zif_f c1 h
    refine lv_iconst (v := (0 : Int32)) hx hb dX4_aloneBit_8 (by decide) ?_
    cases zend h
    exact hq hP hD hS dX4_aloneBit_9
