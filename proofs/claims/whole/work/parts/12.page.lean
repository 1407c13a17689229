set_option maxHeartbeats 4000000 in
set_option maxRecDepth 100000 in
theorem c_X2_append (l : Launch) (D : va_G) (cI cB cO : ClassId) (Po : Nat) (Pp : Nat → Nat) (Ps : Nat → Int32) (Pa : Nat → Nat → Int32) (a0 : Int32) (rv : Int32) (Ps' : Nat → Int32) (Pa' : Nat → Nat → Int32) (sz : Nat) (h : fX2_append Ps Pa a0 = some (rv, Ps', Pa')) : Met l yX2_append wsX2_append ({ frames := 0, cells := 0, slots := 0, locals := 0 } : Room) (va_Pc [.ref Po, .int a0] (zPre D (zTY cI cB cO) (zwP cI Po Pp Ps Pa) sz)) (va_Qi (fun r (_ : Unit) => r = rv) (fun _ => zPost D (zTY cI cB cO) (zwP cI Po Pp Ps' Pa') (va_A (zwP cI Po Pp Ps Pa) sz)) (va_A (zwP cI Po Pp Ps Pa) sz)) 0 0 (va_A (zwP cI Po Pp Ps Pa) sz) := by
  unfold fX2_append at h
  refine zmet_z (cc := cX2_append) (maxL := 2) (by decide) rfl (Nat.le_of_ble_eq_true rfl) rfl rfl ?_
  intro p e s m args below meth c R Q A ls hx hb hts hown hml hK hP hD hE hA hS hRf hRl hl hq
  have hown : s.vm.findClass RX2 = some m.cls := hown
  have hl : lv_has ls 2 [(0, .ref Po), (1, .int a0)] := hl
  have inX2 : ∀ w ∈ u_ws RX2 TX2 2, w ∈ wsX2_append := by decide +kernel
  have lk15 : (Cond.fieldLink RX2 15 "PegField$Page" "size" "I").before args s = true := hts _ (by decide +kernel)
  have lk9 : (Cond.fieldLink RX2 9 "PegField$Page" "codes" "[I").before args s = true := hts _ (by decide +kernel)
  refine lv_aload_n hx hb dX2_append_0 rfl (lv_at hl 0 rfl) ?_
  refine va_get (D := D) (ci := 2) (v := .int (Ps 1)) (C := RX2) (T := TX2) (N := 2) hx hb hts inX2 hown hK hP 0 rfl rfl 1 (by decide) lk15 (fun _ h9 => h9) rfl dX2_append_1 ?_
  refine lv_if_lt (tgt := 19) hx hb dX2_append_4 (by decide) (fun c1 => ?_) (fun c1 => ?_)
  · have h := zif_t c1 h
    refine lv_iconst (v := (0 : Int32)) hx hb dX2_append_19 (by decide) ?_
    cases zend h
    exact hq hP hD hS (by decide) dX2_append_20
  · have h := zif_f c1 h
    refine lv_aload_n hx hb dX2_append_7 rfl (lv_at hl 0 rfl) ?_
    refine va_get (D := D) (ci := 2) (v := .int (Ps 1)) (C := RX2) (T := TX2) (N := 2) hx hb hts inX2 hown hK hP 0 rfl rfl 1 (by decide) lk15 (fun _ h9 => h9) rfl dX2_append_8 ?_
    refine lv_aload_n hx hb dX2_append_11 rfl (lv_at hl 0 rfl) ?_
    refine va_get (D := D) (ci := 2) (v := .ref (Pp 0)) (C := RX2) (T := TX2) (N := 2) hx hb hts inX2 hown hK hP 0 rfl rfl 0 (by decide) lk9 (fun _ h9 => h9) rfl dX2_append_12 ?_
    refine va_alen hx hb hK hP 1 0 rfl rfl (v := (18 : Int32)) rfl dX2_append_15 ?_
    refine lv_icmp_lt (tgt := 21) hx hb dX2_append_16 (by decide) (fun c2 => ?_) (fun c2 => ?_)
    · have h := zif_t c2 h
      refine lv_aload_n hx hb dX2_append_21 rfl (lv_at hl 0 rfl) ?_
      refine va_get (D := D) (ci := 2) (v := .ref (Pp 0)) (C := RX2) (T := TX2) (N := 2) hx hb hts inX2 hown hK hP 0 rfl rfl 0 (by decide) lk9 (fun _ h9 => h9) rfl dX2_append_22 ?_
      refine lv_aload_n hx hb dX2_append_25 rfl (lv_at hl 0 rfl) ?_
      refine va_get (D := D) (ci := 2) (v := .int (Ps 1)) (C := RX2) (T := TX2) (N := 2) hx hb hts inX2 hown hK hP 0 rfl rfl 1 (by decide) lk15 (fun _ h9 => h9) rfl dX2_append_26 ?_
      refine lv_iload_n hx hb dX2_append_29 rfl (lv_at hl 1 rfl) ?_
      obtain ⟨z3, h⟩ := zck_s h
      refine va_iast hx hb hK hP hD hS 1 0 rfl rfl (zin_s z3) dX2_append_30 (fun H locs hP hD hS => ?_)
      have hset : ∀ v9 : Nat → Int32, (zwP cI Po Pp Ps Pa).set 1 ((Pp 0), .inl (cI, 18, .inl v9)) = (zwP cI Po Pp Ps (va_up Pa 0 v9)) := fun _ => rfl
      obtain ⟨Pa_4, ePa_4, hP, hD⟩ : ∃ y9, y9 = (va_up Pa 0 (upd (Pa 0) ((Ps 1)).toNatClampNeg a0)) ∧ va_P D vwCl (zwP cI Po Pp Ps y9) H ∧ va_D A (zwP cI Po Pp Ps y9) := ⟨_, rfl, zsetP (hset _) hP, zsetD (hset _) hD⟩
      have h := zlt_s h ePa_4
      clear hset
      refine lv_aload_n hx hb dX2_append_31 rfl (lv_at hl 0 rfl) ?_
      refine lv_dup hx hb dX2_append_32 rfl ?_
      refine va_get (D := D) (ci := 2) (v := .int (Ps 1)) (C := RX2) (T := TX2) (N := 2) hx hb hts inX2 hown hK hP 0 rfl rfl 1 (by decide) lk15 (fun _ h9 => h9) rfl dX2_append_33 ?_
      refine lv_iconst (v := (1 : Int32)) hx hb dX2_append_36 (by decide) ?_
      refine lv_iadd hx hb dX2_append_37 ?_
      refine va_put (D := D) (ci := 2) (v := .int ((Ps 1) + (1 : Int32))) (ty := .int) (C := RX2) (T := TX2) (N := 2) hx hb hts inX2 tyX2 tyX2_ok nmX2 hown hK hP hD hS 0 rfl rfl 1 (by decide) lk15 (fun _ h9 => h9) rfl (by decide +kernel) rfl rfl (Nat.le_of_ble_eq_true rfl) dX2_append_38 (fun H locs hP hD hS => ?_)
      have hset : ∀ v9 : Int32, (zwP cI Po Pp Ps Pa_4).set 0 (Po, .inr (2, ([.ref (Pp 0), .int (Ps 1)] : List Value).set 1 (.int v9))) = (zwP cI Po Pp (upd Ps 1 v9) Pa_4) := fun _ => rfl
      obtain ⟨Ps_5, ePs_5, hP, hD⟩ : ∃ y9, y9 = (upd Ps 1 ((Ps 1) + (1 : Int32))) ∧ va_P D vwCl (zwP cI Po Pp y9 Pa_4) H ∧ va_D A (zwP cI Po Pp y9 Pa_4) := ⟨_, rfl, zsetP (hset _) hP, zsetD (hset _) hD⟩
      have h := zlt_s h ePs_5
      clear hset
      refine lv_iconst (v := (1 : Int32)) hx hb dX2_append_41 (by decide) ?_
      cases zend h
      exact hq hP hD hS (by decide) dX2_append_42
    · have h := zif_f c2 h
      refine lv_iconst (v := (0 : Int32)) hx hb dX2_append_19 (by decide) ?_
      cases zend h
      exact hq hP hD hS (by decide) dX2_append_20
set_option maxHeartbeats 4000000 in
set_option maxRecDepth 100000 in
theorem c_X2_codeAt (l : Launch) (D : va_G) (cI cB cO : ClassId) (Po : Nat) (Pp : Nat → Nat) (Ps : Nat → Int32) (Pa : Nat → Nat → Int32) (a0 : Int32) (rv : Int32) (sz : Nat) (h : fX2_codeAt Ps Pa a0 = some rv) : Met l yX2_codeAt wsX2_codeAt ({ frames := 0, cells := 0, slots := 0, locals := 0 } : Room) (va_Pc [.ref Po, .int a0] (zPre D (zTY cI cB cO) (zwP cI Po Pp Ps Pa) sz)) (va_Qi (fun r (_ : Unit) => r = rv) (fun _ => zPost D (zTY cI cB cO) (zwP cI Po Pp Ps Pa) (va_A (zwP cI Po Pp Ps Pa) sz)) (va_A (zwP cI Po Pp Ps Pa) sz)) 0 0 (va_A (zwP cI Po Pp Ps Pa) sz) := by
  unfold fX2_codeAt at h
  refine zmet_i (cc := cX2_codeAt) (maxL := 2) (by decide) rfl (Nat.le_of_ble_eq_true rfl) rfl rfl ?_
  intro p e s m args below meth c R Q A ls hx hb hts hown hml hK hP hD hE hA hS hRf hRl hl hq
  have hown : s.vm.findClass RX2 = some m.cls := hown
  have hl : lv_has ls 2 [(0, .ref Po), (1, .int a0)] := hl
  have inX2 : ∀ w ∈ u_ws RX2 TX2 2, w ∈ wsX2_codeAt := by decide +kernel
  have lk15 : (Cond.fieldLink RX2 15 "PegField$Page" "size" "I").before args s = true := hts _ (by decide +kernel)
  have lk9 : (Cond.fieldLink RX2 9 "PegField$Page" "codes" "[I").before args s = true := hts _ (by decide +kernel)
  refine lv_iload_n hx hb dX2_codeAt_0 rfl (lv_at hl 1 rfl) ?_
  refine lv_if_lt (tgt := 30) hx hb dX2_codeAt_1 (by decide) (fun c1 => ?_) (fun c1 => ?_)
  · have h := zif_t c1 h
    refine lv_iconst (v := (-1 : Int32)) hx hb dX2_codeAt_30 (by decide) ?_
    cases zend h
    exact hq hP hD hS dX2_codeAt_31
  · have h := zif_f c1 h
    refine lv_iload_n hx hb dX2_codeAt_4 rfl (lv_at hl 1 rfl) ?_
    refine lv_aload_n hx hb dX2_codeAt_5 rfl (lv_at hl 0 rfl) ?_
    refine va_get (D := D) (ci := 2) (v := .int (Ps 1)) (C := RX2) (T := TX2) (N := 2) hx hb hts inX2 hown hK hP 0 rfl rfl 1 (by decide) lk15 (fun _ h9 => h9) rfl dX2_codeAt_6 ?_
    refine lv_icmp_ge (tgt := 30) hx hb dX2_codeAt_9 (by decide) (fun c2 => ?_) (fun c2 => ?_)
    · have h := zif_t c2 h
      refine lv_iconst (v := (-1 : Int32)) hx hb dX2_codeAt_30 (by decide) ?_
      cases zend h
      exact hq hP hD hS dX2_codeAt_31
    · have h := zif_f c2 h
      refine lv_iload_n hx hb dX2_codeAt_12 rfl (lv_at hl 1 rfl) ?_
      refine lv_aload_n hx hb dX2_codeAt_13 rfl (lv_at hl 0 rfl) ?_
      refine va_get (D := D) (ci := 2) (v := .ref (Pp 0)) (C := RX2) (T := TX2) (N := 2) hx hb hts inX2 hown hK hP 0 rfl rfl 0 (by decide) lk9 (fun _ h9 => h9) rfl dX2_codeAt_14 ?_
      refine va_alen hx hb hK hP 1 0 rfl rfl (v := (18 : Int32)) rfl dX2_codeAt_17 ?_
      refine lv_icmp_ge (tgt := 30) hx hb dX2_codeAt_18 (by decide) (fun c3 => ?_) (fun c3 => ?_)
      · have h := zif_t c3 h
        refine lv_iconst (v := (-1 : Int32)) hx hb dX2_codeAt_30 (by decide) ?_
        cases zend h
        exact hq hP hD hS dX2_codeAt_31
      · have h := zif_f c3 h
        refine lv_aload_n hx hb dX2_codeAt_21 rfl (lv_at hl 0 rfl) ?_
        refine va_get (D := D) (ci := 2) (v := .ref (Pp 0)) (C := RX2) (T := TX2) (N := 2) hx hb hts inX2 hown hK hP 0 rfl rfl 0 (by decide) lk9 (fun _ h9 => h9) rfl dX2_codeAt_22 ?_
        refine lv_iload_n hx hb dX2_codeAt_25 rfl (lv_at hl 1 rfl) ?_
        obtain ⟨z4, h⟩ := zck_s h
        refine va_iald hx hb hK hP 1 0 rfl rfl (zin_s z4) dX2_codeAt_26 ?_
        refine lv_goto (tgt := 31) hx hb dX2_codeAt_27 (by decide) ?_
        cases zend h
        exact hq hP hD hS dX2_codeAt_31
set_option maxHeartbeats 4000000 in
set_option maxRecDepth 100000 in
theorem c_X2_digitAt (l : Launch) (D : va_G) (cI cB cO : ClassId) (Po : Nat) (Pp : Nat → Nat) (Ps : Nat → Int32) (Pa : Nat → Nat → Int32) (a0 : Int32) (rv : Int32) (sz : Nat) (h : fX2_digitAt Ps Pa a0 = some rv) : Met l yX2_digitAt wsX2_digitAt ({ frames := 1, cells := 0, slots := 0, locals := 21 } : Room) (va_Pc [.ref Po, .int a0] (zPre D (zTY cI cB cO) (zwP cI Po Pp Ps Pa) sz)) (va_Qi (fun r (_ : Unit) => r = rv) (fun _ => zPost D (zTY cI cB cO) (zwP cI Po Pp Ps Pa) (va_A (zwP cI Po Pp Ps Pa) sz)) (va_A (zwP cI Po Pp Ps Pa) sz)) 0 0 (va_A (zwP cI Po Pp Ps Pa) sz) := by
  unfold fX2_digitAt at h
  refine zmet_i (cc := cX2_digitAt) (maxL := 3) (by decide) rfl (Nat.le_of_ble_eq_true rfl) rfl rfl ?_
  intro p e s m args below meth c R Q A ls hx hb hts hown hml hK hP hD hE hA hS hRf hRl hl hq
  have hown : s.vm.findClass RX2 = some m.cls := hown
  have hl : lv_has ls 3 [(0, .ref Po), (1, .int a0)] := hl
  refine lv_aload_n hx hb dX2_digitAt_0 rfl (lv_at hl 0 rfl) ?_
  refine lv_iload_n hx hb dX2_digitAt_1 rfl (lv_at hl 1 rfl) ?_
  obtain ⟨r1, g2, h⟩ := zb1_s h
  have hFc := va_free (wc := (zwP cI Po Pp Ps Pa)) hD hS hA [0, 1] (zC_1 (cI := cI) (cB := cB) (cO := cO))
  refine zcp_i (va_runV (As := [.int a0]) (rest := []) ⟨hx, hb, hml, hown, hts⟩ (c_X2_codeAt l D cI cB cO Po Pp Ps Pa a0 _ _ g2) (cwV 1 hts gX2_digitAt_X2_codeAt rfl rfl rfl kV_X2_codeAt ⟨Nat.le_trans (Nat.le_of_ble_eq_true rfl) hRf, Nat.le_trans (Nat.le_of_ble_eq_true rfl) hRl⟩) (zpreV hK hP hD hS hE hFc [0, 1] (zC_1 (cI := cI) (cB := cB) (cO := cO)) rfl 0 (ci := 2) rfl rfl [.int a0]) rfl rfl hl.1 rfl (lv_room (Nat.le_of_ble_eq_true rfl)) dX2_digitAt_2 ⟨Nat.zero_le _, Nat.zero_le _⟩) hP hD hS hFc [0, 1] (zC_1 (cI := cI) (cB := cB) (cO := cO)) (fun H locs hP hS => ?_)
  clear hFc
  refine lv_bipush (v := (48 : Int32)) hx hb dX2_digitAt_5 (by decide) ?_
  refine lv_isub hx hb dX2_digitAt_7 ?_
  refine lv_topi (fun x2_3 ex2_3 => ?_)
  have h := zlt_s h ex2_3
  refine lv_istore_n (lv' := [(2, .int x2_3), (0, .ref Po), (1, .int a0)]) hx hb dX2_digitAt_8 rfl hl (by decide) rfl (fun ls hl => ?_)
  refine lv_iload_n hx hb dX2_digitAt_9 rfl (lv_at hl 0 rfl) ?_
  refine lv_iconst (v := (2 : Int32)) hx hb dX2_digitAt_10 (by decide) ?_
  refine lv_icmp_lt (tgt := 23) hx hb dX2_digitAt_11 (by decide) (fun c4 => ?_) (fun c4 => ?_)
  · have h := zif_t c4 h
    refine lv_iconst (v := (0 : Int32)) hx hb dX2_digitAt_23 (by decide) ?_
    cases zend h
    exact hq hP hD hS dX2_digitAt_24
  · have h := zif_f c4 h
    refine lv_iload_n hx hb dX2_digitAt_14 rfl (lv_at hl 0 rfl) ?_
    refine lv_iconst (v := (4 : Int32)) hx hb dX2_digitAt_15 (by decide) ?_
    refine lv_icmp_gt (tgt := 23) hx hb dX2_digitAt_16 (by decide) (fun c5 => ?_) (fun c5 => ?_)
    · have h := zif_t c5 h
      refine lv_iconst (v := (0 : Int32)) hx hb dX2_digitAt_23 (by decide) ?_
      cases zend h
      exact hq hP hD hS dX2_digitAt_24
    · have h := zif_f c5 h
      refine lv_iload_n hx hb dX2_digitAt_19 rfl (lv_at hl 0 rfl) ?_
      refine lv_goto (tgt := 24) hx hb dX2_digitAt_20 (by decide) ?_
      cases zend h
      exact hq hP hD hS dX2_digitAt_24
set_option maxHeartbeats 4000000 in
set_option maxRecDepth 100000 in
theorem c_X2_kindAt (l : Launch) (D : va_G) (cI cB cO : ClassId) (Po : Nat) (Pp : Nat → Nat) (Ps : Nat → Int32) (Pa : Nat → Nat → Int32) (a0 : Int32) (rv : Int32) (sz : Nat) (h : fX2_kindAt Ps Pa a0 = some rv) : Met l yX2_kindAt wsX2_kindAt ({ frames := 1, cells := 0, slots := 0, locals := 21 } : Room) (va_Pc [.ref Po, .int a0] (zPre D (zTY cI cB cO) (zwP cI Po Pp Ps Pa) sz)) (va_Qi (fun r (_ : Unit) => r = rv) (fun _ => zPost D (zTY cI cB cO) (zwP cI Po Pp Ps Pa) (va_A (zwP cI Po Pp Ps Pa) sz)) (va_A (zwP cI Po Pp Ps Pa) sz)) 0 0 (va_A (zwP cI Po Pp Ps Pa) sz) := by
  unfold fX2_kindAt at h
  refine zmet_i (cc := cX2_kindAt) (maxL := 4) (by decide) rfl (Nat.le_of_ble_eq_true rfl) rfl rfl ?_
  intro p e s m args below meth c R Q A ls hx hb hts hown hml hK hP hD hE hA hS hRf hRl hl hq
  have hown : s.vm.findClass RX2 = some m.cls := hown
  have hl : lv_has ls 4 [(0, .ref Po), (1, .int a0)] := hl
  obtain ⟨tKIND_LETTERS, zzKIND_LETTERS, ztKIND_LETTERS⟩ := hE.1.1
  have lk23 : (Cond.fieldLinkNest RX2 23 "PegField" "KIND_LETTERS" "[C" "PegField").before args s = true := hE.2.use (by decide +kernel)
  refine lv_aload_n hx hb dX2_kindAt_0 rfl (lv_at hl 0 rfl) ?_
  refine lv_iload_n hx hb dX2_kindAt_1 rfl (lv_at hl 1 rfl) ?_
  obtain ⟨r1, g2, h⟩ := zb1_s h
  have hFc := va_free (wc := (zwP cI Po Pp Ps Pa)) hD hS hA [0, 1] (zC_1 (cI := cI) (cB := cB) (cO := cO))
  refine zcp_i (va_runV (As := [.int a0]) (rest := []) ⟨hx, hb, hml, hown, hts⟩ (c_X2_codeAt l D cI cB cO Po Pp Ps Pa a0 _ _ g2) (cwV 1 hts gX2_kindAt_X2_codeAt rfl rfl rfl kV_X2_codeAt ⟨Nat.le_trans (Nat.le_of_ble_eq_true rfl) hRf, Nat.le_trans (Nat.le_of_ble_eq_true rfl) hRl⟩) (zpreV hK hP hD hS hE hFc [0, 1] (zC_1 (cI := cI) (cB := cB) (cO := cO)) rfl 0 (ci := 2) rfl rfl [.int a0]) rfl rfl hl.1 rfl (lv_room (Nat.le_of_ble_eq_true rfl)) dX2_kindAt_2 ⟨Nat.zero_le _, Nat.zero_le _⟩) hP hD hS hFc [0, 1] (zC_1 (cI := cI) (cB := cB) (cO := cO)) (fun H locs hP hS => ?_)
  clear hFc
  refine lv_istore_n (lv' := [(2, .int r1), (0, .ref Po), (1, .int a0)]) hx hb dX2_kindAt_5 rfl hl (by decide) rfl (fun ls hl => ?_)
  refine lv_iconst (v := (0 : Int32)) hx hb dX2_kindAt_6 (by decide) ?_
  refine lv_istore_n (lv' := [(3, .int (0 : Int32)), (2, .int r1), (0, .ref Po), (1, .int a0)]) hx hb dX2_kindAt_7 rfl hl (by decide) rfl (fun ls hl => ?_)
  obtain ⟨y3, i7, h1y3, h2y3⟩ := zbs_s h
  clear h
  have KX25 : ∀ (x3_25x8 : Int32), y3 = (.inl x3_25x8) → ∀ (H : Heap) (locs : List Loc) (ls : Array Slot), va_P D vwCl (zwP cI Po Pp Ps Pa) H → va_D A (zwP cI Po Pp Ps Pa) → va_S A s.heap H locs → lv_has ls 4 [(3, .int x3_25x8)] → W p l e R s m args below meth c H locs 0 0 Q (F0 m 25 ls []) := by
    intro x3_25x8 ey3 H locs ls hP hD hS hl
    have h := h1y3 _ ey3
    refine lv_iload_n hx hb dX2_kindAt_25 rfl (lv_at hl 0 rfl) ?_
    cases zend h
    exact hq hP hD hS dX2_kindAt_26
  have KX33 : ∀ (u : Unit), y3 = (.inr u) → ∀ (H : Heap) (locs : List Loc) (ls : Array Slot), va_P D vwCl (zwP cI Po Pp Ps Pa) H → va_D A (zwP cI Po Pp Ps Pa) → va_S A s.heap H locs → lv_has ls 4 [] → W p l e R s m args below meth c H locs 0 0 Q (F0 m 33 ls []) := by
    intro u ey3 H locs ls hP hD hS hl
    have h := h2y3 _ ey3
    refine lv_iconst (v := (-1 : Int32)) hx hb dX2_kindAt_33 (by decide) ?_
    cases zend h
    exact hq hP hD hS dX2_kindAt_34
  refine zi1_ind (P := (fun (x3_8h : Int32) => ∀ (H : Heap) (locs : List Loc) (ls : Array Slot), va_P D vwCl (zwP cI Po Pp Ps Pa) H → va_D A (zwP cI Po Pp Ps Pa) → va_S A s.heap H locs → lv_has ls 4 [(2, .int r1), (3, .int x3_8h)] → W p l e R s m args below meth c H locs 0 0 Q (F0 m 8 ls []))) ?_ i7 _ _ _ hP hD hS (lv_sub hl [1, 0] rfl)
  clear i7 hP hD hS hl
  intro x3_8h z8 h zl8 zr8 H locs ls hP hD hS hl
  refine lv_iload_n hx hb dX2_kindAt_8 rfl (lv_at hl 1 rfl) ?_
  refine va_getsN hx hb zzKIND_LETTERS hS hown lk23 (fun _ h9 => h9) dX2_kindAt_9 ?_
  refine va_tlen hx hb ztKIND_LETTERS hS (v := (5 : Int32)) rfl dX2_kindAt_12 ?_
  refine lv_icmp_ge (tgt := 33) hx hb dX2_kindAt_13 (by decide) (fun c4 => ?_) (fun c4 => ?_)
  · have h := zif_t c4 h
    exact KX33 _ (zr8 _ (zend h).symm).symm _ _ _ hP hD hS (lv_sub hl [] rfl)
  · have h := zif_f c4 h
    refine va_getsN hx hb zzKIND_LETTERS hS hown lk23 (fun _ h9 => h9) dX2_kindAt_16 ?_
    refine lv_iload_n hx hb dX2_kindAt_19 rfl (lv_at hl 1 rfl) ?_
    obtain ⟨z5, h⟩ := zck_s h
    refine va_tc (v := .int (zKL (x3_8h).toNatClampNeg)) hx hb ztKIND_LETTERS hS (zin_s z5) rfl dX2_kindAt_20 ?_
    refine lv_iload_n hx hb dX2_kindAt_21 rfl (lv_at hl 0 rfl) ?_
    refine lv_icmp_ne (tgt := 27) hx hb dX2_kindAt_22 (by decide) (fun c6 => ?_) (fun c6 => ?_)
    · have h := zif_f c6 h
      refine lv_iinc (v := (x3_8h + (1 : Int32))) (lv' := [(3, .int (x3_8h + (1 : Int32))), (2, .int r1)]) hx hb dX2_kindAt_27 hl (k := 1) rfl rfl (by decide) rfl (fun ls hl => ?_)
      refine lv_goto (tgt := 8) hx hb dX2_kindAt_30 (by decide) ?_
      exact zl8 _ (zend h).symm _ _ _ hP hD hS (lv_sub hl [1, 0] rfl)
    · have h := zif_t c6 h
      exact KX25 _ (zr8 _ (zend h).symm).symm _ _ _ hP hD hS (lv_sub hl [1] rfl)
set_option maxHeartbeats 4000000 in
set_option maxRecDepth 100000 in
theorem c_X2_placesTold (l : Launch) (D : va_G) (cI cB cO : ClassId) (Po : Nat) (Pp : Nat → Nat) (Ps : Nat → Int32) (Pa : Nat → Nat → Int32)  (rv : Int32) (sz : Nat) (h : fX2_placesTold Ps Pa = some rv) : Met l yX2_placesTold wsX2_placesTold ({ frames := 2, cells := 0, slots := 0, locals := 43 } : Room) (va_Pc [.ref Po] (zPre D (zTY cI cB cO) (zwP cI Po Pp Ps Pa) sz)) (va_Qi (fun r (_ : Unit) => r = rv) (fun _ => zPost D (zTY cI cB cO) (zwP cI Po Pp Ps Pa) (va_A (zwP cI Po Pp Ps Pa) sz)) (va_A (zwP cI Po Pp Ps Pa) sz)) 0 0 (va_A (zwP cI Po Pp Ps Pa) sz) := by
  unfold fX2_placesTold at h
  refine zmet_i (cc := cX2_placesTold) (maxL := 1) (by decide) rfl (Nat.le_of_ble_eq_true rfl) rfl rfl ?_
  intro p e s m args below meth c R Q A ls hx hb hts hown hml hK hP hD hE hA hS hRf hRl hl hq
  have hown : s.vm.findClass RX2 = some m.cls := hown
  have hl : lv_has ls 1 [(0, .ref Po)] := hl
  refine lv_aload_n hx hb dX2_placesTold_0 rfl (lv_at hl 0 rfl) ?_
  refine lv_iconst (v := (0 : Int32)) hx hb dX2_placesTold_1 (by decide) ?_
  obtain ⟨r1, g2, h⟩ := zb1_s h
  have hFc := va_free (wc := (zwP cI Po Pp Ps Pa)) hD hS hA [0, 1] (zC_1 (cI := cI) (cB := cB) (cO := cO))
  refine zcp_i (va_runV (As := [.int (0 : Int32)]) (rest := []) ⟨hx, hb, hml, hown, hts⟩ (c_X2_digitAt l D cI cB cO Po Pp Ps Pa (0 : Int32) _ _ g2) (cwV 1 hts gX2_placesTold_X2_digitAt rfl rfl rfl kV_X2_digitAt ⟨Nat.le_trans (Nat.le_of_ble_eq_true rfl) hRf, Nat.le_trans (Nat.le_of_ble_eq_true rfl) hRl⟩) (zpreV hK hP hD hS hE hFc [0, 1] (zC_1 (cI := cI) (cB := cB) (cO := cO)) rfl 0 (ci := 2) rfl rfl [.int (0 : Int32)]) rfl rfl hl.1 rfl (lv_room (Nat.le_of_ble_eq_true rfl)) dX2_placesTold_2 ⟨Nat.zero_le _, Nat.zero_le _⟩) hP hD hS hFc [0, 1] (zC_1 (cI := cI) (cB := cB) (cO := cO)) (fun H locs hP hS => ?_)
  clear hFc
  refine lv_aload_n hx hb dX2_placesTold_5 rfl (lv_at hl 0 rfl) ?_
  refine lv_iconst (v := (1 : Int32)) hx hb dX2_placesTold_6 (by decide) ?_
  obtain ⟨r3, g4, h⟩ := zb1_s h
  have hFc := va_free (wc := (zwP cI Po Pp Ps Pa)) hD hS hA [0, 1] (zC_1 (cI := cI) (cB := cB) (cO := cO))
  refine zcp_i (va_runV (As := [.int (1 : Int32)]) (rest := [.int r1]) ⟨hx, hb, hml, hown, hts⟩ (c_X2_digitAt l D cI cB cO Po Pp Ps Pa (1 : Int32) _ _ g4) (cwV 1 hts gX2_placesTold_X2_digitAt rfl rfl rfl kV_X2_digitAt ⟨Nat.le_trans (Nat.le_of_ble_eq_true rfl) hRf, Nat.le_trans (Nat.le_of_ble_eq_true rfl) hRl⟩) (zpreV hK hP hD hS hE hFc [0, 1] (zC_1 (cI := cI) (cB := cB) (cO := cO)) rfl 0 (ci := 2) rfl rfl [.int (1 : Int32)]) rfl rfl hl.1 rfl (lv_room (Nat.le_of_ble_eq_true rfl)) dX2_placesTold_7 ⟨Nat.zero_le _, Nat.zero_le _⟩) hP hD hS hFc [0, 1] (zC_1 (cI := cI) (cB := cB) (cO := cO)) (fun H locs hP hS => ?_)
  clear hFc
  refine lv_imul hx hb dX2_placesTold_10 ?_
  cases zend h
  exact hq hP hD hS dX2_placesTold_11
set_option maxHeartbeats 4000000 in
set_option maxRecDepth 100000 in
theorem c_X2_pegsBefore (l : Launch) (D : va_G) (cI cB cO : ClassId) (Po : Nat) (Pp : Nat → Nat) (Ps : Nat → Int32) (Pa : Nat → Nat → Int32) (a0 : Int32) (rv : Int32) (sz : Nat) (h : fX2_pegsBefore Ps Pa a0 = some rv) : Met l yX2_pegsBefore wsX2_pegsBefore ({ frames := 2, cells := 0, slots := 0, locals := 44 } : Room) (va_Pc [.ref Po, .int a0] (zPre D (zTY cI cB cO) (zwP cI Po Pp Ps Pa) sz)) (va_Qi (fun r (_ : Unit) => r = rv) (fun _ => zPost D (zTY cI cB cO) (zwP cI Po Pp Ps Pa) (va_A (zwP cI Po Pp Ps Pa) sz)) (va_A (zwP cI Po Pp Ps Pa) sz)) 0 0 (va_A (zwP cI Po Pp Ps Pa) sz) := by
  unfold fX2_pegsBefore at h
  refine zmet_i (cc := cX2_pegsBefore) (maxL := 4) (by decide) rfl (Nat.le_of_ble_eq_true rfl) rfl rfl ?_
  intro p e s m args below meth c R Q A ls hx hb hts hown hml hK hP hD hE hA hS hRf hRl hl hq
  have hown : s.vm.findClass RX2 = some m.cls := hown
  have hl : lv_has ls 4 [(0, .ref Po), (1, .int a0)] := hl
  refine lv_iconst (v := (0 : Int32)) hx hb dX2_pegsBefore_0 (by decide) ?_
  refine lv_istore_n (lv' := [(2, .int (0 : Int32)), (0, .ref Po), (1, .int a0)]) hx hb dX2_pegsBefore_1 rfl hl (by decide) rfl (fun ls hl => ?_)
  refine lv_iconst (v := (3 : Int32)) hx hb dX2_pegsBefore_2 (by decide) ?_
  refine lv_istore_n (lv' := [(3, .int (3 : Int32)), (2, .int (0 : Int32)), (0, .ref Po), (1, .int a0)]) hx hb dX2_pegsBefore_3 rfl hl (by decide) rfl (fun ls hl => ?_)
  obtain ⟨x2_27x4, i7, h⟩ := zb1_s h
  have KX27 : ∀ (H : Heap) (locs : List Loc) (ls : Array Slot), va_P D vwCl (zwP cI Po Pp Ps Pa) H → va_D A (zwP cI Po Pp Ps Pa) → va_S A s.heap H locs → lv_has ls 4 [(2, .int x2_27x4)] → W p l e R s m args below meth c H locs 0 0 Q (F0 m 27 ls []) := by
    intro H locs ls hP hD hS hl
    refine lv_iload_n hx hb dX2_pegsBefore_27 rfl (lv_at hl 0 rfl) ?_
    cases zend h
    exact hq hP hD hS dX2_pegsBefore_28
  clear h
  refine zi2_ind (P := (fun (x2_4h : Int32) (x3_4h : Int32) => ∀ (H : Heap) (locs : List Loc) (ls : Array Slot), va_P D vwCl (zwP cI Po Pp Ps Pa) H → va_D A (zwP cI Po Pp Ps Pa) → va_S A s.heap H locs → lv_has ls 4 [(0, .ref Po), (1, .int a0), (2, .int x2_4h), (3, .int x3_4h)] → W p l e R s m args below meth c H locs 0 0 Q (F0 m 4 ls []))) ?_ i7 _ _ _ hP hD hS (lv_sub hl [2, 3, 1, 0] rfl)
  clear i7 hP hD hS hl
  intro x2_4h x3_4h z4 h zl4 zr4 H locs ls hP hD hS hl
  refine lv_iload_n hx hb dX2_pegsBefore_4 rfl (lv_at hl 3 rfl) ?_
  refine lv_iload_n hx hb dX2_pegsBefore_5 rfl (lv_at hl 1 rfl) ?_
  refine lv_icmp_ge (tgt := 27) hx hb dX2_pegsBefore_6 (by decide) (fun c2 => ?_) (fun c2 => ?_)
  · have h := zif_t c2 h
    cases zr4 _ (zend h).symm
    exact KX27 _ _ _ hP hD hS (lv_sub hl [2] rfl)
  · have h := zif_f c2 h
    refine lv_aload_n hx hb dX2_pegsBefore_9 rfl (lv_at hl 0 rfl) ?_
    refine lv_iload_n hx hb dX2_pegsBefore_10 rfl (lv_at hl 3 rfl) ?_
    obtain ⟨r3, g4, h⟩ := zb1_s h
    have hFc := va_free (wc := (zwP cI Po Pp Ps Pa)) hD hS hA [0, 1] (zC_1 (cI := cI) (cB := cB) (cO := cO))
    refine zcp_i (va_runV (As := [.int x3_4h]) (rest := []) ⟨hx, hb, hml, hown, hts⟩ (c_X2_kindAt l D cI cB cO Po Pp Ps Pa x3_4h _ _ g4) (cwV 1 hts gX2_pegsBefore_X2_kindAt rfl rfl rfl kV_X2_kindAt ⟨Nat.le_trans (Nat.le_of_ble_eq_true rfl) hRf, Nat.le_trans (Nat.le_of_ble_eq_true rfl) hRl⟩) (zpreV hK hP hD hS hE hFc [0, 1] (zC_1 (cI := cI) (cB := cB) (cO := cO)) rfl 0 (ci := 2) rfl rfl [.int x3_4h]) rfl rfl hl.1 rfl (lv_room (Nat.le_of_ble_eq_true rfl)) dX2_pegsBefore_11 ⟨Nat.zero_le _, Nat.zero_le _⟩) hP hD hS hFc [0, 1] (zC_1 (cI := cI) (cB := cB) (cO := cO)) (fun H locs hP hS => ?_)
    clear hFc
    refine lv_iconst (v := (-1 : Int32)) hx hb dX2_pegsBefore_14 (by decide) ?_
    obtain ⟨x2_21, j5, h⟩ := zb1_s h
    have K21 : ∀ (H : Heap) (locs : List Loc) (ls : Array Slot), va_P D vwCl (zwP cI Po Pp Ps Pa) H → va_D A (zwP cI Po Pp Ps Pa) → va_S A s.heap H locs → lv_has ls 4 [(0, .ref Po), (1, .int a0), (2, .int x2_21), (3, .int x3_4h)] → W p l e R s m args below meth c H locs 0 0 Q (F0 m 21 ls []) := by
      intro H locs ls hP hD hS hl
      refine lv_iinc (v := (x3_4h + (1 : Int32))) (lv' := [(3, .int (x3_4h + (1 : Int32))), (0, .ref Po), (1, .int a0), (2, .int x2_21)]) hx hb dX2_pegsBefore_21 hl (k := 3) rfl rfl (by decide) rfl (fun ls hl => ?_)
      refine lv_goto (tgt := 4) hx hb dX2_pegsBefore_24 (by decide) ?_
      exact zl4 _ _ (zend h).symm _ _ _ hP hD hS (lv_sub hl [1, 2, 3, 0] rfl)
    clear h
    have h := j5
    clear j5
    refine lv_icmp_eq (tgt := 21) hx hb dX2_pegsBefore_15 (by decide) (fun c6 => ?_) (fun c6 => ?_)
    · have h := zif_t c6 h
      cases zend h
      exact K21 _ _ _ hP hD hS (lv_sub hl [0, 1, 2, 3] rfl)
    · have h := zif_f c6 h
      refine lv_iinc (v := (x2_4h + (1 : Int32))) (lv' := [(2, .int (x2_4h + (1 : Int32))), (0, .ref Po), (1, .int a0), (3, .int x3_4h)]) hx hb dX2_pegsBefore_18 hl (k := 2) rfl rfl (by decide) rfl (fun ls hl => ?_)
      cases zend h
      exact K21 _ _ _ hP hD hS (lv_sub hl [1, 2, 0, 3] rfl)
set_option maxHeartbeats 4000000 in
set_option maxRecDepth 100000 in
theorem c_X2_fits (l : Launch) (D : va_G) (cI cB cO : ClassId) (Po : Nat) (Pp : Nat → Nat) (Ps : Nat → Int32) (Pa : Nat → Nat → Int32) (a0 : Int32) (rv : Int32) (sz : Nat) (h : fX2_fits Ps Pa a0 = some rv) : Met l yX2_fits wsX2_fits ({ frames := 3, cells := 0, slots := 0, locals := 67 } : Room) (va_Pc [.ref Po, .int a0] (zPre D (zTY cI cB cO) (zwP cI Po Pp Ps Pa) sz)) (va_Qi (fun r (_ : Unit) => r = rv) (fun _ => zPost D (zTY cI cB cO) (zwP cI Po Pp Ps Pa) (va_A (zwP cI Po Pp Ps Pa) sz)) (va_A (zwP cI Po Pp Ps Pa) sz)) 0 0 (va_A (zwP cI Po Pp Ps Pa) sz) := by
  unfold fX2_fits at h
  refine zmet_z (cc := cX2_fits) (maxL := 3) (by decide) rfl (Nat.le_of_ble_eq_true rfl) rfl rfl ?_
  intro p e s m args below meth c R Q A ls hx hb hts hown hml hK hP hD hE hA hS hRf hRl hl hq
  have hown : s.vm.findClass RX2 = some m.cls := hown
  have hl : lv_has ls 3 [(0, .ref Po), (1, .int a0)] := hl
  refine lv_iload_n hx hb dX2_fits_0 rfl (lv_at hl 1 rfl) ?_
  refine lv_if_ne (tgt := 18) hx hb dX2_fits_1 (by decide) (fun c1 => ?_) (fun c1 => ?_)
  · have h := zif_f c1 h
    refine lv_iload_n hx hb dX2_fits_18 rfl (lv_at hl 1 rfl) ?_
    refine lv_iconst (v := (1 : Int32)) hx hb dX2_fits_19 (by decide) ?_
    refine lv_icmp_ne (tgt := 46) hx hb dX2_fits_20 (by decide) (fun c2 => ?_) (fun c2 => ?_)
    · have h := zif_f c2 h
      refine lv_aload_n hx hb dX2_fits_46 rfl (lv_at hl 0 rfl) ?_
      refine lv_iload_n hx hb dX2_fits_47 rfl (lv_at hl 1 rfl) ?_
      obtain ⟨r3, g4, h⟩ := zb1_s h
      have hFc := va_free (wc := (zwP cI Po Pp Ps Pa)) hD hS hA [0, 1] (zC_1 (cI := cI) (cB := cB) (cO := cO))
      refine zcp_i (va_runV (As := [.int a0]) (rest := []) ⟨hx, hb, hml, hown, hts⟩ (c_X2_codeAt l D cI cB cO Po Pp Ps Pa a0 _ _ g4) (cwV 1 hts gX2_fits_X2_codeAt rfl rfl rfl kV_X2_codeAt ⟨Nat.le_trans (Nat.le_of_ble_eq_true rfl) hRf, Nat.le_trans (Nat.le_of_ble_eq_true rfl) hRl⟩) (zpreV hK hP hD hS hE hFc [0, 1] (zC_1 (cI := cI) (cB := cB) (cO := cO)) rfl 0 (ci := 2) rfl rfl [.int a0]) rfl rfl hl.1 rfl (lv_room (Nat.le_of_ble_eq_true rfl)) dX2_fits_48 ⟨Nat.zero_le _, Nat.zero_le _⟩) hP hD hS hFc [0, 1] (zC_1 (cI := cI) (cB := cB) (cO := cO)) (fun H locs hP hS => ?_)
      clear hFc
      refine lv_istore_n (lv' := [(2, .int r3), (0, .ref Po), (1, .int a0)]) hx hb dX2_fits_51 rfl hl (by decide) rfl (fun ls hl => ?_)
      refine lv_iload_n hx hb dX2_fits_52 rfl (lv_at hl 2 rfl) ?_
      refine lv_iconst (v := (2 : Int32)) hx hb dX2_fits_53 (by decide) ?_
      refine lv_icmp_ne (tgt := 69) hx hb dX2_fits_54 (by decide) (fun c5 => ?_) (fun c5 => ?_)
      · have h := zif_f c5 h
        refine lv_iload_n hx hb dX2_fits_69 rfl (lv_at hl 2 rfl) ?_
        refine lv_iconst (v := (3 : Int32)) hx hb dX2_fits_70 (by decide) ?_
        refine lv_aload_n hx hb dX2_fits_71 rfl (lv_at hl 1 rfl) ?_
        obtain ⟨r6, g7, h⟩ := zb1_s h
        have hFc := va_free (wc := (zwP cI Po Pp Ps Pa)) hD hS hA [0, 1] (zC_1 (cI := cI) (cB := cB) (cO := cO))
        refine zcp_i (va_runV (As := []) (rest := [.int (3 : Int32), .int a0]) ⟨hx, hb, hml, hown, hts⟩ (c_X2_placesTold l D cI cB cO Po Pp Ps Pa _ _ g7) (cwV 0 hts gX2_fits_X2_placesTold rfl rfl rfl kV_X2_placesTold ⟨Nat.le_trans (Nat.le_of_ble_eq_true rfl) hRf, Nat.le_trans (Nat.le_of_ble_eq_true rfl) hRl⟩) (zpreV hK hP hD hS hE hFc [0, 1] (zC_1 (cI := cI) (cB := cB) (cO := cO)) rfl 0 (ci := 2) rfl rfl []) rfl rfl hl.1 rfl (lv_room (Nat.le_of_ble_eq_true rfl)) dX2_fits_72 ⟨Nat.zero_le _, Nat.zero_le _⟩) hP hD hS hFc [0, 1] (zC_1 (cI := cI) (cB := cB) (cO := cO)) (fun H locs hP hS => ?_)
        clear hFc
        refine lv_iadd hx hb dX2_fits_75 ?_
        refine lv_icmp_lt (tgt := 81) hx hb dX2_fits_76 (by decide) (fun c8 => ?_) (fun c8 => ?_)
        · have h := zif_t c8 h
          refine lv_iload_n hx hb dX2_fits_81 rfl (lv_at hl 0 rfl) ?_
          refine lv_bipush (v := (35 : Int32)) hx hb dX2_fits_82 (by decide) ?_
          obtain ⟨J112, eJ112, h⟩ := zjn_s h
          have K112 : ∀ (u : Unit), J112 u = some rv → ∀ (H : Heap) (locs : List Loc) (ls : Array Slot), va_P D vwCl (zwP cI Po Pp Ps Pa) H → va_D A (zwP cI Po Pp Ps Pa) → va_S A s.heap H locs → lv_has ls 3 [] → W p l e R s m args below meth c H locs 0 0 Q (F0 m 112 ls []) := by
            subst eJ112
            intro u h H locs ls hP hD hS hl
            refine lv_iconst (v := (1 : Int32)) hx hb dX2_fits_112 (by decide) ?_
            refine lv_goto (tgt := 117) hx hb dX2_fits_113 (by decide) ?_
            cases zend h
            exact hq hP hD hS (by decide) dX2_fits_117
          clear eJ112
          refine lv_icmp_eq (tgt := 112) hx hb dX2_fits_84 (by decide) (fun c9 => ?_) (fun c9 => ?_)
          · have h := zif_t c9 h
            exact K112 _ h _ _ _ hP hD hS (lv_sub hl [] rfl)
          · have h := zif_f c9 h
            refine lv_iload_n hx hb dX2_fits_87 rfl (lv_at hl 0 rfl) ?_
            refine lv_bipush (v := (46 : Int32)) hx hb dX2_fits_88 (by decide) ?_
            refine lv_icmp_eq (tgt := 112) hx hb dX2_fits_90 (by decide) (fun c10 => ?_) (fun c10 => ?_)
            · have h := zif_t c10 h
              exact K112 _ h _ _ _ hP hD hS (lv_sub hl [] rfl)
            · have h := zif_f c10 h
              refine lv_aload_n hx hb dX2_fits_93 rfl (lv_at hl 1 rfl) ?_
              refine lv_iload_n hx hb dX2_fits_94 rfl (lv_at hl 2 rfl) ?_
              obtain ⟨r11, g12, h⟩ := zb1_s h
              have hFc := va_free (wc := (zwP cI Po Pp Ps Pa)) hD hS hA [0, 1] (zC_1 (cI := cI) (cB := cB) (cO := cO))
              refine zcp_i (va_runV (As := [.int a0]) (rest := []) ⟨hx, hb, hml, hown, hts⟩ (c_X2_kindAt l D cI cB cO Po Pp Ps Pa a0 _ _ g12) (cwV 1 hts gX2_fits_X2_kindAt rfl rfl rfl kV_X2_kindAt ⟨Nat.le_trans (Nat.le_of_ble_eq_true rfl) hRf, Nat.le_trans (Nat.le_of_ble_eq_true rfl) hRl⟩) (zpreV hK hP hD hS hE hFc [0, 1] (zC_1 (cI := cI) (cB := cB) (cO := cO)) rfl 0 (ci := 2) rfl rfl [.int a0]) rfl rfl hl.1 rfl (lv_room (Nat.le_of_ble_eq_true rfl)) dX2_fits_95 ⟨Nat.zero_le _, Nat.zero_le _⟩) hP hD hS hFc [0, 1] (zC_1 (cI := cI) (cB := cB) (cO := cO)) (fun H locs hP hS => ?_)
              clear hFc
              refine lv_iconst (v := (-1 : Int32)) hx hb dX2_fits_98 (by decide) ?_
              refine lv_icmp_eq (tgt := 116) hx hb dX2_fits_99 (by decide) (fun c13 => ?_) (fun c13 => ?_)
              · have h := zif_t c13 h
                refine lv_iconst (v := (0 : Int32)) hx hb dX2_fits_116 (by decide) ?_
                cases zend h
                exact hq hP hD hS (by decide) dX2_fits_117
              · have h := zif_f c13 h
                refine lv_aload_n hx hb dX2_fits_102 rfl (lv_at hl 1 rfl) ?_
                refine lv_iload_n hx hb dX2_fits_103 rfl (lv_at hl 2 rfl) ?_
                obtain ⟨r14, g15, h⟩ := zb1_s h
                have hFc := va_free (wc := (zwP cI Po Pp Ps Pa)) hD hS hA [0, 1] (zC_1 (cI := cI) (cB := cB) (cO := cO))
                refine zcp_i (va_runV (As := [.int a0]) (rest := []) ⟨hx, hb, hml, hown, hts⟩ (c_X2_pegsBefore l D cI cB cO Po Pp Ps Pa a0 _ _ g15) (cwV 1 hts gX2_fits_X2_pegsBefore rfl rfl rfl kV_X2_pegsBefore ⟨Nat.le_trans (Nat.le_of_ble_eq_true rfl) hRf, Nat.le_trans (Nat.le_of_ble_eq_true rfl) hRl⟩) (zpreV hK hP hD hS hE hFc [0, 1] (zC_1 (cI := cI) (cB := cB) (cO := cO)) rfl 0 (ci := 2) rfl rfl [.int a0]) rfl rfl hl.1 rfl (lv_room (Nat.le_of_ble_eq_true rfl)) dX2_fits_104 ⟨Nat.zero_le _, Nat.zero_le _⟩) hP hD hS hFc [0, 1] (zC_1 (cI := cI) (cB := cB) (cO := cO)) (fun H locs hP hS => ?_)
                clear hFc
                refine lv_bipush (v := (7 : Int32)) hx hb dX2_fits_107 (by decide) ?_
                refine lv_icmp_ge (tgt := 116) hx hb dX2_fits_109 (by decide) (fun c16 => ?_) (fun c16 => ?_)
                · have h := zif_t c16 h
                  refine lv_iconst (v := (0 : Int32)) hx hb dX2_fits_116 (by decide) ?_
                  cases zend h
                  exact hq hP hD hS (by decide) dX2_fits_117
                · have h := zif_f c16 h
                  exact K112 _ h _ _ _ hP hD hS (lv_sub hl [] rfl)
        · have h := zif_f c8 h
          refine lv_iconst (v := (0 : Int32)) hx hb dX2_fits_79 (by decide) ?_
          cases zend h
          exact hq hP hD hS (by decide) dX2_fits_80
      · have h := zif_t c5 h
        refine lv_iload_n hx hb dX2_fits_57 rfl (lv_at hl 0 rfl) ?_
        refine lv_bipush (v := (59 : Int32)) hx hb dX2_fits_58 (by decide) ?_
        refine lv_icmp_ne (tgt := 67) hx hb dX2_fits_60 (by decide) (fun c17 => ?_) (fun c17 => ?_)
        · have h := zif_f c17 h
          refine lv_iconst (v := (0 : Int32)) hx hb dX2_fits_67 (by decide) ?_
          cases zend h
          exact hq hP hD hS (by decide) dX2_fits_68
        · have h := zif_t c17 h
          refine lv_iconst (v := (1 : Int32)) hx hb dX2_fits_63 (by decide) ?_
          refine lv_goto (tgt := 68) hx hb dX2_fits_64 (by decide) ?_
          cases zend h
          exact hq hP hD hS (by decide) dX2_fits_68
    · have h := zif_t c2 h
      refine lv_aload_n hx hb dX2_fits_23 rfl (lv_at hl 0 rfl) ?_
      refine lv_iconst (v := (1 : Int32)) hx hb dX2_fits_24 (by decide) ?_
      obtain ⟨r18, g19, h⟩ := zb1_s h
      have hFc := va_free (wc := (zwP cI Po Pp Ps Pa)) hD hS hA [0, 1] (zC_1 (cI := cI) (cB := cB) (cO := cO))
      refine zcp_i (va_runV (As := [.int (1 : Int32)]) (rest := []) ⟨hx, hb, hml, hown, hts⟩ (c_X2_digitAt l D cI cB cO Po Pp Ps Pa (1 : Int32) _ _ g19) (cwV 1 hts gX2_fits_X2_digitAt rfl rfl rfl kV_X2_digitAt ⟨Nat.le_trans (Nat.le_of_ble_eq_true rfl) hRf, Nat.le_trans (Nat.le_of_ble_eq_true rfl) hRl⟩) (zpreV hK hP hD hS hE hFc [0, 1] (zC_1 (cI := cI) (cB := cB) (cO := cO)) rfl 0 (ci := 2) rfl rfl [.int (1 : Int32)]) rfl rfl hl.1 rfl (lv_room (Nat.le_of_ble_eq_true rfl)) dX2_fits_25 ⟨Nat.zero_le _, Nat.zero_le _⟩) hP hD hS hFc [0, 1] (zC_1 (cI := cI) (cB := cB) (cO := cO)) (fun H locs hP hS => ?_)
      clear hFc
      refine lv_if_le (tgt := 44) hx hb dX2_fits_28 (by decide) (fun c20 => ?_) (fun c20 => ?_)
      · have h := zif_t c20 h
        refine lv_iconst (v := (0 : Int32)) hx hb dX2_fits_44 (by decide) ?_
        cases zend h
        exact hq hP hD hS (by decide) dX2_fits_45
      · have h := zif_f c20 h
        refine lv_aload_n hx hb dX2_fits_31 rfl (lv_at hl 0 rfl) ?_
        obtain ⟨r21, g22, h⟩ := zb1_s h
        have hFc := va_free (wc := (zwP cI Po Pp Ps Pa)) hD hS hA [0, 1] (zC_1 (cI := cI) (cB := cB) (cO := cO))
        refine zcp_i (va_runV (As := []) (rest := []) ⟨hx, hb, hml, hown, hts⟩ (c_X2_placesTold l D cI cB cO Po Pp Ps Pa _ _ g22) (cwV 0 hts gX2_fits_X2_placesTold rfl rfl rfl kV_X2_placesTold ⟨Nat.le_trans (Nat.le_of_ble_eq_true rfl) hRf, Nat.le_trans (Nat.le_of_ble_eq_true rfl) hRl⟩) (zpreV hK hP hD hS hE hFc [0, 1] (zC_1 (cI := cI) (cB := cB) (cO := cO)) rfl 0 (ci := 2) rfl rfl []) rfl rfl hl.1 rfl (lv_room (Nat.le_of_ble_eq_true rfl)) dX2_fits_32 ⟨Nat.zero_le _, Nat.zero_le _⟩) hP hD hS hFc [0, 1] (zC_1 (cI := cI) (cB := cB) (cO := cO)) (fun H locs hP hS => ?_)
        clear hFc
        refine lv_bipush (v := (12 : Int32)) hx hb dX2_fits_35 (by decide) ?_
        refine lv_icmp_gt (tgt := 44) hx hb dX2_fits_37 (by decide) (fun c23 => ?_) (fun c23 => ?_)
        · have h := zif_t c23 h
          refine lv_iconst (v := (0 : Int32)) hx hb dX2_fits_44 (by decide) ?_
          cases zend h
          exact hq hP hD hS (by decide) dX2_fits_45
        · have h := zif_f c23 h
          refine lv_iconst (v := (1 : Int32)) hx hb dX2_fits_40 (by decide) ?_
          refine lv_goto (tgt := 45) hx hb dX2_fits_41 (by decide) ?_
          cases zend h
          exact hq hP hD hS (by decide) dX2_fits_45
  · have h := zif_t c1 h
    refine lv_aload_n hx hb dX2_fits_4 rfl (lv_at hl 0 rfl) ?_
    refine lv_iconst (v := (0 : Int32)) hx hb dX2_fits_5 (by decide) ?_
    obtain ⟨r24, g25, h⟩ := zb1_s h
    have hFc := va_free (wc := (zwP cI Po Pp Ps Pa)) hD hS hA [0, 1] (zC_1 (cI := cI) (cB := cB) (cO := cO))
    refine zcp_i (va_runV (As := [.int (0 : Int32)]) (rest := []) ⟨hx, hb, hml, hown, hts⟩ (c_X2_digitAt l D cI cB cO Po Pp Ps Pa (0 : Int32) _ _ g25) (cwV 1 hts gX2_fits_X2_digitAt rfl rfl rfl kV_X2_digitAt ⟨Nat.le_trans (Nat.le_of_ble_eq_true rfl) hRf, Nat.le_trans (Nat.le_of_ble_eq_true rfl) hRl⟩) (zpreV hK hP hD hS hE hFc [0, 1] (zC_1 (cI := cI) (cB := cB) (cO := cO)) rfl 0 (ci := 2) rfl rfl [.int (0 : Int32)]) rfl rfl hl.1 rfl (lv_room (Nat.le_of_ble_eq_true rfl)) dX2_fits_6 ⟨Nat.zero_le _, Nat.zero_le _⟩) hP hD hS hFc [0, 1] (zC_1 (cI := cI) (cB := cB) (cO := cO)) (fun H locs hP hS => ?_)
    clear hFc
    refine lv_if_le (tgt := 16) hx hb dX2_fits_9 (by decide) (fun c26 => ?_) (fun c26 => ?_)
    · have h := zif_t c26 h
      refine lv_iconst (v := (0 : Int32)) hx hb dX2_fits_16 (by decide) ?_
      cases zend h
      exact hq hP hD hS (by decide) dX2_fits_17
    · have h := zif_f c26 h
      refine lv_iconst (v := (1 : Int32)) hx hb dX2_fits_12 (by decide) ?_
      refine lv_goto (tgt := 17) hx hb dX2_fits_13 (by decide) ?_
      cases zend h
      exact hq hP hD hS (by decide) dX2_fits_17
set_option maxHeartbeats 4000000 in
set_option maxRecDepth 100000 in
theorem c_X2_firstFault (l : Launch) (D : va_G) (cI cB cO : ClassId) (Po : Nat) (Pp : Nat → Nat) (Ps : Nat → Int32) (Pa : Nat → Nat → Int32)  (rv : Int32) (sz : Nat) (h : fX2_firstFault Ps Pa = some rv) : Met l yX2_firstFault wsX2_firstFault ({ frames := 4, cells := 0, slots := 0, locals := 89 } : Room) (va_Pc [.ref Po] (zPre D (zTY cI cB cO) (zwP cI Po Pp Ps Pa) sz)) (va_Qi (fun r (_ : Unit) => r = rv) (fun _ => zPost D (zTY cI cB cO) (zwP cI Po Pp Ps Pa) (va_A (zwP cI Po Pp Ps Pa) sz)) (va_A (zwP cI Po Pp Ps Pa) sz)) 0 0 (va_A (zwP cI Po Pp Ps Pa) sz) := by
  unfold fX2_firstFault at h
  refine zmet_i (cc := cX2_firstFault) (maxL := 2) (by decide) rfl (Nat.le_of_ble_eq_true rfl) rfl rfl ?_
  intro p e s m args below meth c R Q A ls hx hb hts hown hml hK hP hD hE hA hS hRf hRl hl hq
  have hown : s.vm.findClass RX2 = some m.cls := hown
  have hl : lv_has ls 2 [(0, .ref Po)] := hl
  have inX2 : ∀ w ∈ u_ws RX2 TX2 2, w ∈ wsX2_firstFault := by decide +kernel
  have lk15 : (Cond.fieldLink RX2 15 "PegField$Page" "size" "I").before args s = true := hts _ (by decide +kernel)
  refine lv_iconst (v := (0 : Int32)) hx hb dX2_firstFault_0 (by decide) ?_
  refine lv_istore_n (lv' := [(1, .int (0 : Int32)), (0, .ref Po)]) hx hb dX2_firstFault_1 rfl hl (by decide) rfl (fun ls hl => ?_)
  obtain ⟨y1, i6, h1y1, h2y1⟩ := zbs_s h
  clear h
  have KX18 : ∀ (x1_18x2 : Int32), y1 = (.inl x1_18x2) → ∀ (H : Heap) (locs : List Loc) (ls : Array Slot), va_P D vwCl (zwP cI Po Pp Ps Pa) H → va_D A (zwP cI Po Pp Ps Pa) → va_S A s.heap H locs → lv_has ls 2 [(1, .int x1_18x2)] → W p l e R s m args below meth c H locs 0 0 Q (F0 m 18 ls []) := by
    intro x1_18x2 ey1 H locs ls hP hD hS hl
    have h := h1y1 _ ey1
    refine lv_iload_n hx hb dX2_firstFault_18 rfl (lv_at hl 0 rfl) ?_
    cases zend h
    exact hq hP hD hS dX2_firstFault_19
  have KX26 : ∀ (u : Unit), y1 = (.inr u) → ∀ (H : Heap) (locs : List Loc) (ls : Array Slot), va_P D vwCl (zwP cI Po Pp Ps Pa) H → va_D A (zwP cI Po Pp Ps Pa) → va_S A s.heap H locs → lv_has ls 2 [(0, .ref Po)] → W p l e R s m args below meth c H locs 0 0 Q (F0 m 26 ls []) := by
    intro u ey1 H locs ls hP hD hS hl
    have h := h2y1 _ ey1
    refine lv_aload_n hx hb dX2_firstFault_26 rfl (lv_at hl 0 rfl) ?_
    refine va_get (D := D) (ci := 2) (v := .int (Ps 1)) (C := RX2) (T := TX2) (N := 2) hx hb hts inX2 hown hK hP 0 rfl rfl 1 (by decide) lk15 (fun _ h9 => h9) rfl dX2_firstFault_27 ?_
    cases zend h
    exact hq hP hD hS dX2_firstFault_30
  refine zi1_ind (P := (fun (x1_2h : Int32) => ∀ (H : Heap) (locs : List Loc) (ls : Array Slot), va_P D vwCl (zwP cI Po Pp Ps Pa) H → va_D A (zwP cI Po Pp Ps Pa) → va_S A s.heap H locs → lv_has ls 2 [(0, .ref Po), (1, .int x1_2h)] → W p l e R s m args below meth c H locs 0 0 Q (F0 m 2 ls []))) ?_ i6 _ _ _ hP hD hS (lv_sub hl [1, 0] rfl)
  clear i6 hP hD hS hl
  intro x1_2h z2 h zl2 zr2 H locs ls hP hD hS hl
  refine lv_iload_n hx hb dX2_firstFault_2 rfl (lv_at hl 1 rfl) ?_
  refine lv_aload_n hx hb dX2_firstFault_3 rfl (lv_at hl 0 rfl) ?_
  refine va_get (D := D) (ci := 2) (v := .int (Ps 1)) (C := RX2) (T := TX2) (N := 2) hx hb hts inX2 hown hK hP 0 rfl rfl 1 (by decide) lk15 (fun _ h9 => h9) rfl dX2_firstFault_4 ?_
  refine lv_icmp_ge (tgt := 26) hx hb dX2_firstFault_7 (by decide) (fun c2 => ?_) (fun c2 => ?_)
  · have h := zif_t c2 h
    exact KX26 _ (zr2 _ (zend h).symm).symm _ _ _ hP hD hS (lv_sub hl [0] rfl)
  · have h := zif_f c2 h
    refine lv_aload_n hx hb dX2_firstFault_10 rfl (lv_at hl 0 rfl) ?_
    refine lv_iload_n hx hb dX2_firstFault_11 rfl (lv_at hl 1 rfl) ?_
    obtain ⟨r3, g4, h⟩ := zb1_s h
    have hFc := va_free (wc := (zwP cI Po Pp Ps Pa)) hD hS hA [0, 1] (zC_1 (cI := cI) (cB := cB) (cO := cO))
    refine zcp_i (va_runV (As := [.int x1_2h]) (rest := []) ⟨hx, hb, hml, hown, hts⟩ (c_X2_fits l D cI cB cO Po Pp Ps Pa x1_2h _ _ g4) (cwV 1 hts gX2_firstFault_X2_fits rfl rfl rfl kV_X2_fits ⟨Nat.le_trans (Nat.le_of_ble_eq_true rfl) hRf, Nat.le_trans (Nat.le_of_ble_eq_true rfl) hRl⟩) (zpreV hK hP hD hS hE hFc [0, 1] (zC_1 (cI := cI) (cB := cB) (cO := cO)) rfl 0 (ci := 2) rfl rfl [.int x1_2h]) rfl rfl hl.1 rfl (lv_room (Nat.le_of_ble_eq_true rfl)) dX2_firstFault_12 ⟨Nat.zero_le _, Nat.zero_le _⟩) hP hD hS hFc [0, 1] (zC_1 (cI := cI) (cB := cB) (cO := cO)) (fun H locs hP hS => ?_)
    clear hFc
    refine lv_if_ne (tgt := 20) hx hb dX2_firstFault_15 (by decide) (fun c5 => ?_) (fun c5 => ?_)
    · have h := zif_f c5 h
      refine lv_iinc (v := (x1_2h + (1 : Int32))) (lv' := [(1, .int (x1_2h + (1 : Int32))), (0, .ref Po)]) hx hb dX2_firstFault_20 hl (k := 1) rfl rfl (by decide) rfl (fun ls hl => ?_)
      refine lv_goto (tgt := 2) hx hb dX2_firstFault_23 (by decide) ?_
      exact zl2 _ (zend h).symm _ _ _ hP hD hS (lv_sub hl [1, 0] rfl)
    · have h := zif_t c5 h
      exact KX18 _ (zr2 _ (zend h).symm).symm _ _ _ hP hD hS (lv_sub hl [1] rfl)
set_option maxHeartbeats 4000000 in
set_option maxRecDepth 100000 in
theorem c_X2_isBoard (l : Launch) (D : va_G) (cI cB cO : ClassId) (Po : Nat) (Pp : Nat → Nat) (Ps : Nat → Int32) (Pa : Nat → Nat → Int32)  (rv : Int32) (sz : Nat) (h : fX2_isBoard Ps Pa = some rv) : Met l yX2_isBoard wsX2_isBoard ({ frames := 5, cells := 0, slots := 0, locals := 110 } : Room) (va_Pc [.ref Po] (zPre D (zTY cI cB cO) (zwP cI Po Pp Ps Pa) sz)) (va_Qi (fun r (_ : Unit) => r = rv) (fun _ => zPost D (zTY cI cB cO) (zwP cI Po Pp Ps Pa) (va_A (zwP cI Po Pp Ps Pa) sz)) (va_A (zwP cI Po Pp Ps Pa) sz)) 0 0 (va_A (zwP cI Po Pp Ps Pa) sz) := by
  unfold fX2_isBoard at h
  refine zmet_z (cc := cX2_isBoard) (maxL := 1) (by decide) rfl (Nat.le_of_ble_eq_true rfl) rfl rfl ?_
  intro p e s m args below meth c R Q A ls hx hb hts hown hml hK hP hD hE hA hS hRf hRl hl hq
  have hown : s.vm.findClass RX2 = some m.cls := hown
  have hl : lv_has ls 1 [(0, .ref Po)] := hl
  have inX2 : ∀ w ∈ u_ws RX2 TX2 2, w ∈ wsX2_isBoard := by decide +kernel
  have lk15 : (Cond.fieldLink RX2 15 "PegField$Page" "size" "I").before args s = true := hts _ (by decide +kernel)
  refine lv_aload_n hx hb dX2_isBoard_0 rfl (lv_at hl 0 rfl) ?_
  refine va_get (D := D) (ci := 2) (v := .int (Ps 1)) (C := RX2) (T := TX2) (N := 2) hx hb hts inX2 hown hK hP 0 rfl rfl 1 (by decide) lk15 (fun _ h9 => h9) rfl dX2_isBoard_1 ?_
  refine lv_iconst (v := (3 : Int32)) hx hb dX2_isBoard_4 (by decide) ?_
  refine lv_aload_n hx hb dX2_isBoard_5 rfl (lv_at hl 0 rfl) ?_
  obtain ⟨r1, g2, h⟩ := zb1_s h
  have hFc := va_free (wc := (zwP cI Po Pp Ps Pa)) hD hS hA [0, 1] (zC_1 (cI := cI) (cB := cB) (cO := cO))
  refine zcp_i (va_runV (As := []) (rest := [.int (3 : Int32), .int (Ps 1)]) ⟨hx, hb, hml, hown, hts⟩ (c_X2_placesTold l D cI cB cO Po Pp Ps Pa _ _ g2) (cwV 0 hts gX2_isBoard_X2_placesTold rfl rfl rfl kV_X2_placesTold ⟨Nat.le_trans (Nat.le_of_ble_eq_true rfl) hRf, Nat.le_trans (Nat.le_of_ble_eq_true rfl) hRl⟩) (zpreV hK hP hD hS hE hFc [0, 1] (zC_1 (cI := cI) (cB := cB) (cO := cO)) rfl 0 (ci := 2) rfl rfl []) rfl rfl hl.1 rfl (lv_room (Nat.le_of_ble_eq_true rfl)) dX2_isBoard_6 ⟨Nat.zero_le _, Nat.zero_le _⟩) hP hD hS hFc [0, 1] (zC_1 (cI := cI) (cB := cB) (cO := cO)) (fun H locs hP hS => ?_)
  clear hFc
  refine lv_iadd hx hb dX2_isBoard_9 ?_
  refine lv_icmp_ne (tgt := 39) hx hb dX2_isBoard_10 (by decide) (fun c3 => ?_) (fun c3 => ?_)
  · have h := zif_f c3 h
    refine lv_iconst (v := (0 : Int32)) hx hb dX2_isBoard_39 (by decide) ?_
    cases zend h
    exact hq hP hD hS (by decide) dX2_isBoard_40
  · have h := zif_t c3 h
    refine lv_aload_n hx hb dX2_isBoard_13 rfl (lv_at hl 0 rfl) ?_
    obtain ⟨r4, g5, h⟩ := zb1_s h
    have hFc := va_free (wc := (zwP cI Po Pp Ps Pa)) hD hS hA [0, 1] (zC_1 (cI := cI) (cB := cB) (cO := cO))
    refine zcp_i (va_runV (As := []) (rest := []) ⟨hx, hb, hml, hown, hts⟩ (c_X2_firstFault l D cI cB cO Po Pp Ps Pa _ _ g5) (cwV 0 hts gX2_isBoard_X2_firstFault rfl rfl rfl kV_X2_firstFault ⟨Nat.le_trans (Nat.le_of_ble_eq_true rfl) hRf, Nat.le_trans (Nat.le_of_ble_eq_true rfl) hRl⟩) (zpreV hK hP hD hS hE hFc [0, 1] (zC_1 (cI := cI) (cB := cB) (cO := cO)) rfl 0 (ci := 2) rfl rfl []) rfl rfl hl.1 rfl (lv_room (Nat.le_of_ble_eq_true rfl)) dX2_isBoard_14 ⟨Nat.zero_le _, Nat.zero_le _⟩) hP hD hS hFc [0, 1] (zC_1 (cI := cI) (cB := cB) (cO := cO)) (fun H locs hP hS => ?_)
    clear hFc
    refine lv_aload_n hx hb dX2_isBoard_17 rfl (lv_at hl 0 rfl) ?_
    refine va_get (D := D) (ci := 2) (v := .int (Ps 1)) (C := RX2) (T := TX2) (N := 2) hx hb hts inX2 hown hK hP 0 rfl rfl 1 (by decide) lk15 (fun _ h9 => h9) rfl dX2_isBoard_18 ?_
    refine lv_icmp_ne (tgt := 39) hx hb dX2_isBoard_21 (by decide) (fun c6 => ?_) (fun c6 => ?_)
    · have h := zif_f c6 h
      refine lv_iconst (v := (0 : Int32)) hx hb dX2_isBoard_39 (by decide) ?_
      cases zend h
      exact hq hP hD hS (by decide) dX2_isBoard_40
    · have h := zif_t c6 h
      refine lv_aload_n hx hb dX2_isBoard_24 rfl (lv_at hl 0 rfl) ?_
      refine lv_aload_n hx hb dX2_isBoard_25 rfl (lv_at hl 0 rfl) ?_
      refine va_get (D := D) (ci := 2) (v := .int (Ps 1)) (C := RX2) (T := TX2) (N := 2) hx hb hts inX2 hown hK hP 0 rfl rfl 1 (by decide) lk15 (fun _ h9 => h9) rfl dX2_isBoard_26 ?_
      obtain ⟨r7, g8, h⟩ := zb1_s h
      have hFc := va_free (wc := (zwP cI Po Pp Ps Pa)) hD hS hA [0, 1] (zC_1 (cI := cI) (cB := cB) (cO := cO))
      refine zcp_i (va_runV (As := [.int (Ps 1)]) (rest := []) ⟨hx, hb, hml, hown, hts⟩ (c_X2_pegsBefore l D cI cB cO Po Pp Ps Pa (Ps 1) _ _ g8) (cwV 1 hts gX2_isBoard_X2_pegsBefore rfl rfl rfl kV_X2_pegsBefore ⟨Nat.le_trans (Nat.le_of_ble_eq_true rfl) hRf, Nat.le_trans (Nat.le_of_ble_eq_true rfl) hRl⟩) (zpreV hK hP hD hS hE hFc [0, 1] (zC_1 (cI := cI) (cB := cB) (cO := cO)) rfl 0 (ci := 2) rfl rfl [.int (Ps 1)]) rfl rfl hl.1 rfl (lv_room (Nat.le_of_ble_eq_true rfl)) dX2_isBoard_29 ⟨Nat.zero_le _, Nat.zero_le _⟩) hP hD hS hFc [0, 1] (zC_1 (cI := cI) (cB := cB) (cO := cO)) (fun H locs hP hS => ?_)
      clear hFc
      refine lv_if_le (tgt := 39) hx hb dX2_isBoard_32 (by decide) (fun c9 => ?_) (fun c9 => ?_)
      · have h := zif_t c9 h
        refine lv_iconst (v := (0 : Int32)) hx hb dX2_isBoard_39 (by decide) ?_
        cases zend h
        exact hq hP hD hS (by decide) dX2_isBoard_40
      · have h := zif_f c9 h
        refine lv_iconst (v := (1 : Int32)) hx hb dX2_isBoard_35 (by decide) ?_
        refine lv_goto (tgt := 40) hx hb dX2_isBoard_36 (by decide) ?_
        cases zend h
        exact hq hP hD hS (by decide) dX2_isBoard_40
