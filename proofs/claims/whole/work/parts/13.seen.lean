set_option maxHeartbeats 4000000 in
set_option maxRecDepth 100000 in
theorem c_X3_append (l : Launch) (D : va_G) (cI cB cO : ClassId) (Qo : Nat) (Qp : Nat → Nat) (Qs : Nat → Int32) (Qa : Nat → Nat → Int32) (a0 : Int32) (a1 : Int32) (rv : Int32) (Qs' : Nat → Int32) (Qa' : Nat → Nat → Int32) (sz : Nat) (h : fX3_append Qs Qa a0 a1 = some (rv, Qs', Qa')) : Met l yX3_append wsX3_append ({ frames := 0, cells := 0, slots := 0, locals := 0 } : Room) (va_Pc [.ref Qo, .int a0, .int a1] (zPre D (zTY cI cB cO) (zwQ cI Qo Qp Qs Qa) sz)) (va_Qi (fun r (_ : Unit) => r = rv) (fun _ => zPost D (zTY cI cB cO) (zwQ cI Qo Qp Qs' Qa') (va_A (zwQ cI Qo Qp Qs Qa) sz)) (va_A (zwQ cI Qo Qp Qs Qa) sz)) 0 0 (va_A (zwQ cI Qo Qp Qs Qa) sz) := by
  unfold fX3_append at h
  refine zmet_z (cc := cX3_append) (maxL := 3) (by decide) rfl (Nat.le_of_ble_eq_true rfl) rfl rfl ?_
  intro p e s m args below meth c R Q A ls hx hb hts hown hml hK hP hD hE hA hS hRf hRl hl hq
  have hown : s.vm.findClass RX3 = some m.cls := hown
  have hl : lv_has ls 3 [(0, .ref Qo), (1, .int a0), (2, .int a1)] := hl
  have inX3 : ∀ w ∈ u_ws RX3 TX3 3, w ∈ wsX3_append := by decide +kernel
  have lk18 : (Cond.fieldLink RX3 18 "PegField$Seen" "size" "I").before args s = true := hts _ (by decide +kernel)
  have lk9 : (Cond.fieldLink RX3 9 "PegField$Seen" "pegs" "[I").before args s = true := hts _ (by decide +kernel)
  have lk15 : (Cond.fieldLink RX3 15 "PegField$Seen" "sorts" "[I").before args s = true := hts _ (by decide +kernel)
  refine lv_aload_n hx hb dX3_append_0 rfl (lv_at hl 0 rfl) ?_
  refine va_get (D := D) (ci := 3) (v := .int (Qs 2)) (C := RX3) (T := TX3) (N := 3) hx hb hts inX3 hown hK hP 0 rfl rfl 2 (by decide) lk18 (fun _ h9 => h9) rfl dX3_append_1 ?_
  refine lv_if_lt (tgt := 16) hx hb dX3_append_4 (by decide) (fun c1 => ?_) (fun c1 => ?_)
  · have h := zif_t c1 h
    refine lv_iconst (v := (0 : Int32)) hx hb dX3_append_16 (by decide) ?_
    cases zend h
    exact hq hP hD hS (by decide) dX3_append_17
  · have h := zif_f c1 h
    refine lv_aload_n hx hb dX3_append_7 rfl (lv_at hl 0 rfl) ?_
    refine va_get (D := D) (ci := 3) (v := .int (Qs 2)) (C := RX3) (T := TX3) (N := 3) hx hb hts inX3 hown hK hP 0 rfl rfl 2 (by decide) lk18 (fun _ h9 => h9) rfl dX3_append_8 ?_
    refine lv_bipush (v := (6 : Int32)) hx hb dX3_append_11 (by decide) ?_
    refine lv_icmp_lt (tgt := 18) hx hb dX3_append_13 (by decide) (fun c2 => ?_) (fun c2 => ?_)
    · have h := zif_t c2 h
      refine lv_aload_n hx hb dX3_append_18 rfl (lv_at hl 0 rfl) ?_
      refine va_get (D := D) (ci := 3) (v := .ref (Qp 0)) (C := RX3) (T := TX3) (N := 3) hx hb hts inX3 hown hK hP 0 rfl rfl 0 (by decide) lk9 (fun _ h9 => h9) rfl dX3_append_19 ?_
      refine lv_aload_n hx hb dX3_append_22 rfl (lv_at hl 0 rfl) ?_
      refine va_get (D := D) (ci := 3) (v := .int (Qs 2)) (C := RX3) (T := TX3) (N := 3) hx hb hts inX3 hown hK hP 0 rfl rfl 2 (by decide) lk18 (fun _ h9 => h9) rfl dX3_append_23 ?_
      refine lv_iload_n hx hb dX3_append_26 rfl (lv_at hl 1 rfl) ?_
      obtain ⟨z3, h⟩ := zck_s h
      refine va_iast hx hb hK hP hD hS 1 0 rfl rfl (zin_s z3) dX3_append_27 (fun H locs hP hD hS => ?_)
      have hset : ∀ v9 : Nat → Int32, (zwQ cI Qo Qp Qs Qa).set 1 ((Qp 0), .inl (cI, 6, .inl v9)) = (zwQ cI Qo Qp Qs (va_up Qa 0 v9)) := fun _ => rfl
      obtain ⟨Qa_4, eQa_4, hP, hD⟩ : ∃ y9, y9 = (va_up Qa 0 (upd (Qa 0) ((Qs 2)).toNatClampNeg a0)) ∧ va_P D vwCl (zwQ cI Qo Qp Qs y9) H ∧ va_D A (zwQ cI Qo Qp Qs y9) := ⟨_, rfl, zsetP (hset _) hP, zsetD (hset _) hD⟩
      have h := zlt_s h eQa_4
      clear hset
      refine lv_aload_n hx hb dX3_append_28 rfl (lv_at hl 0 rfl) ?_
      refine va_get (D := D) (ci := 3) (v := .ref (Qp 1)) (C := RX3) (T := TX3) (N := 3) hx hb hts inX3 hown hK hP 0 rfl rfl 1 (by decide) lk15 (fun _ h9 => h9) rfl dX3_append_29 ?_
      refine lv_aload_n hx hb dX3_append_32 rfl (lv_at hl 0 rfl) ?_
      refine va_get (D := D) (ci := 3) (v := .int (Qs 2)) (C := RX3) (T := TX3) (N := 3) hx hb hts inX3 hown hK hP 0 rfl rfl 2 (by decide) lk18 (fun _ h9 => h9) rfl dX3_append_33 ?_
      refine lv_iload_n hx hb dX3_append_36 rfl (lv_at hl 2 rfl) ?_
      obtain ⟨z5, h⟩ := zck_s h
      refine va_iast hx hb hK hP hD hS 2 0 rfl rfl (zin_s z5) dX3_append_37 (fun H locs hP hD hS => ?_)
      have hset : ∀ v9 : Nat → Int32, (zwQ cI Qo Qp Qs Qa_4).set 2 ((Qp 1), .inl (cI, 6, .inl v9)) = (zwQ cI Qo Qp Qs (va_up Qa_4 1 v9)) := fun _ => rfl
      obtain ⟨Qa_6, eQa_6, hP, hD⟩ : ∃ y9, y9 = (va_up Qa_4 1 (upd (Qa_4 1) ((Qs 2)).toNatClampNeg a1)) ∧ va_P D vwCl (zwQ cI Qo Qp Qs y9) H ∧ va_D A (zwQ cI Qo Qp Qs y9) := ⟨_, rfl, zsetP (hset _) hP, zsetD (hset _) hD⟩
      have h := zlt_s h eQa_6
      clear hset
      refine lv_aload_n hx hb dX3_append_38 rfl (lv_at hl 0 rfl) ?_
      refine lv_dup hx hb dX3_append_39 rfl ?_
      refine va_get (D := D) (ci := 3) (v := .int (Qs 2)) (C := RX3) (T := TX3) (N := 3) hx hb hts inX3 hown hK hP 0 rfl rfl 2 (by decide) lk18 (fun _ h9 => h9) rfl dX3_append_40 ?_
      refine lv_iconst (v := (1 : Int32)) hx hb dX3_append_43 (by decide) ?_
      refine lv_iadd hx hb dX3_append_44 ?_
      refine va_put (D := D) (ci := 3) (v := .int ((Qs 2) + (1 : Int32))) (ty := .int) (C := RX3) (T := TX3) (N := 3) hx hb hts inX3 tyX3 tyX3_ok nmX3 hown hK hP hD hS 0 rfl rfl 2 (by decide) lk18 (fun _ h9 => h9) rfl (by decide +kernel) rfl rfl (Nat.le_of_ble_eq_true rfl) dX3_append_45 (fun H locs hP hD hS => ?_)
      have hset : ∀ v9 : Int32, (zwQ cI Qo Qp Qs Qa_6).set 0 (Qo, .inr (3, ([.ref (Qp 0), .ref (Qp 1), .int (Qs 2)] : List Value).set 2 (.int v9))) = (zwQ cI Qo Qp (upd Qs 2 v9) Qa_6) := fun _ => rfl
      obtain ⟨Qs_7, eQs_7, hP, hD⟩ : ∃ y9, y9 = (upd Qs 2 ((Qs 2) + (1 : Int32))) ∧ va_P D vwCl (zwQ cI Qo Qp y9 Qa_6) H ∧ va_D A (zwQ cI Qo Qp y9 Qa_6) := ⟨_, rfl, zsetP (hset _) hP, zsetD (hset _) hD⟩
      have h := zlt_s h eQs_7
      clear hset
      refine lv_iconst (v := (1 : Int32)) hx hb dX3_append_48 (by decide) ?_
      cases zend h
      exact hq hP hD hS (by decide) dX3_append_49
    · have h := zif_f c2 h
      refine lv_iconst (v := (0 : Int32)) hx hb dX3_append_16 (by decide) ?_
      cases zend h
      exact hq hP hD hS (by decide) dX3_append_17
set_option maxHeartbeats 4000000 in
set_option maxRecDepth 100000 in
theorem c_X3_sortsOf (l : Launch) (D : va_G) (cI cB cO : ClassId) (Qo : Nat) (Qp : Nat → Nat) (Qs : Nat → Int32) (Qa : Nat → Nat → Int32) (a0 : Int32) (rv : Int32) (sz : Nat) (h : fX3_sortsOf Qs Qa a0 = some rv) : Met l yX3_sortsOf wsX3_sortsOf ({ frames := 0, cells := 0, slots := 0, locals := 0 } : Room) (va_Pc [.ref Qo, .int a0] (zPre D (zTY cI cB cO) (zwQ cI Qo Qp Qs Qa) sz)) (va_Qi (fun r (_ : Unit) => r = rv) (fun _ => zPost D (zTY cI cB cO) (zwQ cI Qo Qp Qs Qa) (va_A (zwQ cI Qo Qp Qs Qa) sz)) (va_A (zwQ cI Qo Qp Qs Qa) sz)) 0 0 (va_A (zwQ cI Qo Qp Qs Qa) sz) := by
  unfold fX3_sortsOf at h
  refine zmet_i (cc := cX3_sortsOf) (maxL := 4) (by decide) rfl (Nat.le_of_ble_eq_true rfl) rfl rfl ?_
  intro p e s m args below meth c R Q A ls hx hb hts hown hml hK hP hD hE hA hS hRf hRl hl hq
  have hown : s.vm.findClass RX3 = some m.cls := hown
  have hl : lv_has ls 4 [(0, .ref Qo), (1, .int a0)] := hl
  have inX3 : ∀ w ∈ u_ws RX3 TX3 3, w ∈ wsX3_sortsOf := by decide +kernel
  have lk18 : (Cond.fieldLink RX3 18 "PegField$Seen" "size" "I").before args s = true := hts _ (by decide +kernel)
  have lk9 : (Cond.fieldLink RX3 9 "PegField$Seen" "pegs" "[I").before args s = true := hts _ (by decide +kernel)
  have lk15 : (Cond.fieldLink RX3 15 "PegField$Seen" "sorts" "[I").before args s = true := hts _ (by decide +kernel)
  refine lv_bipush (v := (31 : Int32)) hx hb dX3_sortsOf_0 (by decide) ?_
  refine lv_istore_n (lv' := [(2, .int (31 : Int32)), (0, .ref Qo), (1, .int a0)]) hx hb dX3_sortsOf_2 rfl hl (by decide) rfl (fun ls hl => ?_)
  refine lv_iconst (v := (0 : Int32)) hx hb dX3_sortsOf_3 (by decide) ?_
  refine lv_istore_n (lv' := [(3, .int (0 : Int32)), (2, .int (31 : Int32)), (0, .ref Qo), (1, .int a0)]) hx hb dX3_sortsOf_4 rfl hl (by decide) rfl (fun ls hl => ?_)
  obtain ⟨x2_44x5, i9, h⟩ := zb1_s h
  have KX44 : ∀ (H : Heap) (locs : List Loc) (ls : Array Slot), va_P D vwCl (zwQ cI Qo Qp Qs Qa) H → va_D A (zwQ cI Qo Qp Qs Qa) → va_S A s.heap H locs → lv_has ls 4 [(2, .int x2_44x5)] → W p l e R s m args below meth c H locs 0 0 Q (F0 m 44 ls []) := by
    intro H locs ls hP hD hS hl
    refine lv_iload_n hx hb dX3_sortsOf_44 rfl (lv_at hl 0 rfl) ?_
    cases zend h
    exact hq hP hD hS dX3_sortsOf_45
  clear h
  refine zi2_ind (P := (fun (x2_5h : Int32) (x3_5h : Int32) => ∀ (H : Heap) (locs : List Loc) (ls : Array Slot), va_P D vwCl (zwQ cI Qo Qp Qs Qa) H → va_D A (zwQ cI Qo Qp Qs Qa) → va_S A s.heap H locs → lv_has ls 4 [(0, .ref Qo), (1, .int a0), (2, .int x2_5h), (3, .int x3_5h)] → W p l e R s m args below meth c H locs 0 0 Q (F0 m 5 ls []))) ?_ i9 _ _ _ hP hD hS (lv_sub hl [2, 3, 1, 0] rfl)
  clear i9 hP hD hS hl
  intro x2_5h x3_5h z5 h zl5 zr5 H locs ls hP hD hS hl
  refine lv_iload_n hx hb dX3_sortsOf_5 rfl (lv_at hl 3 rfl) ?_
  refine lv_aload_n hx hb dX3_sortsOf_6 rfl (lv_at hl 0 rfl) ?_
  refine va_get (D := D) (ci := 3) (v := .int (Qs 2)) (C := RX3) (T := TX3) (N := 3) hx hb hts inX3 hown hK hP 0 rfl rfl 2 (by decide) lk18 (fun _ h9 => h9) rfl dX3_sortsOf_7 ?_
  refine lv_icmp_ge (tgt := 44) hx hb dX3_sortsOf_10 (by decide) (fun c2 => ?_) (fun c2 => ?_)
  · have h := zif_t c2 h
    cases zr5 _ (zend h).symm
    exact KX44 _ _ _ hP hD hS (lv_sub hl [2] rfl)
  · have h := zif_f c2 h
    refine lv_iload_n hx hb dX3_sortsOf_13 rfl (lv_at hl 3 rfl) ?_
    refine lv_bipush (v := (6 : Int32)) hx hb dX3_sortsOf_14 (by decide) ?_
    refine lv_icmp_ge (tgt := 44) hx hb dX3_sortsOf_16 (by decide) (fun c3 => ?_) (fun c3 => ?_)
    · have h := zif_t c3 h
      cases zr5 _ (zend h).symm
      exact KX44 _ _ _ hP hD hS (lv_sub hl [2] rfl)
    · have h := zif_f c3 h
      refine lv_aload_n hx hb dX3_sortsOf_19 rfl (lv_at hl 0 rfl) ?_
      refine va_get (D := D) (ci := 3) (v := .ref (Qp 0)) (C := RX3) (T := TX3) (N := 3) hx hb hts inX3 hown hK hP 0 rfl rfl 0 (by decide) lk9 (fun _ h9 => h9) rfl dX3_sortsOf_20 ?_
      refine lv_iload_n hx hb dX3_sortsOf_23 rfl (lv_at hl 3 rfl) ?_
      obtain ⟨z4, h⟩ := zck_s h
      refine va_iald hx hb hK hP 1 0 rfl rfl (zin_s z4) dX3_sortsOf_24 ?_
      refine lv_iload_n hx hb dX3_sortsOf_25 rfl (lv_at hl 1 rfl) ?_
      obtain ⟨x2_38, j5, h⟩ := zb1_s h
      have K38 : ∀ (H : Heap) (locs : List Loc) (ls : Array Slot), va_P D vwCl (zwQ cI Qo Qp Qs Qa) H → va_D A (zwQ cI Qo Qp Qs Qa) → va_S A s.heap H locs → lv_has ls 4 [(0, .ref Qo), (1, .int a0), (2, .int x2_38), (3, .int x3_5h)] → W p l e R s m args below meth c H locs 0 0 Q (F0 m 38 ls []) := by
        intro H locs ls hP hD hS hl
        refine lv_iinc (v := (x3_5h + (1 : Int32))) (lv' := [(3, .int (x3_5h + (1 : Int32))), (0, .ref Qo), (1, .int a0), (2, .int x2_38)]) hx hb dX3_sortsOf_38 hl (k := 3) rfl rfl (by decide) rfl (fun ls hl => ?_)
        refine lv_goto (tgt := 5) hx hb dX3_sortsOf_41 (by decide) ?_
        exact zl5 _ _ (zend h).symm _ _ _ hP hD hS (lv_sub hl [1, 2, 3, 0] rfl)
      clear h
      have h := j5
      clear j5
      refine lv_icmp_ne (tgt := 38) hx hb dX3_sortsOf_26 (by decide) (fun c6 => ?_) (fun c6 => ?_)
      · have h := zif_f c6 h
        cases zend h
        exact K38 _ _ _ hP hD hS (lv_sub hl [0, 1, 2, 3] rfl)
      · have h := zif_t c6 h
        refine lv_iload_n hx hb dX3_sortsOf_29 rfl (lv_at hl 2 rfl) ?_
        refine lv_aload_n hx hb dX3_sortsOf_30 rfl (lv_at hl 0 rfl) ?_
        refine va_get (D := D) (ci := 3) (v := .ref (Qp 1)) (C := RX3) (T := TX3) (N := 3) hx hb hts inX3 hown hK hP 0 rfl rfl 1 (by decide) lk15 (fun _ h9 => h9) rfl dX3_sortsOf_31 ?_
        refine lv_iload_n hx hb dX3_sortsOf_34 rfl (lv_at hl 3 rfl) ?_
        obtain ⟨z7, h⟩ := zck_s h
        refine va_iald hx hb hK hP 2 0 rfl rfl (zin_s z7) dX3_sortsOf_35 ?_
        refine lv_iand hx hb dX3_sortsOf_36 ?_
        refine lv_topi (fun x2_8 ex2_8 => ?_)
        have h := zlt_s h ex2_8
        refine lv_istore_n (lv' := [(2, .int x2_8), (0, .ref Qo), (1, .int a0), (3, .int x3_5h)]) hx hb dX3_sortsOf_37 rfl hl (by decide) rfl (fun ls hl => ?_)
        cases zend h
        exact K38 _ _ _ hP hD hS (lv_sub hl [1, 2, 0, 3] rfl)
set_option maxHeartbeats 4000000 in
set_option maxRecDepth 100000 in
theorem c_X3_copyFrom (l : Launch) (D : va_G) (cI cB cO : ClassId) (Qo : Nat) (Qp : Nat → Nat) (Uo : Nat) (Up : Nat → Nat) (Qs : Nat → Int32) (Qa : Nat → Nat → Int32) (Us : Nat → Int32) (Ua : Nat → Nat → Int32)  (Qs' : Nat → Int32) (Qa' : Nat → Nat → Int32) (sz : Nat) (h : fX3_copyFrom Qs Qa Us Ua = some (Qs', Qa')) : Met l yX3_copyFrom wsX3_copyFrom ({ frames := 0, cells := 0, slots := 0, locals := 0 } : Room) (va_Pc [.ref Qo, .ref Uo] (zPre D (zTY cI cB cO) (zfQQ cI cO Qo Qp Uo Up Qs Qa Us Ua) sz)) (va_Qv (fun (_ : Unit) => True) (fun _ => zPost D (zTY cI cB cO) (zfQQ cI cO Qo Qp Uo Up Qs' Qa' Us Ua) (va_A (zfQQ cI cO Qo Qp Uo Up Qs Qa Us Ua) sz)) (va_A (zfQQ cI cO Qo Qp Uo Up Qs Qa Us Ua) sz)) 0 0 (va_A (zfQQ cI cO Qo Qp Uo Up Qs Qa Us Ua) sz) := by
  unfold fX3_copyFrom at h
  refine zmet_v (cc := cX3_copyFrom) (maxL := 3) (by decide) rfl (Nat.le_of_ble_eq_true rfl) rfl rfl ?_
  intro p e s m args below meth c R Q A ls hx hb hts hown hml hK hP hD hE hA hS hRf hRl hl hq
  have hown : s.vm.findClass RX3 = some m.cls := hown
  have hl : lv_has ls 3 [(0, .ref Qo), (1, .ref Uo)] := hl
  have inX3 : ∀ w ∈ u_ws RX3 TX3 3, w ∈ wsX3_copyFrom := by decide +kernel
  have lk18 : (Cond.fieldLink RX3 18 "PegField$Seen" "size" "I").before args s = true := hts _ (by decide +kernel)
  have lk9 : (Cond.fieldLink RX3 9 "PegField$Seen" "pegs" "[I").before args s = true := hts _ (by decide +kernel)
  have lk15 : (Cond.fieldLink RX3 15 "PegField$Seen" "sorts" "[I").before args s = true := hts _ (by decide +kernel)
  refine lv_aload_n hx hb dX3_copyFrom_0 rfl (lv_at hl 0 rfl) ?_
  refine lv_aload_n hx hb dX3_copyFrom_1 rfl (lv_at hl 1 rfl) ?_
  refine va_get (D := D) (ci := 3) (v := .int (Us 2)) (C := RX3) (T := TX3) (N := 3) hx hb hts inX3 hown hK hP 3 rfl rfl 2 (by decide) lk18 (fun _ h9 => h9) rfl dX3_copyFrom_2 ?_
  refine va_put (D := D) (ci := 3) (v := .int (Us 2)) (ty := .int) (C := RX3) (T := TX3) (N := 3) hx hb hts inX3 tyX3 tyX3_ok nmX3 hown hK hP hD hS 0 rfl rfl 2 (by decide) lk18 (fun _ h9 => h9) rfl (by decide +kernel) rfl rfl (Nat.le_of_ble_eq_true rfl) dX3_copyFrom_5 (fun H locs hP hD hS => ?_)
  have hset : ∀ v9 : Int32, (zfQQ cI cO Qo Qp Uo Up Qs Qa Us Ua).set 0 (Qo, .inr (3, ([.ref (Qp 0), .ref (Qp 1), .int (Qs 2)] : List Value).set 2 (.int v9))) = (zfQQ cI cO Qo Qp Uo Up (upd Qs 2 v9) Qa Us Ua) := fun _ => rfl
  obtain ⟨Qs_1, eQs_1, hP, hD⟩ : ∃ y9, y9 = (upd Qs 2 (Us 2)) ∧ va_P D vwCl (zfQQ cI cO Qo Qp Uo Up y9 Qa Us Ua) H ∧ va_D A (zfQQ cI cO Qo Qp Uo Up y9 Qa Us Ua) := ⟨_, rfl, zsetP (hset _) hP, zsetD (hset _) hD⟩
  have h := zlt_s h eQs_1
  clear hset
  refine lv_iconst (v := (0 : Int32)) hx hb dX3_copyFrom_8 (by decide) ?_
  refine lv_istore_n (lv' := [(2, .int (0 : Int32)), (0, .ref Qo), (1, .ref Uo)]) hx hb dX3_copyFrom_9 rfl hl (by decide) rfl (fun ls hl => ?_)
  obtain ⟨Qa_46x10, i10, h⟩ := zb1_s h
  have KX46 : ∀ (H : Heap) (locs : List Loc) (ls : Array Slot), va_P D vwCl (zfQQ cI cO Qo Qp Uo Up Qs_1 Qa_46x10 Us Ua) H → va_D A (zfQQ cI cO Qo Qp Uo Up Qs_1 Qa_46x10 Us Ua) → va_S A s.heap H locs → lv_has ls 3 [] → W p l e R s m args below meth c H locs 0 0 Q (F0 m 46 ls []) := by
    intro H locs ls hP hD hS hl
    cases zend h
    exact hq hP hD hS dX3_copyFrom_46
  clear h
  refine zi2_ind (P := (fun (x2_10h : Int32) (Qa_10h : Nat → Nat → Int32) => ∀ (H : Heap) (locs : List Loc) (ls : Array Slot), va_P D vwCl (zfQQ cI cO Qo Qp Uo Up Qs_1 Qa_10h Us Ua) H → va_D A (zfQQ cI cO Qo Qp Uo Up Qs_1 Qa_10h Us Ua) → va_S A s.heap H locs → lv_has ls 3 [(0, .ref Qo), (1, .ref Uo), (2, .int x2_10h)] → W p l e R s m args below meth c H locs 0 0 Q (F0 m 10 ls []))) ?_ i10 _ _ _ hP hD hS (lv_sub hl [1, 2, 0] rfl)
  clear i10 hP hD hS hl
  intro x2_10h Qa_10h z10 h zl10 zr10 H locs ls hP hD hS hl
  refine lv_iload_n hx hb dX3_copyFrom_10 rfl (lv_at hl 2 rfl) ?_
  refine lv_bipush (v := (6 : Int32)) hx hb dX3_copyFrom_11 (by decide) ?_
  refine lv_icmp_ge (tgt := 46) hx hb dX3_copyFrom_13 (by decide) (fun c3 => ?_) (fun c3 => ?_)
  · have h := zif_t c3 h
    cases zr10 _ (zend h).symm
    exact KX46 _ _ _ hP hD hS (lv_sub hl [] rfl)
  · have h := zif_f c3 h
    refine lv_aload_n hx hb dX3_copyFrom_16 rfl (lv_at hl 0 rfl) ?_
    refine va_get (D := D) (ci := 3) (v := .ref (Qp 0)) (C := RX3) (T := TX3) (N := 3) hx hb hts inX3 hown hK hP 0 rfl rfl 0 (by decide) lk9 (fun _ h9 => h9) rfl dX3_copyFrom_17 ?_
    refine lv_iload_n hx hb dX3_copyFrom_20 rfl (lv_at hl 2 rfl) ?_
    refine lv_aload_n hx hb dX3_copyFrom_21 rfl (lv_at hl 1 rfl) ?_
    refine va_get (D := D) (ci := 3) (v := .ref (Up 0)) (C := RX3) (T := TX3) (N := 3) hx hb hts inX3 hown hK hP 3 rfl rfl 0 (by decide) lk9 (fun _ h9 => h9) rfl dX3_copyFrom_22 ?_
    refine lv_iload_n hx hb dX3_copyFrom_25 rfl (lv_at hl 2 rfl) ?_
    obtain ⟨z4, h⟩ := zck_s h
    refine va_iald hx hb hK hP 4 0 rfl rfl (zin_s z4) dX3_copyFrom_26 ?_
    obtain ⟨z5, h⟩ := zck_s h
    refine va_iast hx hb hK hP hD hS 1 0 rfl rfl (zin_s z5) dX3_copyFrom_27 (fun H locs hP hD hS => ?_)
    have hset : ∀ v9 : Nat → Int32, (zfQQ cI cO Qo Qp Uo Up Qs_1 Qa_10h Us Ua).set 1 ((Qp 0), .inl (cI, 6, .inl v9)) = (zfQQ cI cO Qo Qp Uo Up Qs_1 (va_up Qa_10h 0 v9) Us Ua) := fun _ => rfl
    obtain ⟨Qa_6, eQa_6, hP, hD⟩ : ∃ y9, y9 = (va_up Qa_10h 0 (upd (Qa_10h 0) (x2_10h).toNatClampNeg ((Ua 0) (x2_10h).toNatClampNeg))) ∧ va_P D vwCl (zfQQ cI cO Qo Qp Uo Up Qs_1 y9 Us Ua) H ∧ va_D A (zfQQ cI cO Qo Qp Uo Up Qs_1 y9 Us Ua) := ⟨_, rfl, zsetP (hset _) hP, zsetD (hset _) hD⟩
    have h := zlt_s h eQa_6
    clear hset
    refine lv_aload_n hx hb dX3_copyFrom_28 rfl (lv_at hl 0 rfl) ?_
    refine va_get (D := D) (ci := 3) (v := .ref (Qp 1)) (C := RX3) (T := TX3) (N := 3) hx hb hts inX3 hown hK hP 0 rfl rfl 1 (by decide) lk15 (fun _ h9 => h9) rfl dX3_copyFrom_29 ?_
    refine lv_iload_n hx hb dX3_copyFrom_32 rfl (lv_at hl 2 rfl) ?_
    refine lv_aload_n hx hb dX3_copyFrom_33 rfl (lv_at hl 1 rfl) ?_
    refine va_get (D := D) (ci := 3) (v := .ref (Up 1)) (C := RX3) (T := TX3) (N := 3) hx hb hts inX3 hown hK hP 3 rfl rfl 1 (by decide) lk15 (fun _ h9 => h9) rfl dX3_copyFrom_34 ?_
    refine lv_iload_n hx hb dX3_copyFrom_37 rfl (lv_at hl 2 rfl) ?_
    obtain ⟨z7, h⟩ := zck_s h
    refine va_iald hx hb hK hP 5 0 rfl rfl (zin_s z7) dX3_copyFrom_38 ?_
    obtain ⟨z8, h⟩ := zck_s h
    refine va_iast hx hb hK hP hD hS 2 0 rfl rfl (zin_s z8) dX3_copyFrom_39 (fun H locs hP hD hS => ?_)
    have hset : ∀ v9 : Nat → Int32, (zfQQ cI cO Qo Qp Uo Up Qs_1 Qa_6 Us Ua).set 2 ((Qp 1), .inl (cI, 6, .inl v9)) = (zfQQ cI cO Qo Qp Uo Up Qs_1 (va_up Qa_6 1 v9) Us Ua) := fun _ => rfl
    obtain ⟨Qa_9, eQa_9, hP, hD⟩ : ∃ y9, y9 = (va_up Qa_6 1 (upd (Qa_6 1) (x2_10h).toNatClampNeg ((Ua 1) (x2_10h).toNatClampNeg))) ∧ va_P D vwCl (zfQQ cI cO Qo Qp Uo Up Qs_1 y9 Us Ua) H ∧ va_D A (zfQQ cI cO Qo Qp Uo Up Qs_1 y9 Us Ua) := ⟨_, rfl, zsetP (hset _) hP, zsetD (hset _) hD⟩
    have h := zlt_s h eQa_9
    clear hset
    refine lv_iinc (v := (x2_10h + (1 : Int32))) (lv' := [(2, .int (x2_10h + (1 : Int32))), (0, .ref Qo), (1, .ref Uo)]) hx hb dX3_copyFrom_40 hl (k := 2) rfl rfl (by decide) rfl (fun ls hl => ?_)
    refine lv_goto (tgt := 10) hx hb dX3_copyFrom_43 (by decide) ?_
    exact zl10 _ _ (zend h).symm _ _ _ hP hD hS (lv_sub hl [1, 2, 0] rfl)
