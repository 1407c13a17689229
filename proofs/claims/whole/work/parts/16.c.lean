set_option maxHeartbeats 4000000 in
set_option maxRecDepth 100000 in
theorem c_X5_look_3 (l : Launch) (D : va_G) (cI cB cO : ClassId) (So : Nat) (Sp : Nat → Nat) (Go : Nat) (Gp : Nat → Nat) (ra : Nat) (oo : Nat → Nat) (Ss : Nat → Int32) (Sa : Nat → Nat → Int32) (Gs : Nat → Int32) (Ga : Nat → Nat → Int32) (os : Nat → Nat → Int32)  (Ss' : Nat → Int32) (Sa' : Nat → Nat → Int32) (os' : Nat → Nat → Int32) (sz : Nat) (h : fX5_look_3 Ss Sa Gs Ga os = some (Ss', Sa', os')) : Met l yX5_look wsX5_look ({ frames := 8, cells := 0, slots := 0, locals := 210 } : Room) (va_Pc [.ref So, .ref ra, .int (3 : Int32)] (zPre D (zTY cI cB cO) (zfLK cI cO So Sp Go Gp ra oo Ss Sa Gs Ga os) sz)) (va_Qv (fun (_ : Unit) => True) (fun _ => zPost D (zTY cI cB cO) (zfLK cI cO So Sp Go Gp ra oo Ss' Sa' Gs Ga os') (va_A (zfLK cI cO So Sp Go Gp ra oo Ss Sa Gs Ga os) sz)) (va_A (zfLK cI cO So Sp Go Gp ra oo Ss Sa Gs Ga os) sz)) 0 0 (va_A (zfLK cI cO So Sp Go Gp ra oo Ss Sa Gs Ga os) sz) := by
  unfold fX5_look_3 at h
  refine zmet_v (cc := cX5_look) (maxL := 10) (by decide) rfl (Nat.le_of_ble_eq_true rfl) rfl rfl ?_
  intro p e s m args below meth c R Q A ls hx hb hts hown hml hK hP hD hE hA hS hRf hRl hl hq
  have hown : s.vm.findClass RX5 = some m.cls := hown
  have hl : lv_has ls 10 [(0, .ref So), (1, .ref ra), (2, .int (3 : Int32))] := hl
  have inX4 : ∀ w ∈ u_ws RX4 TX4 8, w ∈ wsX5_look := by decide +kernel
  have lk98 : (Cond.fieldLinkNest RX5 98 "PegField$State" "pegs" "I" "PegField").before args s = true := hE.2.use (by decide +kernel)
  have lk150 : (Cond.fieldLinkNest RX5 150 "PegField$State" "onBoard" "I" "PegField").before args s = true := hE.2.use (by decide +kernel)
  refine lv_iload_n hx hb dX5_look_0 rfl (lv_at hl 2 rfl) ?_
  refine lv_if_lt (tgt := 16) hx hb dX5_look_1 (by decide) (fun q => absurd q (by decide)) (fun _ => ?_)
  refine lv_iload_n hx hb dX5_look_4 rfl (lv_at hl 2 rfl) ?_
  refine lv_aload_n hx hb dX5_look_5 rfl (lv_at hl 1 rfl) ?_
  refine va_alen hx hb hK hP 6 2 rfl rfl (v := (9 : Int32)) rfl dX5_look_6 ?_
  refine lv_icmp_ge (tgt := 16) hx hb dX5_look_7 (by decide) (fun q => absurd q (by decide)) (fun _ => ?_)
  refine lv_aload_n hx hb dX5_look_10 rfl (lv_at hl 1 rfl) ?_
  refine lv_iload_n hx hb dX5_look_11 rfl (lv_at hl 2 rfl) ?_
  refine va_aldq hx hb hK hP 6 2 rfl rfl (vp_in_iff.mpr (by decide)) dX5_look_12 ?_
  refine W.eq (g2 := F0 m 13 ls [.ref (oo 3)]) rfl ?_
  refine lv_ifnonnull (tgt := 17) hx hb dX5_look_13 (by decide) ?_
  refine lv_aload_n hx hb dX5_look_17 rfl (lv_at hl 1 rfl) ?_
  refine lv_iload_n hx hb dX5_look_18 rfl (lv_at hl 2 rfl) ?_
  refine va_aldq hx hb hK hP 6 2 rfl rfl (vp_in_iff.mpr (by decide)) dX5_look_19 ?_
  refine W.eq (g2 := F0 m 20 ls [.ref (oo 3)]) rfl ?_
  refine lv_astore_n (lv' := [(3, .ref (oo 3)), (0, .ref So), (1, .ref ra), (2, .int (3 : Int32))]) hx hb dX5_look_20 rfl hl (by decide) rfl (fun ls hl => ?_)
  refine lv_aload_n hx hb dX5_look_21 rfl (lv_at hl 0 rfl) ?_
  obtain ⟨Os_1, g2, h⟩ := zb1_s h
  have hFc := va_free (wc := (zwO (oo 3) (os 3))) hD hS hA [10] (zC_33 (cI := cI) (cB := cB) (cO := cO))
  refine zcm_v (w2 := (zfLK cI cO So Sp Go Gp ra oo Ss Sa Gs Ga (va_up os 3 Os_1))) (va_runV (As := []) (rest := []) ⟨hx, hb, hml, hown, hts⟩ (c_X1_begin l D cI cB cO (oo 3) (os 3) _ _ g2) (cwV 0 hts gX5_look_X1_begin rfl rfl rfl kV_X1_begin ⟨Nat.le_trans (Nat.le_of_ble_eq_true rfl) hRf, Nat.le_trans (Nat.le_of_ble_eq_true rfl) hRl⟩) (zpreV hK hP hD hS hE hFc [10] (zC_33 (cI := cI) (cB := cB) (cO := cO)) rfl 10 (ci := 1) rfl rfl []) rfl rfl hl.1 rfl (lv_room (Nat.le_of_ble_eq_true rfl)) dX5_look_22 ⟨Nat.zero_le _, Nat.zero_le _⟩) hS hFc (fun H1 t h1 h2 h3 => zM_33 (cI := cI) (cB := cB) (cO := cO) hP hD h1 h2 h3) (fun H locs hP hD hS => ?_)
  clear hFc
  obtain ⟨os_3, eos_3, hP, hD⟩ : ∃ y9, y9 = (va_up os 3 Os_1) ∧ va_P D vwCl (zfLK cI cO So Sp Go Gp ra oo Ss Sa Gs Ga y9) H ∧ va_D A (zfLK cI cO So Sp Go Gp ra oo Ss Sa Gs Ga y9) := ⟨_, rfl, hP, hD⟩
  have h := zlt_s h eos_3
  refine lv_iload_n hx hb dX5_look_25 rfl (lv_at hl 3 rfl) ?_
  refine lv_iconst (v := (1 : Int32)) hx hb dX5_look_26 (by decide) ?_
  refine lv_iadd hx hb dX5_look_27 ?_
  refine lv_topi (fun k4 ek4 => ?_)
  obtain rfl : k4 = (4 : Int32) := ek4.trans (by decide)
  refine lv_aload_n hx hb dX5_look_28 rfl (lv_at hl 2 rfl) ?_
  refine va_alen hx hb hK hP 6 2 rfl rfl (v := (9 : Int32)) rfl dX5_look_29 ?_
  refine lv_icmp_ge (tgt := 41) hx hb dX5_look_30 (by decide) (fun q => absurd q (by decide)) (fun _ => ?_)
  refine lv_aload_n hx hb dX5_look_33 rfl (lv_at hl 2 rfl) ?_
  refine lv_iload_n hx hb dX5_look_34 rfl (lv_at hl 3 rfl) ?_
  refine lv_iconst (v := (1 : Int32)) hx hb dX5_look_35 (by decide) ?_
  refine lv_iadd hx hb dX5_look_36 ?_
  refine lv_topi (fun k5 ek5 => ?_)
  obtain rfl : k5 = (4 : Int32) := ek5.trans (by decide)
  refine va_aldq hx hb hK hP 6 2 rfl rfl (vp_in_iff.mpr (by decide)) dX5_look_37 ?_
  refine W.eq (g2 := F0 m 38 ls [.ref (oo 4)]) rfl ?_
  refine lv_goto (tgt := 42) hx hb dX5_look_38 (by decide) ?_
  refine lv_astore (lv' := [(4, .ref (oo 4)), (3, .ref (oo 3)), (0, .ref So), (1, .ref ra), (2, .int (3 : Int32))]) hx hb dX5_look_42 hl (by decide) rfl (fun ls hl => ?_)
  refine lv_iconst (v := (0 : Int32)) hx hb dX5_look_44 (by decide) ?_
  refine lv_istore (lv' := [(5, .int (0 : Int32)), (4, .ref (oo 4)), (3, .ref (oo 3)), (0, .ref So), (1, .ref ra), (2, .int (3 : Int32))]) hx hb dX5_look_45 hl (by decide) rfl (fun ls hl => ?_)
  obtain ⟨Ss_161x47, Sa_161x47, os_161x47, i38, h⟩ := zb3_s h
  have KX161 : ∀ (H : Heap) (locs : List Loc) (ls : Array Slot), va_P D vwCl (zfLK cI cO So Sp Go Gp ra oo Ss_161x47 Sa_161x47 Gs Ga os_161x47) H → va_D A (zfLK cI cO So Sp Go Gp ra oo Ss_161x47 Sa_161x47 Gs Ga os_161x47) → va_S A s.heap H locs → lv_has ls 10 [(0, .ref So), (3, .ref (oo 3))] → W p l e R s m args below meth c H locs 0 0 Q (F0 m 161 ls []) := by
    intro H locs ls hP hD hS hl
    refine lv_aload_n hx hb dX5_look_161 rfl (lv_at hl 1 rfl) ?_
    refine lv_aload_n hx hb dX5_look_162 rfl (lv_at hl 0 rfl) ?_
    refine va_getN (D := D) (ci := 4) (v := .int (Ss_161x47 3)) (C := RX4) (T := TX4) (N := 8) hx hb hts inX4 hown hK hP 0 rfl rfl 3 (by decide) lk150 (fun _ h9 => h9) rfl dX5_look_163 ?_
    refine lv_aload_n hx hb dX5_look_166 rfl (lv_at hl 0 rfl) ?_
    obtain ⟨r33, g34, h⟩ := zb1_s h
    have hFc := va_free (wc := (zfSG cI cO So Sp Go Gp Ss_161x47 Sa_161x47 Gs Ga)) hD hS hA [0, 1, 2, 3, 4, 5] (zC_20 (cI := cI) (cB := cB) (cO := cO))
    refine zcp_i (va_runV (As := []) (rest := [.int (Ss_161x47 3), .ref (oo 3)]) ⟨hx, hb, hml, hown, hts⟩ (c_X4_aloneBit l D cI cB cO So Sp Go Gp Ss_161x47 Sa_161x47 Gs Ga _ _ g34) (cwV 0 hts gX5_look_X4_aloneBit rfl rfl rfl kV_X4_aloneBit ⟨Nat.le_trans (Nat.le_of_ble_eq_true rfl) hRf, Nat.le_trans (Nat.le_of_ble_eq_true rfl) hRl⟩) (zpreV hK hP hD hS hE hFc [0, 1, 2, 3, 4, 5] (zC_20 (cI := cI) (cB := cB) (cO := cO)) rfl 0 (ci := 4) rfl rfl []) rfl rfl hl.1 rfl (lv_room (Nat.le_of_ble_eq_true rfl)) dX5_look_167 ⟨Nat.zero_le _, Nat.zero_le _⟩) hP hD hS hFc [0, 1, 2, 3, 4, 5] (zC_20 (cI := cI) (cB := cB) (cO := cO)) (fun H locs hP hS => ?_)
    clear hFc
    obtain ⟨Os_35, g36, h⟩ := zb1_s h
    have hFc := va_free (wc := (zwO (oo 3) (os_161x47 3))) hD hS hA [10] (zC_33 (cI := cI) (cB := cB) (cO := cO))
    refine zcm_v (w2 := (zfLK cI cO So Sp Go Gp ra oo Ss_161x47 Sa_161x47 Gs Ga (va_up os_161x47 3 Os_35))) (va_runV (As := [.int (Ss_161x47 3), .int r33]) (rest := []) ⟨hx, hb, hml, hown, hts⟩ (c_X1_end l D cI cB cO (oo 3) (os_161x47 3) (Ss_161x47 3) r33 _ _ g36) (cwV 2 hts gX5_look_X1_end rfl rfl rfl kV_X1_end ⟨Nat.le_trans (Nat.le_of_ble_eq_true rfl) hRf, Nat.le_trans (Nat.le_of_ble_eq_true rfl) hRl⟩) (zpreV hK hP hD hS hE hFc [10] (zC_33 (cI := cI) (cB := cB) (cO := cO)) rfl 10 (ci := 1) rfl rfl [.int (Ss_161x47 3), .int r33]) rfl rfl hl.1 rfl (lv_room (Nat.le_of_ble_eq_true rfl)) dX5_look_170 ⟨Nat.zero_le _, Nat.zero_le _⟩) hS hFc (fun H1 t h1 h2 h3 => zM_33 (cI := cI) (cB := cB) (cO := cO) hP hD h1 h2 h3) (fun H locs hP hD hS => ?_)
    clear hFc
    obtain ⟨os_37, eos_37, hP, hD⟩ : ∃ y9, y9 = (va_up os_161x47 3 Os_35) ∧ va_P D vwCl (zfLK cI cO So Sp Go Gp ra oo Ss_161x47 Sa_161x47 Gs Ga y9) H ∧ va_D A (zfLK cI cO So Sp Go Gp ra oo Ss_161x47 Sa_161x47 Gs Ga y9) := ⟨_, rfl, hP, hD⟩
    have h := zlt_s h eos_37
    cases zend h
    exact hq hP hD hS dX5_look_173
  clear h
  refine zi4_ind (P := (fun (x5_47h : Int32) (Ss_47h : Nat → Int32) (Sa_47h : Nat → Nat → Int32) (os_47h : Nat → Nat → Int32) => ∀ (H : Heap) (locs : List Loc) (ls : Array Slot), va_P D vwCl (zfLK cI cO So Sp Go Gp ra oo Ss_47h Sa_47h Gs Ga os_47h) H → va_D A (zfLK cI cO So Sp Go Gp ra oo Ss_47h Sa_47h Gs Ga os_47h) → va_S A s.heap H locs → lv_has ls 10 [(0, .ref So), (1, .ref ra), (2, .int (3 : Int32)), (3, .ref (oo 3)), (4, .ref (oo 4)), (5, .int x5_47h)] → W p l e R s m args below meth c H locs 0 0 Q (F0 m 47 ls []))) ?_ i38 _ _ _ hP hD hS (lv_sub hl [3, 4, 5, 2, 1, 0] rfl)
  clear i38 hP hD hS hl
  intro x5_47h Ss_47h Sa_47h os_47h z47 h zl47 zr47 H locs ls hP hD hS hl
  refine lv_iload hx hb dX5_look_47 (lv_at hl 5 rfl) ?_
  refine lv_aload_n hx hb dX5_look_49 rfl (lv_at hl 0 rfl) ?_
  refine va_getN (D := D) (ci := 4) (v := .int (Ss_47h 2)) (C := RX4) (T := TX4) (N := 8) hx hb hts inX4 hown hK hP 0 rfl rfl 2 (by decide) lk98 (fun _ h9 => h9) rfl dX5_look_50 ?_
  refine lv_icmp_ge (tgt := 161) hx hb dX5_look_53 (by decide) (fun c7 => ?_) (fun c7 => ?_)
  · have h := zif_t c7 h
    cases zr47 _ (zend h).symm
    exact KX161 _ _ _ hP hD hS (lv_sub hl [0, 3] rfl)
  · have h := zif_f c7 h
    refine lv_aload hx hb dX5_look_56 (lv_at hl 4 rfl) ?_
    refine lv_ifnull hx hb dX5_look_58 ?_
    refine lv_iconst (v := (0 : Int32)) hx hb dX5_look_61 (by decide) ?_
    refine lv_istore (lv' := [(6, .int (0 : Int32)), (0, .ref So), (1, .ref ra), (2, .int (3 : Int32)), (3, .ref (oo 3)), (4, .ref (oo 4)), (5, .int x5_47h)]) hx hb dX5_look_62 hl (by decide) rfl (fun ls hl => ?_)
    obtain ⟨Ss_155x64, Sa_155x64, os_155x64, i32, h⟩ := zb3_s h
    have KX155 : ∀ (H : Heap) (locs : List Loc) (ls : Array Slot), va_P D vwCl (zfLK cI cO So Sp Go Gp ra oo Ss_155x64 Sa_155x64 Gs Ga os_155x64) H → va_D A (zfLK cI cO So Sp Go Gp ra oo Ss_155x64 Sa_155x64 Gs Ga os_155x64) → va_S A s.heap H locs → lv_has ls 10 [(0, .ref So), (1, .ref ra), (2, .int (3 : Int32)), (3, .ref (oo 3)), (4, .ref (oo 4)), (5, .int x5_47h)] → W p l e R s m args below meth c H locs 0 0 Q (F0 m 155 ls []) := by
      intro H locs ls hP hD hS hl
      refine lv_iinc (v := (x5_47h + (1 : Int32))) (lv' := [(5, .int (x5_47h + (1 : Int32))), (0, .ref So), (1, .ref ra), (2, .int (3 : Int32)), (3, .ref (oo 3)), (4, .ref (oo 4))]) hx hb dX5_look_155 hl (k := 5) rfl rfl (by decide) rfl (fun ls hl => ?_)
      refine lv_goto (tgt := 47) hx hb dX5_look_158 (by decide) ?_
      exact zl47 _ _ _ _ (zend h).symm _ _ _ hP hD hS (lv_sub hl [1, 2, 3, 4, 5, 0] rfl)
    clear h
    refine zi4_ind (P := (fun (x6_64h : Int32) (Ss_64h : Nat → Int32) (Sa_64h : Nat → Nat → Int32) (os_64h : Nat → Nat → Int32) => ∀ (H : Heap) (locs : List Loc) (ls : Array Slot), va_P D vwCl (zfLK cI cO So Sp Go Gp ra oo Ss_64h Sa_64h Gs Ga os_64h) H → va_D A (zfLK cI cO So Sp Go Gp ra oo Ss_64h Sa_64h Gs Ga os_64h) → va_S A s.heap H locs → lv_has ls 10 [(0, .ref So), (1, .ref ra), (2, .int (3 : Int32)), (3, .ref (oo 3)), (4, .ref (oo 4)), (5, .int x5_47h), (6, .int x6_64h)] → W p l e R s m args below meth c H locs 0 0 Q (F0 m 64 ls []))) ?_ i32 _ _ _ hP hD hS (lv_sub hl [1, 2, 3, 4, 5, 6, 0] rfl)
    clear i32 hP hD hS hl
    intro x6_64h Ss_64h Sa_64h os_64h z64 h zl64 zr64 H locs ls hP hD hS hl
    refine lv_iload hx hb dX5_look_64 (lv_at hl 6 rfl) ?_
    refine lv_bipush (v := (8 : Int32)) hx hb dX5_look_66 (by decide) ?_
    refine lv_icmp_ge (tgt := 155) hx hb dX5_look_68 (by decide) (fun c9 => ?_) (fun c9 => ?_)
    · have h := zif_t c9 h
      cases zr64 _ (zend h).symm
      exact KX155 _ _ _ hP hD hS (lv_sub hl [0, 1, 2, 3, 4, 5] rfl)
    · have h := zif_f c9 h
      refine lv_aload_n hx hb dX5_look_71 rfl (lv_at hl 0 rfl) ?_
      refine lv_iload hx hb dX5_look_72 (lv_at hl 5 rfl) ?_
      refine lv_iload hx hb dX5_look_74 (lv_at hl 6 rfl) ?_
      obtain ⟨r10, g11, h⟩ := zb1_s h
      have hFc := va_free (wc := (zfSG cI cO So Sp Go Gp Ss_64h Sa_64h Gs Ga)) hD hS hA [0, 1, 2, 3, 4, 5] (zC_20 (cI := cI) (cB := cB) (cO := cO))
      refine zcp_i (va_runV (As := [.int x5_47h, .int x6_64h]) (rest := []) ⟨hx, hb, hml, hown, hts⟩ (c_X4_targetOf l D cI cB cO So Sp Go Gp Ss_64h Sa_64h Gs Ga x5_47h x6_64h _ _ g11) (cwV 2 hts gX5_look_X4_targetOf rfl rfl rfl kV_X4_targetOf ⟨Nat.le_trans (Nat.le_of_ble_eq_true rfl) hRf, Nat.le_trans (Nat.le_of_ble_eq_true rfl) hRl⟩) (zpreV hK hP hD hS hE hFc [0, 1, 2, 3, 4, 5] (zC_20 (cI := cI) (cB := cB) (cO := cO)) rfl 0 (ci := 4) rfl rfl [.int x5_47h, .int x6_64h]) rfl rfl hl.1 rfl (lv_room (Nat.le_of_ble_eq_true rfl)) dX5_look_76 ⟨Nat.zero_le _, Nat.zero_le _⟩) hP hD hS hFc [0, 1, 2, 3, 4, 5] (zC_20 (cI := cI) (cB := cB) (cO := cO)) (fun H locs hP hS => ?_)
      clear hFc
      refine lv_istore (lv' := [(7, .int r10), (0, .ref So), (1, .ref ra), (2, .int (3 : Int32)), (3, .ref (oo 3)), (4, .ref (oo 4)), (5, .int x5_47h), (6, .int x6_64h)]) hx hb dX5_look_79 hl (by decide) rfl (fun ls hl => ?_)
      refine lv_iload hx hb dX5_look_81 (lv_at hl 0 rfl) ?_
      refine lv_iconst (v := (-1 : Int32)) hx hb dX5_look_83 (by decide) ?_
      obtain ⟨Ss_149, Sa_149, os_149, j12, h⟩ := zb3_s h
      have K149 : ∀ (H : Heap) (locs : List Loc) (ls : Array Slot), va_P D vwCl (zfLK cI cO So Sp Go Gp ra oo Ss_149 Sa_149 Gs Ga os_149) H → va_D A (zfLK cI cO So Sp Go Gp ra oo Ss_149 Sa_149 Gs Ga os_149) → va_S A s.heap H locs → lv_has ls 10 [(0, .ref So), (1, .ref ra), (2, .int (3 : Int32)), (3, .ref (oo 3)), (4, .ref (oo 4)), (5, .int x5_47h), (6, .int x6_64h)] → W p l e R s m args below meth c H locs 0 0 Q (F0 m 149 ls []) := by
        intro H locs ls hP hD hS hl
        refine lv_iinc (v := (x6_64h + (1 : Int32))) (lv' := [(6, .int (x6_64h + (1 : Int32))), (0, .ref So), (1, .ref ra), (2, .int (3 : Int32)), (3, .ref (oo 3)), (4, .ref (oo 4)), (5, .int x5_47h)]) hx hb dX5_look_149 hl (k := 6) rfl rfl (by decide) rfl (fun ls hl => ?_)
        refine lv_goto (tgt := 64) hx hb dX5_look_152 (by decide) ?_
        exact zl64 _ _ _ _ (zend h).symm _ _ _ hP hD hS (lv_sub hl [1, 2, 3, 4, 5, 6, 0] rfl)
      clear h
      have h := j12
      clear j12
      refine lv_icmp_eq (tgt := 149) hx hb dX5_look_84 (by decide) (fun c13 => ?_) (fun c13 => ?_)
      · have h := zif_t c13 h
        cases zend h
        exact K149 _ _ _ hP hD hS (lv_sub hl [1, 2, 3, 4, 5, 6, 7] rfl)
      · have h := zif_f c13 h
        refine lv_aload_n hx hb dX5_look_87 rfl (lv_at hl 1 rfl) ?_
        refine lv_iload hx hb dX5_look_88 (lv_at hl 6 rfl) ?_
        obtain ⟨r14, g15, h⟩ := zb1_s h
        have hFc := va_free (wc := (zwS cI So Sp Go Ss_64h Sa_64h)) hD hS hA [0, 1, 2, 3] (zC_22 (cI := cI) (cB := cB) (cO := cO))
        refine zcp_i (va_runV (As := [.int x5_47h]) (rest := []) ⟨hx, hb, hml, hown, hts⟩ (c_X4_homeOf l D cI cB cO So Sp Go Ss_64h Sa_64h x5_47h _ _ g15) (cwV 1 hts gX5_look_X4_homeOf rfl rfl rfl kV_X4_homeOf ⟨Nat.le_trans (Nat.le_of_ble_eq_true rfl) hRf, Nat.le_trans (Nat.le_of_ble_eq_true rfl) hRl⟩) (zpreV hK hP hD hS hE hFc [0, 1, 2, 3] (zC_22 (cI := cI) (cB := cB) (cO := cO)) rfl 0 (ci := 4) rfl rfl [.int x5_47h]) rfl rfl hl.1 rfl (lv_room (Nat.le_of_ble_eq_true rfl)) dX5_look_90 ⟨Nat.zero_le _, Nat.zero_le _⟩) hP hD hS hFc [0, 1, 2, 3] (zC_22 (cI := cI) (cB := cB) (cO := cO)) (fun H locs hP hS => ?_)
        clear hFc
        refine lv_istore (lv' := [(8, .int r14), (7, .int r10), (0, .ref So), (1, .ref ra), (2, .int (3 : Int32)), (3, .ref (oo 3)), (4, .ref (oo 4)), (5, .int x5_47h), (6, .int x6_64h)]) hx hb dX5_look_93 hl (by decide) rfl (fun ls hl => ?_)
        refine lv_aload_n hx hb dX5_look_95 rfl (lv_at hl 2 rfl) ?_
        refine lv_iload hx hb dX5_look_96 (lv_at hl 7 rfl) ?_
        refine lv_iload hx hb dX5_look_98 (lv_at hl 8 rfl) ?_
        obtain ⟨r16, g17, h⟩ := zb1_s h
        have hFc := va_free (wc := (zfSG cI cO So Sp Go Gp Ss_64h Sa_64h Gs Ga)) hD hS hA [0, 1, 2, 3, 4, 5] (zC_20 (cI := cI) (cB := cB) (cO := cO))
        refine zcp_i (va_runV (As := [.int x5_47h, .int x6_64h]) (rest := []) ⟨hx, hb, hml, hown, hts⟩ (c_X4_neighbourOf l D cI cB cO So Sp Go Gp Ss_64h Sa_64h Gs Ga x5_47h x6_64h _ _ g17) (cwV 2 hts gX5_look_X4_neighbourOf rfl rfl rfl kV_X4_neighbourOf ⟨Nat.le_trans (Nat.le_of_ble_eq_true rfl) hRf, Nat.le_trans (Nat.le_of_ble_eq_true rfl) hRl⟩) (zpreV hK hP hD hS hE hFc [0, 1, 2, 3, 4, 5] (zC_20 (cI := cI) (cB := cB) (cO := cO)) rfl 0 (ci := 4) rfl rfl [.int x5_47h, .int x6_64h]) rfl rfl hl.1 rfl (lv_room (Nat.le_of_ble_eq_true rfl)) dX5_look_100 ⟨Nat.zero_le _, Nat.zero_le _⟩) hP hD hS hFc [0, 1, 2, 3, 4, 5] (zC_20 (cI := cI) (cB := cB) (cO := cO)) (fun H locs hP hS => ?_)
        clear hFc
        refine lv_istore (lv' := [(9, .int r16), (8, .int r14), (7, .int r10), (0, .ref So), (1, .ref ra), (2, .int (3 : Int32)), (3, .ref (oo 3)), (4, .ref (oo 4)), (5, .int x5_47h), (6, .int x6_64h)]) hx hb dX5_look_103 hl (by decide) rfl (fun ls hl => ?_)
        refine lv_aload_n hx hb dX5_look_105 rfl (lv_at hl 3 rfl) ?_
        refine lv_iload hx hb dX5_look_106 (lv_at hl 8 rfl) ?_
        refine lv_iload hx hb dX5_look_108 (lv_at hl 0 rfl) ?_
        refine lv_iload hx hb dX5_look_110 (lv_at hl 2 rfl) ?_
        obtain ⟨Ss_18, Sa_19, g20, h⟩ := zb2_s h
        have hFc := va_free (wc := (zfSG cI cO So Sp Go Gp Ss_64h Sa_64h Gs Ga)) hD hS hA [0, 1, 2, 3, 4, 5] (zC_23 (cI := cI) (cB := cB) (cO := cO))
        refine zcm_v (w2 := (zfLK cI cO So Sp Go Gp ra oo Ss_18 Sa_19 Gs Ga os_64h)) (va_runV (As := [.int x5_47h, .int r16, .int r10]) (rest := []) ⟨hx, hb, hml, hown, hts⟩ (c_X4_leap l D cI cB cO So Sp Go Gp Ss_64h Sa_64h Gs Ga x5_47h r16 r10 _ _ _ g20) (cwV 3 hts gX5_look_X4_leap rfl rfl rfl kV_X4_leap ⟨Nat.le_trans (Nat.le_of_ble_eq_true rfl) hRf, Nat.le_trans (Nat.le_of_ble_eq_true rfl) hRl⟩) (zpreV hK hP hD hS hE hFc [0, 1, 2, 3, 4, 5] (zC_23 (cI := cI) (cB := cB) (cO := cO)) rfl 0 (ci := 4) rfl rfl [.int x5_47h, .int r16, .int r10]) rfl rfl hl.1 rfl (lv_room (Nat.le_of_ble_eq_true rfl)) dX5_look_112 ⟨Nat.zero_le _, Nat.zero_le _⟩) hS hFc (fun H1 t h1 h2 h3 => zM_23 (cI := cI) (cB := cB) (cO := cO) hP hD h1 h2 h3) (fun H locs hP hD hS => ?_)
        clear hFc
        refine lv_aload_n hx hb dX5_look_115 rfl (lv_at hl 3 rfl) ?_
        refine lv_aload_n hx hb dX5_look_116 rfl (lv_at hl 4 rfl) ?_
        refine lv_iload_n hx hb dX5_look_117 rfl (lv_at hl 5 rfl) ?_
        refine lv_iconst (v := (1 : Int32)) hx hb dX5_look_118 (by decide) ?_
        refine lv_iadd hx hb dX5_look_119 ?_
        refine lv_topi (fun k21 ek21 => ?_)
        obtain rfl : k21 = (4 : Int32) := ek21.trans (by decide)
        obtain ⟨Ss_22, Sa_23, os_24, g25, h⟩ := zb3_s h
        have hFc := va_free (wc := (zfLK cI cO So Sp Go Gp ra oo Ss_18 Sa_19 Gs Ga os_64h)) hD hS hA [0, 1, 2, 3, 4, 5, 6, 7, 8, 9, 10, 11, 12, 13, 14, 15] (zC_27 (cI := cI) (cB := cB) (cO := cO))
        refine zcm_v (w2 := (zfLK cI cO So Sp Go Gp ra oo Ss_22 Sa_23 Gs Ga os_24)) (va_runS (As := [.ref So, .ref ra, .int (4 : Int32)]) (rest := []) ⟨hx, hb, hml, hown, hts⟩ (c_X5_look_4 l D cI cB cO So Sp Go Gp ra oo Ss_18 Sa_19 Gs Ga os_64h _ _ _ _ g25) (va_cwS 3 hts gX5_look_X5_look rfl rfl rfl kS_X5_look ⟨Nat.le_trans (Nat.le_of_ble_eq_true rfl) hRf, Nat.le_trans (Nat.le_of_ble_eq_true rfl) hRl⟩) (zpreS hK hP hD hS hE hFc [0, 1, 2, 3, 4, 5, 6, 7, 8, 9, 10, 11, 12, 13, 14, 15] (zC_27 (cI := cI) (cB := cB) (cO := cO)) rfl [.ref So, .ref ra, .int (4 : Int32)]) rfl rfl hl.1 rfl (lv_room (Nat.le_of_ble_eq_true rfl)) dX5_look_120 ⟨Nat.zero_le _, Nat.zero_le _⟩) hS hFc (fun H1 t h1 h2 h3 => zM_27 (cI := cI) (cB := cB) (cO := cO) hP hD h1 h2 h3) (fun H locs hP hD hS => ?_)
        clear hFc
        refine lv_aload_n hx hb dX5_look_123 rfl (lv_at hl 3 rfl) ?_
        refine lv_iload hx hb dX5_look_124 (lv_at hl 8 rfl) ?_
        refine lv_iload hx hb dX5_look_126 (lv_at hl 1 rfl) ?_
        refine lv_iload hx hb dX5_look_128 (lv_at hl 0 rfl) ?_
        refine lv_iload hx hb dX5_look_130 (lv_at hl 9 rfl) ?_
        obtain ⟨Ss_26, Sa_27, g28, h⟩ := zb2_s h
        have hFc := va_free (wc := (zfSG cI cO So Sp Go Gp Ss_22 Sa_23 Gs Ga)) hD hS hA [0, 1, 2, 3, 4, 5] (zC_23 (cI := cI) (cB := cB) (cO := cO))
        refine zcm_v (w2 := (zfLK cI cO So Sp Go Gp ra oo Ss_26 Sa_27 Gs Ga os_24)) (va_runV (As := [.int x5_47h, .int r14, .int r16, .int x6_64h]) (rest := []) ⟨hx, hb, hml, hown, hts⟩ (c_X4_takeBack l D cI cB cO So Sp Go Gp Ss_22 Sa_23 Gs Ga x5_47h r14 r16 x6_64h _ _ _ g28) (cwV 4 hts gX5_look_X4_takeBack rfl rfl rfl kV_X4_takeBack ⟨Nat.le_trans (Nat.le_of_ble_eq_true rfl) hRf, Nat.le_trans (Nat.le_of_ble_eq_true rfl) hRl⟩) (zpreV hK hP hD hS hE hFc [0, 1, 2, 3, 4, 5] (zC_23 (cI := cI) (cB := cB) (cO := cO)) rfl 0 (ci := 4) rfl rfl [.int x5_47h, .int r14, .int r16, .int x6_64h]) rfl rfl hl.1 rfl (lv_room (Nat.le_of_ble_eq_true rfl)) dX5_look_132 ⟨Nat.zero_le _, Nat.zero_le _⟩) hS hFc (fun H1 t h1 h2 h3 => zM_23 (cI := cI) (cB := cB) (cO := cO) hP hD h1 h2 h3) (fun H locs hP hD hS => ?_)
        clear hFc
        refine lv_aload_n hx hb dX5_look_135 rfl (lv_at hl 6 rfl) ?_
        refine lv_bipush (v := (100 : Int32)) hx hb dX5_look_136 (by decide) ?_
        refine lv_iload hx hb dX5_look_138 (lv_at hl 8 rfl) ?_
        refine lv_imul hx hb dX5_look_140 ?_
        refine lv_iload hx hb dX5_look_141 (lv_at hl 2 rfl) ?_
        refine lv_iadd hx hb dX5_look_143 ?_
        refine lv_aload hx hb dX5_look_144 (lv_at hl 7 rfl) ?_
        obtain ⟨Os_29, g30, h⟩ := zb1_s h
        have hFc := va_free (wc := (zfOO cI cO (oo 3) (oo 4) (os_24 3) (os_24 4))) hD hS hA [10, 11] (zC_34 (cI := cI) (cB := cB) (cO := cO))
        refine zcm_v (w2 := (zfLK cI cO So Sp Go Gp ra oo Ss_26 Sa_27 Gs Ga (va_up os_24 3 Os_29))) (va_runV (As := [.int (((100 : Int32) * x5_47h) + r10), .ref (oo 4)]) (rest := []) ⟨hx, hb, hml, hown, hts⟩ (c_X1_take l D cI cB cO (oo 3) (oo 4) (os_24 3) (os_24 4) (((100 : Int32) * x5_47h) + r10) _ _ g30) (cwV 2 hts gX5_look_X1_take rfl rfl rfl kV_X1_take ⟨Nat.le_trans (Nat.le_of_ble_eq_true rfl) hRf, Nat.le_trans (Nat.le_of_ble_eq_true rfl) hRl⟩) (zpreV hK hP hD hS hE hFc [10, 11] (zC_34 (cI := cI) (cB := cB) (cO := cO)) rfl 10 (ci := 1) rfl rfl [.int (((100 : Int32) * x5_47h) + r10), .ref (oo 4)]) rfl rfl hl.1 rfl (lv_room (Nat.le_of_ble_eq_true rfl)) dX5_look_146 ⟨Nat.zero_le _, Nat.zero_le _⟩) hS hFc (fun H1 t h1 h2 h3 => zM_34 (cI := cI) (cB := cB) (cO := cO) hP hD h1 h2 h3) (fun H locs hP hD hS => ?_)
        clear hFc
        obtain ⟨os_31, eos_31, hP, hD⟩ : ∃ y9, y9 = (va_up os_24 3 Os_29) ∧ va_P D vwCl (zfLK cI cO So Sp Go Gp ra oo Ss_26 Sa_27 Gs Ga y9) H ∧ va_D A (zfLK cI cO So Sp Go Gp ra oo Ss_26 Sa_27 Gs Ga y9) := ⟨_, rfl, hP, hD⟩
        have h := zlt_s h eos_31
        cases zend h
        exact K149 _ _ _ hP hD hS (lv_sub hl [3, 4, 5, 6, 7, 8, 9] rfl)
set_option maxHeartbeats 4000000 in
set_option maxRecDepth 100000 in
theorem c_X5_look_2 (l : Launch) (D : va_G) (cI cB cO : ClassId) (So : Nat) (Sp : Nat → Nat) (Go : Nat) (Gp : Nat → Nat) (ra : Nat) (oo : Nat → Nat) (Ss : Nat → Int32) (Sa : Nat → Nat → Int32) (Gs : Nat → Int32) (Ga : Nat → Nat → Int32) (os : Nat → Nat → Int32)  (Ss' : Nat → Int32) (Sa' : Nat → Nat → Int32) (os' : Nat → Nat → Int32) (sz : Nat) (h : fX5_look_2 Ss Sa Gs Ga os = some (Ss', Sa', os')) : Met l yX5_look wsX5_look ({ frames := 9, cells := 0, slots := 0, locals := 239 } : Room) (va_Pc [.ref So, .ref ra, .int (2 : Int32)] (zPre D (zTY cI cB cO) (zfLK cI cO So Sp Go Gp ra oo Ss Sa Gs Ga os) sz)) (va_Qv (fun (_ : Unit) => True) (fun _ => zPost D (zTY cI cB cO) (zfLK cI cO So Sp Go Gp ra oo Ss' Sa' Gs Ga os') (va_A (zfLK cI cO So Sp Go Gp ra oo Ss Sa Gs Ga os) sz)) (va_A (zfLK cI cO So Sp Go Gp ra oo Ss Sa Gs Ga os) sz)) 0 0 (va_A (zfLK cI cO So Sp Go Gp ra oo Ss Sa Gs Ga os) sz) := by
  unfold fX5_look_2 at h
  refine zmet_v (cc := cX5_look) (maxL := 10) (by decide) rfl (Nat.le_of_ble_eq_true rfl) rfl rfl ?_
  intro p e s m args below meth c R Q A ls hx hb hts hown hml hK hP hD hE hA hS hRf hRl hl hq
  have hown : s.vm.findClass RX5 = some m.cls := hown
  have hl : lv_has ls 10 [(0, .ref So), (1, .ref ra), (2, .int (2 : Int32))] := hl
  have inX4 : ∀ w ∈ u_ws RX4 TX4 8, w ∈ wsX5_look := by decide +kernel
  have lk98 : (Cond.fieldLinkNest RX5 98 "PegField$State" "pegs" "I" "PegField").before args s = true := hE.2.use (by decide +kernel)
  have lk150 : (Cond.fieldLinkNest RX5 150 "PegField$State" "onBoard" "I" "PegField").before args s = true := hE.2.use (by decide +kernel)
  refine lv_iload_n hx hb dX5_look_0 rfl (lv_at hl 2 rfl) ?_
  refine lv_if_lt (tgt := 16) hx hb dX5_look_1 (by decide) (fun q => absurd q (by decide)) (fun _ => ?_)
  refine lv_iload_n hx hb dX5_look_4 rfl (lv_at hl 2 rfl) ?_
  refine lv_aload_n hx hb dX5_look_5 rfl (lv_at hl 1 rfl) ?_
  refine va_alen hx hb hK hP 6 2 rfl rfl (v := (9 : Int32)) rfl dX5_look_6 ?_
  refine lv_icmp_ge (tgt := 16) hx hb dX5_look_7 (by decide) (fun q => absurd q (by decide)) (fun _ => ?_)
  refine lv_aload_n hx hb dX5_look_10 rfl (lv_at hl 1 rfl) ?_
  refine lv_iload_n hx hb dX5_look_11 rfl (lv_at hl 2 rfl) ?_
  refine va_aldq hx hb hK hP 6 2 rfl rfl (vp_in_iff.mpr (by decide)) dX5_look_12 ?_
  refine W.eq (g2 := F0 m 13 ls [.ref (oo 2)]) rfl ?_
  refine lv_ifnonnull (tgt := 17) hx hb dX5_look_13 (by decide) ?_
  refine lv_aload_n hx hb dX5_look_17 rfl (lv_at hl 1 rfl) ?_
  refine lv_iload_n hx hb dX5_look_18 rfl (lv_at hl 2 rfl) ?_
  refine va_aldq hx hb hK hP 6 2 rfl rfl (vp_in_iff.mpr (by decide)) dX5_look_19 ?_
  refine W.eq (g2 := F0 m 20 ls [.ref (oo 2)]) rfl ?_
  refine lv_astore_n (lv' := [(3, .ref (oo 2)), (0, .ref So), (1, .ref ra), (2, .int (2 : Int32))]) hx hb dX5_look_20 rfl hl (by decide) rfl (fun ls hl => ?_)
  refine lv_aload_n hx hb dX5_look_21 rfl (lv_at hl 0 rfl) ?_
  obtain ⟨Os_1, g2, h⟩ := zb1_s h
  have hFc := va_free (wc := (zwO (oo 2) (os 2))) hD hS hA [9] (zC_35 (cI := cI) (cB := cB) (cO := cO))
  refine zcm_v (w2 := (zfLK cI cO So Sp Go Gp ra oo Ss Sa Gs Ga (va_up os 2 Os_1))) (va_runV (As := []) (rest := []) ⟨hx, hb, hml, hown, hts⟩ (c_X1_begin l D cI cB cO (oo 2) (os 2) _ _ g2) (cwV 0 hts gX5_look_X1_begin rfl rfl rfl kV_X1_begin ⟨Nat.le_trans (Nat.le_of_ble_eq_true rfl) hRf, Nat.le_trans (Nat.le_of_ble_eq_true rfl) hRl⟩) (zpreV hK hP hD hS hE hFc [9] (zC_35 (cI := cI) (cB := cB) (cO := cO)) rfl 9 (ci := 1) rfl rfl []) rfl rfl hl.1 rfl (lv_room (Nat.le_of_ble_eq_true rfl)) dX5_look_22 ⟨Nat.zero_le _, Nat.zero_le _⟩) hS hFc (fun H1 t h1 h2 h3 => zM_35 (cI := cI) (cB := cB) (cO := cO) hP hD h1 h2 h3) (fun H locs hP hD hS => ?_)
  clear hFc
  obtain ⟨os_3, eos_3, hP, hD⟩ : ∃ y9, y9 = (va_up os 2 Os_1) ∧ va_P D vwCl (zfLK cI cO So Sp Go Gp ra oo Ss Sa Gs Ga y9) H ∧ va_D A (zfLK cI cO So Sp Go Gp ra oo Ss Sa Gs Ga y9) := ⟨_, rfl, hP, hD⟩
  have h := zlt_s h eos_3
  refine lv_iload_n hx hb dX5_look_25 rfl (lv_at hl 3 rfl) ?_
  refine lv_iconst (v := (1 : Int32)) hx hb dX5_look_26 (by decide) ?_
  refine lv_iadd hx hb dX5_look_27 ?_
  refine lv_topi (fun k4 ek4 => ?_)
  obtain rfl : k4 = (3 : Int32) := ek4.trans (by decide)
  refine lv_aload_n hx hb dX5_look_28 rfl (lv_at hl 2 rfl) ?_
  refine va_alen hx hb hK hP 6 2 rfl rfl (v := (9 : Int32)) rfl dX5_look_29 ?_
  refine lv_icmp_ge (tgt := 41) hx hb dX5_look_30 (by decide) (fun q => absurd q (by decide)) (fun _ => ?_)
  refine lv_aload_n hx hb dX5_look_33 rfl (lv_at hl 2 rfl) ?_
  refine lv_iload_n hx hb dX5_look_34 rfl (lv_at hl 3 rfl) ?_
  refine lv_iconst (v := (1 : Int32)) hx hb dX5_look_35 (by decide) ?_
  refine lv_iadd hx hb dX5_look_36 ?_
  refine lv_topi (fun k5 ek5 => ?_)
  obtain rfl : k5 = (3 : Int32) := ek5.trans (by decide)
  refine va_aldq hx hb hK hP 6 2 rfl rfl (vp_in_iff.mpr (by decide)) dX5_look_37 ?_
  refine W.eq (g2 := F0 m 38 ls [.ref (oo 3)]) rfl ?_
  refine lv_goto (tgt := 42) hx hb dX5_look_38 (by decide) ?_
  refine lv_astore (lv' := [(4, .ref (oo 3)), (3, .ref (oo 2)), (0, .ref So), (1, .ref ra), (2, .int (2 : Int32))]) hx hb dX5_look_42 hl (by decide) rfl (fun ls hl => ?_)
  refine lv_iconst (v := (0 : Int32)) hx hb dX5_look_44 (by decide) ?_
  refine lv_istore (lv' := [(5, .int (0 : Int32)), (4, .ref (oo 3)), (3, .ref (oo 2)), (0, .ref So), (1, .ref ra), (2, .int (2 : Int32))]) hx hb dX5_look_45 hl (by decide) rfl (fun ls hl => ?_)
  obtain ⟨Ss_161x47, Sa_161x47, os_161x47, i38, h⟩ := zb3_s h
  have KX161 : ∀ (H : Heap) (locs : List Loc) (ls : Array Slot), va_P D vwCl (zfLK cI cO So Sp Go Gp ra oo Ss_161x47 Sa_161x47 Gs Ga os_161x47) H → va_D A (zfLK cI cO So Sp Go Gp ra oo Ss_161x47 Sa_161x47 Gs Ga os_161x47) → va_S A s.heap H locs → lv_has ls 10 [(0, .ref So), (3, .ref (oo 2))] → W p l e R s m args below meth c H locs 0 0 Q (F0 m 161 ls []) := by
    intro H locs ls hP hD hS hl
    refine lv_aload_n hx hb dX5_look_161 rfl (lv_at hl 1 rfl) ?_
    refine lv_aload_n hx hb dX5_look_162 rfl (lv_at hl 0 rfl) ?_
    refine va_getN (D := D) (ci := 4) (v := .int (Ss_161x47 3)) (C := RX4) (T := TX4) (N := 8) hx hb hts inX4 hown hK hP 0 rfl rfl 3 (by decide) lk150 (fun _ h9 => h9) rfl dX5_look_163 ?_
    refine lv_aload_n hx hb dX5_look_166 rfl (lv_at hl 0 rfl) ?_
    obtain ⟨r33, g34, h⟩ := zb1_s h
    have hFc := va_free (wc := (zfSG cI cO So Sp Go Gp Ss_161x47 Sa_161x47 Gs Ga)) hD hS hA [0, 1, 2, 3, 4, 5] (zC_20 (cI := cI) (cB := cB) (cO := cO))
    refine zcp_i (va_runV (As := []) (rest := [.int (Ss_161x47 3), .ref (oo 2)]) ⟨hx, hb, hml, hown, hts⟩ (c_X4_aloneBit l D cI cB cO So Sp Go Gp Ss_161x47 Sa_161x47 Gs Ga _ _ g34) (cwV 0 hts gX5_look_X4_aloneBit rfl rfl rfl kV_X4_aloneBit ⟨Nat.le_trans (Nat.le_of_ble_eq_true rfl) hRf, Nat.le_trans (Nat.le_of_ble_eq_true rfl) hRl⟩) (zpreV hK hP hD hS hE hFc [0, 1, 2, 3, 4, 5] (zC_20 (cI := cI) (cB := cB) (cO := cO)) rfl 0 (ci := 4) rfl rfl []) rfl rfl hl.1 rfl (lv_room (Nat.le_of_ble_eq_true rfl)) dX5_look_167 ⟨Nat.zero_le _, Nat.zero_le _⟩) hP hD hS hFc [0, 1, 2, 3, 4, 5] (zC_20 (cI := cI) (cB := cB) (cO := cO)) (fun H locs hP hS => ?_)
    clear hFc
    obtain ⟨Os_35, g36, h⟩ := zb1_s h
    have hFc := va_free (wc := (zwO (oo 2) (os_161x47 2))) hD hS hA [9] (zC_35 (cI := cI) (cB := cB) (cO := cO))
    refine zcm_v (w2 := (zfLK cI cO So Sp Go Gp ra oo Ss_161x47 Sa_161x47 Gs Ga (va_up os_161x47 2 Os_35))) (va_runV (As := [.int (Ss_161x47 3), .int r33]) (rest := []) ⟨hx, hb, hml, hown, hts⟩ (c_X1_end l D cI cB cO (oo 2) (os_161x47 2) (Ss_161x47 3) r33 _ _ g36) (cwV 2 hts gX5_look_X1_end rfl rfl rfl kV_X1_end ⟨Nat.le_trans (Nat.le_of_ble_eq_true rfl) hRf, Nat.le_trans (Nat.le_of_ble_eq_true rfl) hRl⟩) (zpreV hK hP hD hS hE hFc [9] (zC_35 (cI := cI) (cB := cB) (cO := cO)) rfl 9 (ci := 1) rfl rfl [.int (Ss_161x47 3), .int r33]) rfl rfl hl.1 rfl (lv_room (Nat.le_of_ble_eq_true rfl)) dX5_look_170 ⟨Nat.zero_le _, Nat.zero_le _⟩) hS hFc (fun H1 t h1 h2 h3 => zM_35 (cI := cI) (cB := cB) (cO := cO) hP hD h1 h2 h3) (fun H locs hP hD hS => ?_)
    clear hFc
    obtain ⟨os_37, eos_37, hP, hD⟩ : ∃ y9, y9 = (va_up os_161x47 2 Os_35) ∧ va_P D vwCl (zfLK cI cO So Sp Go Gp ra oo Ss_161x47 Sa_161x47 Gs Ga y9) H ∧ va_D A (zfLK cI cO So Sp Go Gp ra oo Ss_161x47 Sa_161x47 Gs Ga y9) := ⟨_, rfl, hP, hD⟩
    have h := zlt_s h eos_37
    cases zend h
    exact hq hP hD hS dX5_look_173
  clear h
  refine zi4_ind (P := (fun (x5_47h : Int32) (Ss_47h : Nat → Int32) (Sa_47h : Nat → Nat → Int32) (os_47h : Nat → Nat → Int32) => ∀ (H : Heap) (locs : List Loc) (ls : Array Slot), va_P D vwCl (zfLK cI cO So Sp Go Gp ra oo Ss_47h Sa_47h Gs Ga os_47h) H → va_D A (zfLK cI cO So Sp Go Gp ra oo Ss_47h Sa_47h Gs Ga os_47h) → va_S A s.heap H locs → lv_has ls 10 [(0, .ref So), (1, .ref ra), (2, .int (2 : Int32)), (3, .ref (oo 2)), (4, .ref (oo 3)), (5, .int x5_47h)] → W p l e R s m args below meth c H locs 0 0 Q (F0 m 47 ls []))) ?_ i38 _ _ _ hP hD hS (lv_sub hl [3, 4, 5, 2, 1, 0] rfl)
  clear i38 hP hD hS hl
  intro x5_47h Ss_47h Sa_47h os_47h z47 h zl47 zr47 H locs ls hP hD hS hl
  refine lv_iload hx hb dX5_look_47 (lv_at hl 5 rfl) ?_
  refine lv_aload_n hx hb dX5_look_49 rfl (lv_at hl 0 rfl) ?_
  refine va_getN (D := D) (ci := 4) (v := .int (Ss_47h 2)) (C := RX4) (T := TX4) (N := 8) hx hb hts inX4 hown hK hP 0 rfl rfl 2 (by decide) lk98 (fun _ h9 => h9) rfl dX5_look_50 ?_
  refine lv_icmp_ge (tgt := 161) hx hb dX5_look_53 (by decide) (fun c7 => ?_) (fun c7 => ?_)
  · have h := zif_t c7 h
    cases zr47 _ (zend h).symm
    exact KX161 _ _ _ hP hD hS (lv_sub hl [0, 3] rfl)
  · have h := zif_f c7 h
    refine lv_aload hx hb dX5_look_56 (lv_at hl 4 rfl) ?_
    refine lv_ifnull hx hb dX5_look_58 ?_
    refine lv_iconst (v := (0 : Int32)) hx hb dX5_look_61 (by decide) ?_
    refine lv_istore (lv' := [(6, .int (0 : Int32)), (0, .ref So), (1, .ref ra), (2, .int (2 : Int32)), (3, .ref (oo 2)), (4, .ref (oo 3)), (5, .int x5_47h)]) hx hb dX5_look_62 hl (by decide) rfl (fun ls hl => ?_)
    obtain ⟨Ss_155x64, Sa_155x64, os_155x64, i32, h⟩ := zb3_s h
    have KX155 : ∀ (H : Heap) (locs : List Loc) (ls : Array Slot), va_P D vwCl (zfLK cI cO So Sp Go Gp ra oo Ss_155x64 Sa_155x64 Gs Ga os_155x64) H → va_D A (zfLK cI cO So Sp Go Gp ra oo Ss_155x64 Sa_155x64 Gs Ga os_155x64) → va_S A s.heap H locs → lv_has ls 10 [(0, .ref So), (1, .ref ra), (2, .int (2 : Int32)), (3, .ref (oo 2)), (4, .ref (oo 3)), (5, .int x5_47h)] → W p l e R s m args below meth c H locs 0 0 Q (F0 m 155 ls []) := by
      intro H locs ls hP hD hS hl
      refine lv_iinc (v := (x5_47h + (1 : Int32))) (lv' := [(5, .int (x5_47h + (1 : Int32))), (0, .ref So), (1, .ref ra), (2, .int (2 : Int32)), (3, .ref (oo 2)), (4, .ref (oo 3))]) hx hb dX5_look_155 hl (k := 5) rfl rfl (by decide) rfl (fun ls hl => ?_)
      refine lv_goto (tgt := 47) hx hb dX5_look_158 (by decide) ?_
      exact zl47 _ _ _ _ (zend h).symm _ _ _ hP hD hS (lv_sub hl [1, 2, 3, 4, 5, 0] rfl)
    clear h
    refine zi4_ind (P := (fun (x6_64h : Int32) (Ss_64h : Nat → Int32) (Sa_64h : Nat → Nat → Int32) (os_64h : Nat → Nat → Int32) => ∀ (H : Heap) (locs : List Loc) (ls : Array Slot), va_P D vwCl (zfLK cI cO So Sp Go Gp ra oo Ss_64h Sa_64h Gs Ga os_64h) H → va_D A (zfLK cI cO So Sp Go Gp ra oo Ss_64h Sa_64h Gs Ga os_64h) → va_S A s.heap H locs → lv_has ls 10 [(0, .ref So), (1, .ref ra), (2, .int (2 : Int32)), (3, .ref (oo 2)), (4, .ref (oo 3)), (5, .int x5_47h), (6, .int x6_64h)] → W p l e R s m args below meth c H locs 0 0 Q (F0 m 64 ls []))) ?_ i32 _ _ _ hP hD hS (lv_sub hl [1, 2, 3, 4, 5, 6, 0] rfl)
    clear i32 hP hD hS hl
    intro x6_64h Ss_64h Sa_64h os_64h z64 h zl64 zr64 H locs ls hP hD hS hl
    refine lv_iload hx hb dX5_look_64 (lv_at hl 6 rfl) ?_
    refine lv_bipush (v := (8 : Int32)) hx hb dX5_look_66 (by decide) ?_
    refine lv_icmp_ge (tgt := 155) hx hb dX5_look_68 (by decide) (fun c9 => ?_) (fun c9 => ?_)
    · have h := zif_t c9 h
      cases zr64 _ (zend h).symm
      exact KX155 _ _ _ hP hD hS (lv_sub hl [0, 1, 2, 3, 4, 5] rfl)
    · have h := zif_f c9 h
      refine lv_aload_n hx hb dX5_look_71 rfl (lv_at hl 0 rfl) ?_
      refine lv_iload hx hb dX5_look_72 (lv_at hl 5 rfl) ?_
      refine lv_iload hx hb dX5_look_74 (lv_at hl 6 rfl) ?_
      obtain ⟨r10, g11, h⟩ := zb1_s h
      have hFc := va_free (wc := (zfSG cI cO So Sp Go Gp Ss_64h Sa_64h Gs Ga)) hD hS hA [0, 1, 2, 3, 4, 5] (zC_20 (cI := cI) (cB := cB) (cO := cO))
      refine zcp_i (va_runV (As := [.int x5_47h, .int x6_64h]) (rest := []) ⟨hx, hb, hml, hown, hts⟩ (c_X4_targetOf l D cI cB cO So Sp Go Gp Ss_64h Sa_64h Gs Ga x5_47h x6_64h _ _ g11) (cwV 2 hts gX5_look_X4_targetOf rfl rfl rfl kV_X4_targetOf ⟨Nat.le_trans (Nat.le_of_ble_eq_true rfl) hRf, Nat.le_trans (Nat.le_of_ble_eq_true rfl) hRl⟩) (zpreV hK hP hD hS hE hFc [0, 1, 2, 3, 4, 5] (zC_20 (cI := cI) (cB := cB) (cO := cO)) rfl 0 (ci := 4) rfl rfl [.int x5_47h, .int x6_64h]) rfl rfl hl.1 rfl (lv_room (Nat.le_of_ble_eq_true rfl)) dX5_look_76 ⟨Nat.zero_le _, Nat.zero_le _⟩) hP hD hS hFc [0, 1, 2, 3, 4, 5] (zC_20 (cI := cI) (cB := cB) (cO := cO)) (fun H locs hP hS => ?_)
      clear hFc
      refine lv_istore (lv' := [(7, .int r10), (0, .ref So), (1, .ref ra), (2, .int (2 : Int32)), (3, .ref (oo 2)), (4, .ref (oo 3)), (5, .int x5_47h), (6, .int x6_64h)]) hx hb dX5_look_79 hl (by decide) rfl (fun ls hl => ?_)
      refine lv_iload hx hb dX5_look_81 (lv_at hl 0 rfl) ?_
      refine lv_iconst (v := (-1 : Int32)) hx hb dX5_look_83 (by decide) ?_
      obtain ⟨Ss_149, Sa_149, os_149, j12, h⟩ := zb3_s h
      have K149 : ∀ (H : Heap) (locs : List Loc) (ls : Array Slot), va_P D vwCl (zfLK cI cO So Sp Go Gp ra oo Ss_149 Sa_149 Gs Ga os_149) H → va_D A (zfLK cI cO So Sp Go Gp ra oo Ss_149 Sa_149 Gs Ga os_149) → va_S A s.heap H locs → lv_has ls 10 [(0, .ref So), (1, .ref ra), (2, .int (2 : Int32)), (3, .ref (oo 2)), (4, .ref (oo 3)), (5, .int x5_47h), (6, .int x6_64h)] → W p l e R s m args below meth c H locs 0 0 Q (F0 m 149 ls []) := by
        intro H locs ls hP hD hS hl
        refine lv_iinc (v := (x6_64h + (1 : Int32))) (lv' := [(6, .int (x6_64h + (1 : Int32))), (0, .ref So), (1, .ref ra), (2, .int (2 : Int32)), (3, .ref (oo 2)), (4, .ref (oo 3)), (5, .int x5_47h)]) hx hb dX5_look_149 hl (k := 6) rfl rfl (by decide) rfl (fun ls hl => ?_)
        refine lv_goto (tgt := 64) hx hb dX5_look_152 (by decide) ?_
        exact zl64 _ _ _ _ (zend h).symm _ _ _ hP hD hS (lv_sub hl [1, 2, 3, 4, 5, 6, 0] rfl)
      clear h
      have h := j12
      clear j12
      refine lv_icmp_eq (tgt := 149) hx hb dX5_look_84 (by decide) (fun c13 => ?_) (fun c13 => ?_)
      · have h := zif_t c13 h
        cases zend h
        exact K149 _ _ _ hP hD hS (lv_sub hl [1, 2, 3, 4, 5, 6, 7] rfl)
      · have h := zif_f c13 h
        refine lv_aload_n hx hb dX5_look_87 rfl (lv_at hl 1 rfl) ?_
        refine lv_iload hx hb dX5_look_88 (lv_at hl 6 rfl) ?_
        obtain ⟨r14, g15, h⟩ := zb1_s h
        have hFc := va_free (wc := (zwS cI So Sp Go Ss_64h Sa_64h)) hD hS hA [0, 1, 2, 3] (zC_22 (cI := cI) (cB := cB) (cO := cO))
        refine zcp_i (va_runV (As := [.int x5_47h]) (rest := []) ⟨hx, hb, hml, hown, hts⟩ (c_X4_homeOf l D cI cB cO So Sp Go Ss_64h Sa_64h x5_47h _ _ g15) (cwV 1 hts gX5_look_X4_homeOf rfl rfl rfl kV_X4_homeOf ⟨Nat.le_trans (Nat.le_of_ble_eq_true rfl) hRf, Nat.le_trans (Nat.le_of_ble_eq_true rfl) hRl⟩) (zpreV hK hP hD hS hE hFc [0, 1, 2, 3] (zC_22 (cI := cI) (cB := cB) (cO := cO)) rfl 0 (ci := 4) rfl rfl [.int x5_47h]) rfl rfl hl.1 rfl (lv_room (Nat.le_of_ble_eq_true rfl)) dX5_look_90 ⟨Nat.zero_le _, Nat.zero_le _⟩) hP hD hS hFc [0, 1, 2, 3] (zC_22 (cI := cI) (cB := cB) (cO := cO)) (fun H locs hP hS => ?_)
        clear hFc
        refine lv_istore (lv' := [(8, .int r14), (7, .int r10), (0, .ref So), (1, .ref ra), (2, .int (2 : Int32)), (3, .ref (oo 2)), (4, .ref (oo 3)), (5, .int x5_47h), (6, .int x6_64h)]) hx hb dX5_look_93 hl (by decide) rfl (fun ls hl => ?_)
        refine lv_aload_n hx hb dX5_look_95 rfl (lv_at hl 2 rfl) ?_
        refine lv_iload hx hb dX5_look_96 (lv_at hl 7 rfl) ?_
        refine lv_iload hx hb dX5_look_98 (lv_at hl 8 rfl) ?_
        obtain ⟨r16, g17, h⟩ := zb1_s h
        have hFc := va_free (wc := (zfSG cI cO So Sp Go Gp Ss_64h Sa_64h Gs Ga)) hD hS hA [0, 1, 2, 3, 4, 5] (zC_20 (cI := cI) (cB := cB) (cO := cO))
        refine zcp_i (va_runV (As := [.int x5_47h, .int x6_64h]) (rest := []) ⟨hx, hb, hml, hown, hts⟩ (c_X4_neighbourOf l D cI cB cO So Sp Go Gp Ss_64h Sa_64h Gs Ga x5_47h x6_64h _ _ g17) (cwV 2 hts gX5_look_X4_neighbourOf rfl rfl rfl kV_X4_neighbourOf ⟨Nat.le_trans (Nat.le_of_ble_eq_true rfl) hRf, Nat.le_trans (Nat.le_of_ble_eq_true rfl) hRl⟩) (zpreV hK hP hD hS hE hFc [0, 1, 2, 3, 4, 5] (zC_20 (cI := cI) (cB := cB) (cO := cO)) rfl 0 (ci := 4) rfl rfl [.int x5_47h, .int x6_64h]) rfl rfl hl.1 rfl (lv_room (Nat.le_of_ble_eq_true rfl)) dX5_look_100 ⟨Nat.zero_le _, Nat.zero_le _⟩) hP hD hS hFc [0, 1, 2, 3, 4, 5] (zC_20 (cI := cI) (cB := cB) (cO := cO)) (fun H locs hP hS => ?_)
        clear hFc
        refine lv_istore (lv' := [(9, .int r16), (8, .int r14), (7, .int r10), (0, .ref So), (1, .ref ra), (2, .int (2 : Int32)), (3, .ref (oo 2)), (4, .ref (oo 3)), (5, .int x5_47h), (6, .int x6_64h)]) hx hb dX5_look_103 hl (by decide) rfl (fun ls hl => ?_)
        refine lv_aload_n hx hb dX5_look_105 rfl (lv_at hl 3 rfl) ?_
        refine lv_iload hx hb dX5_look_106 (lv_at hl 8 rfl) ?_
        refine lv_iload hx hb dX5_look_108 (lv_at hl 0 rfl) ?_
        refine lv_iload hx hb dX5_look_110 (lv_at hl 2 rfl) ?_
        obtain ⟨Ss_18, Sa_19, g20, h⟩ := zb2_s h
        have hFc := va_free (wc := (zfSG cI cO So Sp Go Gp Ss_64h Sa_64h Gs Ga)) hD hS hA [0, 1, 2, 3, 4, 5] (zC_23 (cI := cI) (cB := cB) (cO := cO))
        refine zcm_v (w2 := (zfLK cI cO So Sp Go Gp ra oo Ss_18 Sa_19 Gs Ga os_64h)) (va_runV (As := [.int x5_47h, .int r16, .int r10]) (rest := []) ⟨hx, hb, hml, hown, hts⟩ (c_X4_leap l D cI cB cO So Sp Go Gp Ss_64h Sa_64h Gs Ga x5_47h r16 r10 _ _ _ g20) (cwV 3 hts gX5_look_X4_leap rfl rfl rfl kV_X4_leap ⟨Nat.le_trans (Nat.le_of_ble_eq_true rfl) hRf, Nat.le_trans (Nat.le_of_ble_eq_true rfl) hRl⟩) (zpreV hK hP hD hS hE hFc [0, 1, 2, 3, 4, 5] (zC_23 (cI := cI) (cB := cB) (cO := cO)) rfl 0 (ci := 4) rfl rfl [.int x5_47h, .int r16, .int r10]) rfl rfl hl.1 rfl (lv_room (Nat.le_of_ble_eq_true rfl)) dX5_look_112 ⟨Nat.zero_le _, Nat.zero_le _⟩) hS hFc (fun H1 t h1 h2 h3 => zM_23 (cI := cI) (cB := cB) (cO := cO) hP hD h1 h2 h3) (fun H locs hP hD hS => ?_)
        clear hFc
        refine lv_aload_n hx hb dX5_look_115 rfl (lv_at hl 3 rfl) ?_
        refine lv_aload_n hx hb dX5_look_116 rfl (lv_at hl 4 rfl) ?_
        refine lv_iload_n hx hb dX5_look_117 rfl (lv_at hl 5 rfl) ?_
        refine lv_iconst (v := (1 : Int32)) hx hb dX5_look_118 (by decide) ?_
        refine lv_iadd hx hb dX5_look_119 ?_
        refine lv_topi (fun k21 ek21 => ?_)
        obtain rfl : k21 = (3 : Int32) := ek21.trans (by decide)
        obtain ⟨Ss_22, Sa_23, os_24, g25, h⟩ := zb3_s h
        have hFc := va_free (wc := (zfLK cI cO So Sp Go Gp ra oo Ss_18 Sa_19 Gs Ga os_64h)) hD hS hA [0, 1, 2, 3, 4, 5, 6, 7, 8, 9, 10, 11, 12, 13, 14, 15] (zC_27 (cI := cI) (cB := cB) (cO := cO))
        refine zcm_v (w2 := (zfLK cI cO So Sp Go Gp ra oo Ss_22 Sa_23 Gs Ga os_24)) (va_runS (As := [.ref So, .ref ra, .int (3 : Int32)]) (rest := []) ⟨hx, hb, hml, hown, hts⟩ (c_X5_look_3 l D cI cB cO So Sp Go Gp ra oo Ss_18 Sa_19 Gs Ga os_64h _ _ _ _ g25) (va_cwS 3 hts gX5_look_X5_look rfl rfl rfl kS_X5_look ⟨Nat.le_trans (Nat.le_of_ble_eq_true rfl) hRf, Nat.le_trans (Nat.le_of_ble_eq_true rfl) hRl⟩) (zpreS hK hP hD hS hE hFc [0, 1, 2, 3, 4, 5, 6, 7, 8, 9, 10, 11, 12, 13, 14, 15] (zC_27 (cI := cI) (cB := cB) (cO := cO)) rfl [.ref So, .ref ra, .int (3 : Int32)]) rfl rfl hl.1 rfl (lv_room (Nat.le_of_ble_eq_true rfl)) dX5_look_120 ⟨Nat.zero_le _, Nat.zero_le _⟩) hS hFc (fun H1 t h1 h2 h3 => zM_27 (cI := cI) (cB := cB) (cO := cO) hP hD h1 h2 h3) (fun H locs hP hD hS => ?_)
        clear hFc
        refine lv_aload_n hx hb dX5_look_123 rfl (lv_at hl 3 rfl) ?_
        refine lv_iload hx hb dX5_look_124 (lv_at hl 8 rfl) ?_
        refine lv_iload hx hb dX5_look_126 (lv_at hl 1 rfl) ?_
        refine lv_iload hx hb dX5_look_128 (lv_at hl 0 rfl) ?_
        refine lv_iload hx hb dX5_look_130 (lv_at hl 9 rfl) ?_
        obtain ⟨Ss_26, Sa_27, g28, h⟩ := zb2_s h
        have hFc := va_free (wc := (zfSG cI cO So Sp Go Gp Ss_22 Sa_23 Gs Ga)) hD hS hA [0, 1, 2, 3, 4, 5] (zC_23 (cI := cI) (cB := cB) (cO := cO))
        refine zcm_v (w2 := (zfLK cI cO So Sp Go Gp ra oo Ss_26 Sa_27 Gs Ga os_24)) (va_runV (As := [.int x5_47h, .int r14, .int r16, .int x6_64h]) (rest := []) ⟨hx, hb, hml, hown, hts⟩ (c_X4_takeBack l D cI cB cO So Sp Go Gp Ss_22 Sa_23 Gs Ga x5_47h r14 r16 x6_64h _ _ _ g28) (cwV 4 hts gX5_look_X4_takeBack rfl rfl rfl kV_X4_takeBack ⟨Nat.le_trans (Nat.le_of_ble_eq_true rfl) hRf, Nat.le_trans (Nat.le_of_ble_eq_true rfl) hRl⟩) (zpreV hK hP hD hS hE hFc [0, 1, 2, 3, 4, 5] (zC_23 (cI := cI) (cB := cB) (cO := cO)) rfl 0 (ci := 4) rfl rfl [.int x5_47h, .int r14, .int r16, .int x6_64h]) rfl rfl hl.1 rfl (lv_room (Nat.le_of_ble_eq_true rfl)) dX5_look_132 ⟨Nat.zero_le _, Nat.zero_le _⟩) hS hFc (fun H1 t h1 h2 h3 => zM_23 (cI := cI) (cB := cB) (cO := cO) hP hD h1 h2 h3) (fun H locs hP hD hS => ?_)
        clear hFc
        refine lv_aload_n hx hb dX5_look_135 rfl (lv_at hl 6 rfl) ?_
        refine lv_bipush (v := (100 : Int32)) hx hb dX5_look_136 (by decide) ?_
        refine lv_iload hx hb dX5_look_138 (lv_at hl 8 rfl) ?_
        refine lv_imul hx hb dX5_look_140 ?_
        refine lv_iload hx hb dX5_look_141 (lv_at hl 2 rfl) ?_
        refine lv_iadd hx hb dX5_look_143 ?_
        refine lv_aload hx hb dX5_look_144 (lv_at hl 7 rfl) ?_
        obtain ⟨Os_29, g30, h⟩ := zb1_s h
        have hFc := va_free (wc := (zfOO cI cO (oo 2) (oo 3) (os_24 2) (os_24 3))) hD hS hA [9, 10] (zC_36 (cI := cI) (cB := cB) (cO := cO))
        refine zcm_v (w2 := (zfLK cI cO So Sp Go Gp ra oo Ss_26 Sa_27 Gs Ga (va_up os_24 2 Os_29))) (va_runV (As := [.int (((100 : Int32) * x5_47h) + r10), .ref (oo 3)]) (rest := []) ⟨hx, hb, hml, hown, hts⟩ (c_X1_take l D cI cB cO (oo 2) (oo 3) (os_24 2) (os_24 3) (((100 : Int32) * x5_47h) + r10) _ _ g30) (cwV 2 hts gX5_look_X1_take rfl rfl rfl kV_X1_take ⟨Nat.le_trans (Nat.le_of_ble_eq_true rfl) hRf, Nat.le_trans (Nat.le_of_ble_eq_true rfl) hRl⟩) (zpreV hK hP hD hS hE hFc [9, 10] (zC_36 (cI := cI) (cB := cB) (cO := cO)) rfl 9 (ci := 1) rfl rfl [.int (((100 : Int32) * x5_47h) + r10), .ref (oo 3)]) rfl rfl hl.1 rfl (lv_room (Nat.le_of_ble_eq_true rfl)) dX5_look_146 ⟨Nat.zero_le _, Nat.zero_le _⟩) hS hFc (fun H1 t h1 h2 h3 => zM_36 (cI := cI) (cB := cB) (cO := cO) hP hD h1 h2 h3) (fun H locs hP hD hS => ?_)
        clear hFc
        obtain ⟨os_31, eos_31, hP, hD⟩ : ∃ y9, y9 = (va_up os_24 2 Os_29) ∧ va_P D vwCl (zfLK cI cO So Sp Go Gp ra oo Ss_26 Sa_27 Gs Ga y9) H ∧ va_D A (zfLK cI cO So Sp Go Gp ra oo Ss_26 Sa_27 Gs Ga y9) := ⟨_, rfl, hP, hD⟩
        have h := zlt_s h eos_31
        cases zend h
        exact K149 _ _ _ hP hD hS (lv_sub hl [3, 4, 5, 6, 7, 8, 9] rfl)
set_option maxHeartbeats 4000000 in
set_option maxRecDepth 100000 in
theorem c_X5_look_1 (l : Launch) (D : va_G) (cI cB cO : ClassId) (So : Nat) (Sp : Nat → Nat) (Go : Nat) (Gp : Nat → Nat) (ra : Nat) (oo : Nat → Nat) (Ss : Nat → Int32) (Sa : Nat → Nat → Int32) (Gs : Nat → Int32) (Ga : Nat → Nat → Int32) (os : Nat → Nat → Int32)  (Ss' : Nat → Int32) (Sa' : Nat → Nat → Int32) (os' : Nat → Nat → Int32) (sz : Nat) (h : fX5_look_1 Ss Sa Gs Ga os = some (Ss', Sa', os')) : Met l yX5_look wsX5_look ({ frames := 10, cells := 0, slots := 0, locals := 268 } : Room) (va_Pc [.ref So, .ref ra, .int (1 : Int32)] (zPre D (zTY cI cB cO) (zfLK cI cO So Sp Go Gp ra oo Ss Sa Gs Ga os) sz)) (va_Qv (fun (_ : Unit) => True) (fun _ => zPost D (zTY cI cB cO) (zfLK cI cO So Sp Go Gp ra oo Ss' Sa' Gs Ga os') (va_A (zfLK cI cO So Sp Go Gp ra oo Ss Sa Gs Ga os) sz)) (va_A (zfLK cI cO So Sp Go Gp ra oo Ss Sa Gs Ga os) sz)) 0 0 (va_A (zfLK cI cO So Sp Go Gp ra oo Ss Sa Gs Ga os) sz) := by
  unfold fX5_look_1 at h
  refine zmet_v (cc := cX5_look) (maxL := 10) (by decide) rfl (Nat.le_of_ble_eq_true rfl) rfl rfl ?_
  intro p e s m args below meth c R Q A ls hx hb hts hown hml hK hP hD hE hA hS hRf hRl hl hq
  have hown : s.vm.findClass RX5 = some m.cls := hown
  have hl : lv_has ls 10 [(0, .ref So), (1, .ref ra), (2, .int (1 : Int32))] := hl
  have inX4 : ∀ w ∈ u_ws RX4 TX4 8, w ∈ wsX5_look := by decide +kernel
  have lk98 : (Cond.fieldLinkNest RX5 98 "PegField$State" "pegs" "I" "PegField").before args s = true := hE.2.use (by decide +kernel)
  have lk150 : (Cond.fieldLinkNest RX5 150 "PegField$State" "onBoard" "I" "PegField").before args s = true := hE.2.use (by decide +kernel)
  refine lv_iload_n hx hb dX5_look_0 rfl (lv_at hl 2 rfl) ?_
  refine lv_if_lt (tgt := 16) hx hb dX5_look_1 (by decide) (fun q => absurd q (by decide)) (fun _ => ?_)
  refine lv_iload_n hx hb dX5_look_4 rfl (lv_at hl 2 rfl) ?_
  refine lv_aload_n hx hb dX5_look_5 rfl (lv_at hl 1 rfl) ?_
  refine va_alen hx hb hK hP 6 2 rfl rfl (v := (9 : Int32)) rfl dX5_look_6 ?_
  refine lv_icmp_ge (tgt := 16) hx hb dX5_look_7 (by decide) (fun q => absurd q (by decide)) (fun _ => ?_)
  refine lv_aload_n hx hb dX5_look_10 rfl (lv_at hl 1 rfl) ?_
  refine lv_iload_n hx hb dX5_look_11 rfl (lv_at hl 2 rfl) ?_
  refine va_aldq hx hb hK hP 6 2 rfl rfl (vp_in_iff.mpr (by decide)) dX5_look_12 ?_
  refine W.eq (g2 := F0 m 13 ls [.ref (oo 1)]) rfl ?_
  refine lv_ifnonnull (tgt := 17) hx hb dX5_look_13 (by decide) ?_
  refine lv_aload_n hx hb dX5_look_17 rfl (lv_at hl 1 rfl) ?_
  refine lv_iload_n hx hb dX5_look_18 rfl (lv_at hl 2 rfl) ?_
  refine va_aldq hx hb hK hP 6 2 rfl rfl (vp_in_iff.mpr (by decide)) dX5_look_19 ?_
  refine W.eq (g2 := F0 m 20 ls [.ref (oo 1)]) rfl ?_
  refine lv_astore_n (lv' := [(3, .ref (oo 1)), (0, .ref So), (1, .ref ra), (2, .int (1 : Int32))]) hx hb dX5_look_20 rfl hl (by decide) rfl (fun ls hl => ?_)
  refine lv_aload_n hx hb dX5_look_21 rfl (lv_at hl 0 rfl) ?_
  obtain ⟨Os_1, g2, h⟩ := zb1_s h
  have hFc := va_free (wc := (zwO (oo 1) (os 1))) hD hS hA [8] (zC_37 (cI := cI) (cB := cB) (cO := cO))
  refine zcm_v (w2 := (zfLK cI cO So Sp Go Gp ra oo Ss Sa Gs Ga (va_up os 1 Os_1))) (va_runV (As := []) (rest := []) ⟨hx, hb, hml, hown, hts⟩ (c_X1_begin l D cI cB cO (oo 1) (os 1) _ _ g2) (cwV 0 hts gX5_look_X1_begin rfl rfl rfl kV_X1_begin ⟨Nat.le_trans (Nat.le_of_ble_eq_true rfl) hRf, Nat.le_trans (Nat.le_of_ble_eq_true rfl) hRl⟩) (zpreV hK hP hD hS hE hFc [8] (zC_37 (cI := cI) (cB := cB) (cO := cO)) rfl 8 (ci := 1) rfl rfl []) rfl rfl hl.1 rfl (lv_room (Nat.le_of_ble_eq_true rfl)) dX5_look_22 ⟨Nat.zero_le _, Nat.zero_le _⟩) hS hFc (fun H1 t h1 h2 h3 => zM_37 (cI := cI) (cB := cB) (cO := cO) hP hD h1 h2 h3) (fun H locs hP hD hS => ?_)
  clear hFc
  obtain ⟨os_3, eos_3, hP, hD⟩ : ∃ y9, y9 = (va_up os 1 Os_1) ∧ va_P D vwCl (zfLK cI cO So Sp Go Gp ra oo Ss Sa Gs Ga y9) H ∧ va_D A (zfLK cI cO So Sp Go Gp ra oo Ss Sa Gs Ga y9) := ⟨_, rfl, hP, hD⟩
  have h := zlt_s h eos_3
  refine lv_iload_n hx hb dX5_look_25 rfl (lv_at hl 3 rfl) ?_
  refine lv_iconst (v := (1 : Int32)) hx hb dX5_look_26 (by decide) ?_
  refine lv_iadd hx hb dX5_look_27 ?_
  refine lv_topi (fun k4 ek4 => ?_)
  obtain rfl : k4 = (2 : Int32) := ek4.trans (by decide)
  refine lv_aload_n hx hb dX5_look_28 rfl (lv_at hl 2 rfl) ?_
  refine va_alen hx hb hK hP 6 2 rfl rfl (v := (9 : Int32)) rfl dX5_look_29 ?_
  refine lv_icmp_ge (tgt := 41) hx hb dX5_look_30 (by decide) (fun q => absurd q (by decide)) (fun _ => ?_)
  refine lv_aload_n hx hb dX5_look_33 rfl (lv_at hl 2 rfl) ?_
  refine lv_iload_n hx hb dX5_look_34 rfl (lv_at hl 3 rfl) ?_
  refine lv_iconst (v := (1 : Int32)) hx hb dX5_look_35 (by decide) ?_
  refine lv_iadd hx hb dX5_look_36 ?_
  refine lv_topi (fun k5 ek5 => ?_)
  obtain rfl : k5 = (2 : Int32) := ek5.trans (by decide)
  refine va_aldq hx hb hK hP 6 2 rfl rfl (vp_in_iff.mpr (by decide)) dX5_look_37 ?_
  refine W.eq (g2 := F0 m 38 ls [.ref (oo 2)]) rfl ?_
  refine lv_goto (tgt := 42) hx hb dX5_look_38 (by decide) ?_
  refine lv_astore (lv' := [(4, .ref (oo 2)), (3, .ref (oo 1)), (0, .ref So), (1, .ref ra), (2, .int (1 : Int32))]) hx hb dX5_look_42 hl (by decide) rfl (fun ls hl => ?_)
  refine lv_iconst (v := (0 : Int32)) hx hb dX5_look_44 (by decide) ?_
  refine lv_istore (lv' := [(5, .int (0 : Int32)), (4, .ref (oo 2)), (3, .ref (oo 1)), (0, .ref So), (1, .ref ra), (2, .int (1 : Int32))]) hx hb dX5_look_45 hl (by decide) rfl (fun ls hl => ?_)
  obtain ⟨Ss_161x47, Sa_161x47, os_161x47, i38, h⟩ := zb3_s h
  have KX161 : ∀ (H : Heap) (locs : List Loc) (ls : Array Slot), va_P D vwCl (zfLK cI cO So Sp Go Gp ra oo Ss_161x47 Sa_161x47 Gs Ga os_161x47) H → va_D A (zfLK cI cO So Sp Go Gp ra oo Ss_161x47 Sa_161x47 Gs Ga os_161x47) → va_S A s.heap H locs → lv_has ls 10 [(0, .ref So), (3, .ref (oo 1))] → W p l e R s m args below meth c H locs 0 0 Q (F0 m 161 ls []) := by
    intro H locs ls hP hD hS hl
    refine lv_aload_n hx hb dX5_look_161 rfl (lv_at hl 1 rfl) ?_
    refine lv_aload_n hx hb dX5_look_162 rfl (lv_at hl 0 rfl) ?_
    refine va_getN (D := D) (ci := 4) (v := .int (Ss_161x47 3)) (C := RX4) (T := TX4) (N := 8) hx hb hts inX4 hown hK hP 0 rfl rfl 3 (by decide) lk150 (fun _ h9 => h9) rfl dX5_look_163 ?_
    refine lv_aload_n hx hb dX5_look_166 rfl (lv_at hl 0 rfl) ?_
    obtain ⟨r33, g34, h⟩ := zb1_s h
    have hFc := va_free (wc := (zfSG cI cO So Sp Go Gp Ss_161x47 Sa_161x47 Gs Ga)) hD hS hA [0, 1, 2, 3, 4, 5] (zC_20 (cI := cI) (cB := cB) (cO := cO))
    refine zcp_i (va_runV (As := []) (rest := [.int (Ss_161x47 3), .ref (oo 1)]) ⟨hx, hb, hml, hown, hts⟩ (c_X4_aloneBit l D cI cB cO So Sp Go Gp Ss_161x47 Sa_161x47 Gs Ga _ _ g34) (cwV 0 hts gX5_look_X4_aloneBit rfl rfl rfl kV_X4_aloneBit ⟨Nat.le_trans (Nat.le_of_ble_eq_true rfl) hRf, Nat.le_trans (Nat.le_of_ble_eq_true rfl) hRl⟩) (zpreV hK hP hD hS hE hFc [0, 1, 2, 3, 4, 5] (zC_20 (cI := cI) (cB := cB) (cO := cO)) rfl 0 (ci := 4) rfl rfl []) rfl rfl hl.1 rfl (lv_room (Nat.le_of_ble_eq_true rfl)) dX5_look_167 ⟨Nat.zero_le _, Nat.zero_le _⟩) hP hD hS hFc [0, 1, 2, 3, 4, 5] (zC_20 (cI := cI) (cB := cB) (cO := cO)) (fun H locs hP hS => ?_)
    clear hFc
    obtain ⟨Os_35, g36, h⟩ := zb1_s h
    have hFc := va_free (wc := (zwO (oo 1) (os_161x47 1))) hD hS hA [8] (zC_37 (cI := cI) (cB := cB) (cO := cO))
    refine zcm_v (w2 := (zfLK cI cO So Sp Go Gp ra oo Ss_161x47 Sa_161x47 Gs Ga (va_up os_161x47 1 Os_35))) (va_runV (As := [.int (Ss_161x47 3), .int r33]) (rest := []) ⟨hx, hb, hml, hown, hts⟩ (c_X1_end l D cI cB cO (oo 1) (os_161x47 1) (Ss_161x47 3) r33 _ _ g36) (cwV 2 hts gX5_look_X1_end rfl rfl rfl kV_X1_end ⟨Nat.le_trans (Nat.le_of_ble_eq_true rfl) hRf, Nat.le_trans (Nat.le_of_ble_eq_true rfl) hRl⟩) (zpreV hK hP hD hS hE hFc [8] (zC_37 (cI := cI) (cB := cB) (cO := cO)) rfl 8 (ci := 1) rfl rfl [.int (Ss_161x47 3), .int r33]) rfl rfl hl.1 rfl (lv_room (Nat.le_of_ble_eq_true rfl)) dX5_look_170 ⟨Nat.zero_le _, Nat.zero_le _⟩) hS hFc (fun H1 t h1 h2 h3 => zM_37 (cI := cI) (cB := cB) (cO := cO) hP hD h1 h2 h3) (fun H locs hP hD hS => ?_)
    clear hFc
    obtain ⟨os_37, eos_37, hP, hD⟩ : ∃ y9, y9 = (va_up os_161x47 1 Os_35) ∧ va_P D vwCl (zfLK cI cO So Sp Go Gp ra oo Ss_161x47 Sa_161x47 Gs Ga y9) H ∧ va_D A (zfLK cI cO So Sp Go Gp ra oo Ss_161x47 Sa_161x47 Gs Ga y9) := ⟨_, rfl, hP, hD⟩
    have h := zlt_s h eos_37
    cases zend h
    exact hq hP hD hS dX5_look_173
  clear h
  refine zi4_ind (P := (fun (x5_47h : Int32) (Ss_47h : Nat → Int32) (Sa_47h : Nat → Nat → Int32) (os_47h : Nat → Nat → Int32) => ∀ (H : Heap) (locs : List Loc) (ls : Array Slot), va_P D vwCl (zfLK cI cO So Sp Go Gp ra oo Ss_47h Sa_47h Gs Ga os_47h) H → va_D A (zfLK cI cO So Sp Go Gp ra oo Ss_47h Sa_47h Gs Ga os_47h) → va_S A s.heap H locs → lv_has ls 10 [(0, .ref So), (1, .ref ra), (2, .int (1 : Int32)), (3, .ref (oo 1)), (4, .ref (oo 2)), (5, .int x5_47h)] → W p l e R s m args below meth c H locs 0 0 Q (F0 m 47 ls []))) ?_ i38 _ _ _ hP hD hS (lv_sub hl [3, 4, 5, 2, 1, 0] rfl)
  clear i38 hP hD hS hl
  intro x5_47h Ss_47h Sa_47h os_47h z47 h zl47 zr47 H locs ls hP hD hS hl
  refine lv_iload hx hb dX5_look_47 (lv_at hl 5 rfl) ?_
  refine lv_aload_n hx hb dX5_look_49 rfl (lv_at hl 0 rfl) ?_
  refine va_getN (D := D) (ci := 4) (v := .int (Ss_47h 2)) (C := RX4) (T := TX4) (N := 8) hx hb hts inX4 hown hK hP 0 rfl rfl 2 (by decide) lk98 (fun _ h9 => h9) rfl dX5_look_50 ?_
  refine lv_icmp_ge (tgt := 161) hx hb dX5_look_53 (by decide) (fun c7 => ?_) (fun c7 => ?_)
  · have h := zif_t c7 h
    cases zr47 _ (zend h).symm
    exact KX161 _ _ _ hP hD hS (lv_sub hl [0, 3] rfl)
  · have h := zif_f c7 h
    refine lv_aload hx hb dX5_look_56 (lv_at hl 4 rfl) ?_
    refine lv_ifnull hx hb dX5_look_58 ?_
    refine lv_iconst (v := (0 : Int32)) hx hb dX5_look_61 (by decide) ?_
    refine lv_istore (lv' := [(6, .int (0 : Int32)), (0, .ref So), (1, .ref ra), (2, .int (1 : Int32)), (3, .ref (oo 1)), (4, .ref (oo 2)), (5, .int x5_47h)]) hx hb dX5_look_62 hl (by decide) rfl (fun ls hl => ?_)
    obtain ⟨Ss_155x64, Sa_155x64, os_155x64, i32, h⟩ := zb3_s h
    have KX155 : ∀ (H : Heap) (locs : List Loc) (ls : Array Slot), va_P D vwCl (zfLK cI cO So Sp Go Gp ra oo Ss_155x64 Sa_155x64 Gs Ga os_155x64) H → va_D A (zfLK cI cO So Sp Go Gp ra oo Ss_155x64 Sa_155x64 Gs Ga os_155x64) → va_S A s.heap H locs → lv_has ls 10 [(0, .ref So), (1, .ref ra), (2, .int (1 : Int32)), (3, .ref (oo 1)), (4, .ref (oo 2)), (5, .int x5_47h)] → W p l e R s m args below meth c H locs 0 0 Q (F0 m 155 ls []) := by
      intro H locs ls hP hD hS hl
      refine lv_iinc (v := (x5_47h + (1 : Int32))) (lv' := [(5, .int (x5_47h + (1 : Int32))), (0, .ref So), (1, .ref ra), (2, .int (1 : Int32)), (3, .ref (oo 1)), (4, .ref (oo 2))]) hx hb dX5_look_155 hl (k := 5) rfl rfl (by decide) rfl (fun ls hl => ?_)
      refine lv_goto (tgt := 47) hx hb dX5_look_158 (by decide) ?_
      exact zl47 _ _ _ _ (zend h).symm _ _ _ hP hD hS (lv_sub hl [1, 2, 3, 4, 5, 0] rfl)
    clear h
    refine zi4_ind (P := (fun (x6_64h : Int32) (Ss_64h : Nat → Int32) (Sa_64h : Nat → Nat → Int32) (os_64h : Nat → Nat → Int32) => ∀ (H : Heap) (locs : List Loc) (ls : Array Slot), va_P D vwCl (zfLK cI cO So Sp Go Gp ra oo Ss_64h Sa_64h Gs Ga os_64h) H → va_D A (zfLK cI cO So Sp Go Gp ra oo Ss_64h Sa_64h Gs Ga os_64h) → va_S A s.heap H locs → lv_has ls 10 [(0, .ref So), (1, .ref ra), (2, .int (1 : Int32)), (3, .ref (oo 1)), (4, .ref (oo 2)), (5, .int x5_47h), (6, .int x6_64h)] → W p l e R s m args below meth c H locs 0 0 Q (F0 m 64 ls []))) ?_ i32 _ _ _ hP hD hS (lv_sub hl [1, 2, 3, 4, 5, 6, 0] rfl)
    clear i32 hP hD hS hl
    intro x6_64h Ss_64h Sa_64h os_64h z64 h zl64 zr64 H locs ls hP hD hS hl
    refine lv_iload hx hb dX5_look_64 (lv_at hl 6 rfl) ?_
    refine lv_bipush (v := (8 : Int32)) hx hb dX5_look_66 (by decide) ?_
    refine lv_icmp_ge (tgt := 155) hx hb dX5_look_68 (by decide) (fun c9 => ?_) (fun c9 => ?_)
    · have h := zif_t c9 h
      cases zr64 _ (zend h).symm
      exact KX155 _ _ _ hP hD hS (lv_sub hl [0, 1, 2, 3, 4, 5] rfl)
    · have h := zif_f c9 h
      refine lv_aload_n hx hb dX5_look_71 rfl (lv_at hl 0 rfl) ?_
      refine lv_iload hx hb dX5_look_72 (lv_at hl 5 rfl) ?_
      refine lv_iload hx hb dX5_look_74 (lv_at hl 6 rfl) ?_
      obtain ⟨r10, g11, h⟩ := zb1_s h
      have hFc := va_free (wc := (zfSG cI cO So Sp Go Gp Ss_64h Sa_64h Gs Ga)) hD hS hA [0, 1, 2, 3, 4, 5] (zC_20 (cI := cI) (cB := cB) (cO := cO))
      refine zcp_i (va_runV (As := [.int x5_47h, .int x6_64h]) (rest := []) ⟨hx, hb, hml, hown, hts⟩ (c_X4_targetOf l D cI cB cO So Sp Go Gp Ss_64h Sa_64h Gs Ga x5_47h x6_64h _ _ g11) (cwV 2 hts gX5_look_X4_targetOf rfl rfl rfl kV_X4_targetOf ⟨Nat.le_trans (Nat.le_of_ble_eq_true rfl) hRf, Nat.le_trans (Nat.le_of_ble_eq_true rfl) hRl⟩) (zpreV hK hP hD hS hE hFc [0, 1, 2, 3, 4, 5] (zC_20 (cI := cI) (cB := cB) (cO := cO)) rfl 0 (ci := 4) rfl rfl [.int x5_47h, .int x6_64h]) rfl rfl hl.1 rfl (lv_room (Nat.le_of_ble_eq_true rfl)) dX5_look_76 ⟨Nat.zero_le _, Nat.zero_le _⟩) hP hD hS hFc [0, 1, 2, 3, 4, 5] (zC_20 (cI := cI) (cB := cB) (cO := cO)) (fun H locs hP hS => ?_)
      clear hFc
      refine lv_istore (lv' := [(7, .int r10), (0, .ref So), (1, .ref ra), (2, .int (1 : Int32)), (3, .ref (oo 1)), (4, .ref (oo 2)), (5, .int x5_47h), (6, .int x6_64h)]) hx hb dX5_look_79 hl (by decide) rfl (fun ls hl => ?_)
      refine lv_iload hx hb dX5_look_81 (lv_at hl 0 rfl) ?_
      refine lv_iconst (v := (-1 : Int32)) hx hb dX5_look_83 (by decide) ?_
      obtain ⟨Ss_149, Sa_149, os_149, j12, h⟩ := zb3_s h
      have K149 : ∀ (H : Heap) (locs : List Loc) (ls : Array Slot), va_P D vwCl (zfLK cI cO So Sp Go Gp ra oo Ss_149 Sa_149 Gs Ga os_149) H → va_D A (zfLK cI cO So Sp Go Gp ra oo Ss_149 Sa_149 Gs Ga os_149) → va_S A s.heap H locs → lv_has ls 10 [(0, .ref So), (1, .ref ra), (2, .int (1 : Int32)), (3, .ref (oo 1)), (4, .ref (oo 2)), (5, .int x5_47h), (6, .int x6_64h)] → W p l e R s m args below meth c H locs 0 0 Q (F0 m 149 ls []) := by
        intro H locs ls hP hD hS hl
        refine lv_iinc (v := (x6_64h + (1 : Int32))) (lv' := [(6, .int (x6_64h + (1 : Int32))), (0, .ref So), (1, .ref ra), (2, .int (1 : Int32)), (3, .ref (oo 1)), (4, .ref (oo 2)), (5, .int x5_47h)]) hx hb dX5_look_149 hl (k := 6) rfl rfl (by decide) rfl (fun ls hl => ?_)
        refine lv_goto (tgt := 64) hx hb dX5_look_152 (by decide) ?_
        exact zl64 _ _ _ _ (zend h).symm _ _ _ hP hD hS (lv_sub hl [1, 2, 3, 4, 5, 6, 0] rfl)
      clear h
      have h := j12
      clear j12
      refine lv_icmp_eq (tgt := 149) hx hb dX5_look_84 (by decide) (fun c13 => ?_) (fun c13 => ?_)
      · have h := zif_t c13 h
        cases zend h
        exact K149 _ _ _ hP hD hS (lv_sub hl [1, 2, 3, 4, 5, 6, 7] rfl)
      · have h := zif_f c13 h
        refine lv_aload_n hx hb dX5_look_87 rfl (lv_at hl 1 rfl) ?_
        refine lv_iload hx hb dX5_look_88 (lv_at hl 6 rfl) ?_
        obtain ⟨r14, g15, h⟩ := zb1_s h
        have hFc := va_free (wc := (zwS cI So Sp Go Ss_64h Sa_64h)) hD hS hA [0, 1, 2, 3] (zC_22 (cI := cI) (cB := cB) (cO := cO))
        refine zcp_i (va_runV (As := [.int x5_47h]) (rest := []) ⟨hx, hb, hml, hown, hts⟩ (c_X4_homeOf l D cI cB cO So Sp Go Ss_64h Sa_64h x5_47h _ _ g15) (cwV 1 hts gX5_look_X4_homeOf rfl rfl rfl kV_X4_homeOf ⟨Nat.le_trans (Nat.le_of_ble_eq_true rfl) hRf, Nat.le_trans (Nat.le_of_ble_eq_true rfl) hRl⟩) (zpreV hK hP hD hS hE hFc [0, 1, 2, 3] (zC_22 (cI := cI) (cB := cB) (cO := cO)) rfl 0 (ci := 4) rfl rfl [.int x5_47h]) rfl rfl hl.1 rfl (lv_room (Nat.le_of_ble_eq_true rfl)) dX5_look_90 ⟨Nat.zero_le _, Nat.zero_le _⟩) hP hD hS hFc [0, 1, 2, 3] (zC_22 (cI := cI) (cB := cB) (cO := cO)) (fun H locs hP hS => ?_)
        clear hFc
        refine lv_istore (lv' := [(8, .int r14), (7, .int r10), (0, .ref So), (1, .ref ra), (2, .int (1 : Int32)), (3, .ref (oo 1)), (4, .ref (oo 2)), (5, .int x5_47h), (6, .int x6_64h)]) hx hb dX5_look_93 hl (by decide) rfl (fun ls hl => ?_)
        refine lv_aload_n hx hb dX5_look_95 rfl (lv_at hl 2 rfl) ?_
        refine lv_iload hx hb dX5_look_96 (lv_at hl 7 rfl) ?_
        refine lv_iload hx hb dX5_look_98 (lv_at hl 8 rfl) ?_
        obtain ⟨r16, g17, h⟩ := zb1_s h
        have hFc := va_free (wc := (zfSG cI cO So Sp Go Gp Ss_64h Sa_64h Gs Ga)) hD hS hA [0, 1, 2, 3, 4, 5] (zC_20 (cI := cI) (cB := cB) (cO := cO))
        refine zcp_i (va_runV (As := [.int x5_47h, .int x6_64h]) (rest := []) ⟨hx, hb, hml, hown, hts⟩ (c_X4_neighbourOf l D cI cB cO So Sp Go Gp Ss_64h Sa_64h Gs Ga x5_47h x6_64h _ _ g17) (cwV 2 hts gX5_look_X4_neighbourOf rfl rfl rfl kV_X4_neighbourOf ⟨Nat.le_trans (Nat.le_of_ble_eq_true rfl) hRf, Nat.le_trans (Nat.le_of_ble_eq_true rfl) hRl⟩) (zpreV hK hP hD hS hE hFc [0, 1, 2, 3, 4, 5] (zC_20 (cI := cI) (cB := cB) (cO := cO)) rfl 0 (ci := 4) rfl rfl [.int x5_47h, .int x6_64h]) rfl rfl hl.1 rfl (lv_room (Nat.le_of_ble_eq_true rfl)) dX5_look_100 ⟨Nat.zero_le _, Nat.zero_le _⟩) hP hD hS hFc [0, 1, 2, 3, 4, 5] (zC_20 (cI := cI) (cB := cB) (cO := cO)) (fun H locs hP hS => ?_)
        clear hFc
        refine lv_istore (lv' := [(9, .int r16), (8, .int r14), (7, .int r10), (0, .ref So), (1, .ref ra), (2, .int (1 : Int32)), (3, .ref (oo 1)), (4, .ref (oo 2)), (5, .int x5_47h), (6, .int x6_64h)]) hx hb dX5_look_103 hl (by decide) rfl (fun ls hl => ?_)
        refine lv_aload_n hx hb dX5_look_105 rfl (lv_at hl 3 rfl) ?_
        refine lv_iload hx hb dX5_look_106 (lv_at hl 8 rfl) ?_
        refine lv_iload hx hb dX5_look_108 (lv_at hl 0 rfl) ?_
        refine lv_iload hx hb dX5_look_110 (lv_at hl 2 rfl) ?_
        obtain ⟨Ss_18, Sa_19, g20, h⟩ := zb2_s h
        have hFc := va_free (wc := (zfSG cI cO So Sp Go Gp Ss_64h Sa_64h Gs Ga)) hD hS hA [0, 1, 2, 3, 4, 5] (zC_23 (cI := cI) (cB := cB) (cO := cO))
        refine zcm_v (w2 := (zfLK cI cO So Sp Go Gp ra oo Ss_18 Sa_19 Gs Ga os_64h)) (va_runV (As := [.int x5_47h, .int r16, .int r10]) (rest := []) ⟨hx, hb, hml, hown, hts⟩ (c_X4_leap l D cI cB cO So Sp Go Gp Ss_64h Sa_64h Gs Ga x5_47h r16 r10 _ _ _ g20) (cwV 3 hts gX5_look_X4_leap rfl rfl rfl kV_X4_leap ⟨Nat.le_trans (Nat.le_of_ble_eq_true rfl) hRf, Nat.le_trans (Nat.le_of_ble_eq_true rfl) hRl⟩) (zpreV hK hP hD hS hE hFc [0, 1, 2, 3, 4, 5] (zC_23 (cI := cI) (cB := cB) (cO := cO)) rfl 0 (ci := 4) rfl rfl [.int x5_47h, .int r16, .int r10]) rfl rfl hl.1 rfl (lv_room (Nat.le_of_ble_eq_true rfl)) dX5_look_112 ⟨Nat.zero_le _, Nat.zero_le _⟩) hS hFc (fun H1 t h1 h2 h3 => zM_23 (cI := cI) (cB := cB) (cO := cO) hP hD h1 h2 h3) (fun H locs hP hD hS => ?_)
        clear hFc
        refine lv_aload_n hx hb dX5_look_115 rfl (lv_at hl 3 rfl) ?_
        refine lv_aload_n hx hb dX5_look_116 rfl (lv_at hl 4 rfl) ?_
        refine lv_iload_n hx hb dX5_look_117 rfl (lv_at hl 5 rfl) ?_
        refine lv_iconst (v := (1 : Int32)) hx hb dX5_look_118 (by decide) ?_
        refine lv_iadd hx hb dX5_look_119 ?_
        refine lv_topi (fun k21 ek21 => ?_)
        obtain rfl : k21 = (2 : Int32) := ek21.trans (by decide)
        obtain ⟨Ss_22, Sa_23, os_24, g25, h⟩ := zb3_s h
        have hFc := va_free (wc := (zfLK cI cO So Sp Go Gp ra oo Ss_18 Sa_19 Gs Ga os_64h)) hD hS hA [0, 1, 2, 3, 4, 5, 6, 7, 8, 9, 10, 11, 12, 13, 14, 15] (zC_27 (cI := cI) (cB := cB) (cO := cO))
        refine zcm_v (w2 := (zfLK cI cO So Sp Go Gp ra oo Ss_22 Sa_23 Gs Ga os_24)) (va_runS (As := [.ref So, .ref ra, .int (2 : Int32)]) (rest := []) ⟨hx, hb, hml, hown, hts⟩ (c_X5_look_2 l D cI cB cO So Sp Go Gp ra oo Ss_18 Sa_19 Gs Ga os_64h _ _ _ _ g25) (va_cwS 3 hts gX5_look_X5_look rfl rfl rfl kS_X5_look ⟨Nat.le_trans (Nat.le_of_ble_eq_true rfl) hRf, Nat.le_trans (Nat.le_of_ble_eq_true rfl) hRl⟩) (zpreS hK hP hD hS hE hFc [0, 1, 2, 3, 4, 5, 6, 7, 8, 9, 10, 11, 12, 13, 14, 15] (zC_27 (cI := cI) (cB := cB) (cO := cO)) rfl [.ref So, .ref ra, .int (2 : Int32)]) rfl rfl hl.1 rfl (lv_room (Nat.le_of_ble_eq_true rfl)) dX5_look_120 ⟨Nat.zero_le _, Nat.zero_le _⟩) hS hFc (fun H1 t h1 h2 h3 => zM_27 (cI := cI) (cB := cB) (cO := cO) hP hD h1 h2 h3) (fun H locs hP hD hS => ?_)
        clear hFc
        refine lv_aload_n hx hb dX5_look_123 rfl (lv_at hl 3 rfl) ?_
        refine lv_iload hx hb dX5_look_124 (lv_at hl 8 rfl) ?_
        refine lv_iload hx hb dX5_look_126 (lv_at hl 1 rfl) ?_
        refine lv_iload hx hb dX5_look_128 (lv_at hl 0 rfl) ?_
        refine lv_iload hx hb dX5_look_130 (lv_at hl 9 rfl) ?_
        obtain ⟨Ss_26, Sa_27, g28, h⟩ := zb2_s h
        have hFc := va_free (wc := (zfSG cI cO So Sp Go Gp Ss_22 Sa_23 Gs Ga)) hD hS hA [0, 1, 2, 3, 4, 5] (zC_23 (cI := cI) (cB := cB) (cO := cO))
        refine zcm_v (w2 := (zfLK cI cO So Sp Go Gp ra oo Ss_26 Sa_27 Gs Ga os_24)) (va_runV (As := [.int x5_47h, .int r14, .int r16, .int x6_64h]) (rest := []) ⟨hx, hb, hml, hown, hts⟩ (c_X4_takeBack l D cI cB cO So Sp Go Gp Ss_22 Sa_23 Gs Ga x5_47h r14 r16 x6_64h _ _ _ g28) (cwV 4 hts gX5_look_X4_takeBack rfl rfl rfl kV_X4_takeBack ⟨Nat.le_trans (Nat.le_of_ble_eq_true rfl) hRf, Nat.le_trans (Nat.le_of_ble_eq_true rfl) hRl⟩) (zpreV hK hP hD hS hE hFc [0, 1, 2, 3, 4, 5] (zC_23 (cI := cI) (cB := cB) (cO := cO)) rfl 0 (ci := 4) rfl rfl [.int x5_47h, .int r14, .int r16, .int x6_64h]) rfl rfl hl.1 rfl (lv_room (Nat.le_of_ble_eq_true rfl)) dX5_look_132 ⟨Nat.zero_le _, Nat.zero_le _⟩) hS hFc (fun H1 t h1 h2 h3 => zM_23 (cI := cI) (cB := cB) (cO := cO) hP hD h1 h2 h3) (fun H locs hP hD hS => ?_)
        clear hFc
        refine lv_aload_n hx hb dX5_look_135 rfl (lv_at hl 6 rfl) ?_
        refine lv_bipush (v := (100 : Int32)) hx hb dX5_look_136 (by decide) ?_
        refine lv_iload hx hb dX5_look_138 (lv_at hl 8 rfl) ?_
        refine lv_imul hx hb dX5_look_140 ?_
        refine lv_iload hx hb dX5_look_141 (lv_at hl 2 rfl) ?_
        refine lv_iadd hx hb dX5_look_143 ?_
        refine lv_aload hx hb dX5_look_144 (lv_at hl 7 rfl) ?_
        obtain ⟨Os_29, g30, h⟩ := zb1_s h
        have hFc := va_free (wc := (zfOO cI cO (oo 1) (oo 2) (os_24 1) (os_24 2))) hD hS hA [8, 9] (zC_38 (cI := cI) (cB := cB) (cO := cO))
        refine zcm_v (w2 := (zfLK cI cO So Sp Go Gp ra oo Ss_26 Sa_27 Gs Ga (va_up os_24 1 Os_29))) (va_runV (As := [.int (((100 : Int32) * x5_47h) + r10), .ref (oo 2)]) (rest := []) ⟨hx, hb, hml, hown, hts⟩ (c_X1_take l D cI cB cO (oo 1) (oo 2) (os_24 1) (os_24 2) (((100 : Int32) * x5_47h) + r10) _ _ g30) (cwV 2 hts gX5_look_X1_take rfl rfl rfl kV_X1_take ⟨Nat.le_trans (Nat.le_of_ble_eq_true rfl) hRf, Nat.le_trans (Nat.le_of_ble_eq_true rfl) hRl⟩) (zpreV hK hP hD hS hE hFc [8, 9] (zC_38 (cI := cI) (cB := cB) (cO := cO)) rfl 8 (ci := 1) rfl rfl [.int (((100 : Int32) * x5_47h) + r10), .ref (oo 2)]) rfl rfl hl.1 rfl (lv_room (Nat.le_of_ble_eq_true rfl)) dX5_look_146 ⟨Nat.zero_le _, Nat.zero_le _⟩) hS hFc (fun H1 t h1 h2 h3 => zM_38 (cI := cI) (cB := cB) (cO := cO) hP hD h1 h2 h3) (fun H locs hP hD hS => ?_)
        clear hFc
        obtain ⟨os_31, eos_31, hP, hD⟩ : ∃ y9, y9 = (va_up os_24 1 Os_29) ∧ va_P D vwCl (zfLK cI cO So Sp Go Gp ra oo Ss_26 Sa_27 Gs Ga y9) H ∧ va_D A (zfLK cI cO So Sp Go Gp ra oo Ss_26 Sa_27 Gs Ga y9) := ⟨_, rfl, hP, hD⟩
        have h := zlt_s h eos_31
        cases zend h
        exact K149 _ _ _ hP hD hS (lv_sub hl [3, 4, 5, 6, 7, 8, 9] rfl)
set_option maxHeartbeats 4000000 in
set_option maxRecDepth 100000 in
theorem c_X5_look_0 (l : Launch) (D : va_G) (cI cB cO : ClassId) (So : Nat) (Sp : Nat → Nat) (Go : Nat) (Gp : Nat → Nat) (ra : Nat) (oo : Nat → Nat) (Ss : Nat → Int32) (Sa : Nat → Nat → Int32) (Gs : Nat → Int32) (Ga : Nat → Nat → Int32) (os : Nat → Nat → Int32)  (Ss' : Nat → Int32) (Sa' : Nat → Nat → Int32) (os' : Nat → Nat → Int32) (sz : Nat) (h : fX5_look_0 Ss Sa Gs Ga os = some (Ss', Sa', os')) : Met l yX5_look wsX5_look ({ frames := 11, cells := 0, slots := 0, locals := 297 } : Room) (va_Pc [.ref So, .ref ra, .int (0 : Int32)] (zPre D (zTY cI cB cO) (zfLK cI cO So Sp Go Gp ra oo Ss Sa Gs Ga os) sz)) (va_Qv (fun (_ : Unit) => True) (fun _ => zPost D (zTY cI cB cO) (zfLK cI cO So Sp Go Gp ra oo Ss' Sa' Gs Ga os') (va_A (zfLK cI cO So Sp Go Gp ra oo Ss Sa Gs Ga os) sz)) (va_A (zfLK cI cO So Sp Go Gp ra oo Ss Sa Gs Ga os) sz)) 0 0 (va_A (zfLK cI cO So Sp Go Gp ra oo Ss Sa Gs Ga os) sz) := by
  unfold fX5_look_0 at h
  refine zmet_v (cc := cX5_look) (maxL := 10) (by decide) rfl (Nat.le_of_ble_eq_true rfl) rfl rfl ?_
  intro p e s m args below meth c R Q A ls hx hb hts hown hml hK hP hD hE hA hS hRf hRl hl hq
  have hown : s.vm.findClass RX5 = some m.cls := hown
  have hl : lv_has ls 10 [(0, .ref So), (1, .ref ra), (2, .int (0 : Int32))] := hl
  have inX4 : ∀ w ∈ u_ws RX4 TX4 8, w ∈ wsX5_look := by decide +kernel
  have lk98 : (Cond.fieldLinkNest RX5 98 "PegField$State" "pegs" "I" "PegField").before args s = true := hE.2.use (by decide +kernel)
  have lk150 : (Cond.fieldLinkNest RX5 150 "PegField$State" "onBoard" "I" "PegField").before args s = true := hE.2.use (by decide +kernel)
  refine lv_iload_n hx hb dX5_look_0 rfl (lv_at hl 2 rfl) ?_
  refine lv_if_lt (tgt := 16) hx hb dX5_look_1 (by decide) (fun q => absurd q (by decide)) (fun _ => ?_)
  refine lv_iload_n hx hb dX5_look_4 rfl (lv_at hl 2 rfl) ?_
  refine lv_aload_n hx hb dX5_look_5 rfl (lv_at hl 1 rfl) ?_
  refine va_alen hx hb hK hP 6 2 rfl rfl (v := (9 : Int32)) rfl dX5_look_6 ?_
  refine lv_icmp_ge (tgt := 16) hx hb dX5_look_7 (by decide) (fun q => absurd q (by decide)) (fun _ => ?_)
  refine lv_aload_n hx hb dX5_look_10 rfl (lv_at hl 1 rfl) ?_
  refine lv_iload_n hx hb dX5_look_11 rfl (lv_at hl 2 rfl) ?_
  refine va_aldq hx hb hK hP 6 2 rfl rfl (vp_in_iff.mpr (by decide)) dX5_look_12 ?_
  refine W.eq (g2 := F0 m 13 ls [.ref (oo 0)]) rfl ?_
  refine lv_ifnonnull (tgt := 17) hx hb dX5_look_13 (by decide) ?_
  refine lv_aload_n hx hb dX5_look_17 rfl (lv_at hl 1 rfl) ?_
  refine lv_iload_n hx hb dX5_look_18 rfl (lv_at hl 2 rfl) ?_
  refine va_aldq hx hb hK hP 6 2 rfl rfl (vp_in_iff.mpr (by decide)) dX5_look_19 ?_
  refine W.eq (g2 := F0 m 20 ls [.ref (oo 0)]) rfl ?_
  refine lv_astore_n (lv' := [(3, .ref (oo 0)), (0, .ref So), (1, .ref ra), (2, .int (0 : Int32))]) hx hb dX5_look_20 rfl hl (by decide) rfl (fun ls hl => ?_)
  refine lv_aload_n hx hb dX5_look_21 rfl (lv_at hl 0 rfl) ?_
  obtain ⟨Os_1, g2, h⟩ := zb1_s h
  have hFc := va_free (wc := (zwO (oo 0) (os 0))) hD hS hA [7] (zC_39 (cI := cI) (cB := cB) (cO := cO))
  refine zcm_v (w2 := (zfLK cI cO So Sp Go Gp ra oo Ss Sa Gs Ga (va_up os 0 Os_1))) (va_runV (As := []) (rest := []) ⟨hx, hb, hml, hown, hts⟩ (c_X1_begin l D cI cB cO (oo 0) (os 0) _ _ g2) (cwV 0 hts gX5_look_X1_begin rfl rfl rfl kV_X1_begin ⟨Nat.le_trans (Nat.le_of_ble_eq_true rfl) hRf, Nat.le_trans (Nat.le_of_ble_eq_true rfl) hRl⟩) (zpreV hK hP hD hS hE hFc [7] (zC_39 (cI := cI) (cB := cB) (cO := cO)) rfl 7 (ci := 1) rfl rfl []) rfl rfl hl.1 rfl (lv_room (Nat.le_of_ble_eq_true rfl)) dX5_look_22 ⟨Nat.zero_le _, Nat.zero_le _⟩) hS hFc (fun H1 t h1 h2 h3 => zM_39 (cI := cI) (cB := cB) (cO := cO) hP hD h1 h2 h3) (fun H locs hP hD hS => ?_)
  clear hFc
  obtain ⟨os_3, eos_3, hP, hD⟩ : ∃ y9, y9 = (va_up os 0 Os_1) ∧ va_P D vwCl (zfLK cI cO So Sp Go Gp ra oo Ss Sa Gs Ga y9) H ∧ va_D A (zfLK cI cO So Sp Go Gp ra oo Ss Sa Gs Ga y9) := ⟨_, rfl, hP, hD⟩
  have h := zlt_s h eos_3
  refine lv_iload_n hx hb dX5_look_25 rfl (lv_at hl 3 rfl) ?_
  refine lv_iconst (v := (1 : Int32)) hx hb dX5_look_26 (by decide) ?_
  refine lv_iadd hx hb dX5_look_27 ?_
  refine lv_topi (fun k4 ek4 => ?_)
  obtain rfl : k4 = (1 : Int32) := ek4.trans (by decide)
  refine lv_aload_n hx hb dX5_look_28 rfl (lv_at hl 2 rfl) ?_
  refine va_alen hx hb hK hP 6 2 rfl rfl (v := (9 : Int32)) rfl dX5_look_29 ?_
  refine lv_icmp_ge (tgt := 41) hx hb dX5_look_30 (by decide) (fun q => absurd q (by decide)) (fun _ => ?_)
  refine lv_aload_n hx hb dX5_look_33 rfl (lv_at hl 2 rfl) ?_
  refine lv_iload_n hx hb dX5_look_34 rfl (lv_at hl 3 rfl) ?_
  refine lv_iconst (v := (1 : Int32)) hx hb dX5_look_35 (by decide) ?_
  refine lv_iadd hx hb dX5_look_36 ?_
  refine lv_topi (fun k5 ek5 => ?_)
  obtain rfl : k5 = (1 : Int32) := ek5.trans (by decide)
  refine va_aldq hx hb hK hP 6 2 rfl rfl (vp_in_iff.mpr (by decide)) dX5_look_37 ?_
  refine W.eq (g2 := F0 m 38 ls [.ref (oo 1)]) rfl ?_
  refine lv_goto (tgt := 42) hx hb dX5_look_38 (by decide) ?_
  refine lv_astore (lv' := [(4, .ref (oo 1)), (3, .ref (oo 0)), (0, .ref So), (1, .ref ra), (2, .int (0 : Int32))]) hx hb dX5_look_42 hl (by decide) rfl (fun ls hl => ?_)
  refine lv_iconst (v := (0 : Int32)) hx hb dX5_look_44 (by decide) ?_
  refine lv_istore (lv' := [(5, .int (0 : Int32)), (4, .ref (oo 1)), (3, .ref (oo 0)), (0, .ref So), (1, .ref ra), (2, .int (0 : Int32))]) hx hb dX5_look_45 hl (by decide) rfl (fun ls hl => ?_)
  obtain ⟨Ss_161x47, Sa_161x47, os_161x47, i38, h⟩ := zb3_s h
  have KX161 : ∀ (H : Heap) (locs : List Loc) (ls : Array Slot), va_P D vwCl (zfLK cI cO So Sp Go Gp ra oo Ss_161x47 Sa_161x47 Gs Ga os_161x47) H → va_D A (zfLK cI cO So Sp Go Gp ra oo Ss_161x47 Sa_161x47 Gs Ga os_161x47) → va_S A s.heap H locs → lv_has ls 10 [(0, .ref So), (3, .ref (oo 0))] → W p l e R s m args below meth c H locs 0 0 Q (F0 m 161 ls []) := by
    intro H locs ls hP hD hS hl
    refine lv_aload_n hx hb dX5_look_161 rfl (lv_at hl 1 rfl) ?_
    refine lv_aload_n hx hb dX5_look_162 rfl (lv_at hl 0 rfl) ?_
    refine va_getN (D := D) (ci := 4) (v := .int (Ss_161x47 3)) (C := RX4) (T := TX4) (N := 8) hx hb hts inX4 hown hK hP 0 rfl rfl 3 (by decide) lk150 (fun _ h9 => h9) rfl dX5_look_163 ?_
    refine lv_aload_n hx hb dX5_look_166 rfl (lv_at hl 0 rfl) ?_
    obtain ⟨r33, g34, h⟩ := zb1_s h
    have hFc := va_free (wc := (zfSG cI cO So Sp Go Gp Ss_161x47 Sa_161x47 Gs Ga)) hD hS hA [0, 1, 2, 3, 4, 5] (zC_20 (cI := cI) (cB := cB) (cO := cO))
    refine zcp_i (va_runV (As := []) (rest := [.int (Ss_161x47 3), .ref (oo 0)]) ⟨hx, hb, hml, hown, hts⟩ (c_X4_aloneBit l D cI cB cO So Sp Go Gp Ss_161x47 Sa_161x47 Gs Ga _ _ g34) (cwV 0 hts gX5_look_X4_aloneBit rfl rfl rfl kV_X4_aloneBit ⟨Nat.le_trans (Nat.le_of_ble_eq_true rfl) hRf, Nat.le_trans (Nat.le_of_ble_eq_true rfl) hRl⟩) (zpreV hK hP hD hS hE hFc [0, 1, 2, 3, 4, 5] (zC_20 (cI := cI) (cB := cB) (cO := cO)) rfl 0 (ci := 4) rfl rfl []) rfl rfl hl.1 rfl (lv_room (Nat.le_of_ble_eq_true rfl)) dX5_look_167 ⟨Nat.zero_le _, Nat.zero_le _⟩) hP hD hS hFc [0, 1, 2, 3, 4, 5] (zC_20 (cI := cI) (cB := cB) (cO := cO)) (fun H locs hP hS => ?_)
    clear hFc
    obtain ⟨Os_35, g36, h⟩ := zb1_s h
    have hFc := va_free (wc := (zwO (oo 0) (os_161x47 0))) hD hS hA [7] (zC_39 (cI := cI) (cB := cB) (cO := cO))
    refine zcm_v (w2 := (zfLK cI cO So Sp Go Gp ra oo Ss_161x47 Sa_161x47 Gs Ga (va_up os_161x47 0 Os_35))) (va_runV (As := [.int (Ss_161x47 3), .int r33]) (rest := []) ⟨hx, hb, hml, hown, hts⟩ (c_X1_end l D cI cB cO (oo 0) (os_161x47 0) (Ss_161x47 3) r33 _ _ g36) (cwV 2 hts gX5_look_X1_end rfl rfl rfl kV_X1_end ⟨Nat.le_trans (Nat.le_of_ble_eq_true rfl) hRf, Nat.le_trans (Nat.le_of_ble_eq_true rfl) hRl⟩) (zpreV hK hP hD hS hE hFc [7] (zC_39 (cI := cI) (cB := cB) (cO := cO)) rfl 7 (ci := 1) rfl rfl [.int (Ss_161x47 3), .int r33]) rfl rfl hl.1 rfl (lv_room (Nat.le_of_ble_eq_true rfl)) dX5_look_170 ⟨Nat.zero_le _, Nat.zero_le _⟩) hS hFc (fun H1 t h1 h2 h3 => zM_39 (cI := cI) (cB := cB) (cO := cO) hP hD h1 h2 h3) (fun H locs hP hD hS => ?_)
    clear hFc
    obtain ⟨os_37, eos_37, hP, hD⟩ : ∃ y9, y9 = (va_up os_161x47 0 Os_35) ∧ va_P D vwCl (zfLK cI cO So Sp Go Gp ra oo Ss_161x47 Sa_161x47 Gs Ga y9) H ∧ va_D A (zfLK cI cO So Sp Go Gp ra oo Ss_161x47 Sa_161x47 Gs Ga y9) := ⟨_, rfl, hP, hD⟩
    have h := zlt_s h eos_37
    cases zend h
    exact hq hP hD hS dX5_look_173
  clear h
  refine zi4_ind (P := (fun (x5_47h : Int32) (Ss_47h : Nat → Int32) (Sa_47h : Nat → Nat → Int32) (os_47h : Nat → Nat → Int32) => ∀ (H : Heap) (locs : List Loc) (ls : Array Slot), va_P D vwCl (zfLK cI cO So Sp Go Gp ra oo Ss_47h Sa_47h Gs Ga os_47h) H → va_D A (zfLK cI cO So Sp Go Gp ra oo Ss_47h Sa_47h Gs Ga os_47h) → va_S A s.heap H locs → lv_has ls 10 [(0, .ref So), (1, .ref ra), (2, .int (0 : Int32)), (3, .ref (oo 0)), (4, .ref (oo 1)), (5, .int x5_47h)] → W p l e R s m args below meth c H locs 0 0 Q (F0 m 47 ls []))) ?_ i38 _ _ _ hP hD hS (lv_sub hl [3, 4, 5, 2, 1, 0] rfl)
  clear i38 hP hD hS hl
  intro x5_47h Ss_47h Sa_47h os_47h z47 h zl47 zr47 H locs ls hP hD hS hl
  refine lv_iload hx hb dX5_look_47 (lv_at hl 5 rfl) ?_
  refine lv_aload_n hx hb dX5_look_49 rfl (lv_at hl 0 rfl) ?_
  refine va_getN (D := D) (ci := 4) (v := .int (Ss_47h 2)) (C := RX4) (T := TX4) (N := 8) hx hb hts inX4 hown hK hP 0 rfl rfl 2 (by decide) lk98 (fun _ h9 => h9) rfl dX5_look_50 ?_
  refine lv_icmp_ge (tgt := 161) hx hb dX5_look_53 (by decide) (fun c7 => ?_) (fun c7 => ?_)
  · have h := zif_t c7 h
    cases zr47 _ (zend h).symm
    exact KX161 _ _ _ hP hD hS (lv_sub hl [0, 3] rfl)
  · have h := zif_f c7 h
    refine lv_aload hx hb dX5_look_56 (lv_at hl 4 rfl) ?_
    refine lv_ifnull hx hb dX5_look_58 ?_
    refine lv_iconst (v := (0 : Int32)) hx hb dX5_look_61 (by decide) ?_
    refine lv_istore (lv' := [(6, .int (0 : Int32)), (0, .ref So), (1, .ref ra), (2, .int (0 : Int32)), (3, .ref (oo 0)), (4, .ref (oo 1)), (5, .int x5_47h)]) hx hb dX5_look_62 hl (by decide) rfl (fun ls hl => ?_)
    obtain ⟨Ss_155x64, Sa_155x64, os_155x64, i32, h⟩ := zb3_s h
    have KX155 : ∀ (H : Heap) (locs : List Loc) (ls : Array Slot), va_P D vwCl (zfLK cI cO So Sp Go Gp ra oo Ss_155x64 Sa_155x64 Gs Ga os_155x64) H → va_D A (zfLK cI cO So Sp Go Gp ra oo Ss_155x64 Sa_155x64 Gs Ga os_155x64) → va_S A s.heap H locs → lv_has ls 10 [(0, .ref So), (1, .ref ra), (2, .int (0 : Int32)), (3, .ref (oo 0)), (4, .ref (oo 1)), (5, .int x5_47h)] → W p l e R s m args below meth c H locs 0 0 Q (F0 m 155 ls []) := by
      intro H locs ls hP hD hS hl
      refine lv_iinc (v := (x5_47h + (1 : Int32))) (lv' := [(5, .int (x5_47h + (1 : Int32))), (0, .ref So), (1, .ref ra), (2, .int (0 : Int32)), (3, .ref (oo 0)), (4, .ref (oo 1))]) hx hb dX5_look_155 hl (k := 5) rfl rfl (by decide) rfl (fun ls hl => ?_)
      refine lv_goto (tgt := 47) hx hb dX5_look_158 (by decide) ?_
      exact zl47 _ _ _ _ (zend h).symm _ _ _ hP hD hS (lv_sub hl [1, 2, 3, 4, 5, 0] rfl)
    clear h
    refine zi4_ind (P := (fun (x6_64h : Int32) (Ss_64h : Nat → Int32) (Sa_64h : Nat → Nat → Int32) (os_64h : Nat → Nat → Int32) => ∀ (H : Heap) (locs : List Loc) (ls : Array Slot), va_P D vwCl (zfLK cI cO So Sp Go Gp ra oo Ss_64h Sa_64h Gs Ga os_64h) H → va_D A (zfLK cI cO So Sp Go Gp ra oo Ss_64h Sa_64h Gs Ga os_64h) → va_S A s.heap H locs → lv_has ls 10 [(0, .ref So), (1, .ref ra), (2, .int (0 : Int32)), (3, .ref (oo 0)), (4, .ref (oo 1)), (5, .int x5_47h), (6, .int x6_64h)] → W p l e R s m args below meth c H locs 0 0 Q (F0 m 64 ls []))) ?_ i32 _ _ _ hP hD hS (lv_sub hl [1, 2, 3, 4, 5, 6, 0] rfl)
    clear i32 hP hD hS hl
    intro x6_64h Ss_64h Sa_64h os_64h z64 h zl64 zr64 H locs ls hP hD hS hl
    refine lv_iload hx hb dX5_look_64 (lv_at hl 6 rfl) ?_
    refine lv_bipush (v := (8 : Int32)) hx hb dX5_look_66 (by decide) ?_
    refine lv_icmp_ge (tgt := 155) hx hb dX5_look_68 (by decide) (fun c9 => ?_) (fun c9 => ?_)
    · have h := zif_t c9 h
      cases zr64 _ (zend h).symm
      exact KX155 _ _ _ hP hD hS (lv_sub hl [0, 1, 2, 3, 4, 5] rfl)
    · have h := zif_f c9 h
      refine lv_aload_n hx hb dX5_look_71 rfl (lv_at hl 0 rfl) ?_
      refine lv_iload hx hb dX5_look_72 (lv_at hl 5 rfl) ?_
      refine lv_iload hx hb dX5_look_74 (lv_at hl 6 rfl) ?_
      obtain ⟨r10, g11, h⟩ := zb1_s h
      have hFc := va_free (wc := (zfSG cI cO So Sp Go Gp Ss_64h Sa_64h Gs Ga)) hD hS hA [0, 1, 2, 3, 4, 5] (zC_20 (cI := cI) (cB := cB) (cO := cO))
      refine zcp_i (va_runV (As := [.int x5_47h, .int x6_64h]) (rest := []) ⟨hx, hb, hml, hown, hts⟩ (c_X4_targetOf l D cI cB cO So Sp Go Gp Ss_64h Sa_64h Gs Ga x5_47h x6_64h _ _ g11) (cwV 2 hts gX5_look_X4_targetOf rfl rfl rfl kV_X4_targetOf ⟨Nat.le_trans (Nat.le_of_ble_eq_true rfl) hRf, Nat.le_trans (Nat.le_of_ble_eq_true rfl) hRl⟩) (zpreV hK hP hD hS hE hFc [0, 1, 2, 3, 4, 5] (zC_20 (cI := cI) (cB := cB) (cO := cO)) rfl 0 (ci := 4) rfl rfl [.int x5_47h, .int x6_64h]) rfl rfl hl.1 rfl (lv_room (Nat.le_of_ble_eq_true rfl)) dX5_look_76 ⟨Nat.zero_le _, Nat.zero_le _⟩) hP hD hS hFc [0, 1, 2, 3, 4, 5] (zC_20 (cI := cI) (cB := cB) (cO := cO)) (fun H locs hP hS => ?_)
      clear hFc
      refine lv_istore (lv' := [(7, .int r10), (0, .ref So), (1, .ref ra), (2, .int (0 : Int32)), (3, .ref (oo 0)), (4, .ref (oo 1)), (5, .int x5_47h), (6, .int x6_64h)]) hx hb dX5_look_79 hl (by decide) rfl (fun ls hl => ?_)
      refine lv_iload hx hb dX5_look_81 (lv_at hl 0 rfl) ?_
      refine lv_iconst (v := (-1 : Int32)) hx hb dX5_look_83 (by decide) ?_
      obtain ⟨Ss_149, Sa_149, os_149, j12, h⟩ := zb3_s h
      have K149 : ∀ (H : Heap) (locs : List Loc) (ls : Array Slot), va_P D vwCl (zfLK cI cO So Sp Go Gp ra oo Ss_149 Sa_149 Gs Ga os_149) H → va_D A (zfLK cI cO So Sp Go Gp ra oo Ss_149 Sa_149 Gs Ga os_149) → va_S A s.heap H locs → lv_has ls 10 [(0, .ref So), (1, .ref ra), (2, .int (0 : Int32)), (3, .ref (oo 0)), (4, .ref (oo 1)), (5, .int x5_47h), (6, .int x6_64h)] → W p l e R s m args below meth c H locs 0 0 Q (F0 m 149 ls []) := by
        intro H locs ls hP hD hS hl
        refine lv_iinc (v := (x6_64h + (1 : Int32))) (lv' := [(6, .int (x6_64h + (1 : Int32))), (0, .ref So), (1, .ref ra), (2, .int (0 : Int32)), (3, .ref (oo 0)), (4, .ref (oo 1)), (5, .int x5_47h)]) hx hb dX5_look_149 hl (k := 6) rfl rfl (by decide) rfl (fun ls hl => ?_)
        refine lv_goto (tgt := 64) hx hb dX5_look_152 (by decide) ?_
        exact zl64 _ _ _ _ (zend h).symm _ _ _ hP hD hS (lv_sub hl [1, 2, 3, 4, 5, 6, 0] rfl)
      clear h
      have h := j12
      clear j12
      refine lv_icmp_eq (tgt := 149) hx hb dX5_look_84 (by decide) (fun c13 => ?_) (fun c13 => ?_)
      · have h := zif_t c13 h
        cases zend h
        exact K149 _ _ _ hP hD hS (lv_sub hl [1, 2, 3, 4, 5, 6, 7] rfl)
      · have h := zif_f c13 h
        refine lv_aload_n hx hb dX5_look_87 rfl (lv_at hl 1 rfl) ?_
        refine lv_iload hx hb dX5_look_88 (lv_at hl 6 rfl) ?_
        obtain ⟨r14, g15, h⟩ := zb1_s h
        have hFc := va_free (wc := (zwS cI So Sp Go Ss_64h Sa_64h)) hD hS hA [0, 1, 2, 3] (zC_22 (cI := cI) (cB := cB) (cO := cO))
        refine zcp_i (va_runV (As := [.int x5_47h]) (rest := []) ⟨hx, hb, hml, hown, hts⟩ (c_X4_homeOf l D cI cB cO So Sp Go Ss_64h Sa_64h x5_47h _ _ g15) (cwV 1 hts gX5_look_X4_homeOf rfl rfl rfl kV_X4_homeOf ⟨Nat.le_trans (Nat.le_of_ble_eq_true rfl) hRf, Nat.le_trans (Nat.le_of_ble_eq_true rfl) hRl⟩) (zpreV hK hP hD hS hE hFc [0, 1, 2, 3] (zC_22 (cI := cI) (cB := cB) (cO := cO)) rfl 0 (ci := 4) rfl rfl [.int x5_47h]) rfl rfl hl.1 rfl (lv_room (Nat.le_of_ble_eq_true rfl)) dX5_look_90 ⟨Nat.zero_le _, Nat.zero_le _⟩) hP hD hS hFc [0, 1, 2, 3] (zC_22 (cI := cI) (cB := cB) (cO := cO)) (fun H locs hP hS => ?_)
        clear hFc
        refine lv_istore (lv' := [(8, .int r14), (7, .int r10), (0, .ref So), (1, .ref ra), (2, .int (0 : Int32)), (3, .ref (oo 0)), (4, .ref (oo 1)), (5, .int x5_47h), (6, .int x6_64h)]) hx hb dX5_look_93 hl (by decide) rfl (fun ls hl => ?_)
        refine lv_aload_n hx hb dX5_look_95 rfl (lv_at hl 2 rfl) ?_
        refine lv_iload hx hb dX5_look_96 (lv_at hl 7 rfl) ?_
        refine lv_iload hx hb dX5_look_98 (lv_at hl 8 rfl) ?_
        obtain ⟨r16, g17, h⟩ := zb1_s h
        have hFc := va_free (wc := (zfSG cI cO So Sp Go Gp Ss_64h Sa_64h Gs Ga)) hD hS hA [0, 1, 2, 3, 4, 5] (zC_20 (cI := cI) (cB := cB) (cO := cO))
        refine zcp_i (va_runV (As := [.int x5_47h, .int x6_64h]) (rest := []) ⟨hx, hb, hml, hown, hts⟩ (c_X4_neighbourOf l D cI cB cO So Sp Go Gp Ss_64h Sa_64h Gs Ga x5_47h x6_64h _ _ g17) (cwV 2 hts gX5_look_X4_neighbourOf rfl rfl rfl kV_X4_neighbourOf ⟨Nat.le_trans (Nat.le_of_ble_eq_true rfl) hRf, Nat.le_trans (Nat.le_of_ble_eq_true rfl) hRl⟩) (zpreV hK hP hD hS hE hFc [0, 1, 2, 3, 4, 5] (zC_20 (cI := cI) (cB := cB) (cO := cO)) rfl 0 (ci := 4) rfl rfl [.int x5_47h, .int x6_64h]) rfl rfl hl.1 rfl (lv_room (Nat.le_of_ble_eq_true rfl)) dX5_look_100 ⟨Nat.zero_le _, Nat.zero_le _⟩) hP hD hS hFc [0, 1, 2, 3, 4, 5] (zC_20 (cI := cI) (cB := cB) (cO := cO)) (fun H locs hP hS => ?_)
        clear hFc
        refine lv_istore (lv' := [(9, .int r16), (8, .int r14), (7, .int r10), (0, .ref So), (1, .ref ra), (2, .int (0 : Int32)), (3, .ref (oo 0)), (4, .ref (oo 1)), (5, .int x5_47h), (6, .int x6_64h)]) hx hb dX5_look_103 hl (by decide) rfl (fun ls hl => ?_)
        refine lv_aload_n hx hb dX5_look_105 rfl (lv_at hl 3 rfl) ?_
        refine lv_iload hx hb dX5_look_106 (lv_at hl 8 rfl) ?_
        refine lv_iload hx hb dX5_look_108 (lv_at hl 0 rfl) ?_
        refine lv_iload hx hb dX5_look_110 (lv_at hl 2 rfl) ?_
        obtain ⟨Ss_18, Sa_19, g20, h⟩ := zb2_s h
        have hFc := va_free (wc := (zfSG cI cO So Sp Go Gp Ss_64h Sa_64h Gs Ga)) hD hS hA [0, 1, 2, 3, 4, 5] (zC_23 (cI := cI) (cB := cB) (cO := cO))
        refine zcm_v (w2 := (zfLK cI cO So Sp Go Gp ra oo Ss_18 Sa_19 Gs Ga os_64h)) (va_runV (As := [.int x5_47h, .int r16, .int r10]) (rest := []) ⟨hx, hb, hml, hown, hts⟩ (c_X4_leap l D cI cB cO So Sp Go Gp Ss_64h Sa_64h Gs Ga x5_47h r16 r10 _ _ _ g20) (cwV 3 hts gX5_look_X4_leap rfl rfl rfl kV_X4_leap ⟨Nat.le_trans (Nat.le_of_ble_eq_true rfl) hRf, Nat.le_trans (Nat.le_of_ble_eq_true rfl) hRl⟩) (zpreV hK hP hD hS hE hFc [0, 1, 2, 3, 4, 5] (zC_23 (cI := cI) (cB := cB) (cO := cO)) rfl 0 (ci := 4) rfl rfl [.int x5_47h, .int r16, .int r10]) rfl rfl hl.1 rfl (lv_room (Nat.le_of_ble_eq_true rfl)) dX5_look_112 ⟨Nat.zero_le _, Nat.zero_le _⟩) hS hFc (fun H1 t h1 h2 h3 => zM_23 (cI := cI) (cB := cB) (cO := cO) hP hD h1 h2 h3) (fun H locs hP hD hS => ?_)
        clear hFc
        refine lv_aload_n hx hb dX5_look_115 rfl (lv_at hl 3 rfl) ?_
        refine lv_aload_n hx hb dX5_look_116 rfl (lv_at hl 4 rfl) ?_
        refine lv_iload_n hx hb dX5_look_117 rfl (lv_at hl 5 rfl) ?_
        refine lv_iconst (v := (1 : Int32)) hx hb dX5_look_118 (by decide) ?_
        refine lv_iadd hx hb dX5_look_119 ?_
        refine lv_topi (fun k21 ek21 => ?_)
        obtain rfl : k21 = (1 : Int32) := ek21.trans (by decide)
        obtain ⟨Ss_22, Sa_23, os_24, g25, h⟩ := zb3_s h
        have hFc := va_free (wc := (zfLK cI cO So Sp Go Gp ra oo Ss_18 Sa_19 Gs Ga os_64h)) hD hS hA [0, 1, 2, 3, 4, 5, 6, 7, 8, 9, 10, 11, 12, 13, 14, 15] (zC_27 (cI := cI) (cB := cB) (cO := cO))
        refine zcm_v (w2 := (zfLK cI cO So Sp Go Gp ra oo Ss_22 Sa_23 Gs Ga os_24)) (va_runS (As := [.ref So, .ref ra, .int (1 : Int32)]) (rest := []) ⟨hx, hb, hml, hown, hts⟩ (c_X5_look_1 l D cI cB cO So Sp Go Gp ra oo Ss_18 Sa_19 Gs Ga os_64h _ _ _ _ g25) (va_cwS 3 hts gX5_look_X5_look rfl rfl rfl kS_X5_look ⟨Nat.le_trans (Nat.le_of_ble_eq_true rfl) hRf, Nat.le_trans (Nat.le_of_ble_eq_true rfl) hRl⟩) (zpreS hK hP hD hS hE hFc [0, 1, 2, 3, 4, 5, 6, 7, 8, 9, 10, 11, 12, 13, 14, 15] (zC_27 (cI := cI) (cB := cB) (cO := cO)) rfl [.ref So, .ref ra, .int (1 : Int32)]) rfl rfl hl.1 rfl (lv_room (Nat.le_of_ble_eq_true rfl)) dX5_look_120 ⟨Nat.zero_le _, Nat.zero_le _⟩) hS hFc (fun H1 t h1 h2 h3 => zM_27 (cI := cI) (cB := cB) (cO := cO) hP hD h1 h2 h3) (fun H locs hP hD hS => ?_)
        clear hFc
        refine lv_aload_n hx hb dX5_look_123 rfl (lv_at hl 3 rfl) ?_
        refine lv_iload hx hb dX5_look_124 (lv_at hl 8 rfl) ?_
        refine lv_iload hx hb dX5_look_126 (lv_at hl 1 rfl) ?_
        refine lv_iload hx hb dX5_look_128 (lv_at hl 0 rfl) ?_
        refine lv_iload hx hb dX5_look_130 (lv_at hl 9 rfl) ?_
        obtain ⟨Ss_26, Sa_27, g28, h⟩ := zb2_s h
        have hFc := va_free (wc := (zfSG cI cO So Sp Go Gp Ss_22 Sa_23 Gs Ga)) hD hS hA [0, 1, 2, 3, 4, 5] (zC_23 (cI := cI) (cB := cB) (cO := cO))
        refine zcm_v (w2 := (zfLK cI cO So Sp Go Gp ra oo Ss_26 Sa_27 Gs Ga os_24)) (va_runV (As := [.int x5_47h, .int r14, .int r16, .int x6_64h]) (rest := []) ⟨hx, hb, hml, hown, hts⟩ (c_X4_takeBack l D cI cB cO So Sp Go Gp Ss_22 Sa_23 Gs Ga x5_47h r14 r16 x6_64h _ _ _ g28) (cwV 4 hts gX5_look_X4_takeBack rfl rfl rfl kV_X4_takeBack ⟨Nat.le_trans (Nat.le_of_ble_eq_true rfl) hRf, Nat.le_trans (Nat.le_of_ble_eq_true rfl) hRl⟩) (zpreV hK hP hD hS hE hFc [0, 1, 2, 3, 4, 5] (zC_23 (cI := cI) (cB := cB) (cO := cO)) rfl 0 (ci := 4) rfl rfl [.int x5_47h, .int r14, .int r16, .int x6_64h]) rfl rfl hl.1 rfl (lv_room (Nat.le_of_ble_eq_true rfl)) dX5_look_132 ⟨Nat.zero_le _, Nat.zero_le _⟩) hS hFc (fun H1 t h1 h2 h3 => zM_23 (cI := cI) (cB := cB) (cO := cO) hP hD h1 h2 h3) (fun H locs hP hD hS => ?_)
        clear hFc
        refine lv_aload_n hx hb dX5_look_135 rfl (lv_at hl 6 rfl) ?_
        refine lv_bipush (v := (100 : Int32)) hx hb dX5_look_136 (by decide) ?_
        refine lv_iload hx hb dX5_look_138 (lv_at hl 8 rfl) ?_
        refine lv_imul hx hb dX5_look_140 ?_
        refine lv_iload hx hb dX5_look_141 (lv_at hl 2 rfl) ?_
        refine lv_iadd hx hb dX5_look_143 ?_
        refine lv_aload hx hb dX5_look_144 (lv_at hl 7 rfl) ?_
        obtain ⟨Os_29, g30, h⟩ := zb1_s h
        have hFc := va_free (wc := (zfOO cI cO (oo 0) (oo 1) (os_24 0) (os_24 1))) hD hS hA [7, 8] (zC_40 (cI := cI) (cB := cB) (cO := cO))
        refine zcm_v (w2 := (zfLK cI cO So Sp Go Gp ra oo Ss_26 Sa_27 Gs Ga (va_up os_24 0 Os_29))) (va_runV (As := [.int (((100 : Int32) * x5_47h) + r10), .ref (oo 1)]) (rest := []) ⟨hx, hb, hml, hown, hts⟩ (c_X1_take l D cI cB cO (oo 0) (oo 1) (os_24 0) (os_24 1) (((100 : Int32) * x5_47h) + r10) _ _ g30) (cwV 2 hts gX5_look_X1_take rfl rfl rfl kV_X1_take ⟨Nat.le_trans (Nat.le_of_ble_eq_true rfl) hRf, Nat.le_trans (Nat.le_of_ble_eq_true rfl) hRl⟩) (zpreV hK hP hD hS hE hFc [7, 8] (zC_40 (cI := cI) (cB := cB) (cO := cO)) rfl 7 (ci := 1) rfl rfl [.int (((100 : Int32) * x5_47h) + r10), .ref (oo 1)]) rfl rfl hl.1 rfl (lv_room (Nat.le_of_ble_eq_true rfl)) dX5_look_146 ⟨Nat.zero_le _, Nat.zero_le _⟩) hS hFc (fun H1 t h1 h2 h3 => zM_40 (cI := cI) (cB := cB) (cO := cO) hP hD h1 h2 h3) (fun H locs hP hD hS => ?_)
        clear hFc
        obtain ⟨os_31, eos_31, hP, hD⟩ : ∃ y9, y9 = (va_up os_24 0 Os_29) ∧ va_P D vwCl (zfLK cI cO So Sp Go Gp ra oo Ss_26 Sa_27 Gs Ga y9) H ∧ va_D A (zfLK cI cO So Sp Go Gp ra oo Ss_26 Sa_27 Gs Ga y9) := ⟨_, rfl, hP, hD⟩
        have h := zlt_s h eos_31
        cases zend h
        exact K149 _ _ _ hP hD hS (lv_sub hl [3, 4, 5, 6, 7, 8, 9] rfl)
