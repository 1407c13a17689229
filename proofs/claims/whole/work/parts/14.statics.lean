set_option maxHeartbeats 4000000 in
set_option maxRecDepth 100000 in
theorem c_X5_hasBit (l : Launch) (D : va_G) (cI cB cO : ClassId)   (a0 : Int32) (a1 : Int32) (rv : Int32) (sz : Nat) (h : fX5_hasBit a0 a1 = some rv) : Met l yX5_hasBit wsX5_hasBit ({ frames := 0, cells := 0, slots := 0, locals := 0 } : Room) (va_Pc [.int a0, .int a1] (zPre D (zTY cI cB cO) ([] : va_W) sz)) (va_Qi (fun r (_ : Unit) => r = rv) (fun _ => zPost D (zTY cI cB cO) ([] : va_W) (va_A ([] : va_W) sz)) (va_A ([] : va_W) sz)) 0 0 (va_A ([] : va_W) sz) := by
  unfold fX5_hasBit at h
  refine zmet_z (cc := cX5_hasBit) (maxL := 2) (by decide) rfl (Nat.le_of_ble_eq_true rfl) rfl rfl ?_
  intro p e s m args below meth c R Q A ls hx hb hts hown hml hK hP hD hE hA hS hRf hRl hl hq
  have hown : s.vm.findClass RX5 = some m.cls := hown
  have hl : lv_has ls 2 [(0, .int a0), (1, .int a1)] := hl
  refine lv_iload_n hx hb dX5_hasBit_0 rfl (lv_at hl 1 rfl) ?_
  refine lv_if_lt (tgt := 17) hx hb dX5_hasBit_1 (by decide) (fun c1 => ?_) (fun c1 => ?_)
  · have h := zif_t c1 h
    refine lv_iconst (v := (0 : Int32)) hx hb dX5_hasBit_17 (by decide) ?_
    cases zend h
    exact hq hP hD hS (by decide) dX5_hasBit_18
  · have h := zif_f c1 h
    refine lv_iload_n hx hb dX5_hasBit_4 rfl (lv_at hl 0 rfl) ?_
    refine lv_iload_n hx hb dX5_hasBit_5 rfl (lv_at hl 1 rfl) ?_
    refine lv_ishr hx hb dX5_hasBit_6 ?_
    refine lv_iconst (v := (1 : Int32)) hx hb dX5_hasBit_7 (by decide) ?_
    refine lv_iand hx hb dX5_hasBit_8 ?_
    refine lv_iconst (v := (1 : Int32)) hx hb dX5_hasBit_9 (by decide) ?_
    refine lv_icmp_ne (tgt := 17) hx hb dX5_hasBit_10 (by decide) (fun c2 => ?_) (fun c2 => ?_)
    · have h := zif_f c2 h
      refine lv_iconst (v := (0 : Int32)) hx hb dX5_hasBit_17 (by decide) ?_
      cases zend h
      exact hq hP hD hS (by decide) dX5_hasBit_18
    · have h := zif_t c2 h
      refine lv_iconst (v := (1 : Int32)) hx hb dX5_hasBit_13 (by decide) ?_
      refine lv_goto (tgt := 18) hx hb dX5_hasBit_14 (by decide) ?_
      cases zend h
      exact hq hP hD hS (by decide) dX5_hasBit_18
set_option maxHeartbeats 4000000 in
set_option maxRecDepth 100000 in
theorem c_X5_kindGoes (l : Launch) (D : va_G) (cI cB cO : ClassId)   (a0 : Int32) (a1 : Int32) (rv : Int32) (sz : Nat) (h : fX5_kindGoes a0 a1 = some rv) : Met l yX5_kindGoes wsX5_kindGoes ({ frames := 1, cells := 0, slots := 0, locals := 21 } : Room) (va_Pc [.int a0, .int a1] (zPre D (zTY cI cB cO) ([] : va_W) sz)) (va_Qi (fun r (_ : Unit) => r = rv) (fun _ => zPost D (zTY cI cB cO) ([] : va_W) (va_A ([] : va_W) sz)) (va_A ([] : va_W) sz)) 0 0 (va_A ([] : va_W) sz) := by
  unfold fX5_kindGoes at h
  refine zmet_z (cc := cX5_kindGoes) (maxL := 2) (by decide) rfl (Nat.le_of_ble_eq_true rfl) rfl rfl ?_
  intro p e s m args below meth c R Q A ls hx hb hts hown hml hK hP hD hE hA hS hRf hRl hl hq
  have hown : s.vm.findClass RX5 = some m.cls := hown
  have hl : lv_has ls 2 [(0, .int a0), (1, .int a1)] := hl
  obtain ⟨tWHO_GOES, zzWHO_GOES, ztWHO_GOES⟩ := hE.1.2.2.2.2.2
  have lk294 : (Cond.fieldLink RX5 294 "PegField" "WHO_GOES" "[I").before args s = true := hts _ (by decide +kernel)
  refine lv_iload_n hx hb dX5_kindGoes_0 rfl (lv_at hl 1 rfl) ?_
  refine lv_if_lt (tgt := 26) hx hb dX5_kindGoes_1 (by decide) (fun c1 => ?_) (fun c1 => ?_)
  · have h := zif_t c1 h
    refine lv_iconst (v := (0 : Int32)) hx hb dX5_kindGoes_26 (by decide) ?_
    cases zend h
    exact hq hP hD hS (by decide) dX5_kindGoes_27
  · have h := zif_f c1 h
    refine lv_iload_n hx hb dX5_kindGoes_4 rfl (lv_at hl 1 rfl) ?_
    refine lv_bipush (v := (8 : Int32)) hx hb dX5_kindGoes_5 (by decide) ?_
    refine lv_icmp_ge (tgt := 26) hx hb dX5_kindGoes_7 (by decide) (fun c2 => ?_) (fun c2 => ?_)
    · have h := zif_t c2 h
      refine lv_iconst (v := (0 : Int32)) hx hb dX5_kindGoes_26 (by decide) ?_
      cases zend h
      exact hq hP hD hS (by decide) dX5_kindGoes_27
    · have h := zif_f c2 h
      refine va_gets hx hb zzWHO_GOES hS hown lk294 (fun _ h9 => h9) dX5_kindGoes_10 ?_
      refine lv_iload_n hx hb dX5_kindGoes_13 rfl (lv_at hl 1 rfl) ?_
      obtain ⟨z3, h⟩ := zck_s h
      refine va_ti (v := .int (zWG (a1).toNatClampNeg)) hx hb ztWHO_GOES hS (zin_s z3) rfl dX5_kindGoes_14 ?_
      refine lv_iload_n hx hb dX5_kindGoes_15 rfl (lv_at hl 0 rfl) ?_
      obtain ⟨r4, g5, h⟩ := zb1_s h
      have hFc := va_free (wc := ([] : va_W)) hD hS hA [] rfl
      refine zcp_i (va_runS (As := [.int (zWG (a1).toNatClampNeg), .int a0]) (rest := []) ⟨hx, hb, hml, hown, hts⟩ (c_X5_hasBit l D cI cB cO (zWG (a1).toNatClampNeg) a0 _ _ g5) (va_cwS 2 hts gX5_kindGoes_X5_hasBit rfl rfl rfl kS_X5_hasBit ⟨Nat.le_trans (Nat.le_of_ble_eq_true rfl) hRf, Nat.le_trans (Nat.le_of_ble_eq_true rfl) hRl⟩) (zpreS hK hP hD hS hE hFc [] (rfl) rfl [.int (zWG (a1).toNatClampNeg), .int a0]) rfl rfl hl.1 rfl (lv_room (Nat.le_of_ble_eq_true rfl)) dX5_kindGoes_16 ⟨Nat.zero_le _, Nat.zero_le _⟩) hP hD hS hFc [] (rfl) (fun H locs hP hS => ?_)
      clear hFc
      refine lv_if_eq (tgt := 26) hx hb dX5_kindGoes_19 (by decide) (fun c6 => ?_) (fun c6 => ?_)
      · have h := zif_t c6 h
        refine lv_iconst (v := (0 : Int32)) hx hb dX5_kindGoes_26 (by decide) ?_
        cases zend h
        exact hq hP hD hS (by decide) dX5_kindGoes_27
      · have h := zif_f c6 h
        refine lv_iconst (v := (1 : Int32)) hx hb dX5_kindGoes_22 (by decide) ?_
        refine lv_goto (tgt := 27) hx hb dX5_kindGoes_23 (by decide) ?_
        cases zend h
        exact hq hP hD hS (by decide) dX5_kindGoes_27
set_option maxHeartbeats 4000000 in
set_option maxRecDepth 100000 in
theorem c_X5_kindCould (l : Launch) (D : va_G) (cI cB cO : ClassId)   (a0 : Int32) (a1 : Int32) (rv : Int32) (sz : Nat) (h : fX5_kindCould a0 a1 = some rv) : Met l yX5_kindCould wsX5_kindCould ({ frames := 1, cells := 0, slots := 0, locals := 21 } : Room) (va_Pc [.int a0, .int a1] (zPre D (zTY cI cB cO) ([] : va_W) sz)) (va_Qi (fun r (_ : Unit) => r = rv) (fun _ => zPost D (zTY cI cB cO) ([] : va_W) (va_A ([] : va_W) sz)) (va_A ([] : va_W) sz)) 0 0 (va_A ([] : va_W) sz) := by
  unfold fX5_kindCould at h
  refine zmet_z (cc := cX5_kindCould) (maxL := 2) (by decide) rfl (Nat.le_of_ble_eq_true rfl) rfl rfl ?_
  intro p e s m args below meth c R Q A ls hx hb hts hown hml hK hP hD hE hA hS hRf hRl hl hq
  have hown : s.vm.findClass RX5 = some m.cls := hown
  have hl : lv_has ls 2 [(0, .int a0), (1, .int a1)] := hl
  obtain ⟨tWHO_COULD, zzWHO_COULD, ztWHO_COULD⟩ := hE.1.2.2.1
  have lk203 : (Cond.fieldLink RX5 203 "PegField" "WHO_COULD" "[I").before args s = true := hts _ (by decide +kernel)
  refine lv_iload_n hx hb dX5_kindCould_0 rfl (lv_at hl 1 rfl) ?_
  refine lv_if_lt (tgt := 25) hx hb dX5_kindCould_1 (by decide) (fun c1 => ?_) (fun c1 => ?_)
  · have h := zif_t c1 h
    refine lv_iconst (v := (0 : Int32)) hx hb dX5_kindCould_25 (by decide) ?_
    cases zend h
    exact hq hP hD hS (by decide) dX5_kindCould_26
  · have h := zif_f c1 h
    refine lv_iload_n hx hb dX5_kindCould_4 rfl (lv_at hl 1 rfl) ?_
    refine lv_iconst (v := (4 : Int32)) hx hb dX5_kindCould_5 (by decide) ?_
    refine lv_icmp_ge (tgt := 25) hx hb dX5_kindCould_6 (by decide) (fun c2 => ?_) (fun c2 => ?_)
    · have h := zif_t c2 h
      refine lv_iconst (v := (0 : Int32)) hx hb dX5_kindCould_25 (by decide) ?_
      cases zend h
      exact hq hP hD hS (by decide) dX5_kindCould_26
    · have h := zif_f c2 h
      refine va_gets hx hb zzWHO_COULD hS hown lk203 (fun _ h9 => h9) dX5_kindCould_9 ?_
      refine lv_iload_n hx hb dX5_kindCould_12 rfl (lv_at hl 1 rfl) ?_
      obtain ⟨z3, h⟩ := zck_s h
      refine va_ti (v := .int (zWC (a1).toNatClampNeg)) hx hb ztWHO_COULD hS (zin_s z3) rfl dX5_kindCould_13 ?_
      refine lv_iload_n hx hb dX5_kindCould_14 rfl (lv_at hl 0 rfl) ?_
      obtain ⟨r4, g5, h⟩ := zb1_s h
      have hFc := va_free (wc := ([] : va_W)) hD hS hA [] rfl
      refine zcp_i (va_runS (As := [.int (zWC (a1).toNatClampNeg), .int a0]) (rest := []) ⟨hx, hb, hml, hown, hts⟩ (c_X5_hasBit l D cI cB cO (zWC (a1).toNatClampNeg) a0 _ _ g5) (va_cwS 2 hts gX5_kindCould_X5_hasBit rfl rfl rfl kS_X5_hasBit ⟨Nat.le_trans (Nat.le_of_ble_eq_true rfl) hRf, Nat.le_trans (Nat.le_of_ble_eq_true rfl) hRl⟩) (zpreS hK hP hD hS hE hFc [] (rfl) rfl [.int (zWC (a1).toNatClampNeg), .int a0]) rfl rfl hl.1 rfl (lv_room (Nat.le_of_ble_eq_true rfl)) dX5_kindCould_15 ⟨Nat.zero_le _, Nat.zero_le _⟩) hP hD hS hFc [] (rfl) (fun H locs hP hS => ?_)
      clear hFc
      refine lv_if_eq (tgt := 25) hx hb dX5_kindCould_18 (by decide) (fun c6 => ?_) (fun c6 => ?_)
      · have h := zif_t c6 h
        refine lv_iconst (v := (0 : Int32)) hx hb dX5_kindCould_25 (by decide) ?_
        cases zend h
        exact hq hP hD hS (by decide) dX5_kindCould_26
      · have h := zif_f c6 h
        refine lv_iconst (v := (1 : Int32)) hx hb dX5_kindCould_21 (by decide) ?_
        refine lv_goto (tgt := 26) hx hb dX5_kindCould_22 (by decide) ?_
        cases zend h
        exact hq hP hD hS (by decide) dX5_kindCould_26
set_option maxHeartbeats 4000000 in
set_option maxRecDepth 100000 in
theorem c_X5_bestQuestion (l : Launch) (D : va_G) (cI cB cO : ClassId)   (a0 : Int32) (rv : Int32) (sz : Nat) (h : fX5_bestQuestion a0 = some rv) : Met l yX5_bestQuestion wsX5_bestQuestion ({ frames := 1, cells := 0, slots := 0, locals := 30 } : Room) (va_Pc [.int a0] (zPre D (zTY cI cB cO) ([] : va_W) sz)) (va_Qi (fun r (_ : Unit) => r = rv) (fun _ => zPost D (zTY cI cB cO) ([] : va_W) (va_A ([] : va_W) sz)) (va_A ([] : va_W) sz)) 0 0 (va_A ([] : va_W) sz) := by
  unfold fX5_bestQuestion at h
  refine zmet_i (cc := cX5_bestQuestion) (maxL := 5) (by decide) rfl (Nat.le_of_ble_eq_true rfl) rfl rfl ?_
  intro p e s m args below meth c R Q A ls hx hb hts hown hml hK hP hD hE hA hS hRf hRl hl hq
  have hown : s.vm.findClass RX5 = some m.cls := hown
  have hl : lv_has ls 5 [(0, .int a0)] := hl
  obtain ⟨tWHO_COULD, zzWHO_COULD, ztWHO_COULD⟩ := hE.1.2.2.1
  have lk203 : (Cond.fieldLink RX5 203 "PegField" "WHO_COULD" "[I").before args s = true := hts _ (by decide +kernel)
  refine lv_iload_n hx hb dX5_bestQuestion_0 rfl (lv_at hl 0 rfl) ?_
  refine lv_if_ne (tgt := 6) hx hb dX5_bestQuestion_1 (by decide) (fun c1 => ?_) (fun c1 => ?_)
  · have h := zif_f c1 h
    refine lv_iconst (v := (-1 : Int32)) hx hb dX5_bestQuestion_6 (by decide) ?_
    refine lv_istore_n (lv' := [(1, .int (-1 : Int32)), (0, .int a0)]) hx hb dX5_bestQuestion_7 rfl hl (by decide) rfl (fun ls hl => ?_)
    refine lv_bipush (v := (6 : Int32)) hx hb dX5_bestQuestion_8 (by decide) ?_
    refine lv_istore_n (lv' := [(2, .int (6 : Int32)), (1, .int (-1 : Int32)), (0, .int a0)]) hx hb dX5_bestQuestion_10 rfl hl (by decide) rfl (fun ls hl => ?_)
    refine lv_iconst (v := (0 : Int32)) hx hb dX5_bestQuestion_11 (by decide) ?_
    refine lv_istore_n (lv' := [(3, .int (0 : Int32)), (2, .int (6 : Int32)), (1, .int (-1 : Int32)), (0, .int a0)]) hx hb dX5_bestQuestion_12 rfl hl (by decide) rfl (fun ls hl => ?_)
    obtain ⟨x1_62x13, i13, h⟩ := zb1_s h
    have KX62 : ∀ (H : Heap) (locs : List Loc) (ls : Array Slot), va_P D vwCl ([] : va_W) H → va_D A ([] : va_W) → va_S A s.heap H locs → lv_has ls 5 [(1, .int x1_62x13)] → W p l e R s m args below meth c H locs 0 0 Q (F0 m 62 ls []) := by
      intro H locs ls hP hD hS hl
      refine lv_iload_n hx hb dX5_bestQuestion_62 rfl (lv_at hl 0 rfl) ?_
      cases zend h
      exact hq hP hD hS dX5_bestQuestion_63
    clear h
    refine zi3_ind (P := (fun (x1_13h : Int32) (x2_13h : Int32) (x3_13h : Int32) => ∀ (H : Heap) (locs : List Loc) (ls : Array Slot), va_P D vwCl ([] : va_W) H → va_D A ([] : va_W) → va_S A s.heap H locs → lv_has ls 5 [(0, .int a0), (1, .int x1_13h), (2, .int x2_13h), (3, .int x3_13h)] → W p l e R s m args below meth c H locs 0 0 Q (F0 m 13 ls []))) ?_ i13 _ _ _ hP hD hS (lv_sub hl [3, 2, 1, 0] rfl)
    clear i13 hP hD hS hl
    intro x1_13h x2_13h x3_13h z13 h zl13 zr13 H locs ls hP hD hS hl
    refine lv_iload_n hx hb dX5_bestQuestion_13 rfl (lv_at hl 3 rfl) ?_
    refine lv_iconst (v := (4 : Int32)) hx hb dX5_bestQuestion_14 (by decide) ?_
    refine lv_icmp_ge (tgt := 62) hx hb dX5_bestQuestion_15 (by decide) (fun c3 => ?_) (fun c3 => ?_)
    · have h := zif_t c3 h
      cases zr13 _ (zend h).symm
      exact KX62 _ _ _ hP hD hS (lv_sub hl [1] rfl)
    · have h := zif_f c3 h
      refine lv_iload_n hx hb dX5_bestQuestion_18 rfl (lv_at hl 0 rfl) ?_
      refine va_gets hx hb zzWHO_COULD hS hown lk203 (fun _ h9 => h9) dX5_bestQuestion_19 ?_
      refine lv_iload_n hx hb dX5_bestQuestion_22 rfl (lv_at hl 3 rfl) ?_
      obtain ⟨z4, h⟩ := zck_s h
      refine va_ti (v := .int (zWC (x3_13h).toNatClampNeg)) hx hb ztWHO_COULD hS (zin_s z4) rfl dX5_bestQuestion_23 ?_
      refine lv_iand hx hb dX5_bestQuestion_24 ?_
      obtain ⟨r5, g6, h⟩ := zb1_s h
      have hFc := va_free (wc := ([] : va_W)) hD hS hA [] rfl
      refine zcp_i (va_runS (As := [.int (a0 &&& (zWC (x3_13h).toNatClampNeg))]) (rest := []) ⟨hx, hb, hml, hown, hts⟩ (c_J6_bitCount_0f7a4 l D cI cB cO (a0 &&& (zWC (x3_13h).toNatClampNeg)) _ _ g6) (va_cwS 1 hts gX5_bestQuestion_J6_bitCount_0f7a4 rfl rfl rfl kS_J6_bitCount_0f7a4 ⟨Nat.le_trans (Nat.le_of_ble_eq_true rfl) hRf, Nat.le_trans (Nat.le_of_ble_eq_true rfl) hRl⟩) (zpreS hK hP hD hS hE hFc [] (rfl) rfl [.int (a0 &&& (zWC (x3_13h).toNatClampNeg))]) rfl rfl hl.1 rfl (lv_room (Nat.le_of_ble_eq_true rfl)) dX5_bestQuestion_25 ⟨Nat.zero_le _, Nat.zero_le _⟩) hP hD hS hFc [] (rfl) (fun H locs hP hS => ?_)
      clear hFc
      refine lv_iload_n hx hb dX5_bestQuestion_28 rfl (lv_at hl 0 rfl) ?_
      refine va_gets hx hb zzWHO_COULD hS hown lk203 (fun _ h9 => h9) dX5_bestQuestion_29 ?_
      refine lv_iload_n hx hb dX5_bestQuestion_32 rfl (lv_at hl 3 rfl) ?_
      obtain ⟨z7, h⟩ := zck_s h
      refine va_ti (v := .int (zWC (x3_13h).toNatClampNeg)) hx hb ztWHO_COULD hS (zin_s z7) rfl dX5_bestQuestion_33 ?_
      refine lv_iconst (v := (-1 : Int32)) hx hb dX5_bestQuestion_34 (by decide) ?_
      refine lv_ixor hx hb dX5_bestQuestion_35 ?_
      refine lv_iand hx hb dX5_bestQuestion_36 ?_
      obtain ⟨r8, g9, h⟩ := zb1_s h
      have hFc := va_free (wc := ([] : va_W)) hD hS hA [] rfl
      refine zcp_i (va_runS (As := [.int (a0 &&& ((zWC (x3_13h).toNatClampNeg) ^^^ (-1 : Int32)))]) (rest := [.int r5]) ⟨hx, hb, hml, hown, hts⟩ (c_J6_bitCount_0f7a4 l D cI cB cO (a0 &&& ((zWC (x3_13h).toNatClampNeg) ^^^ (-1 : Int32))) _ _ g9) (va_cwS 1 hts gX5_bestQuestion_J6_bitCount_0f7a4 rfl rfl rfl kS_J6_bitCount_0f7a4 ⟨Nat.le_trans (Nat.le_of_ble_eq_true rfl) hRf, Nat.le_trans (Nat.le_of_ble_eq_true rfl) hRl⟩) (zpreS hK hP hD hS hE hFc [] (rfl) rfl [.int (a0 &&& ((zWC (x3_13h).toNatClampNeg) ^^^ (-1 : Int32)))]) rfl rfl hl.1 rfl (lv_room (Nat.le_of_ble_eq_true rfl)) dX5_bestQuestion_37 ⟨Nat.zero_le _, Nat.zero_le _⟩) hP hD hS hFc [] (rfl) (fun H locs hP hS => ?_)
      clear hFc
      refine va_mmax hx hb (hml.trans hl.1.symm) hown (hts (.methodLink RX5 297 Lib.Math.max.name) (by decide +kernel)) (hts (.static Lib.Math.max.name) (by decide +kernel)) (hts (.initialized "java/lang/Math") (by decide +kernel)) (hts (.code Lib.Math.max.name Lib.Math.max.code 2 (some .int)) (by decide +kernel)) (Nat.le_trans (Nat.le_of_ble_eq_true rfl) hRf) (Nat.le_trans (Nat.le_of_ble_eq_true rfl) hRl) (Nat.zero_le _) (Nat.zero_le _) dX5_bestQuestion_40 ?_
      refine lv_topi (fun x4_10 ex4_10 => ?_)
      have h := zlt_s h ex4_10
      refine lv_istore (lv' := [(4, .int x4_10), (0, .int a0), (1, .int x1_13h), (2, .int x2_13h), (3, .int x3_13h)]) hx hb dX5_bestQuestion_43 hl (by decide) rfl (fun ls hl => ?_)
      refine lv_iload hx hb dX5_bestQuestion_45 (lv_at hl 0 rfl) ?_
      refine lv_iload_n hx hb dX5_bestQuestion_47 rfl (lv_at hl 3 rfl) ?_
      obtain ⟨x1_56, x2_56, j11, h⟩ := zb2_s h
      have K56 : ∀ (H : Heap) (locs : List Loc) (ls : Array Slot), va_P D vwCl ([] : va_W) H → va_D A ([] : va_W) → va_S A s.heap H locs → lv_has ls 5 [(0, .int a0), (1, .int x1_56), (2, .int x2_56), (3, .int x3_13h)] → W p l e R s m args below meth c H locs 0 0 Q (F0 m 56 ls []) := by
        intro H locs ls hP hD hS hl
        refine lv_iinc (v := (x3_13h + (1 : Int32))) (lv' := [(3, .int (x3_13h + (1 : Int32))), (0, .int a0), (1, .int x1_56), (2, .int x2_56)]) hx hb dX5_bestQuestion_56 hl (k := 3) rfl rfl (by decide) rfl (fun ls hl => ?_)
        refine lv_goto (tgt := 13) hx hb dX5_bestQuestion_59 (by decide) ?_
        exact zl13 _ _ _ (zend h).symm _ _ _ hP hD hS (lv_sub hl [1, 2, 3, 0] rfl)
      clear h
      have h := j11
      clear j11
      refine lv_icmp_ge (tgt := 56) hx hb dX5_bestQuestion_48 (by decide) (fun c12 => ?_) (fun c12 => ?_)
      · have h := zif_t c12 h
        cases zend h
        exact K56 _ _ _ hP hD hS (lv_sub hl [1, 2, 3, 4] rfl)
      · have h := zif_f c12 h
        refine lv_iload hx hb dX5_bestQuestion_51 (lv_at hl 0 rfl) ?_
        refine lv_istore_n (lv' := [(2, .int x4_10), (4, .int x4_10), (0, .int a0), (1, .int x1_13h), (3, .int x3_13h)]) hx hb dX5_bestQuestion_53 rfl hl (by decide) rfl (fun ls hl => ?_)
        refine lv_iload_n hx hb dX5_bestQuestion_54 rfl (lv_at hl 4 rfl) ?_
        refine lv_istore_n (lv' := [(1, .int x3_13h), (2, .int x4_10), (4, .int x4_10), (0, .int a0), (3, .int x3_13h)]) hx hb dX5_bestQuestion_55 rfl hl (by decide) rfl (fun ls hl => ?_)
        cases zend h
        exact K56 _ _ _ hP hD hS (lv_sub hl [3, 0, 1, 4] rfl)
  · have h := zif_t c1 h
    refine lv_iconst (v := (-1 : Int32)) hx hb dX5_bestQuestion_4 (by decide) ?_
    cases zend h
    exact hq hP hD hS dX5_bestQuestion_5
set_option maxHeartbeats 4000000 in
set_option maxRecDepth 100000 in
theorem c_X5_nextSeed (l : Launch) (D : va_G) (cI cB cO : ClassId)   (a0 : Int64) (rv : Int64) (sz : Nat) (h : fX5_nextSeed a0 = some rv) : Met l yX5_nextSeed wsX5_nextSeed ({ frames := 0, cells := 0, slots := 0, locals := 0 } : Room) (va_Pc [.long a0] (zPre D (zTY cI cB cO) ([] : va_W) sz)) (va_Ql (fun r (_ : Unit) => r = rv) (fun _ => zPost D (zTY cI cB cO) ([] : va_W) (va_A ([] : va_W) sz)) (va_A ([] : va_W) sz)) 0 0 (va_A ([] : va_W) sz) := by
  unfold fX5_nextSeed at h
  refine zmet_l (cc := cX5_nextSeed) (maxL := 2) (by decide) rfl (Nat.le_of_ble_eq_true rfl) rfl rfl ?_
  intro p e s m args below meth c R Q A ls hx hb hts hown hml hK hP hD hE hA hS hRf hRl hl hq
  have hown : s.vm.findClass RX5 = some m.cls := hown
  have hl : lv_has ls 2 [(0, .long a0)] := hl
  refine lv_ldc2 (v := (1103515245 : Int64)) hx hb hown (hts (.constantLong RX5 288 (1103515245)) (by decide +kernel)) dX5_nextSeed_0 ?_
  refine lv_lload_n hx hb dX5_nextSeed_3 rfl (lv_at hl 0 rfl) ?_
  refine lv_lmul hx hb dX5_nextSeed_4 ?_
  refine lv_ldc2 (v := (12345 : Int64)) hx hb hown (hts (.constantLong RX5 290 (12345)) (by decide +kernel)) dX5_nextSeed_5 ?_
  refine lv_ladd hx hb dX5_nextSeed_8 ?_
  refine lv_ldc2 (v := (2147483648 : Int64)) hx hb hown (hts (.constantLong RX5 292 (2147483648)) (by decide +kernel)) dX5_nextSeed_9 ?_
  refine lv_lrem hx hb dX5_nextSeed_12 (by decide) ?_
  cases zend h
  exact hq hP hD hS dX5_nextSeed_13
