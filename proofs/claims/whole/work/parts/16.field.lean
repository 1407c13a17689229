set_option maxHeartbeats 4000000 in
set_option maxRecDepth 100000 in
theorem c_X5_hasBit (l : Launch) (D : va_G) (cI cB cO : ClassId)   (a0 : Int32) (a1 : Int32) (rv : Int32) (sz : Nat) (h : fX5_hasBit a0 a1 = some rv) : Met l yX5_hasBit wsX5_hasBit ({ frames := 0, cells := 0, slots := 0, locals := 0 } : Room) (va_Pc [.int a0, .int a1] (zPre D (zTY cI cB cO) ([] : va_W) sz)) (va_Qi (fun r (_ : Unit) => r = rv) (fun _ => zPost D (zTY cI cB cO) ([] : va_W) (va_A ([] : va_W) sz)) (va_A ([] : va_W) sz)) 0 0 (va_A ([] : va_W) sz) := by
  unfold fX5_hasBit at h
  refine zmet_z (cc := cX5_hasBit) (maxL := 2) (by decide) rfl (Nat.le_of_ble_eq_true rfl) rfl rfl ?_
  intro p e s m args below meth c R Q A ls hx hb hts hown hml hK hP hD hE hA hS hRf hRl hl hq
  have hown : s.vm.findClass RX5 = some m.cls := hown
  have hl : lv_has ls 2 [(0, .int a0), (1, .int a1)] := hl
  refine lv_iload_n hx hb dX5_hasBit_0 rfl (lv_at hl 1 rfl) ?_
  refine lv_if_lt (tgt := 17) hx hb dX5_hasBit_1 (by decide) (fun c1 => ?_) (fun c1 => ?_)
  · have h := zif_t c1 h
    refine lv_iconst (v := (0 : Int32)) hx hb dX5_hasBit_17 (by decide) ?_
    cases zend h
    exact hq hP hD hS (by decide) dX5_hasBit_18
  · have h := zif_f c1 h
    refine lv_iload_n hx hb dX5_hasBit_4 rfl (lv_at hl 0 rfl) ?_
    refine lv_iload_n hx hb dX5_hasBit_5 rfl (lv_at hl 1 rfl) ?_
    refine lv_ishr hx hb dX5_hasBit_6 ?_
    refine lv_iconst (v := (1 : Int32)) hx hb dX5_hasBit_7 (by decide) ?_
    refine lv_iand hx hb dX5_hasBit_8 ?_
    refine lv_iconst (v := (1 : Int32)) hx hb dX5_hasBit_9 (by decide) ?_
    refine lv_icmp_ne (tgt := 17) hx hb dX5_hasBit_10 (by decide) (fun c2 => ?_) (fun c2 => ?_)
    · have h := zif_f c2 h
      refine lv_iconst (v := (0 : Int32)) hx hb dX5_hasBit_17 (by decide) ?_
      cases zend h
      exact hq hP hD hS (by decide) dX5_hasBit_18
    · have h := zif_t c2 h
      refine lv_iconst (v := (1 : Int32)) hx hb dX5_hasBit_13 (by decide) ?_
      refine lv_goto (tgt := 18) hx hb dX5_hasBit_14 (by decide) ?_
      cases zend h
      exact hq hP hD hS (by decide) dX5_hasBit_18
set_option maxHeartbeats 4000000 in
set_option maxRecDepth 100000 in
theorem c_X5_kindGoes (l : Launch) (D : va_G) (cI cB cO : ClassId)   (a0 : Int32) (a1 : Int32) (rv : Int32) (sz : Nat) (h : fX5_kindGoes a0 a1 = some rv) : Met l yX5_kindGoes wsX5_kindGoes ({ frames := 1, cells := 0, slots := 0, locals := 21 } : Room) (va_Pc [.int a0, .int a1] (zPre D (zTY cI cB cO) ([] : va_W) sz)) (va_Qi (fun r (_ : Unit) => r = rv) (fun _ => zPost D (zTY cI cB cO) ([] : va_W) (va_A ([] : va_W) sz)) (va_A ([] : va_W) sz)) 0 0 (va_A ([] : va_W) sz) := by
  unfold fX5_kindGoes at h
  refine zmet_z (cc := cX5_kindGoes) (maxL := 2) (by decide) rfl (Nat.le_of_ble_eq_true rfl) rfl rfl ?_
  intro p e s m args below meth c R Q A ls hx hb hts hown hml hK hP hD hE hA hS hRf hRl hl hq
  have hown : s.vm.findClass RX5 = some m.cls := hown
  have hl : lv_has ls 2 [(0, .int a0), (1, .int a1)] := hl
  obtain ⟨tWHO_GOES, zzWHO_GOES, ztWHO_GOES⟩ := hE.1.2.2.2.2.2
  have lk294 : (Cond.fieldLink RX5 294 "PegField" "WHO_GOES" "[I").before args s = true := hts _ (by decide +kernel)
  refine lv_iload_n hx hb dX5_kindGoes_0 rfl (lv_at hl 1 rfl) ?_
  refine lv_if_lt (tgt := 26) hx hb dX5_kindGoes_1 (by decide) (fun c1 => ?_) (fun c1 => ?_)
  · have h := zif_t c1 h
    refine lv_iconst (v := (0 : Int32)) hx hb dX5_kindGoes_26 (by decide) ?_
    cases zend h
    exact hq hP hD hS (by decide) dX5_kindGoes_27
  · have h := zif_f c1 h
    refine lv_iload_n hx hb dX5_kindGoes_4 rfl (lv_at hl 1 rfl) ?_
    refine lv_bipush (v := (8 : Int32)) hx hb dX5_kindGoes_5 (by decide) ?_
    refine lv_icmp_ge (tgt := 26) hx hb dX5_kindGoes_7 (by decide) (fun c2 => ?_) (fun c2 => ?_)
    · have h := zif_t c2 h
      refine lv_iconst (v := (0 : Int32)) hx hb dX5_kindGoes_26 (by decide) ?_
      cases zend h
      exact hq hP hD hS (by decide) dX5_kindGoes_27
    · have h := zif_f c2 h
      refine va_gets hx hb zzWHO_GOES hS hown lk294 (fun _ h9 => h9) dX5_kindGoes_10 ?_
      refine lv_iload_n hx hb dX5_kindGoes_13 rfl (lv_at hl 1 rfl) ?_
      obtain ⟨z3, h⟩ := zck_s h
      refine va_ti (v := .int (zWG (a1).toNatClampNeg)) hx hb ztWHO_GOES hS (zin_s z3) rfl dX5_kindGoes_14 ?_
      refine lv_iload_n hx hb dX5_kindGoes_15 rfl (lv_at hl 0 rfl) ?_
      obtain ⟨r4, g5, h⟩ := zb1_s h
      have hFc := va_free (wc := ([] : va_W)) hD hS hA [] rfl
      refine zcall_i (w2 := ([] : va_W)) (va_runS (As := [.int (zWG (a1).toNatClampNeg), .int a0]) (rest := []) ⟨hx, hb, hml, hown, hts⟩ (c_X5_hasBit l D cI cB cO (zWG (a1).toNatClampNeg) a0 _ _ g5) (va_cwS 2 hts gX5_kindGoes_X5_hasBit rfl rfl rfl kS_X5_hasBit ⟨Nat.le_trans (Nat.le_of_ble_eq_true rfl) hRf, Nat.le_trans (Nat.le_of_ble_eq_true rfl) hRl⟩) (zpreS hK hP hD hS hE hFc [] rfl rfl [.int (zWG (a1).toNatClampNeg), .int a0]) rfl rfl hl.1 rfl (lv_room (Nat.le_of_ble_eq_true rfl)) dX5_kindGoes_16 ⟨Nat.zero_le _, Nat.zero_le _⟩) hP hD hS hFc [] [] [] 0 rfl rfl rfl rfl (fun H locs hP hD hS => ?_)
      refine lv_if_eq (tgt := 26) hx hb dX5_kindGoes_19 (by decide) (fun c6 => ?_) (fun c6 => ?_)
      · have h := zif_t c6 h
        refine lv_iconst (v := (0 : Int32)) hx hb dX5_kindGoes_26 (by decide) ?_
        cases zend h
        exact hq hP hD hS (by decide) dX5_kindGoes_27
      · have h := zif_f c6 h
        refine lv_iconst (v := (1 : Int32)) hx hb dX5_kindGoes_22 (by decide) ?_
        refine lv_goto (tgt := 27) hx hb dX5_kindGoes_23 (by decide) ?_
        cases zend h
        exact hq hP hD hS (by decide) dX5_kindGoes_27
set_option maxHeartbeats 4000000 in
set_option maxRecDepth 100000 in
theorem c_X5_kindCould (l : Launch) (D : va_G) (cI cB cO : ClassId)   (a0 : Int32) (a1 : Int32) (rv : Int32) (sz : Nat) (h : fX5_kindCould a0 a1 = some rv) : Met l yX5_kindCould wsX5_kindCould ({ frames := 1, cells := 0, slots := 0, locals := 21 } : Room) (va_Pc [.int a0, .int a1] (zPre D (zTY cI cB cO) ([] : va_W) sz)) (va_Qi (fun r (_ : Unit) => r = rv) (fun _ => zPost D (zTY cI cB cO) ([] : va_W) (va_A ([] : va_W) sz)) (va_A ([] : va_W) sz)) 0 0 (va_A ([] : va_W) sz) := by
  unfold fX5_kindCould at h
  refine zmet_z (cc := cX5_kindCould) (maxL := 2) (by decide) rfl (Nat.le_of_ble_eq_true rfl) rfl rfl ?_
  intro p e s m args below meth c R Q A ls hx hb hts hown hml hK hP hD hE hA hS hRf hRl hl hq
  have hown : s.vm.findClass RX5 = some m.cls := hown
  have hl : lv_has ls 2 [(0, .int a0), (1, .int a1)] := hl
  obtain ⟨tWHO_COULD, zzWHO_COULD, ztWHO_COULD⟩ := hE.1.2.2.1
  have lk203 : (Cond.fieldLink RX5 203 "PegField" "WHO_COULD" "[I").before args s = true := hts _ (by decide +kernel)
  refine lv_iload_n hx hb dX5_kindCould_0 rfl (lv_at hl 1 rfl) ?_
  refine lv_if_lt (tgt := 25) hx hb dX5_kindCould_1 (by decide) (fun c1 => ?_) (fun c1 => ?_)
  · have h := zif_t c1 h
    refine lv_iconst (v := (0 : Int32)) hx hb dX5_kindCould_25 (by decide) ?_
    cases zend h
    exact hq hP hD hS (by decide) dX5_kindCould_26
  · have h := zif_f c1 h
    refine lv_iload_n hx hb dX5_kindCould_4 rfl (lv_at hl 1 rfl) ?_
    refine lv_iconst (v := (4 : Int32)) hx hb dX5_kindCould_5 (by decide) ?_
    refine lv_icmp_ge (tgt := 25) hx hb dX5_kindCould_6 (by decide) (fun c2 => ?_) (fun c2 => ?_)
    · have h := zif_t c2 h
      refine lv_iconst (v := (0 : Int32)) hx hb dX5_kindCould_25 (by decide) ?_
      cases zend h
      exact hq hP hD hS (by decide) dX5_kindCould_26
    · have h := zif_f c2 h
      refine va_gets hx hb zzWHO_COULD hS hown lk203 (fun _ h9 => h9) dX5_kindCould_9 ?_
      refine lv_iload_n hx hb dX5_kindCould_12 rfl (lv_at hl 1 rfl) ?_
      obtain ⟨z3, h⟩ := zck_s h
      refine va_ti (v := .int (zWC (a1).toNatClampNeg)) hx hb ztWHO_COULD hS (zin_s z3) rfl dX5_kindCould_13 ?_
      refine lv_iload_n hx hb dX5_kindCould_14 rfl (lv_at hl 0 rfl) ?_
      obtain ⟨r4, g5, h⟩ := zb1_s h
      have hFc := va_free (wc := ([] : va_W)) hD hS hA [] rfl
      refine zcall_i (w2 := ([] : va_W)) (va_runS (As := [.int (zWC (a1).toNatClampNeg), .int a0]) (rest := []) ⟨hx, hb, hml, hown, hts⟩ (c_X5_hasBit l D cI cB cO (zWC (a1).toNatClampNeg) a0 _ _ g5) (va_cwS 2 hts gX5_kindCould_X5_hasBit rfl rfl rfl kS_X5_hasBit ⟨Nat.le_trans (Nat.le_of_ble_eq_true rfl) hRf, Nat.le_trans (Nat.le_of_ble_eq_true rfl) hRl⟩) (zpreS hK hP hD hS hE hFc [] rfl rfl [.int (zWC (a1).toNatClampNeg), .int a0]) rfl rfl hl.1 rfl (lv_room (Nat.le_of_ble_eq_true rfl)) dX5_kindCould_15 ⟨Nat.zero_le _, Nat.zero_le _⟩) hP hD hS hFc [] [] [] 0 rfl rfl rfl rfl (fun H locs hP hD hS => ?_)
      refine lv_if_eq (tgt := 25) hx hb dX5_kindCould_18 (by decide) (fun c6 => ?_) (fun c6 => ?_)
      · have h := zif_t c6 h
        refine lv_iconst (v := (0 : Int32)) hx hb dX5_kindCould_25 (by decide) ?_
        cases zend h
        exact hq hP hD hS (by decide) dX5_kindCould_26
      · have h := zif_f c6 h
        refine lv_iconst (v := (1 : Int32)) hx hb dX5_kindCould_21 (by decide) ?_
        refine lv_goto (tgt := 26) hx hb dX5_kindCould_22 (by decide) ?_
        cases zend h
        exact hq hP hD hS (by decide) dX5_kindCould_26
set_option maxHeartbeats 4000000 in
set_option maxRecDepth 100000 in
theorem c_X5_letter (l : Launch) (D : va_G) (cI cB cO : ClassId) (Xo : Nat) (Po : Nat) (Pp : Nat → Nat) (Go : Nat) (Gp : Nat → Nat) (No : Nat) (Np : Nat → Nat) (Qo : Nat) (Qp : Nat → Nat) (Ko : Nat) (Kp : Nat → Nat) (Lo : Nat) (Lp : Nat → Nat) (To : Nat) (Tp : Nat → Nat) (ra : Nat) (oo : Nat → Nat) (Xs : Nat → Int32) (Ps : Nat → Int32) (Pa : Nat → Nat → Int32) (Gs : Nat → Int32) (Ga : Nat → Nat → Int32) (Ns : Nat → Int32) (Na : Nat → Nat → Int32) (Qs : Nat → Int32) (Qa : Nat → Nat → Int32) (Ks : Nat → Int32) (Ka : Nat → Nat → Int32) (Ls : Nat → Int32) (La : Nat → Nat → Int32) (Ts : Nat → Int32) (Ta : Nat → Nat → Int32) (os : Nat → Nat → Int32) (a0 : Int32) (rv : Int32) (Ps' : Nat → Int32) (Pa' : Nat → Nat → Int32) (sz : Nat) (h : fX5_letter Ps Pa a0 = some (rv, Ps', Pa')) : Met l yX5_letter wsX5_letter ({ frames := 1, cells := 0, slots := 0, locals := 21 } : Room) (va_Pc [.ref Xo, .int a0] (zPre D (zTY cI cB cO) (zwX Xo Po Go No Qo Ko Lo To oo ra Xs ++ zwP cI Po Pp Ps Pa ++ zwG cI Go Gp Gs Ga ++ zwS cI No Np Go Ns Na ++ zwQ cI Qo Qp Qs Qa ++ zwS cI Ko Kp Go Ks Ka ++ zwQ cI Lo Lp Ls La ++ zwS cI To Tp Go Ts Ta ++ zwR cO ra oo ++ zwO (oo 0) (os 0) ++ zwO (oo 1) (os 1) ++ zwO (oo 2) (os 2) ++ zwO (oo 3) (os 3) ++ zwO (oo 4) (os 4) ++ zwO (oo 5) (os 5) ++ zwO (oo 6) (os 6) ++ zwO (oo 7) (os 7) ++ zwO (oo 8) (os 8)) sz)) (va_Qi (fun r (_ : Unit) => r = rv) (fun _ => zPost D (zTY cI cB cO) (zwX Xo Po Go No Qo Ko Lo To oo ra Xs ++ zwP cI Po Pp Ps' Pa' ++ zwG cI Go Gp Gs Ga ++ zwS cI No Np Go Ns Na ++ zwQ cI Qo Qp Qs Qa ++ zwS cI Ko Kp Go Ks Ka ++ zwQ cI Lo Lp Ls La ++ zwS cI To Tp Go Ts Ta ++ zwR cO ra oo ++ zwO (oo 0) (os 0) ++ zwO (oo 1) (os 1) ++ zwO (oo 2) (os 2) ++ zwO (oo 3) (os 3) ++ zwO (oo 4) (os 4) ++ zwO (oo 5) (os 5) ++ zwO (oo 6) (os 6) ++ zwO (oo 7) (os 7) ++ zwO (oo 8) (os 8)) (va_A (zwX Xo Po Go No Qo Ko Lo To oo ra Xs ++ zwP cI Po Pp Ps Pa ++ zwG cI Go Gp Gs Ga ++ zwS cI No Np Go Ns Na ++ zwQ cI Qo Qp Qs Qa ++ zwS cI Ko Kp Go Ks Ka ++ zwQ cI Lo Lp Ls La ++ zwS cI To Tp Go Ts Ta ++ zwR cO ra oo ++ zwO (oo 0) (os 0) ++ zwO (oo 1) (os 1) ++ zwO (oo 2) (os 2) ++ zwO (oo 3) (os 3) ++ zwO (oo 4) (os 4) ++ zwO (oo 5) (os 5) ++ zwO (oo 6) (os 6) ++ zwO (oo 7) (os 7) ++ zwO (oo 8) (os 8)) sz)) (va_A (zwX Xo Po Go No Qo Ko Lo To oo ra Xs ++ zwP cI Po Pp Ps Pa ++ zwG cI Go Gp Gs Ga ++ zwS cI No Np Go Ns Na ++ zwQ cI Qo Qp Qs Qa ++ zwS cI Ko Kp Go Ks Ka ++ zwQ cI Lo Lp Ls La ++ zwS cI To Tp Go Ts Ta ++ zwR cO ra oo ++ zwO (oo 0) (os 0) ++ zwO (oo 1) (os 1) ++ zwO (oo 2) (os 2) ++ zwO (oo 3) (os 3) ++ zwO (oo 4) (os 4) ++ zwO (oo 5) (os 5) ++ zwO (oo 6) (os 6) ++ zwO (oo 7) (os 7) ++ zwO (oo 8) (os 8)) sz)) 0 0 (va_A (zwX Xo Po Go No Qo Ko Lo To oo ra Xs ++ zwP cI Po Pp Ps Pa ++ zwG cI Go Gp Gs Ga ++ zwS cI No Np Go Ns Na ++ zwQ cI Qo Qp Qs Qa ++ zwS cI Ko Kp Go Ks Ka ++ zwQ cI Lo Lp Ls La ++ zwS cI To Tp Go Ts Ta ++ zwR cO ra oo ++ zwO (oo 0) (os 0) ++ zwO (oo 1) (os 1) ++ zwO (oo 2) (os 2) ++ zwO (oo 3) (os 3) ++ zwO (oo 4) (os 4) ++ zwO (oo 5) (os 5) ++ zwO (oo 6) (os 6) ++ zwO (oo 7) (os 7) ++ zwO (oo 8) (os 8)) sz) := by
  unfold fX5_letter at h
  refine zmet_i (cc := cX5_letter) (maxL := 2) (by decide) rfl (Nat.le_of_ble_eq_true rfl) rfl rfl ?_
  intro p e s m args below meth c R Q A ls hx hb hts hown hml hK hP hD hE hA hS hRf hRl hl hq
  have hown : s.vm.findClass RX5 = some m.cls := hown
  have hl : lv_has ls 2 [(0, .ref Xo), (1, .int a0)] := hl
  have inX5 : ∀ w ∈ u_ws RX5 TX5 13, w ∈ wsX5_letter := by decide +kernel
  have lk12 : (Cond.fieldLink RX5 12 "PegField" "page" "LPegField$Page;").before args s = true := hts _ (by decide +kernel)
  have inX2 : ∀ w ∈ u_ws RX2 TX2 2, w ∈ wsX5_letter := by decide +kernel
  have lk63 : (Cond.fieldLinkNest RX5 63 "PegField$Page" "size" "I" "PegField").before args s = true := hE.2.use (by decide +kernel)
  refine lv_iload_n hx hb dX5_letter_0 rfl (lv_at hl 1 rfl) ?_
  refine lv_bipush (v := (32 : Int32)) hx hb dX5_letter_1 (by decide) ?_
  refine lv_icmp_lt (tgt := 12) hx hb dX5_letter_3 (by decide) (fun c1 => ?_) (fun c1 => ?_)
  · have h := zif_t c1 h
    refine lv_bipush (v := (-102 : Int32)) hx hb dX5_letter_12 (by decide) ?_
    cases zend h
    exact hq hP hD hS dX5_letter_14
  · have h := zif_f c1 h
    refine lv_iload_n hx hb dX5_letter_6 rfl (lv_at hl 1 rfl) ?_
    refine lv_bipush (v := (126 : Int32)) hx hb dX5_letter_7 (by decide) ?_
    refine lv_icmp_le (tgt := 15) hx hb dX5_letter_9 (by decide) (fun c2 => ?_) (fun c2 => ?_)
    · have h := zif_t c2 h
      refine lv_aload_n hx hb dX5_letter_15 rfl (lv_at hl 0 rfl) ?_
      refine va_get (D := D) (ci := 5) (v := .ref Po) (C := RX5) (T := TX5) (N := 13) hx hb hts inX5 hown hK hP 0 rfl rfl 0 (by decide) lk12 (fun _ h9 => h9) rfl dX5_letter_16 ?_
      refine lv_iload_n hx hb dX5_letter_19 rfl (lv_at hl 1 rfl) ?_
      obtain ⟨r3, Ps_4, Pa_5, g6, h⟩ := zb3_s h
      have hFc := va_free (wc := (zwP cI Po Pp Ps Pa)) hD hS hA [1, 2] rfl
      refine zcall_i (w2 := (zwX Xo Po Go No Qo Ko Lo To oo ra Xs ++ zwP cI Po Pp Ps_4 Pa_5 ++ zwG cI Go Gp Gs Ga ++ zwS cI No Np Go Ns Na ++ zwQ cI Qo Qp Qs Qa ++ zwS cI Ko Kp Go Ks Ka ++ zwQ cI Lo Lp Ls La ++ zwS cI To Tp Go Ts Ta ++ zwR cO ra oo ++ zwO (oo 0) (os 0) ++ zwO (oo 1) (os 1) ++ zwO (oo 2) (os 2) ++ zwO (oo 3) (os 3) ++ zwO (oo 4) (os 4) ++ zwO (oo 5) (os 5) ++ zwO (oo 6) (os 6) ++ zwO (oo 7) (os 7) ++ zwO (oo 8) (os 8))) (va_runV (As := [.int a0]) (rest := []) ⟨hx, hb, hml, hown, hts⟩ (c_X2_append l D cI cB cO Po Pp Ps Pa a0 _ _ _ _ g6) (cwV 1 hts gX5_letter_X2_append rfl rfl rfl kV_X2_append ⟨Nat.le_trans (Nat.le_of_ble_eq_true rfl) hRf, Nat.le_trans (Nat.le_of_ble_eq_true rfl) hRl⟩) (zpreV hK hP hD hS hE hFc [1, 2] rfl rfl 1 (ci := 2) rfl rfl [.int a0]) rfl rfl hl.1 rfl (lv_room (Nat.le_of_ble_eq_true rfl)) dX5_letter_20 ⟨Nat.zero_le _, Nat.zero_le _⟩) hP hD hS hFc [1, 2] [0, 3, 4, 5, 6, 7, 8, 9, 10, 11, 12, 13, 14, 15, 16, 17, 18, 19, 20, 21, 22, 23, 24, 25, 26, 27, 28, 29, 30, 31, 32] [0, 31, 32, 1, 2, 3, 4, 5, 6, 7, 8, 9, 10, 11, 12, 13, 14, 15, 16, 17, 18, 19, 20, 21, 22, 23, 24, 25, 26, 27, 28, 29, 30] 33 rfl rfl rfl rfl (fun H locs hP hD hS => ?_)
      refine lv_if_eq (tgt := 36) hx hb dX5_letter_23 (by decide) (fun c7 => ?_) (fun c7 => ?_)
      · have h := zif_t c7 h
        refine lv_bipush (v := (-104 : Int32)) hx hb dX5_letter_36 (by decide) ?_
        cases zend h
        exact hq hP hD hS dX5_letter_38
      · have h := zif_f c7 h
        refine lv_aload_n hx hb dX5_letter_26 rfl (lv_at hl 0 rfl) ?_
        refine va_get (D := D) (ci := 5) (v := .ref Po) (C := RX5) (T := TX5) (N := 13) hx hb hts inX5 hown hK hP 0 rfl rfl 0 (by decide) lk12 (fun _ h9 => h9) rfl dX5_letter_27 ?_
        refine va_getN (D := D) (ci := 2) (v := .int (Ps_4 1)) (C := RX2) (T := TX2) (N := 2) hx hb hts inX2 hown hK hP 1 rfl rfl 1 (by decide) lk63 (fun _ h9 => h9) rfl dX5_letter_30 ?_
        refine lv_goto (tgt := 38) hx hb dX5_letter_33 (by decide) ?_
        cases zend h
        exact hq hP hD hS dX5_letter_38
    · have h := zif_f c2 h
      refine lv_bipush (v := (-102 : Int32)) hx hb dX5_letter_12 (by decide) ?_
      cases zend h
      exact hq hP hD hS dX5_letter_14
set_option maxHeartbeats 4000000 in
set_option maxRecDepth 100000 in
theorem c_X5_blank (l : Launch) (D : va_G) (cI cB cO : ClassId) (Xo : Nat) (Po : Nat) (Pp : Nat → Nat) (Go : Nat) (Gp : Nat → Nat) (No : Nat) (Np : Nat → Nat) (Qo : Nat) (Qp : Nat → Nat) (Ko : Nat) (Kp : Nat → Nat) (Lo : Nat) (Lp : Nat → Nat) (To : Nat) (Tp : Nat → Nat) (ra : Nat) (oo : Nat → Nat) (Xs : Nat → Int32) (Ps : Nat → Int32) (Pa : Nat → Nat → Int32) (Gs : Nat → Int32) (Ga : Nat → Nat → Int32) (Ns : Nat → Int32) (Na : Nat → Nat → Int32) (Qs : Nat → Int32) (Qa : Nat → Nat → Int32) (Ks : Nat → Int32) (Ka : Nat → Nat → Int32) (Ls : Nat → Int32) (La : Nat → Nat → Int32) (Ts : Nat → Int32) (Ta : Nat → Nat → Int32) (os : Nat → Nat → Int32)  (rv : Int32) (Ps' : Nat → Int32) (sz : Nat) (h : fX5_blank Ps = some (rv, Ps')) : Met l yX5_blank wsX5_blank ({ frames := 0, cells := 0, slots := 0, locals := 0 } : Room) (va_Pc [.ref Xo] (zPre D (zTY cI cB cO) (zwX Xo Po Go No Qo Ko Lo To oo ra Xs ++ zwP cI Po Pp Ps Pa ++ zwG cI Go Gp Gs Ga ++ zwS cI No Np Go Ns Na ++ zwQ cI Qo Qp Qs Qa ++ zwS cI Ko Kp Go Ks Ka ++ zwQ cI Lo Lp Ls La ++ zwS cI To Tp Go Ts Ta ++ zwR cO ra oo ++ zwO (oo 0) (os 0) ++ zwO (oo 1) (os 1) ++ zwO (oo 2) (os 2) ++ zwO (oo 3) (os 3) ++ zwO (oo 4) (os 4) ++ zwO (oo 5) (os 5) ++ zwO (oo 6) (os 6) ++ zwO (oo 7) (os 7) ++ zwO (oo 8) (os 8)) sz)) (va_Qi (fun r (_ : Unit) => r = rv) (fun _ => zPost D (zTY cI cB cO) (zwX Xo Po Go No Qo Ko Lo To oo ra Xs ++ zwP cI Po Pp Ps' Pa ++ zwG cI Go Gp Gs Ga ++ zwS cI No Np Go Ns Na ++ zwQ cI Qo Qp Qs Qa ++ zwS cI Ko Kp Go Ks Ka ++ zwQ cI Lo Lp Ls La ++ zwS cI To Tp Go Ts Ta ++ zwR cO ra oo ++ zwO (oo 0) (os 0) ++ zwO (oo 1) (os 1) ++ zwO (oo 2) (os 2) ++ zwO (oo 3) (os 3) ++ zwO (oo 4) (os 4) ++ zwO (oo 5) (os 5) ++ zwO (oo 6) (os 6) ++ zwO (oo 7) (os 7) ++ zwO (oo 8) (os 8)) (va_A (zwX Xo Po Go No Qo Ko Lo To oo ra Xs ++ zwP cI Po Pp Ps Pa ++ zwG cI Go Gp Gs Ga ++ zwS cI No Np Go Ns Na ++ zwQ cI Qo Qp Qs Qa ++ zwS cI Ko Kp Go Ks Ka ++ zwQ cI Lo Lp Ls La ++ zwS cI To Tp Go Ts Ta ++ zwR cO ra oo ++ zwO (oo 0) (os 0) ++ zwO (oo 1) (os 1) ++ zwO (oo 2) (os 2) ++ zwO (oo 3) (os 3) ++ zwO (oo 4) (os 4) ++ zwO (oo 5) (os 5) ++ zwO (oo 6) (os 6) ++ zwO (oo 7) (os 7) ++ zwO (oo 8) (os 8)) sz)) (va_A (zwX Xo Po Go No Qo Ko Lo To oo ra Xs ++ zwP cI Po Pp Ps Pa ++ zwG cI Go Gp Gs Ga ++ zwS cI No Np Go Ns Na ++ zwQ cI Qo Qp Qs Qa ++ zwS cI Ko Kp Go Ks Ka ++ zwQ cI Lo Lp Ls La ++ zwS cI To Tp Go Ts Ta ++ zwR cO ra oo ++ zwO (oo 0) (os 0) ++ zwO (oo 1) (os 1) ++ zwO (oo 2) (os 2) ++ zwO (oo 3) (os 3) ++ zwO (oo 4) (os 4) ++ zwO (oo 5) (os 5) ++ zwO (oo 6) (os 6) ++ zwO (oo 7) (os 7) ++ zwO (oo 8) (os 8)) sz)) 0 0 (va_A (zwX Xo Po Go No Qo Ko Lo To oo ra Xs ++ zwP cI Po Pp Ps Pa ++ zwG cI Go Gp Gs Ga ++ zwS cI No Np Go Ns Na ++ zwQ cI Qo Qp Qs Qa ++ zwS cI Ko Kp Go Ks Ka ++ zwQ cI Lo Lp Ls La ++ zwS cI To Tp Go Ts Ta ++ zwR cO ra oo ++ zwO (oo 0) (os 0) ++ zwO (oo 1) (os 1) ++ zwO (oo 2) (os 2) ++ zwO (oo 3) (os 3) ++ zwO (oo 4) (os 4) ++ zwO (oo 5) (os 5) ++ zwO (oo 6) (os 6) ++ zwO (oo 7) (os 7) ++ zwO (oo 8) (os 8)) sz) := by
  unfold fX5_blank at h
  refine zmet_i (cc := cX5_blank) (maxL := 2) (by decide) rfl (Nat.le_of_ble_eq_true rfl) rfl rfl ?_
  intro p e s m args below meth c R Q A ls hx hb hts hown hml hK hP hD hE hA hS hRf hRl hl hq
  have hown : s.vm.findClass RX5 = some m.cls := hown
  have hl : lv_has ls 2 [(0, .ref Xo)] := hl
  have inX5 : ∀ w ∈ u_ws RX5 TX5 13, w ∈ wsX5_blank := by decide +kernel
  have lk12 : (Cond.fieldLink RX5 12 "PegField" "page" "LPegField$Page;").before args s = true := hts _ (by decide +kernel)
  have inX2 : ∀ w ∈ u_ws RX2 TX2 2, w ∈ wsX5_blank := by decide +kernel
  have lk63 : (Cond.fieldLinkNest RX5 63 "PegField$Page" "size" "I" "PegField").before args s = true := hE.2.use (by decide +kernel)
  refine lv_aload_n hx hb dX5_blank_0 rfl (lv_at hl 0 rfl) ?_
  refine va_get (D := D) (ci := 5) (v := .ref Po) (C := RX5) (T := TX5) (N := 13) hx hb hts inX5 hown hK hP 0 rfl rfl 0 (by decide) lk12 (fun _ h9 => h9) rfl dX5_blank_1 ?_
  refine va_getN (D := D) (ci := 2) (v := .int (Ps 1)) (C := RX2) (T := TX2) (N := 2) hx hb hts inX2 hown hK hP 1 rfl rfl 1 (by decide) lk63 (fun _ h9 => h9) rfl dX5_blank_4 ?_
  refine lv_topi (fun x1_1 ex1_1 => ?_)
  have h := zlt_s h ex1_1
  refine lv_istore_n (lv' := [(1, .int x1_1), (0, .ref Xo)]) hx hb dX5_blank_7 rfl hl (by decide) rfl (fun ls hl => ?_)
  refine lv_aload_n hx hb dX5_blank_8 rfl (lv_at hl 1 rfl) ?_
  refine va_get (D := D) (ci := 5) (v := .ref Po) (C := RX5) (T := TX5) (N := 13) hx hb hts inX5 hown hK hP 0 rfl rfl 0 (by decide) lk12 (fun _ h9 => h9) rfl dX5_blank_9 ?_
  refine lv_iconst (v := (0 : Int32)) hx hb dX5_blank_12 (by decide) ?_
  refine va_putN (D := D) (ci := 2) (v := .int (0 : Int32)) (ty := .int) (C := RX2) (T := TX2) (N := 2) hx hb hts inX2 tyX2 tyX2_ok nmX2 hown hK hP hD hS 1 rfl rfl 1 (by decide) lk63 (fun _ h9 => h9) rfl (by decide +kernel) rfl rfl (Nat.le_of_ble_eq_true rfl) dX5_blank_13 (fun H locs hP hD hS => ?_)
  have hP : va_P D vwCl (zwX Xo Po Go No Qo Ko Lo To oo ra Xs ++ zwP cI Po Pp (upd Ps 1 (0 : Int32)) Pa ++ zwG cI Go Gp Gs Ga ++ zwS cI No Np Go Ns Na ++ zwQ cI Qo Qp Qs Qa ++ zwS cI Ko Kp Go Ks Ka ++ zwQ cI Lo Lp Ls La ++ zwS cI To Tp Go Ts Ta ++ zwR cO ra oo ++ zwO (oo 0) (os 0) ++ zwO (oo 1) (os 1) ++ zwO (oo 2) (os 2) ++ zwO (oo 3) (os 3) ++ zwO (oo 4) (os 4) ++ zwO (oo 5) (os 5) ++ zwO (oo 6) (os 6) ++ zwO (oo 7) (os 7) ++ zwO (oo 8) (os 8)) H := hP
  have hD : va_D A (zwX Xo Po Go No Qo Ko Lo To oo ra Xs ++ zwP cI Po Pp (upd Ps 1 (0 : Int32)) Pa ++ zwG cI Go Gp Gs Ga ++ zwS cI No Np Go Ns Na ++ zwQ cI Qo Qp Qs Qa ++ zwS cI Ko Kp Go Ks Ka ++ zwQ cI Lo Lp Ls La ++ zwS cI To Tp Go Ts Ta ++ zwR cO ra oo ++ zwO (oo 0) (os 0) ++ zwO (oo 1) (os 1) ++ zwO (oo 2) (os 2) ++ zwO (oo 3) (os 3) ++ zwO (oo 4) (os 4) ++ zwO (oo 5) (os 5) ++ zwO (oo 6) (os 6) ++ zwO (oo 7) (os 7) ++ zwO (oo 8) (os 8)) := hD
  refine lv_iload_n hx hb dX5_blank_16 rfl (lv_at hl 0 rfl) ?_
  cases zend h
  exact hq hP hD hS dX5_blank_17
set_option maxHeartbeats 4000000 in
set_option maxRecDepth 100000 in
theorem c_X5_fault (l : Launch) (D : va_G) (cI cB cO : ClassId) (Xo : Nat) (Po : Nat) (Pp : Nat → Nat) (Go : Nat) (Gp : Nat → Nat) (No : Nat) (Np : Nat → Nat) (Qo : Nat) (Qp : Nat → Nat) (Ko : Nat) (Kp : Nat → Nat) (Lo : Nat) (Lp : Nat → Nat) (To : Nat) (Tp : Nat → Nat) (ra : Nat) (oo : Nat → Nat) (Xs : Nat → Int32) (Ps : Nat → Int32) (Pa : Nat → Nat → Int32) (Gs : Nat → Int32) (Ga : Nat → Nat → Int32) (Ns : Nat → Int32) (Na : Nat → Nat → Int32) (Qs : Nat → Int32) (Qa : Nat → Nat → Int32) (Ks : Nat → Int32) (Ka : Nat → Nat → Int32) (Ls : Nat → Int32) (La : Nat → Nat → Int32) (Ts : Nat → Int32) (Ta : Nat → Nat → Int32) (os : Nat → Nat → Int32)  (rv : Int32) (sz : Nat) (h : fX5_fault Ps Pa = some rv) : Met l yX5_fault wsX5_fault ({ frames := 5, cells := 0, slots := 0, locals := 110 } : Room) (va_Pc [.ref Xo] (zPre D (zTY cI cB cO) (zwX Xo Po Go No Qo Ko Lo To oo ra Xs ++ zwP cI Po Pp Ps Pa ++ zwG cI Go Gp Gs Ga ++ zwS cI No Np Go Ns Na ++ zwQ cI Qo Qp Qs Qa ++ zwS cI Ko Kp Go Ks Ka ++ zwQ cI Lo Lp Ls La ++ zwS cI To Tp Go Ts Ta ++ zwR cO ra oo ++ zwO (oo 0) (os 0) ++ zwO (oo 1) (os 1) ++ zwO (oo 2) (os 2) ++ zwO (oo 3) (os 3) ++ zwO (oo 4) (os 4) ++ zwO (oo 5) (os 5) ++ zwO (oo 6) (os 6) ++ zwO (oo 7) (os 7) ++ zwO (oo 8) (os 8)) sz)) (va_Qi (fun r (_ : Unit) => r = rv) (fun _ => zPost D (zTY cI cB cO) (zwX Xo Po Go No Qo Ko Lo To oo ra Xs ++ zwP cI Po Pp Ps Pa ++ zwG cI Go Gp Gs Ga ++ zwS cI No Np Go Ns Na ++ zwQ cI Qo Qp Qs Qa ++ zwS cI Ko Kp Go Ks Ka ++ zwQ cI Lo Lp Ls La ++ zwS cI To Tp Go Ts Ta ++ zwR cO ra oo ++ zwO (oo 0) (os 0) ++ zwO (oo 1) (os 1) ++ zwO (oo 2) (os 2) ++ zwO (oo 3) (os 3) ++ zwO (oo 4) (os 4) ++ zwO (oo 5) (os 5) ++ zwO (oo 6) (os 6) ++ zwO (oo 7) (os 7) ++ zwO (oo 8) (os 8)) (va_A (zwX Xo Po Go No Qo Ko Lo To oo ra Xs ++ zwP cI Po Pp Ps Pa ++ zwG cI Go Gp Gs Ga ++ zwS cI No Np Go Ns Na ++ zwQ cI Qo Qp Qs Qa ++ zwS cI Ko Kp Go Ks Ka ++ zwQ cI Lo Lp Ls La ++ zwS cI To Tp Go Ts Ta ++ zwR cO ra oo ++ zwO (oo 0) (os 0) ++ zwO (oo 1) (os 1) ++ zwO (oo 2) (os 2) ++ zwO (oo 3) (os 3) ++ zwO (oo 4) (os 4) ++ zwO (oo 5) (os 5) ++ zwO (oo 6) (os 6) ++ zwO (oo 7) (os 7) ++ zwO (oo 8) (os 8)) sz)) (va_A (zwX Xo Po Go No Qo Ko Lo To oo ra Xs ++ zwP cI Po Pp Ps Pa ++ zwG cI Go Gp Gs Ga ++ zwS cI No Np Go Ns Na ++ zwQ cI Qo Qp Qs Qa ++ zwS cI Ko Kp Go Ks Ka ++ zwQ cI Lo Lp Ls La ++ zwS cI To Tp Go Ts Ta ++ zwR cO ra oo ++ zwO (oo 0) (os 0) ++ zwO (oo 1) (os 1) ++ zwO (oo 2) (os 2) ++ zwO (oo 3) (os 3) ++ zwO (oo 4) (os 4) ++ zwO (oo 5) (os 5) ++ zwO (oo 6) (os 6) ++ zwO (oo 7) (os 7) ++ zwO (oo 8) (os 8)) sz)) 0 0 (va_A (zwX Xo Po Go No Qo Ko Lo To oo ra Xs ++ zwP cI Po Pp Ps Pa ++ zwG cI Go Gp Gs Ga ++ zwS cI No Np Go Ns Na ++ zwQ cI Qo Qp Qs Qa ++ zwS cI Ko Kp Go Ks Ka ++ zwQ cI Lo Lp Ls La ++ zwS cI To Tp Go Ts Ta ++ zwR cO ra oo ++ zwO (oo 0) (os 0) ++ zwO (oo 1) (os 1) ++ zwO (oo 2) (os 2) ++ zwO (oo 3) (os 3) ++ zwO (oo 4) (os 4) ++ zwO (oo 5) (os 5) ++ zwO (oo 6) (os 6) ++ zwO (oo 7) (os 7) ++ zwO (oo 8) (os 8)) sz) := by
  unfold fX5_fault at h
  refine zmet_i (cc := cX5_fault) (maxL := 1) (by decide) rfl (Nat.le_of_ble_eq_true rfl) rfl rfl ?_
  intro p e s m args below meth c R Q A ls hx hb hts hown hml hK hP hD hE hA hS hRf hRl hl hq
  have hown : s.vm.findClass RX5 = some m.cls := hown
  have hl : lv_has ls 1 [(0, .ref Xo)] := hl
  have inX5 : ∀ w ∈ u_ws RX5 TX5 13, w ∈ wsX5_fault := by decide +kernel
  have lk12 : (Cond.fieldLink RX5 12 "PegField" "page" "LPegField$Page;").before args s = true := hts _ (by decide +kernel)
  refine lv_aload_n hx hb dX5_fault_0 rfl (lv_at hl 0 rfl) ?_
  refine va_get (D := D) (ci := 5) (v := .ref Po) (C := RX5) (T := TX5) (N := 13) hx hb hts inX5 hown hK hP 0 rfl rfl 0 (by decide) lk12 (fun _ h9 => h9) rfl dX5_fault_1 ?_
  obtain ⟨r1, g2, h⟩ := zb1_s h
  have hFc := va_free (wc := (zwP cI Po Pp Ps Pa)) hD hS hA [1, 2] rfl
  refine zcall_i (w2 := (zwX Xo Po Go No Qo Ko Lo To oo ra Xs ++ zwP cI Po Pp Ps Pa ++ zwG cI Go Gp Gs Ga ++ zwS cI No Np Go Ns Na ++ zwQ cI Qo Qp Qs Qa ++ zwS cI Ko Kp Go Ks Ka ++ zwQ cI Lo Lp Ls La ++ zwS cI To Tp Go Ts Ta ++ zwR cO ra oo ++ zwO (oo 0) (os 0) ++ zwO (oo 1) (os 1) ++ zwO (oo 2) (os 2) ++ zwO (oo 3) (os 3) ++ zwO (oo 4) (os 4) ++ zwO (oo 5) (os 5) ++ zwO (oo 6) (os 6) ++ zwO (oo 7) (os 7) ++ zwO (oo 8) (os 8))) (va_runV (As := []) (rest := []) ⟨hx, hb, hml, hown, hts⟩ (c_X2_firstFault l D cI cB cO Po Pp Ps Pa _ _ g2) (cwV 0 hts gX5_fault_X2_firstFault rfl rfl rfl kV_X2_firstFault ⟨Nat.le_trans (Nat.le_of_ble_eq_true rfl) hRf, Nat.le_trans (Nat.le_of_ble_eq_true rfl) hRl⟩) (zpreV hK hP hD hS hE hFc [1, 2] rfl rfl 1 (ci := 2) rfl rfl []) rfl rfl hl.1 rfl (lv_room (Nat.le_of_ble_eq_true rfl)) dX5_fault_4 ⟨Nat.zero_le _, Nat.zero_le _⟩) hP hD hS hFc [1, 2] [0, 3, 4, 5, 6, 7, 8, 9, 10, 11, 12, 13, 14, 15, 16, 17, 18, 19, 20, 21, 22, 23, 24, 25, 26, 27, 28, 29, 30, 31, 32] [0, 31, 32, 1, 2, 3, 4, 5, 6, 7, 8, 9, 10, 11, 12, 13, 14, 15, 16, 17, 18, 19, 20, 21, 22, 23, 24, 25, 26, 27, 28, 29, 30] 33 rfl rfl rfl rfl (fun H locs hP hD hS => ?_)
  cases zend h
  exact hq hP hD hS dX5_fault_7
set_option maxHeartbeats 4000000 in
set_option maxRecDepth 100000 in
theorem c_X5_board (l : Launch) (D : va_G) (cI cB cO : ClassId) (Xo : Nat) (Po : Nat) (Pp : Nat → Nat) (Go : Nat) (Gp : Nat → Nat) (No : Nat) (Np : Nat → Nat) (Qo : Nat) (Qp : Nat → Nat) (Ko : Nat) (Kp : Nat → Nat) (Lo : Nat) (Lp : Nat → Nat) (To : Nat) (Tp : Nat → Nat) (ra : Nat) (oo : Nat → Nat) (Xs : Nat → Int32) (Ps : Nat → Int32) (Pa : Nat → Nat → Int32) (Gs : Nat → Int32) (Ga : Nat → Nat → Int32) (Ns : Nat → Int32) (Na : Nat → Nat → Int32) (Qs : Nat → Int32) (Qa : Nat → Nat → Int32) (Ks : Nat → Int32) (Ka : Nat → Nat → Int32) (Ls : Nat → Int32) (La : Nat → Nat → Int32) (Ts : Nat → Int32) (Ta : Nat → Nat → Int32) (os : Nat → Nat → Int32)  (rv : Int32) (Xs' : Nat → Int32) (Ps' : Nat → Int32) (Gs' : Nat → Int32) (Ga' : Nat → Nat → Int32) (Ns' : Nat → Int32) (Na' : Nat → Nat → Int32) (Qs' : Nat → Int32) (sz : Nat) (h : fX5_board Xs Ps Pa Gs Ga Ns Na Qs = some (rv, Xs', Ps', Gs', Ga', Ns', Na', Qs')) : Met l yX5_board wsX5_board ({ frames := 6, cells := 0, slots := 0, locals := 130 } : Room) (va_Pc [.ref Xo] (zPre D (zTY cI cB cO) (zwX Xo Po Go No Qo Ko Lo To oo ra Xs ++ zwP cI Po Pp Ps Pa ++ zwG cI Go Gp Gs Ga ++ zwS cI No Np Go Ns Na ++ zwQ cI Qo Qp Qs Qa ++ zwS cI Ko Kp Go Ks Ka ++ zwQ cI Lo Lp Ls La ++ zwS cI To Tp Go Ts Ta ++ zwR cO ra oo ++ zwO (oo 0) (os 0) ++ zwO (oo 1) (os 1) ++ zwO (oo 2) (os 2) ++ zwO (oo 3) (os 3) ++ zwO (oo 4) (os 4) ++ zwO (oo 5) (os 5) ++ zwO (oo 6) (os 6) ++ zwO (oo 7) (os 7) ++ zwO (oo 8) (os 8)) sz)) (va_Qi (fun r (_ : Unit) => r = rv) (fun _ => zPost D (zTY cI cB cO) (zwX Xo Po Go No Qo Ko Lo To oo ra Xs' ++ zwP cI Po Pp Ps' Pa ++ zwG cI Go Gp Gs' Ga' ++ zwS cI No Np Go Ns' Na' ++ zwQ cI Qo Qp Qs' Qa ++ zwS cI Ko Kp Go Ks Ka ++ zwQ cI Lo Lp Ls La ++ zwS cI To Tp Go Ts Ta ++ zwR cO ra oo ++ zwO (oo 0) (os 0) ++ zwO (oo 1) (os 1) ++ zwO (oo 2) (os 2) ++ zwO (oo 3) (os 3) ++ zwO (oo 4) (os 4) ++ zwO (oo 5) (os 5) ++ zwO (oo 6) (os 6) ++ zwO (oo 7) (os 7) ++ zwO (oo 8) (os 8)) (va_A (zwX Xo Po Go No Qo Ko Lo To oo ra Xs ++ zwP cI Po Pp Ps Pa ++ zwG cI Go Gp Gs Ga ++ zwS cI No Np Go Ns Na ++ zwQ cI Qo Qp Qs Qa ++ zwS cI Ko Kp Go Ks Ka ++ zwQ cI Lo Lp Ls La ++ zwS cI To Tp Go Ts Ta ++ zwR cO ra oo ++ zwO (oo 0) (os 0) ++ zwO (oo 1) (os 1) ++ zwO (oo 2) (os 2) ++ zwO (oo 3) (os 3) ++ zwO (oo 4) (os 4) ++ zwO (oo 5) (os 5) ++ zwO (oo 6) (os 6) ++ zwO (oo 7) (os 7) ++ zwO (oo 8) (os 8)) sz)) (va_A (zwX Xo Po Go No Qo Ko Lo To oo ra Xs ++ zwP cI Po Pp Ps Pa ++ zwG cI Go Gp Gs Ga ++ zwS cI No Np Go Ns Na ++ zwQ cI Qo Qp Qs Qa ++ zwS cI Ko Kp Go Ks Ka ++ zwQ cI Lo Lp Ls La ++ zwS cI To Tp Go Ts Ta ++ zwR cO ra oo ++ zwO (oo 0) (os 0) ++ zwO (oo 1) (os 1) ++ zwO (oo 2) (os 2) ++ zwO (oo 3) (os 3) ++ zwO (oo 4) (os 4) ++ zwO (oo 5) (os 5) ++ zwO (oo 6) (os 6) ++ zwO (oo 7) (os 7) ++ zwO (oo 8) (os 8)) sz)) 0 0 (va_A (zwX Xo Po Go No Qo Ko Lo To oo ra Xs ++ zwP cI Po Pp Ps Pa ++ zwG cI Go Gp Gs Ga ++ zwS cI No Np Go Ns Na ++ zwQ cI Qo Qp Qs Qa ++ zwS cI Ko Kp Go Ks Ka ++ zwQ cI Lo Lp Ls La ++ zwS cI To Tp Go Ts Ta ++ zwR cO ra oo ++ zwO (oo 0) (os 0) ++ zwO (oo 1) (os 1) ++ zwO (oo 2) (os 2) ++ zwO (oo 3) (os 3) ++ zwO (oo 4) (os 4) ++ zwO (oo 5) (os 5) ++ zwO (oo 6) (os 6) ++ zwO (oo 7) (os 7) ++ zwO (oo 8) (os 8)) sz) := by
  unfold fX5_board at h
  refine zmet_i (cc := cX5_board) (maxL := 1) (by decide) rfl (Nat.le_of_ble_eq_true rfl) rfl rfl ?_
  intro p e s m args below meth c R Q A ls hx hb hts hown hml hK hP hD hE hA hS hRf hRl hl hq
  have hown : s.vm.findClass RX5 = some m.cls := hown
  have hl : lv_has ls 1 [(0, .ref Xo)] := hl
  have inX5 : ∀ w ∈ u_ws RX5 TX5 13, w ∈ wsX5_board := by decide +kernel
  have lk12 : (Cond.fieldLink RX5 12 "PegField" "page" "LPegField$Page;").before args s = true := hts _ (by decide +kernel)
  have lk19 : (Cond.fieldLink RX5 19 "PegField" "grid" "LPegField$Grid;").before args s = true := hts _ (by decide +kernel)
  have lk28 : (Cond.fieldLink RX5 28 "PegField" "now" "LPegField$State;").before args s = true := hts _ (by decide +kernel)
  have lk35 : (Cond.fieldLink RX5 35 "PegField" "seen" "LPegField$Seen;").before args s = true := hts _ (by decide +kernel)
  have inX3 : ∀ w ∈ u_ws RX3 TX3 3, w ∈ wsX5_board := by decide +kernel
  have lk87 : (Cond.fieldLinkNest RX5 87 "PegField$Seen" "size" "I" "PegField").before args s = true := hE.2.use (by decide +kernel)
  have inX2 : ∀ w ∈ u_ws RX2 TX2 2, w ∈ wsX5_board := by decide +kernel
  have lk63 : (Cond.fieldLinkNest RX5 63 "PegField$Page" "size" "I" "PegField").before args s = true := hE.2.use (by decide +kernel)
  have lk88 : (Cond.fieldLink RX5 88 "PegField" "isKept" "Z").before args s = true := hts _ (by decide +kernel)
  have lk92 : (Cond.fieldLink RX5 92 "PegField" "isLooked" "Z").before args s = true := hts _ (by decide +kernel)
  have lk95 : (Cond.fieldLink RX5 95 "PegField" "reads" "I").before args s = true := hts _ (by decide +kernel)
  have inX4 : ∀ w ∈ u_ws RX4 TX4 8, w ∈ wsX5_board := by decide +kernel
  have lk98 : (Cond.fieldLinkNest RX5 98 "PegField$State" "pegs" "I" "PegField").before args s = true := hE.2.use (by decide +kernel)
  refine lv_aload_n hx hb dX5_board_0 rfl (lv_at hl 0 rfl) ?_
  refine va_get (D := D) (ci := 5) (v := .ref Po) (C := RX5) (T := TX5) (N := 13) hx hb hts inX5 hown hK hP 0 rfl rfl 0 (by decide) lk12 (fun _ h9 => h9) rfl dX5_board_1 ?_
  obtain ⟨r1, g2, h⟩ := zb1_s h
  have hFc := va_free (wc := (zwP cI Po Pp Ps Pa)) hD hS hA [1, 2] rfl
  refine zcall_i (w2 := (zwX Xo Po Go No Qo Ko Lo To oo ra Xs ++ zwP cI Po Pp Ps Pa ++ zwG cI Go Gp Gs Ga ++ zwS cI No Np Go Ns Na ++ zwQ cI Qo Qp Qs Qa ++ zwS cI Ko Kp Go Ks Ka ++ zwQ cI Lo Lp Ls La ++ zwS cI To Tp Go Ts Ta ++ zwR cO ra oo ++ zwO (oo 0) (os 0) ++ zwO (oo 1) (os 1) ++ zwO (oo 2) (os 2) ++ zwO (oo 3) (os 3) ++ zwO (oo 4) (os 4) ++ zwO (oo 5) (os 5) ++ zwO (oo 6) (os 6) ++ zwO (oo 7) (os 7) ++ zwO (oo 8) (os 8))) (va_runV (As := []) (rest := []) ⟨hx, hb, hml, hown, hts⟩ (c_X2_isBoard l D cI cB cO Po Pp Ps Pa _ _ g2) (cwV 0 hts gX5_board_X2_isBoard rfl rfl rfl kV_X2_isBoard ⟨Nat.le_trans (Nat.le_of_ble_eq_true rfl) hRf, Nat.le_trans (Nat.le_of_ble_eq_true rfl) hRl⟩) (zpreV hK hP hD hS hE hFc [1, 2] rfl rfl 1 (ci := 2) rfl rfl []) rfl rfl hl.1 rfl (lv_room (Nat.le_of_ble_eq_true rfl)) dX5_board_4 ⟨Nat.zero_le _, Nat.zero_le _⟩) hP hD hS hFc [1, 2] [0, 3, 4, 5, 6, 7, 8, 9, 10, 11, 12, 13, 14, 15, 16, 17, 18, 19, 20, 21, 22, 23, 24, 25, 26, 27, 28, 29, 30, 31, 32] [0, 31, 32, 1, 2, 3, 4, 5, 6, 7, 8, 9, 10, 11, 12, 13, 14, 15, 16, 17, 18, 19, 20, 21, 22, 23, 24, 25, 26, 27, 28, 29, 30] 33 rfl rfl rfl rfl (fun H locs hP hD hS => ?_)
  refine lv_if_ne (tgt := 13) hx hb dX5_board_7 (by decide) (fun c3 => ?_) (fun c3 => ?_)
  · have h := zif_f c3 h
    refine lv_aload_n hx hb dX5_board_13 rfl (lv_at hl 0 rfl) ?_
    refine va_get (D := D) (ci := 5) (v := .ref Go) (C := RX5) (T := TX5) (N := 13) hx hb hts inX5 hown hK hP 0 rfl rfl 1 (by decide) lk19 (fun _ h9 => h9) rfl dX5_board_14 ?_
    refine lv_aload_n hx hb dX5_board_17 rfl (lv_at hl 0 rfl) ?_
    refine va_get (D := D) (ci := 5) (v := .ref Po) (C := RX5) (T := TX5) (N := 13) hx hb hts inX5 hown hK hP 0 rfl rfl 0 (by decide) lk12 (fun _ h9 => h9) rfl dX5_board_18 ?_
    refine lv_iconst (v := (0 : Int32)) hx hb dX5_board_21 (by decide) ?_
    obtain ⟨r4, g5, h⟩ := zb1_s h
    have hFc := va_free (wc := (zwP cI Po Pp Ps Pa)) hD hS hA [1, 2] rfl
    refine zcall_i (w2 := (zwX Xo Po Go No Qo Ko Lo To oo ra Xs ++ zwP cI Po Pp Ps Pa ++ zwG cI Go Gp Gs Ga ++ zwS cI No Np Go Ns Na ++ zwQ cI Qo Qp Qs Qa ++ zwS cI Ko Kp Go Ks Ka ++ zwQ cI Lo Lp Ls La ++ zwS cI To Tp Go Ts Ta ++ zwR cO ra oo ++ zwO (oo 0) (os 0) ++ zwO (oo 1) (os 1) ++ zwO (oo 2) (os 2) ++ zwO (oo 3) (os 3) ++ zwO (oo 4) (os 4) ++ zwO (oo 5) (os 5) ++ zwO (oo 6) (os 6) ++ zwO (oo 7) (os 7) ++ zwO (oo 8) (os 8))) (va_runV (As := [.int (0 : Int32)]) (rest := [.ref Go]) ⟨hx, hb, hml, hown, hts⟩ (c_X2_digitAt l D cI cB cO Po Pp Ps Pa (0 : Int32) _ _ g5) (cwV 1 hts gX5_board_X2_digitAt rfl rfl rfl kV_X2_digitAt ⟨Nat.le_trans (Nat.le_of_ble_eq_true rfl) hRf, Nat.le_trans (Nat.le_of_ble_eq_true rfl) hRl⟩) (zpreV hK hP hD hS hE hFc [1, 2] rfl rfl 1 (ci := 2) rfl rfl [.int (0 : Int32)]) rfl rfl hl.1 rfl (lv_room (Nat.le_of_ble_eq_true rfl)) dX5_board_22 ⟨Nat.zero_le _, Nat.zero_le _⟩) hP hD hS hFc [1, 2] [0, 3, 4, 5, 6, 7, 8, 9, 10, 11, 12, 13, 14, 15, 16, 17, 18, 19, 20, 21, 22, 23, 24, 25, 26, 27, 28, 29, 30, 31, 32] [0, 31, 32, 1, 2, 3, 4, 5, 6, 7, 8, 9, 10, 11, 12, 13, 14, 15, 16, 17, 18, 19, 20, 21, 22, 23, 24, 25, 26, 27, 28, 29, 30] 33 rfl rfl rfl rfl (fun H locs hP hD hS => ?_)
    refine lv_aload_n hx hb dX5_board_25 rfl (lv_at hl 0 rfl) ?_
    refine va_get (D := D) (ci := 5) (v := .ref Po) (C := RX5) (T := TX5) (N := 13) hx hb hts inX5 hown hK hP 0 rfl rfl 0 (by decide) lk12 (fun _ h9 => h9) rfl dX5_board_26 ?_
    refine lv_iconst (v := (1 : Int32)) hx hb dX5_board_29 (by decide) ?_
    obtain ⟨r6, g7, h⟩ := zb1_s h
    have hFc := va_free (wc := (zwP cI Po Pp Ps Pa)) hD hS hA [1, 2] rfl
    refine zcall_i (w2 := (zwX Xo Po Go No Qo Ko Lo To oo ra Xs ++ zwP cI Po Pp Ps Pa ++ zwG cI Go Gp Gs Ga ++ zwS cI No Np Go Ns Na ++ zwQ cI Qo Qp Qs Qa ++ zwS cI Ko Kp Go Ks Ka ++ zwQ cI Lo Lp Ls La ++ zwS cI To Tp Go Ts Ta ++ zwR cO ra oo ++ zwO (oo 0) (os 0) ++ zwO (oo 1) (os 1) ++ zwO (oo 2) (os 2) ++ zwO (oo 3) (os 3) ++ zwO (oo 4) (os 4) ++ zwO (oo 5) (os 5) ++ zwO (oo 6) (os 6) ++ zwO (oo 7) (os 7) ++ zwO (oo 8) (os 8))) (va_runV (As := [.int (1 : Int32)]) (rest := [.int r4, .ref Go]) ⟨hx, hb, hml, hown, hts⟩ (c_X2_digitAt l D cI cB cO Po Pp Ps Pa (1 : Int32) _ _ g7) (cwV 1 hts gX5_board_X2_digitAt rfl rfl rfl kV_X2_digitAt ⟨Nat.le_trans (Nat.le_of_ble_eq_true rfl) hRf, Nat.le_trans (Nat.le_of_ble_eq_true rfl) hRl⟩) (zpreV hK hP hD hS hE hFc [1, 2] rfl rfl 1 (ci := 2) rfl rfl [.int (1 : Int32)]) rfl rfl hl.1 rfl (lv_room (Nat.le_of_ble_eq_true rfl)) dX5_board_30 ⟨Nat.zero_le _, Nat.zero_le _⟩) hP hD hS hFc [1, 2] [0, 3, 4, 5, 6, 7, 8, 9, 10, 11, 12, 13, 14, 15, 16, 17, 18, 19, 20, 21, 22, 23, 24, 25, 26, 27, 28, 29, 30, 31, 32] [0, 31, 32, 1, 2, 3, 4, 5, 6, 7, 8, 9, 10, 11, 12, 13, 14, 15, 16, 17, 18, 19, 20, 21, 22, 23, 24, 25, 26, 27, 28, 29, 30] 33 rfl rfl rfl rfl (fun H locs hP hD hS => ?_)
    obtain ⟨Gs_8, Ga_9, g10, h⟩ := zb2_s h
    have hFc := va_free (wc := (zwG cI Go Gp Gs Ga)) hD hS hA [3, 4] rfl
    refine zcall_v (w2 := (zwX Xo Po Go No Qo Ko Lo To oo ra Xs ++ zwP cI Po Pp Ps Pa ++ zwG cI Go Gp Gs_8 Ga_9 ++ zwS cI No Np Go Ns Na ++ zwQ cI Qo Qp Qs Qa ++ zwS cI Ko Kp Go Ks Ka ++ zwQ cI Lo Lp Ls La ++ zwS cI To Tp Go Ts Ta ++ zwR cO ra oo ++ zwO (oo 0) (os 0) ++ zwO (oo 1) (os 1) ++ zwO (oo 2) (os 2) ++ zwO (oo 3) (os 3) ++ zwO (oo 4) (os 4) ++ zwO (oo 5) (os 5) ++ zwO (oo 6) (os 6) ++ zwO (oo 7) (os 7) ++ zwO (oo 8) (os 8))) (va_runV (As := [.int r4, .int r6]) (rest := []) ⟨hx, hb, hml, hown, hts⟩ (c_X0_lay l D cI cB cO Go Gp Gs Ga r4 r6 _ _ _ g10) (cwV 2 hts gX5_board_X0_lay rfl rfl rfl kV_X0_lay ⟨Nat.le_trans (Nat.le_of_ble_eq_true rfl) hRf, Nat.le_trans (Nat.le_of_ble_eq_true rfl) hRl⟩) (zpreV hK hP hD hS hE hFc [3, 4] rfl rfl 3 (ci := 0) rfl rfl [.int r4, .int r6]) rfl rfl hl.1 rfl (lv_room (Nat.le_of_ble_eq_true rfl)) dX5_board_33 ⟨Nat.zero_le _, Nat.zero_le _⟩) hP hD hS hFc [3, 4] [0, 1, 2, 5, 6, 7, 8, 9, 10, 11, 12, 13, 14, 15, 16, 17, 18, 19, 20, 21, 22, 23, 24, 25, 26, 27, 28, 29, 30, 31, 32] [0, 1, 2, 31, 32, 3, 4, 5, 6, 7, 8, 9, 10, 11, 12, 13, 14, 15, 16, 17, 18, 19, 20, 21, 22, 23, 24, 25, 26, 27, 28, 29, 30] 33 rfl rfl rfl rfl (fun H locs hP hD hS => ?_)
    refine lv_aload_n hx hb dX5_board_36 rfl (lv_at hl 0 rfl) ?_
    refine va_get (D := D) (ci := 5) (v := .ref No) (C := RX5) (T := TX5) (N := 13) hx hb hts inX5 hown hK hP 0 rfl rfl 2 (by decide) lk28 (fun _ h9 => h9) rfl dX5_board_37 ?_
    refine lv_aload_n hx hb dX5_board_40 rfl (lv_at hl 0 rfl) ?_
    refine va_get (D := D) (ci := 5) (v := .ref Po) (C := RX5) (T := TX5) (N := 13) hx hb hts inX5 hown hK hP 0 rfl rfl 0 (by decide) lk12 (fun _ h9 => h9) rfl dX5_board_41 ?_
    obtain ⟨Ss_11, Sa_12, g13, h⟩ := zb2_s h
    have hFc := va_free (wc := (zwS cI No Np Go Ns Na ++ zwG cI Go Gp Gs_8 Ga_9 ++ zwP cI Po Pp Ps Pa)) hD hS hA [5, 6, 7, 8, 3, 4, 1, 2] rfl
    refine zcall_v (w2 := (zwX Xo Po Go No Qo Ko Lo To oo ra Xs ++ zwP cI Po Pp Ps Pa ++ zwG cI Go Gp Gs_8 Ga_9 ++ zwS cI No Np Go Ss_11 Sa_12 ++ zwQ cI Qo Qp Qs Qa ++ zwS cI Ko Kp Go Ks Ka ++ zwQ cI Lo Lp Ls La ++ zwS cI To Tp Go Ts Ta ++ zwR cO ra oo ++ zwO (oo 0) (os 0) ++ zwO (oo 1) (os 1) ++ zwO (oo 2) (os 2) ++ zwO (oo 3) (os 3) ++ zwO (oo 4) (os 4) ++ zwO (oo 5) (os 5) ++ zwO (oo 6) (os 6) ++ zwO (oo 7) (os 7) ++ zwO (oo 8) (os 8))) (va_runV (As := [.ref Po]) (rest := []) ⟨hx, hb, hml, hown, hts⟩ (c_X4_read l D cI cB cO No Np Go Gp Po Pp Ns Na Gs_8 Ga_9 Ps Pa _ _ _ g13) (cwV 1 hts gX5_board_X4_read rfl rfl rfl kV_X4_read ⟨Nat.le_trans (Nat.le_of_ble_eq_true rfl) hRf, Nat.le_trans (Nat.le_of_ble_eq_true rfl) hRl⟩) (zpreV hK hP hD hS hE hFc [5, 6, 7, 8, 3, 4, 1, 2] rfl rfl 5 (ci := 4) rfl rfl [.ref Po]) rfl rfl hl.1 rfl (lv_room (Nat.le_of_ble_eq_true rfl)) dX5_board_44 ⟨Nat.zero_le _, Nat.zero_le _⟩) hP hD hS hFc [5, 6, 7, 8, 3, 4, 1, 2] [0, 9, 10, 11, 12, 13, 14, 15, 16, 17, 18, 19, 20, 21, 22, 23, 24, 25, 26, 27, 28, 29, 30, 31, 32] [0, 31, 32, 29, 30, 25, 26, 27, 28, 1, 2, 3, 4, 5, 6, 7, 8, 9, 10, 11, 12, 13, 14, 15, 16, 17, 18, 19, 20, 21, 22, 23, 24] 33 rfl rfl rfl rfl (fun H locs hP hD hS => ?_)
    refine lv_aload_n hx hb dX5_board_47 rfl (lv_at hl 0 rfl) ?_
    refine va_get (D := D) (ci := 5) (v := .ref Qo) (C := RX5) (T := TX5) (N := 13) hx hb hts inX5 hown hK hP 0 rfl rfl 3 (by decide) lk35 (fun _ h9 => h9) rfl dX5_board_48 ?_
    refine lv_iconst (v := (0 : Int32)) hx hb dX5_board_51 (by decide) ?_
    refine va_putN (D := D) (ci := 3) (v := .int (0 : Int32)) (ty := .int) (C := RX3) (T := TX3) (N := 3) hx hb hts inX3 tyX3 tyX3_ok nmX3 hown hK hP hD hS 9 rfl rfl 2 (by decide) lk87 (fun _ h9 => h9) rfl (by decide +kernel) rfl rfl (Nat.le_of_ble_eq_true rfl) dX5_board_52 (fun H locs hP hD hS => ?_)
    have hP : va_P D vwCl (zwX Xo Po Go No Qo Ko Lo To oo ra Xs ++ zwP cI Po Pp Ps Pa ++ zwG cI Go Gp Gs_8 Ga_9 ++ zwS cI No Np Go Ss_11 Sa_12 ++ zwQ cI Qo Qp (upd Qs 2 (0 : Int32)) Qa ++ zwS cI Ko Kp Go Ks Ka ++ zwQ cI Lo Lp Ls La ++ zwS cI To Tp Go Ts Ta ++ zwR cO ra oo ++ zwO (oo 0) (os 0) ++ zwO (oo 1) (os 1) ++ zwO (oo 2) (os 2) ++ zwO (oo 3) (os 3) ++ zwO (oo 4) (os 4) ++ zwO (oo 5) (os 5) ++ zwO (oo 6) (os 6) ++ zwO (oo 7) (os 7) ++ zwO (oo 8) (os 8)) H := hP
    have hD : va_D A (zwX Xo Po Go No Qo Ko Lo To oo ra Xs ++ zwP cI Po Pp Ps Pa ++ zwG cI Go Gp Gs_8 Ga_9 ++ zwS cI No Np Go Ss_11 Sa_12 ++ zwQ cI Qo Qp (upd Qs 2 (0 : Int32)) Qa ++ zwS cI Ko Kp Go Ks Ka ++ zwQ cI Lo Lp Ls La ++ zwS cI To Tp Go Ts Ta ++ zwR cO ra oo ++ zwO (oo 0) (os 0) ++ zwO (oo 1) (os 1) ++ zwO (oo 2) (os 2) ++ zwO (oo 3) (os 3) ++ zwO (oo 4) (os 4) ++ zwO (oo 5) (os 5) ++ zwO (oo 6) (os 6) ++ zwO (oo 7) (os 7) ++ zwO (oo 8) (os 8)) := hD
    refine lv_aload_n hx hb dX5_board_55 rfl (lv_at hl 0 rfl) ?_
    refine va_get (D := D) (ci := 5) (v := .ref Po) (C := RX5) (T := TX5) (N := 13) hx hb hts inX5 hown hK hP 0 rfl rfl 0 (by decide) lk12 (fun _ h9 => h9) rfl dX5_board_56 ?_
    refine lv_iconst (v := (0 : Int32)) hx hb dX5_board_59 (by decide) ?_
    refine va_putN (D := D) (ci := 2) (v := .int (0 : Int32)) (ty := .int) (C := RX2) (T := TX2) (N := 2) hx hb hts inX2 tyX2 tyX2_ok nmX2 hown hK hP hD hS 1 rfl rfl 1 (by decide) lk63 (fun _ h9 => h9) rfl (by decide +kernel) rfl rfl (Nat.le_of_ble_eq_true rfl) dX5_board_60 (fun H locs hP hD hS => ?_)
    have hP : va_P D vwCl (zwX Xo Po Go No Qo Ko Lo To oo ra Xs ++ zwP cI Po Pp (upd Ps 1 (0 : Int32)) Pa ++ zwG cI Go Gp Gs_8 Ga_9 ++ zwS cI No Np Go Ss_11 Sa_12 ++ zwQ cI Qo Qp (upd Qs 2 (0 : Int32)) Qa ++ zwS cI Ko Kp Go Ks Ka ++ zwQ cI Lo Lp Ls La ++ zwS cI To Tp Go Ts Ta ++ zwR cO ra oo ++ zwO (oo 0) (os 0) ++ zwO (oo 1) (os 1) ++ zwO (oo 2) (os 2) ++ zwO (oo 3) (os 3) ++ zwO (oo 4) (os 4) ++ zwO (oo 5) (os 5) ++ zwO (oo 6) (os 6) ++ zwO (oo 7) (os 7) ++ zwO (oo 8) (os 8)) H := hP
    have hD : va_D A (zwX Xo Po Go No Qo Ko Lo To oo ra Xs ++ zwP cI Po Pp (upd Ps 1 (0 : Int32)) Pa ++ zwG cI Go Gp Gs_8 Ga_9 ++ zwS cI No Np Go Ss_11 Sa_12 ++ zwQ cI Qo Qp (upd Qs 2 (0 : Int32)) Qa ++ zwS cI Ko Kp Go Ks Ka ++ zwQ cI Lo Lp Ls La ++ zwS cI To Tp Go Ts Ta ++ zwR cO ra oo ++ zwO (oo 0) (os 0) ++ zwO (oo 1) (os 1) ++ zwO (oo 2) (os 2) ++ zwO (oo 3) (os 3) ++ zwO (oo 4) (os 4) ++ zwO (oo 5) (os 5) ++ zwO (oo 6) (os 6) ++ zwO (oo 7) (os 7) ++ zwO (oo 8) (os 8)) := hD
    refine lv_aload_n hx hb dX5_board_63 rfl (lv_at hl 0 rfl) ?_
    refine lv_iconst (v := (0 : Int32)) hx hb dX5_board_64 (by decide) ?_
    refine va_put (D := D) (ci := 5) (v := .int (0 : Int32)) (ty := .boolean) (C := RX5) (T := TX5) (N := 13) hx hb hts inX5 tyX5 tyX5_ok nmX5 hown hK hP hD hS 0 rfl rfl 6 (by decide) lk88 (fun _ h9 => h9) rfl (by decide +kernel) (by decide) (by decide) (Nat.le_of_ble_eq_true rfl) dX5_board_65 (fun H locs hP hD hS => ?_)
    have hP : va_P D vwCl (zwX Xo Po Go No Qo Ko Lo To oo ra (upd Xs 6 (0 : Int32)) ++ zwP cI Po Pp (upd Ps 1 (0 : Int32)) Pa ++ zwG cI Go Gp Gs_8 Ga_9 ++ zwS cI No Np Go Ss_11 Sa_12 ++ zwQ cI Qo Qp (upd Qs 2 (0 : Int32)) Qa ++ zwS cI Ko Kp Go Ks Ka ++ zwQ cI Lo Lp Ls La ++ zwS cI To Tp Go Ts Ta ++ zwR cO ra oo ++ zwO (oo 0) (os 0) ++ zwO (oo 1) (os 1) ++ zwO (oo 2) (os 2) ++ zwO (oo 3) (os 3) ++ zwO (oo 4) (os 4) ++ zwO (oo 5) (os 5) ++ zwO (oo 6) (os 6) ++ zwO (oo 7) (os 7) ++ zwO (oo 8) (os 8)) H := hP
    have hD : va_D A (zwX Xo Po Go No Qo Ko Lo To oo ra (upd Xs 6 (0 : Int32)) ++ zwP cI Po Pp (upd Ps 1 (0 : Int32)) Pa ++ zwG cI Go Gp Gs_8 Ga_9 ++ zwS cI No Np Go Ss_11 Sa_12 ++ zwQ cI Qo Qp (upd Qs 2 (0 : Int32)) Qa ++ zwS cI Ko Kp Go Ks Ka ++ zwQ cI Lo Lp Ls La ++ zwS cI To Tp Go Ts Ta ++ zwR cO ra oo ++ zwO (oo 0) (os 0) ++ zwO (oo 1) (os 1) ++ zwO (oo 2) (os 2) ++ zwO (oo 3) (os 3) ++ zwO (oo 4) (os 4) ++ zwO (oo 5) (os 5) ++ zwO (oo 6) (os 6) ++ zwO (oo 7) (os 7) ++ zwO (oo 8) (os 8)) := hD
    refine lv_aload_n hx hb dX5_board_68 rfl (lv_at hl 0 rfl) ?_
    refine lv_iconst (v := (0 : Int32)) hx hb dX5_board_69 (by decide) ?_
    refine va_put (D := D) (ci := 5) (v := .int (0 : Int32)) (ty := .boolean) (C := RX5) (T := TX5) (N := 13) hx hb hts inX5 tyX5 tyX5_ok nmX5 hown hK hP hD hS 0 rfl rfl 10 (by decide) lk92 (fun _ h9 => h9) rfl (by decide +kernel) (by decide) (by decide) (Nat.le_of_ble_eq_true rfl) dX5_board_70 (fun H locs hP hD hS => ?_)
    have hP : va_P D vwCl (zwX Xo Po Go No Qo Ko Lo To oo ra (upd (upd Xs 6 (0 : Int32)) 10 (0 : Int32)) ++ zwP cI Po Pp (upd Ps 1 (0 : Int32)) Pa ++ zwG cI Go Gp Gs_8 Ga_9 ++ zwS cI No Np Go Ss_11 Sa_12 ++ zwQ cI Qo Qp (upd Qs 2 (0 : Int32)) Qa ++ zwS cI Ko Kp Go Ks Ka ++ zwQ cI Lo Lp Ls La ++ zwS cI To Tp Go Ts Ta ++ zwR cO ra oo ++ zwO (oo 0) (os 0) ++ zwO (oo 1) (os 1) ++ zwO (oo 2) (os 2) ++ zwO (oo 3) (os 3) ++ zwO (oo 4) (os 4) ++ zwO (oo 5) (os 5) ++ zwO (oo 6) (os 6) ++ zwO (oo 7) (os 7) ++ zwO (oo 8) (os 8)) H := hP
    have hD : va_D A (zwX Xo Po Go No Qo Ko Lo To oo ra (upd (upd Xs 6 (0 : Int32)) 10 (0 : Int32)) ++ zwP cI Po Pp (upd Ps 1 (0 : Int32)) Pa ++ zwG cI Go Gp Gs_8 Ga_9 ++ zwS cI No Np Go Ss_11 Sa_12 ++ zwQ cI Qo Qp (upd Qs 2 (0 : Int32)) Qa ++ zwS cI Ko Kp Go Ks Ka ++ zwQ cI Lo Lp Ls La ++ zwS cI To Tp Go Ts Ta ++ zwR cO ra oo ++ zwO (oo 0) (os 0) ++ zwO (oo 1) (os 1) ++ zwO (oo 2) (os 2) ++ zwO (oo 3) (os 3) ++ zwO (oo 4) (os 4) ++ zwO (oo 5) (os 5) ++ zwO (oo 6) (os 6) ++ zwO (oo 7) (os 7) ++ zwO (oo 8) (os 8)) := hD
    refine lv_aload_n hx hb dX5_board_73 rfl (lv_at hl 0 rfl) ?_
    refine lv_dup hx hb dX5_board_74 rfl ?_
    refine va_get (D := D) (ci := 5) (v := .int (Xs 11)) (C := RX5) (T := TX5) (N := 13) hx hb hts inX5 hown hK hP 0 rfl rfl 11 (by decide) lk95 (fun _ h9 => h9) rfl dX5_board_75 ?_
    refine lv_iconst (v := (1 : Int32)) hx hb dX5_board_78 (by decide) ?_
    refine lv_iadd hx hb dX5_board_79 ?_
    refine va_put (D := D) (ci := 5) (v := .int ((Xs 11) + (1 : Int32))) (ty := .int) (C := RX5) (T := TX5) (N := 13) hx hb hts inX5 tyX5 tyX5_ok nmX5 hown hK hP hD hS 0 rfl rfl 11 (by decide) lk95 (fun _ h9 => h9) rfl (by decide +kernel) rfl rfl (Nat.le_of_ble_eq_true rfl) dX5_board_80 (fun H locs hP hD hS => ?_)
    have hP : va_P D vwCl (zwX Xo Po Go No Qo Ko Lo To oo ra (upd (upd (upd Xs 6 (0 : Int32)) 10 (0 : Int32)) 11 ((Xs 11) + (1 : Int32))) ++ zwP cI Po Pp (upd Ps 1 (0 : Int32)) Pa ++ zwG cI Go Gp Gs_8 Ga_9 ++ zwS cI No Np Go Ss_11 Sa_12 ++ zwQ cI Qo Qp (upd Qs 2 (0 : Int32)) Qa ++ zwS cI Ko Kp Go Ks Ka ++ zwQ cI Lo Lp Ls La ++ zwS cI To Tp Go Ts Ta ++ zwR cO ra oo ++ zwO (oo 0) (os 0) ++ zwO (oo 1) (os 1) ++ zwO (oo 2) (os 2) ++ zwO (oo 3) (os 3) ++ zwO (oo 4) (os 4) ++ zwO (oo 5) (os 5) ++ zwO (oo 6) (os 6) ++ zwO (oo 7) (os 7) ++ zwO (oo 8) (os 8)) H := hP
    have hD : va_D A (zwX Xo Po Go No Qo Ko Lo To oo ra (upd (upd (upd Xs 6 (0 : Int32)) 10 (0 : Int32)) 11 ((Xs 11) + (1 : Int32))) ++ zwP cI Po Pp (upd Ps 1 (0 : Int32)) Pa ++ zwG cI Go Gp Gs_8 Ga_9 ++ zwS cI No Np Go Ss_11 Sa_12 ++ zwQ cI Qo Qp (upd Qs 2 (0 : Int32)) Qa ++ zwS cI Ko Kp Go Ks Ka ++ zwQ cI Lo Lp Ls La ++ zwS cI To Tp Go Ts Ta ++ zwR cO ra oo ++ zwO (oo 0) (os 0) ++ zwO (oo 1) (os 1) ++ zwO (oo 2) (os 2) ++ zwO (oo 3) (os 3) ++ zwO (oo 4) (os 4) ++ zwO (oo 5) (os 5) ++ zwO (oo 6) (os 6) ++ zwO (oo 7) (os 7) ++ zwO (oo 8) (os 8)) := hD
    refine lv_aload_n hx hb dX5_board_83 rfl (lv_at hl 0 rfl) ?_
    refine va_get (D := D) (ci := 5) (v := .ref No) (C := RX5) (T := TX5) (N := 13) hx hb hts inX5 hown hK hP 0 rfl rfl 2 (by decide) lk28 (fun _ h9 => h9) rfl dX5_board_84 ?_
    refine va_getN (D := D) (ci := 4) (v := .int (Ss_11 2)) (C := RX4) (T := TX4) (N := 8) hx hb hts inX4 hown hK hP 5 rfl rfl 2 (by decide) lk98 (fun _ h9 => h9) rfl dX5_board_87 ?_
    cases zend h
    exact hq hP hD hS dX5_board_90
  · have h := zif_t c3 h
    refine lv_bipush (v := (-103 : Int32)) hx hb dX5_board_10 (by decide) ?_
    cases zend h
    exact hq hP hD hS dX5_board_12
set_option maxHeartbeats 4000000 in
set_option maxRecDepth 100000 in
theorem c_X5_bestQuestion (l : Launch) (D : va_G) (cI cB cO : ClassId)   (a0 : Int32) (rv : Int32) (sz : Nat) (h : fX5_bestQuestion a0 = some rv) : Met l yX5_bestQuestion wsX5_bestQuestion ({ frames := 1, cells := 0, slots := 0, locals := 30 } : Room) (va_Pc [.int a0] (zPre D (zTY cI cB cO) ([] : va_W) sz)) (va_Qi (fun r (_ : Unit) => r = rv) (fun _ => zPost D (zTY cI cB cO) ([] : va_W) (va_A ([] : va_W) sz)) (va_A ([] : va_W) sz)) 0 0 (va_A ([] : va_W) sz) := by
  unfold fX5_bestQuestion at h
  refine zmet_i (cc := cX5_bestQuestion) (maxL := 5) (by decide) rfl (Nat.le_of_ble_eq_true rfl) rfl rfl ?_
  intro p e s m args below meth c R Q A ls hx hb hts hown hml hK hP hD hE hA hS hRf hRl hl hq
  have hown : s.vm.findClass RX5 = some m.cls := hown
  have hl : lv_has ls 5 [(0, .int a0)] := hl
  obtain ⟨tWHO_COULD, zzWHO_COULD, ztWHO_COULD⟩ := hE.1.2.2.1
  have lk203 : (Cond.fieldLink RX5 203 "PegField" "WHO_COULD" "[I").before args s = true := hts _ (by decide +kernel)
  refine lv_iload_n hx hb dX5_bestQuestion_0 rfl (lv_at hl 0 rfl) ?_
  refine lv_if_ne (tgt := 6) hx hb dX5_bestQuestion_1 (by decide) (fun c1 => ?_) (fun c1 => ?_)
  · have h := zif_f c1 h
    refine lv_iconst (v := (-1 : Int32)) hx hb dX5_bestQuestion_6 (by decide) ?_
    refine lv_istore_n (lv' := [(1, .int (-1 : Int32)), (0, .int a0)]) hx hb dX5_bestQuestion_7 rfl hl (by decide) rfl (fun ls hl => ?_)
    refine lv_bipush (v := (6 : Int32)) hx hb dX5_bestQuestion_8 (by decide) ?_
    refine lv_istore_n (lv' := [(2, .int (6 : Int32)), (1, .int (-1 : Int32)), (0, .int a0)]) hx hb dX5_bestQuestion_10 rfl hl (by decide) rfl (fun ls hl => ?_)
    refine lv_iconst (v := (0 : Int32)) hx hb dX5_bestQuestion_11 (by decide) ?_
    refine lv_istore_n (lv' := [(3, .int (0 : Int32)), (2, .int (6 : Int32)), (1, .int (-1 : Int32)), (0, .int a0)]) hx hb dX5_bestQuestion_12 rfl hl (by decide) rfl (fun ls hl => ?_)
    obtain ⟨x1_62x13, i13, h⟩ := zb1_s h
    have KX62 : ∀ (H : Heap) (locs : List Loc) (ls : Array Slot), va_P D vwCl ([] : va_W) H → va_D A ([] : va_W) → va_S A s.heap H locs → lv_has ls 5 [(1, .int x1_62x13)] → W p l e R s m args below meth c H locs 0 0 Q (F0 m 62 ls []) := by
      intro H locs ls hP hD hS hl
      refine lv_iload_n hx hb dX5_bestQuestion_62 rfl (lv_at hl 0 rfl) ?_
      cases zend h
      exact hq hP hD hS dX5_bestQuestion_63
    clear h
    refine zi3_ind (P := (fun (x1_13h : Int32) (x2_13h : Int32) (x3_13h : Int32) => ∀ (H : Heap) (locs : List Loc) (ls : Array Slot), va_P D vwCl ([] : va_W) H → va_D A ([] : va_W) → va_S A s.heap H locs → lv_has ls 5 [(0, .int a0), (1, .int x1_13h), (2, .int x2_13h), (3, .int x3_13h)] → W p l e R s m args below meth c H locs 0 0 Q (F0 m 13 ls []))) ?_ i13 _ _ _ hP hD hS (lv_sub hl [3, 2, 1, 0] rfl)
    clear i13 hP hD hS hl
    intro x1_13h x2_13h x3_13h z13 h zl13 zr13 H locs ls hP hD hS hl
    refine lv_iload_n hx hb dX5_bestQuestion_13 rfl (lv_at hl 3 rfl) ?_
    refine lv_iconst (v := (4 : Int32)) hx hb dX5_bestQuestion_14 (by decide) ?_
    refine lv_icmp_ge (tgt := 62) hx hb dX5_bestQuestion_15 (by decide) (fun c3 => ?_) (fun c3 => ?_)
    · have h := zif_t c3 h
      cases zr13 _ (zend h).symm
      exact KX62 _ _ _ hP hD hS (lv_sub hl [1] rfl)
    · have h := zif_f c3 h
      refine lv_iload_n hx hb dX5_bestQuestion_18 rfl (lv_at hl 0 rfl) ?_
      refine va_gets hx hb zzWHO_COULD hS hown lk203 (fun _ h9 => h9) dX5_bestQuestion_19 ?_
      refine lv_iload_n hx hb dX5_bestQuestion_22 rfl (lv_at hl 3 rfl) ?_
      obtain ⟨z4, h⟩ := zck_s h
      refine va_ti (v := .int (zWC (x3_13h).toNatClampNeg)) hx hb ztWHO_COULD hS (zin_s z4) rfl dX5_bestQuestion_23 ?_
      refine lv_iand hx hb dX5_bestQuestion_24 ?_
      obtain ⟨r5, g6, h⟩ := zb1_s h
      have hFc := va_free (wc := ([] : va_W)) hD hS hA [] rfl
      refine zcall_i (w2 := ([] : va_W)) (va_runS (As := [.int (a0 &&& (zWC (x3_13h).toNatClampNeg))]) (rest := []) ⟨hx, hb, hml, hown, hts⟩ (c_J6_bitCount_0f7a4 l D cI cB cO (a0 &&& (zWC (x3_13h).toNatClampNeg)) _ _ g6) (va_cwS 1 hts gX5_bestQuestion_J6_bitCount_0f7a4 rfl rfl rfl kS_J6_bitCount_0f7a4 ⟨Nat.le_trans (Nat.le_of_ble_eq_true rfl) hRf, Nat.le_trans (Nat.le_of_ble_eq_true rfl) hRl⟩) (zpreS hK hP hD hS hE hFc [] rfl rfl [.int (a0 &&& (zWC (x3_13h).toNatClampNeg))]) rfl rfl hl.1 rfl (lv_room (Nat.le_of_ble_eq_true rfl)) dX5_bestQuestion_25 ⟨Nat.zero_le _, Nat.zero_le _⟩) hP hD hS hFc [] [] [] 0 rfl rfl rfl rfl (fun H locs hP hD hS => ?_)
      refine lv_iload_n hx hb dX5_bestQuestion_28 rfl (lv_at hl 0 rfl) ?_
      refine va_gets hx hb zzWHO_COULD hS hown lk203 (fun _ h9 => h9) dX5_bestQuestion_29 ?_
      refine lv_iload_n hx hb dX5_bestQuestion_32 rfl (lv_at hl 3 rfl) ?_
      obtain ⟨z7, h⟩ := zck_s h
      refine va_ti (v := .int (zWC (x3_13h).toNatClampNeg)) hx hb ztWHO_COULD hS (zin_s z7) rfl dX5_bestQuestion_33 ?_
      refine lv_iconst (v := (-1 : Int32)) hx hb dX5_bestQuestion_34 (by decide) ?_
      refine lv_ixor hx hb dX5_bestQuestion_35 ?_
      refine lv_iand hx hb dX5_bestQuestion_36 ?_
      obtain ⟨r8, g9, h⟩ := zb1_s h
      have hFc := va_free (wc := ([] : va_W)) hD hS hA [] rfl
      refine zcall_i (w2 := ([] : va_W)) (va_runS (As := [.int (a0 &&& ((zWC (x3_13h).toNatClampNeg) ^^^ (-1 : Int32)))]) (rest := [.int r5]) ⟨hx, hb, hml, hown, hts⟩ (c_J6_bitCount_0f7a4 l D cI cB cO (a0 &&& ((zWC (x3_13h).toNatClampNeg) ^^^ (-1 : Int32))) _ _ g9) (va_cwS 1 hts gX5_bestQuestion_J6_bitCount_0f7a4 rfl rfl rfl kS_J6_bitCount_0f7a4 ⟨Nat.le_trans (Nat.le_of_ble_eq_true rfl) hRf, Nat.le_trans (Nat.le_of_ble_eq_true rfl) hRl⟩) (zpreS hK hP hD hS hE hFc [] rfl rfl [.int (a0 &&& ((zWC (x3_13h).toNatClampNeg) ^^^ (-1 : Int32)))]) rfl rfl hl.1 rfl (lv_room (Nat.le_of_ble_eq_true rfl)) dX5_bestQuestion_37 ⟨Nat.zero_le _, Nat.zero_le _⟩) hP hD hS hFc [] [] [] 0 rfl rfl rfl rfl (fun H locs hP hD hS => ?_)
      refine va_mmax hx hb (hml.trans hl.1.symm) hown (hts (.methodLink RX5 297 Lib.Math.max.name) (by decide +kernel)) (hts (.static Lib.Math.max.name) (by decide +kernel)) (hts (.initialized "java/lang/Math") (by decide +kernel)) (hts (.code Lib.Math.max.name Lib.Math.max.code 2 (some .int)) (by decide +kernel)) (Nat.le_trans (Nat.le_of_ble_eq_true rfl) hRf) (Nat.le_trans (Nat.le_of_ble_eq_true rfl) hRl) (Nat.zero_le _) (Nat.zero_le _) dX5_bestQuestion_40 ?_
      refine lv_topi (fun x4_10 ex4_10 => ?_)
      have h := zlt_s h ex4_10
      refine lv_istore (lv' := [(4, .int x4_10), (0, .int a0), (1, .int x1_13h), (2, .int x2_13h), (3, .int x3_13h)]) hx hb dX5_bestQuestion_43 hl (by decide) rfl (fun ls hl => ?_)
      refine lv_iload hx hb dX5_bestQuestion_45 (lv_at hl 0 rfl) ?_
      refine lv_iload_n hx hb dX5_bestQuestion_47 rfl (lv_at hl 3 rfl) ?_
      obtain ⟨x1_56, x2_56, j11, h⟩ := zb2_s h
      have K56 : ∀ (H : Heap) (locs : List Loc) (ls : Array Slot), va_P D vwCl ([] : va_W) H → va_D A ([] : va_W) → va_S A s.heap H locs → lv_has ls 5 [(0, .int a0), (1, .int x1_56), (2, .int x2_56), (3, .int x3_13h)] → W p l e R s m args below meth c H locs 0 0 Q (F0 m 56 ls []) := by
        intro H locs ls hP hD hS hl
        refine lv_iinc (v := (x3_13h + (1 : Int32))) (lv' := [(3, .int (x3_13h + (1 : Int32))), (0, .int a0), (1, .int x1_56), (2, .int x2_56)]) hx hb dX5_bestQuestion_56 hl (k := 3) rfl rfl (by decide) rfl (fun ls hl => ?_)
        refine lv_goto (tgt := 13) hx hb dX5_bestQuestion_59 (by decide) ?_
        exact zl13 _ _ _ (zend h).symm _ _ _ hP hD hS (lv_sub hl [1, 2, 3, 0] rfl)
      clear h
      have h := j11
      clear j11
      refine lv_icmp_ge (tgt := 56) hx hb dX5_bestQuestion_48 (by decide) (fun c12 => ?_) (fun c12 => ?_)
      · have h := zif_t c12 h
        cases zend h
        exact K56 _ _ _ hP hD hS (lv_sub hl [1, 2, 3, 4] rfl)
      · have h := zif_f c12 h
        refine lv_iload hx hb dX5_bestQuestion_51 (lv_at hl 0 rfl) ?_
        refine lv_istore_n (lv' := [(2, .int x4_10), (4, .int x4_10), (0, .int a0), (1, .int x1_13h), (3, .int x3_13h)]) hx hb dX5_bestQuestion_53 rfl hl (by decide) rfl (fun ls hl => ?_)
        refine lv_iload_n hx hb dX5_bestQuestion_54 rfl (lv_at hl 4 rfl) ?_
        refine lv_istore_n (lv' := [(1, .int x3_13h), (2, .int x4_10), (4, .int x4_10), (0, .int a0), (3, .int x3_13h)]) hx hb dX5_bestQuestion_55 rfl hl (by decide) rfl (fun ls hl => ?_)
        cases zend h
        exact K56 _ _ _ hP hD hS (lv_sub hl [3, 0, 1, 4] rfl)
  · have h := zif_t c1 h
    refine lv_iconst (v := (-1 : Int32)) hx hb dX5_bestQuestion_4 (by decide) ?_
    cases zend h
    exact hq hP hD hS dX5_bestQuestion_5
set_option maxHeartbeats 4000000 in
set_option maxRecDepth 100000 in
theorem c_X5_peg (l : Launch) (D : va_G) (cI cB cO : ClassId) (Xo : Nat) (Po : Nat) (Pp : Nat → Nat) (Go : Nat) (Gp : Nat → Nat) (No : Nat) (Np : Nat → Nat) (Qo : Nat) (Qp : Nat → Nat) (Ko : Nat) (Kp : Nat → Nat) (Lo : Nat) (Lp : Nat → Nat) (To : Nat) (Tp : Nat → Nat) (ra : Nat) (oo : Nat → Nat) (Xs : Nat → Int32) (Ps : Nat → Int32) (Pa : Nat → Nat → Int32) (Gs : Nat → Int32) (Ga : Nat → Nat → Int32) (Ns : Nat → Int32) (Na : Nat → Nat → Int32) (Qs : Nat → Int32) (Qa : Nat → Nat → Int32) (Ks : Nat → Int32) (Ka : Nat → Nat → Int32) (Ls : Nat → Int32) (La : Nat → Nat → Int32) (Ts : Nat → Int32) (Ta : Nat → Nat → Int32) (os : Nat → Nat → Int32) (a0 : Int32) (a1 : Int32) (rv : Int32) (sz : Nat) (h : fX5_peg Gs Ga Ns Na Qs Qa a0 a1 = some rv) : Met l yX5_peg wsX5_peg ({ frames := 4, cells := 0, slots := 0, locals := 93 } : Room) (va_Pc [.ref Xo, .int a0, .int a1] (zPre D (zTY cI cB cO) (zwX Xo Po Go No Qo Ko Lo To oo ra Xs ++ zwP cI Po Pp Ps Pa ++ zwG cI Go Gp Gs Ga ++ zwS cI No Np Go Ns Na ++ zwQ cI Qo Qp Qs Qa ++ zwS cI Ko Kp Go Ks Ka ++ zwQ cI Lo Lp Ls La ++ zwS cI To Tp Go Ts Ta ++ zwR cO ra oo ++ zwO (oo 0) (os 0) ++ zwO (oo 1) (os 1) ++ zwO (oo 2) (os 2) ++ zwO (oo 3) (os 3) ++ zwO (oo 4) (os 4) ++ zwO (oo 5) (os 5) ++ zwO (oo 6) (os 6) ++ zwO (oo 7) (os 7) ++ zwO (oo 8) (os 8)) sz)) (va_Qi (fun r (_ : Unit) => r = rv) (fun _ => zPost D (zTY cI cB cO) (zwX Xo Po Go No Qo Ko Lo To oo ra Xs ++ zwP cI Po Pp Ps Pa ++ zwG cI Go Gp Gs Ga ++ zwS cI No Np Go Ns Na ++ zwQ cI Qo Qp Qs Qa ++ zwS cI Ko Kp Go Ks Ka ++ zwQ cI Lo Lp Ls La ++ zwS cI To Tp Go Ts Ta ++ zwR cO ra oo ++ zwO (oo 0) (os 0) ++ zwO (oo 1) (os 1) ++ zwO (oo 2) (os 2) ++ zwO (oo 3) (os 3) ++ zwO (oo 4) (os 4) ++ zwO (oo 5) (os 5) ++ zwO (oo 6) (os 6) ++ zwO (oo 7) (os 7) ++ zwO (oo 8) (os 8)) (va_A (zwX Xo Po Go No Qo Ko Lo To oo ra Xs ++ zwP cI Po Pp Ps Pa ++ zwG cI Go Gp Gs Ga ++ zwS cI No Np Go Ns Na ++ zwQ cI Qo Qp Qs Qa ++ zwS cI Ko Kp Go Ks Ka ++ zwQ cI Lo Lp Ls La ++ zwS cI To Tp Go Ts Ta ++ zwR cO ra oo ++ zwO (oo 0) (os 0) ++ zwO (oo 1) (os 1) ++ zwO (oo 2) (os 2) ++ zwO (oo 3) (os 3) ++ zwO (oo 4) (os 4) ++ zwO (oo 5) (os 5) ++ zwO (oo 6) (os 6) ++ zwO (oo 7) (os 7) ++ zwO (oo 8) (os 8)) sz)) (va_A (zwX Xo Po Go No Qo Ko Lo To oo ra Xs ++ zwP cI Po Pp Ps Pa ++ zwG cI Go Gp Gs Ga ++ zwS cI No Np Go Ns Na ++ zwQ cI Qo Qp Qs Qa ++ zwS cI Ko Kp Go Ks Ka ++ zwQ cI Lo Lp Ls La ++ zwS cI To Tp Go Ts Ta ++ zwR cO ra oo ++ zwO (oo 0) (os 0) ++ zwO (oo 1) (os 1) ++ zwO (oo 2) (os 2) ++ zwO (oo 3) (os 3) ++ zwO (oo 4) (os 4) ++ zwO (oo 5) (os 5) ++ zwO (oo 6) (os 6) ++ zwO (oo 7) (os 7) ++ zwO (oo 8) (os 8)) sz)) 0 0 (va_A (zwX Xo Po Go No Qo Ko Lo To oo ra Xs ++ zwP cI Po Pp Ps Pa ++ zwG cI Go Gp Gs Ga ++ zwS cI No Np Go Ns Na ++ zwQ cI Qo Qp Qs Qa ++ zwS cI Ko Kp Go Ks Ka ++ zwQ cI Lo Lp Ls La ++ zwS cI To Tp Go Ts Ta ++ zwR cO ra oo ++ zwO (oo 0) (os 0) ++ zwO (oo 1) (os 1) ++ zwO (oo 2) (os 2) ++ zwO (oo 3) (os 3) ++ zwO (oo 4) (os 4) ++ zwO (oo 5) (os 5) ++ zwO (oo 6) (os 6) ++ zwO (oo 7) (os 7) ++ zwO (oo 8) (os 8)) sz) := by
  unfold fX5_peg at h
  refine zmet_i (cc := cX5_peg) (maxL := 3) (by decide) rfl (Nat.le_of_ble_eq_true rfl) rfl rfl ?_
  intro p e s m args below meth c R Q A ls hx hb hts hown hml hK hP hD hE hA hS hRf hRl hl hq
  have hown : s.vm.findClass RX5 = some m.cls := hown
  have hl : lv_has ls 3 [(0, .ref Xo), (1, .int a0), (2, .int a1)] := hl
  have inX5 : ∀ w ∈ u_ws RX5 TX5 13, w ∈ wsX5_peg := by decide +kernel
  have lk28 : (Cond.fieldLink RX5 28 "PegField" "now" "LPegField$State;").before args s = true := hts _ (by decide +kernel)
  have lk35 : (Cond.fieldLink RX5 35 "PegField" "seen" "LPegField$Seen;").before args s = true := hts _ (by decide +kernel)
  refine lv_aload_n hx hb dX5_peg_0 rfl (lv_at hl 0 rfl) ?_
  refine va_get (D := D) (ci := 5) (v := .ref No) (C := RX5) (T := TX5) (N := 13) hx hb hts inX5 hown hK hP 0 rfl rfl 2 (by decide) lk28 (fun _ h9 => h9) rfl dX5_peg_1 ?_
  refine lv_iload_n hx hb dX5_peg_4 rfl (lv_at hl 1 rfl) ?_
  obtain ⟨r1, g2, h⟩ := zb1_s h
  have hFc := va_free (wc := (zwS cI No Np Go Ns Na)) hD hS hA [5, 6, 7, 8] rfl
  refine zcall_i (w2 := (zwX Xo Po Go No Qo Ko Lo To oo ra Xs ++ zwP cI Po Pp Ps Pa ++ zwG cI Go Gp Gs Ga ++ zwS cI No Np Go Ns Na ++ zwQ cI Qo Qp Qs Qa ++ zwS cI Ko Kp Go Ks Ka ++ zwQ cI Lo Lp Ls La ++ zwS cI To Tp Go Ts Ta ++ zwR cO ra oo ++ zwO (oo 0) (os 0) ++ zwO (oo 1) (os 1) ++ zwO (oo 2) (os 2) ++ zwO (oo 3) (os 3) ++ zwO (oo 4) (os 4) ++ zwO (oo 5) (os 5) ++ zwO (oo 6) (os 6) ++ zwO (oo 7) (os 7) ++ zwO (oo 8) (os 8))) (va_runV (As := [.int a0]) (rest := []) ⟨hx, hb, hml, hown, hts⟩ (c_X4_isPeg l D cI cB cO No Np Go Ns Na a0 _ _ g2) (cwV 1 hts gX5_peg_X4_isPeg rfl rfl rfl kV_X4_isPeg ⟨Nat.le_trans (Nat.le_of_ble_eq_true rfl) hRf, Nat.le_trans (Nat.le_of_ble_eq_true rfl) hRl⟩) (zpreV hK hP hD hS hE hFc [5, 6, 7, 8] rfl rfl 5 (ci := 4) rfl rfl [.int a0]) rfl rfl hl.1 rfl (lv_room (Nat.le_of_ble_eq_true rfl)) dX5_peg_5 ⟨Nat.zero_le _, Nat.zero_le _⟩) hP hD hS hFc [5, 6, 7, 8] [0, 1, 2, 3, 4, 9, 10, 11, 12, 13, 14, 15, 16, 17, 18, 19, 20, 21, 22, 23, 24, 25, 26, 27, 28, 29, 30, 31, 32] [0, 1, 2, 3, 4, 29, 30, 31, 32, 5, 6, 7, 8, 9, 10, 11, 12, 13, 14, 15, 16, 17, 18, 19, 20, 21, 22, 23, 24, 25, 26, 27, 28] 33 rfl rfl rfl rfl (fun H locs hP hD hS => ?_)
  refine lv_if_ne (tgt := 14) hx hb dX5_peg_8 (by decide) (fun c3 => ?_) (fun c3 => ?_)
  · have h := zif_f c3 h
    refine lv_iload_n hx hb dX5_peg_14 rfl (lv_at hl 2 rfl) ?_
    by_cases c4 : a1 = (0 : Int32)
    · have h := zif_t c4 h
      refine lv_tableIn (tgt := 48) (off := 33) hx hb dX5_peg_15 (by rw [c4]; decide) (by rw [c4]; decide) (by rw [c4]; rfl) (by decide) ?_
      refine lv_aload_n hx hb dX5_peg_48 rfl (lv_at hl 0 rfl) ?_
      refine va_get (D := D) (ci := 5) (v := .ref No) (C := RX5) (T := TX5) (N := 13) hx hb hts inX5 hown hK hP 0 rfl rfl 2 (by decide) lk28 (fun _ h9 => h9) rfl dX5_peg_49 ?_
      refine lv_iload_n hx hb dX5_peg_52 rfl (lv_at hl 1 rfl) ?_
      obtain ⟨r5, g6, h⟩ := zb1_s h
      have hFc := va_free (wc := (zwS cI No Np Go Ns Na)) hD hS hA [5, 6, 7, 8] rfl
      refine zcall_i (w2 := (zwX Xo Po Go No Qo Ko Lo To oo ra Xs ++ zwP cI Po Pp Ps Pa ++ zwG cI Go Gp Gs Ga ++ zwS cI No Np Go Ns Na ++ zwQ cI Qo Qp Qs Qa ++ zwS cI Ko Kp Go Ks Ka ++ zwQ cI Lo Lp Ls La ++ zwS cI To Tp Go Ts Ta ++ zwR cO ra oo ++ zwO (oo 0) (os 0) ++ zwO (oo 1) (os 1) ++ zwO (oo 2) (os 2) ++ zwO (oo 3) (os 3) ++ zwO (oo 4) (os 4) ++ zwO (oo 5) (os 5) ++ zwO (oo 6) (os 6) ++ zwO (oo 7) (os 7) ++ zwO (oo 8) (os 8))) (va_runV (As := [.int a0]) (rest := []) ⟨hx, hb, hml, hown, hts⟩ (c_X4_kindOf l D cI cB cO No Np Go Ns Na a0 _ _ g6) (cwV 1 hts gX5_peg_X4_kindOf rfl rfl rfl kV_X4_kindOf ⟨Nat.le_trans (Nat.le_of_ble_eq_true rfl) hRf, Nat.le_trans (Nat.le_of_ble_eq_true rfl) hRl⟩) (zpreV hK hP hD hS hE hFc [5, 6, 7, 8] rfl rfl 5 (ci := 4) rfl rfl [.int a0]) rfl rfl hl.1 rfl (lv_room (Nat.le_of_ble_eq_true rfl)) dX5_peg_53 ⟨Nat.zero_le _, Nat.zero_le _⟩) hP hD hS hFc [5, 6, 7, 8] [0, 1, 2, 3, 4, 9, 10, 11, 12, 13, 14, 15, 16, 17, 18, 19, 20, 21, 22, 23, 24, 25, 26, 27, 28, 29, 30, 31, 32] [0, 1, 2, 3, 4, 29, 30, 31, 32, 5, 6, 7, 8, 9, 10, 11, 12, 13, 14, 15, 16, 17, 18, 19, 20, 21, 22, 23, 24, 25, 26, 27, 28] 33 rfl rfl rfl rfl (fun H locs hP hD hS => ?_)
      cases zend h
      exact hq hP hD hS dX5_peg_56
    · have h := zif_f c4 h
      by_cases c7 : a1 = (1 : Int32)
      · have h := zif_t c7 h
        refine lv_tableIn (tgt := 57) (off := 42) hx hb dX5_peg_15 (by rw [c7]; decide) (by rw [c7]; decide) (by rw [c7]; rfl) (by decide) ?_
        refine lv_aload_n hx hb dX5_peg_57 rfl (lv_at hl 0 rfl) ?_
        refine va_get (D := D) (ci := 5) (v := .ref No) (C := RX5) (T := TX5) (N := 13) hx hb hts inX5 hown hK hP 0 rfl rfl 2 (by decide) lk28 (fun _ h9 => h9) rfl dX5_peg_58 ?_
        refine lv_iload_n hx hb dX5_peg_61 rfl (lv_at hl 1 rfl) ?_
        obtain ⟨r8, g9, h⟩ := zb1_s h
        have hFc := va_free (wc := (zwS cI No Np Go Ns Na)) hD hS hA [5, 6, 7, 8] rfl
        refine zcall_i (w2 := (zwX Xo Po Go No Qo Ko Lo To oo ra Xs ++ zwP cI Po Pp Ps Pa ++ zwG cI Go Gp Gs Ga ++ zwS cI No Np Go Ns Na ++ zwQ cI Qo Qp Qs Qa ++ zwS cI Ko Kp Go Ks Ka ++ zwQ cI Lo Lp Ls La ++ zwS cI To Tp Go Ts Ta ++ zwR cO ra oo ++ zwO (oo 0) (os 0) ++ zwO (oo 1) (os 1) ++ zwO (oo 2) (os 2) ++ zwO (oo 3) (os 3) ++ zwO (oo 4) (os 4) ++ zwO (oo 5) (os 5) ++ zwO (oo 6) (os 6) ++ zwO (oo 7) (os 7) ++ zwO (oo 8) (os 8))) (va_runV (As := [.int a0]) (rest := []) ⟨hx, hb, hml, hown, hts⟩ (c_X4_homeOf l D cI cB cO No Np Go Ns Na a0 _ _ g9) (cwV 1 hts gX5_peg_X4_homeOf rfl rfl rfl kV_X4_homeOf ⟨Nat.le_trans (Nat.le_of_ble_eq_true rfl) hRf, Nat.le_trans (Nat.le_of_ble_eq_true rfl) hRl⟩) (zpreV hK hP hD hS hE hFc [5, 6, 7, 8] rfl rfl 5 (ci := 4) rfl rfl [.int a0]) rfl rfl hl.1 rfl (lv_room (Nat.le_of_ble_eq_true rfl)) dX5_peg_62 ⟨Nat.zero_le _, Nat.zero_le _⟩) hP hD hS hFc [5, 6, 7, 8] [0, 1, 2, 3, 4, 9, 10, 11, 12, 13, 14, 15, 16, 17, 18, 19, 20, 21, 22, 23, 24, 25, 26, 27, 28, 29, 30, 31, 32] [0, 1, 2, 3, 4, 29, 30, 31, 32, 5, 6, 7, 8, 9, 10, 11, 12, 13, 14, 15, 16, 17, 18, 19, 20, 21, 22, 23, 24, 25, 26, 27, 28] 33 rfl rfl rfl rfl (fun H locs hP hD hS => ?_)
        cases zend h
        exact hq hP hD hS dX5_peg_65
      · have h := zif_f c7 h
        by_cases c10 : a1 = (2 : Int32)
        · have h := zif_t c10 h
          refine lv_tableIn (tgt := 66) (off := 51) hx hb dX5_peg_15 (by rw [c10]; decide) (by rw [c10]; decide) (by rw [c10]; rfl) (by decide) ?_
          refine lv_aload_n hx hb dX5_peg_66 rfl (lv_at hl 0 rfl) ?_
          refine va_get (D := D) (ci := 5) (v := .ref No) (C := RX5) (T := TX5) (N := 13) hx hb hts inX5 hown hK hP 0 rfl rfl 2 (by decide) lk28 (fun _ h9 => h9) rfl dX5_peg_67 ?_
          refine lv_iload_n hx hb dX5_peg_70 rfl (lv_at hl 1 rfl) ?_
          obtain ⟨r11, g12, h⟩ := zb1_s h
          have hFc := va_free (wc := (zwS cI No Np Go Ns Na ++ zwG cI Go Gp Gs Ga)) hD hS hA [5, 6, 7, 8, 3, 4] rfl
          refine zcall_i (w2 := (zwX Xo Po Go No Qo Ko Lo To oo ra Xs ++ zwP cI Po Pp Ps Pa ++ zwG cI Go Gp Gs Ga ++ zwS cI No Np Go Ns Na ++ zwQ cI Qo Qp Qs Qa ++ zwS cI Ko Kp Go Ks Ka ++ zwQ cI Lo Lp Ls La ++ zwS cI To Tp Go Ts Ta ++ zwR cO ra oo ++ zwO (oo 0) (os 0) ++ zwO (oo 1) (os 1) ++ zwO (oo 2) (os 2) ++ zwO (oo 3) (os 3) ++ zwO (oo 4) (os 4) ++ zwO (oo 5) (os 5) ++ zwO (oo 6) (os 6) ++ zwO (oo 7) (os 7) ++ zwO (oo 8) (os 8))) (va_runV (As := [.int a0]) (rest := []) ⟨hx, hb, hml, hown, hts⟩ (c_X4_targetsOf l D cI cB cO No Np Go Gp Ns Na Gs Ga a0 _ _ g12) (cwV 1 hts gX5_peg_X4_targetsOf rfl rfl rfl kV_X4_targetsOf ⟨Nat.le_trans (Nat.le_of_ble_eq_true rfl) hRf, Nat.le_trans (Nat.le_of_ble_eq_true rfl) hRl⟩) (zpreV hK hP hD hS hE hFc [5, 6, 7, 8, 3, 4] rfl rfl 5 (ci := 4) rfl rfl [.int a0]) rfl rfl hl.1 rfl (lv_room (Nat.le_of_ble_eq_true rfl)) dX5_peg_71 ⟨Nat.zero_le _, Nat.zero_le _⟩) hP hD hS hFc [5, 6, 7, 8, 3, 4] [0, 1, 2, 9, 10, 11, 12, 13, 14, 15, 16, 17, 18, 19, 20, 21, 22, 23, 24, 25, 26, 27, 28, 29, 30, 31, 32] [0, 1, 2, 31, 32, 27, 28, 29, 30, 3, 4, 5, 6, 7, 8, 9, 10, 11, 12, 13, 14, 15, 16, 17, 18, 19, 20, 21, 22, 23, 24, 25, 26] 33 rfl rfl rfl rfl (fun H locs hP hD hS => ?_)
          cases zend h
          exact hq hP hD hS dX5_peg_74
        · have h := zif_f c10 h
          by_cases c13 : a1 = (3 : Int32)
          · have h := zif_t c13 h
            refine lv_tableIn (tgt := 75) (off := 60) hx hb dX5_peg_15 (by rw [c13]; decide) (by rw [c13]; decide) (by rw [c13]; rfl) (by decide) ?_
            refine lv_aload_n hx hb dX5_peg_75 rfl (lv_at hl 0 rfl) ?_
            refine va_get (D := D) (ci := 5) (v := .ref Qo) (C := RX5) (T := TX5) (N := 13) hx hb hts inX5 hown hK hP 0 rfl rfl 3 (by decide) lk35 (fun _ h9 => h9) rfl dX5_peg_76 ?_
            refine lv_iload_n hx hb dX5_peg_79 rfl (lv_at hl 1 rfl) ?_
            obtain ⟨r14, g15, h⟩ := zb1_s h
            have hFc := va_free (wc := (zwQ cI Qo Qp Qs Qa)) hD hS hA [9, 10, 11] rfl
            refine zcall_i (w2 := (zwX Xo Po Go No Qo Ko Lo To oo ra Xs ++ zwP cI Po Pp Ps Pa ++ zwG cI Go Gp Gs Ga ++ zwS cI No Np Go Ns Na ++ zwQ cI Qo Qp Qs Qa ++ zwS cI Ko Kp Go Ks Ka ++ zwQ cI Lo Lp Ls La ++ zwS cI To Tp Go Ts Ta ++ zwR cO ra oo ++ zwO (oo 0) (os 0) ++ zwO (oo 1) (os 1) ++ zwO (oo 2) (os 2) ++ zwO (oo 3) (os 3) ++ zwO (oo 4) (os 4) ++ zwO (oo 5) (os 5) ++ zwO (oo 6) (os 6) ++ zwO (oo 7) (os 7) ++ zwO (oo 8) (os 8))) (va_runV (As := [.int a0]) (rest := []) ⟨hx, hb, hml, hown, hts⟩ (c_X3_sortsOf l D cI cB cO Qo Qp Qs Qa a0 _ _ g15) (cwV 1 hts gX5_peg_X3_sortsOf rfl rfl rfl kV_X3_sortsOf ⟨Nat.le_trans (Nat.le_of_ble_eq_true rfl) hRf, Nat.le_trans (Nat.le_of_ble_eq_true rfl) hRl⟩) (zpreV hK hP hD hS hE hFc [9, 10, 11] rfl rfl 9 (ci := 3) rfl rfl [.int a0]) rfl rfl hl.1 rfl (lv_room (Nat.le_of_ble_eq_true rfl)) dX5_peg_80 ⟨Nat.zero_le _, Nat.zero_le _⟩) hP hD hS hFc [9, 10, 11] [0, 1, 2, 3, 4, 5, 6, 7, 8, 12, 13, 14, 15, 16, 17, 18, 19, 20, 21, 22, 23, 24, 25, 26, 27, 28, 29, 30, 31, 32] [0, 1, 2, 3, 4, 5, 6, 7, 8, 30, 31, 32, 9, 10, 11, 12, 13, 14, 15, 16, 17, 18, 19, 20, 21, 22, 23, 24, 25, 26, 27, 28, 29] 33 rfl rfl rfl rfl (fun H locs hP hD hS => ?_)
            cases zend h
            exact hq hP hD hS dX5_peg_83
          · have h := zif_f c13 h
            by_cases c16 : a1 = (4 : Int32)
            · have h := zif_t c16 h
              refine lv_tableIn (tgt := 84) (off := 69) hx hb dX5_peg_15 (by rw [c16]; decide) (by rw [c16]; decide) (by rw [c16]; rfl) (by decide) ?_
              refine lv_aload_n hx hb dX5_peg_84 rfl (lv_at hl 0 rfl) ?_
              refine va_get (D := D) (ci := 5) (v := .ref Qo) (C := RX5) (T := TX5) (N := 13) hx hb hts inX5 hown hK hP 0 rfl rfl 3 (by decide) lk35 (fun _ h9 => h9) rfl dX5_peg_85 ?_
              refine lv_iload_n hx hb dX5_peg_88 rfl (lv_at hl 1 rfl) ?_
              obtain ⟨r17, g18, h⟩ := zb1_s h
              have hFc := va_free (wc := (zwQ cI Qo Qp Qs Qa)) hD hS hA [9, 10, 11] rfl
              refine zcall_i (w2 := (zwX Xo Po Go No Qo Ko Lo To oo ra Xs ++ zwP cI Po Pp Ps Pa ++ zwG cI Go Gp Gs Ga ++ zwS cI No Np Go Ns Na ++ zwQ cI Qo Qp Qs Qa ++ zwS cI Ko Kp Go Ks Ka ++ zwQ cI Lo Lp Ls La ++ zwS cI To Tp Go Ts Ta ++ zwR cO ra oo ++ zwO (oo 0) (os 0) ++ zwO (oo 1) (os 1) ++ zwO (oo 2) (os 2) ++ zwO (oo 3) (os 3) ++ zwO (oo 4) (os 4) ++ zwO (oo 5) (os 5) ++ zwO (oo 6) (os 6) ++ zwO (oo 7) (os 7) ++ zwO (oo 8) (os 8))) (va_runV (As := [.int a0]) (rest := []) ⟨hx, hb, hml, hown, hts⟩ (c_X3_sortsOf l D cI cB cO Qo Qp Qs Qa a0 _ _ g18) (cwV 1 hts gX5_peg_X3_sortsOf rfl rfl rfl kV_X3_sortsOf ⟨Nat.le_trans (Nat.le_of_ble_eq_true rfl) hRf, Nat.le_trans (Nat.le_of_ble_eq_true rfl) hRl⟩) (zpreV hK hP hD hS hE hFc [9, 10, 11] rfl rfl 9 (ci := 3) rfl rfl [.int a0]) rfl rfl hl.1 rfl (lv_room (Nat.le_of_ble_eq_true rfl)) dX5_peg_89 ⟨Nat.zero_le _, Nat.zero_le _⟩) hP hD hS hFc [9, 10, 11] [0, 1, 2, 3, 4, 5, 6, 7, 8, 12, 13, 14, 15, 16, 17, 18, 19, 20, 21, 22, 23, 24, 25, 26, 27, 28, 29, 30, 31, 32] [0, 1, 2, 3, 4, 5, 6, 7, 8, 30, 31, 32, 9, 10, 11, 12, 13, 14, 15, 16, 17, 18, 19, 20, 21, 22, 23, 24, 25, 26, 27, 28, 29] 33 rfl rfl rfl rfl (fun H locs hP hD hS => ?_)
              obtain ⟨r19, g20, h⟩ := zb1_s h
              have hFc := va_free (wc := ([] : va_W)) hD hS hA [] rfl
              refine zcall_i (w2 := (zwX Xo Po Go No Qo Ko Lo To oo ra Xs ++ zwP cI Po Pp Ps Pa ++ zwG cI Go Gp Gs Ga ++ zwS cI No Np Go Ns Na ++ zwQ cI Qo Qp Qs Qa ++ zwS cI Ko Kp Go Ks Ka ++ zwQ cI Lo Lp Ls La ++ zwS cI To Tp Go Ts Ta ++ zwR cO ra oo ++ zwO (oo 0) (os 0) ++ zwO (oo 1) (os 1) ++ zwO (oo 2) (os 2) ++ zwO (oo 3) (os 3) ++ zwO (oo 4) (os 4) ++ zwO (oo 5) (os 5) ++ zwO (oo 6) (os 6) ++ zwO (oo 7) (os 7) ++ zwO (oo 8) (os 8))) (va_runS (As := [.int r17]) (rest := []) ⟨hx, hb, hml, hown, hts⟩ (c_X5_bestQuestion l D cI cB cO r17 _ _ g20) (va_cwS 1 hts gX5_peg_X5_bestQuestion rfl rfl rfl kS_X5_bestQuestion ⟨Nat.le_trans (Nat.le_of_ble_eq_true rfl) hRf, Nat.le_trans (Nat.le_of_ble_eq_true rfl) hRl⟩) (zpreS hK hP hD hS hE hFc [] rfl rfl [.int r17]) rfl rfl hl.1 rfl (lv_room (Nat.le_of_ble_eq_true rfl)) dX5_peg_92 ⟨Nat.zero_le _, Nat.zero_le _⟩) hP hD hS hFc [] [0, 1, 2, 3, 4, 5, 6, 7, 8, 9, 10, 11, 12, 13, 14, 15, 16, 17, 18, 19, 20, 21, 22, 23, 24, 25, 26, 27, 28, 29, 30, 31, 32] [0, 1, 2, 3, 4, 5, 6, 7, 8, 9, 10, 11, 12, 13, 14, 15, 16, 17, 18, 19, 20, 21, 22, 23, 24, 25, 26, 27, 28, 29, 30, 31, 32] 33 rfl rfl rfl rfl (fun H locs hP hD hS => ?_)
              cases zend h
              exact hq hP hD hS dX5_peg_95
            · have h := zif_f c16 h
              have nc4 := zne_i (k := 0) (0 : Int32) (by decide) c4
              have nc7 := zne_i (k := 1) (1 : Int32) (by decide) c7
              have nc10 := zne_i (k := 2) (2 : Int32) (by decide) c10
              have nc13 := zne_i (k := 3) (3 : Int32) (by decide) c13
              have nc16 := zne_i (k := 4) (4 : Int32) (by decide) c16
              refine lv_tableOut (tgt := 96) hx hb dX5_peg_15 (by omega) (by decide) ?_
              refine lv_bipush (v := (-102 : Int32)) hx hb dX5_peg_96 (by decide) ?_
              cases zend h
              exact hq hP hD hS dX5_peg_98
  · have h := zif_t c3 h
    refine lv_bipush (v := (-101 : Int32)) hx hb dX5_peg_11 (by decide) ?_
    cases zend h
    exact hq hP hD hS dX5_peg_13
set_option maxHeartbeats 4000000 in
set_option maxRecDepth 100000 in
theorem c_X5_as (l : Launch) (D : va_G) (cI cB cO : ClassId) (Xo : Nat) (Po : Nat) (Pp : Nat → Nat) (Go : Nat) (Gp : Nat → Nat) (No : Nat) (Np : Nat → Nat) (Qo : Nat) (Qp : Nat → Nat) (Ko : Nat) (Kp : Nat → Nat) (Lo : Nat) (Lp : Nat → Nat) (To : Nat) (Tp : Nat → Nat) (ra : Nat) (oo : Nat → Nat) (Xs : Nat → Int32) (Ps : Nat → Int32) (Pa : Nat → Nat → Int32) (Gs : Nat → Int32) (Ga : Nat → Nat → Int32) (Ns : Nat → Int32) (Na : Nat → Nat → Int32) (Qs : Nat → Int32) (Qa : Nat → Nat → Int32) (Ks : Nat → Int32) (Ka : Nat → Nat → Int32) (Ls : Nat → Int32) (La : Nat → Nat → Int32) (Ts : Nat → Int32) (Ta : Nat → Nat → Int32) (os : Nat → Nat → Int32) (a0 : Int32) (a1 : Int32) (rv : Int32) (sz : Nat) (h : fX5_as Ns Na a0 a1 = some rv) : Met l yX5_as wsX5_as ({ frames := 2, cells := 0, slots := 0, locals := 42 } : Room) (va_Pc [.ref Xo, .int a0, .int a1] (zPre D (zTY cI cB cO) (zwX Xo Po Go No Qo Ko Lo To oo ra Xs ++ zwP cI Po Pp Ps Pa ++ zwG cI Go Gp Gs Ga ++ zwS cI No Np Go Ns Na ++ zwQ cI Qo Qp Qs Qa ++ zwS cI Ko Kp Go Ks Ka ++ zwQ cI Lo Lp Ls La ++ zwS cI To Tp Go Ts Ta ++ zwR cO ra oo ++ zwO (oo 0) (os 0) ++ zwO (oo 1) (os 1) ++ zwO (oo 2) (os 2) ++ zwO (oo 3) (os 3) ++ zwO (oo 4) (os 4) ++ zwO (oo 5) (os 5) ++ zwO (oo 6) (os 6) ++ zwO (oo 7) (os 7) ++ zwO (oo 8) (os 8)) sz)) (va_Qi (fun r (_ : Unit) => r = rv) (fun _ => zPost D (zTY cI cB cO) (zwX Xo Po Go No Qo Ko Lo To oo ra Xs ++ zwP cI Po Pp Ps Pa ++ zwG cI Go Gp Gs Ga ++ zwS cI No Np Go Ns Na ++ zwQ cI Qo Qp Qs Qa ++ zwS cI Ko Kp Go Ks Ka ++ zwQ cI Lo Lp Ls La ++ zwS cI To Tp Go Ts Ta ++ zwR cO ra oo ++ zwO (oo 0) (os 0) ++ zwO (oo 1) (os 1) ++ zwO (oo 2) (os 2) ++ zwO (oo 3) (os 3) ++ zwO (oo 4) (os 4) ++ zwO (oo 5) (os 5) ++ zwO (oo 6) (os 6) ++ zwO (oo 7) (os 7) ++ zwO (oo 8) (os 8)) (va_A (zwX Xo Po Go No Qo Ko Lo To oo ra Xs ++ zwP cI Po Pp Ps Pa ++ zwG cI Go Gp Gs Ga ++ zwS cI No Np Go Ns Na ++ zwQ cI Qo Qp Qs Qa ++ zwS cI Ko Kp Go Ks Ka ++ zwQ cI Lo Lp Ls La ++ zwS cI To Tp Go Ts Ta ++ zwR cO ra oo ++ zwO (oo 0) (os 0) ++ zwO (oo 1) (os 1) ++ zwO (oo 2) (os 2) ++ zwO (oo 3) (os 3) ++ zwO (oo 4) (os 4) ++ zwO (oo 5) (os 5) ++ zwO (oo 6) (os 6) ++ zwO (oo 7) (os 7) ++ zwO (oo 8) (os 8)) sz)) (va_A (zwX Xo Po Go No Qo Ko Lo To oo ra Xs ++ zwP cI Po Pp Ps Pa ++ zwG cI Go Gp Gs Ga ++ zwS cI No Np Go Ns Na ++ zwQ cI Qo Qp Qs Qa ++ zwS cI Ko Kp Go Ks Ka ++ zwQ cI Lo Lp Ls La ++ zwS cI To Tp Go Ts Ta ++ zwR cO ra oo ++ zwO (oo 0) (os 0) ++ zwO (oo 1) (os 1) ++ zwO (oo 2) (os 2) ++ zwO (oo 3) (os 3) ++ zwO (oo 4) (os 4) ++ zwO (oo 5) (os 5) ++ zwO (oo 6) (os 6) ++ zwO (oo 7) (os 7) ++ zwO (oo 8) (os 8)) sz)) 0 0 (va_A (zwX Xo Po Go No Qo Ko Lo To oo ra Xs ++ zwP cI Po Pp Ps Pa ++ zwG cI Go Gp Gs Ga ++ zwS cI No Np Go Ns Na ++ zwQ cI Qo Qp Qs Qa ++ zwS cI Ko Kp Go Ks Ka ++ zwQ cI Lo Lp Ls La ++ zwS cI To Tp Go Ts Ta ++ zwR cO ra oo ++ zwO (oo 0) (os 0) ++ zwO (oo 1) (os 1) ++ zwO (oo 2) (os 2) ++ zwO (oo 3) (os 3) ++ zwO (oo 4) (os 4) ++ zwO (oo 5) (os 5) ++ zwO (oo 6) (os 6) ++ zwO (oo 7) (os 7) ++ zwO (oo 8) (os 8)) sz) := by
  unfold fX5_as at h
  refine zmet_i (cc := cX5_as) (maxL := 3) (by decide) rfl (Nat.le_of_ble_eq_true rfl) rfl rfl ?_
  intro p e s m args below meth c R Q A ls hx hb hts hown hml hK hP hD hE hA hS hRf hRl hl hq
  have hown : s.vm.findClass RX5 = some m.cls := hown
  have hl : lv_has ls 3 [(0, .ref Xo), (1, .int a0), (2, .int a1)] := hl
  obtain ⟨tTAKEN_AS, zzTAKEN_AS, ztTAKEN_AS⟩ := hE.1.2.1
  have inX5 : ∀ w ∈ u_ws RX5 TX5 13, w ∈ wsX5_as := by decide +kernel
  have lk28 : (Cond.fieldLink RX5 28 "PegField" "now" "LPegField$State;").before args s = true := hts _ (by decide +kernel)
  have lk119 : (Cond.fieldLink RX5 119 "PegField" "TAKEN_AS" "[I").before args s = true := hts _ (by decide +kernel)
  refine lv_aload_n hx hb dX5_as_0 rfl (lv_at hl 0 rfl) ?_
  refine va_get (D := D) (ci := 5) (v := .ref No) (C := RX5) (T := TX5) (N := 13) hx hb hts inX5 hown hK hP 0 rfl rfl 2 (by decide) lk28 (fun _ h9 => h9) rfl dX5_as_1 ?_
  refine lv_iload_n hx hb dX5_as_4 rfl (lv_at hl 1 rfl) ?_
  obtain ⟨r1, g2, h⟩ := zb1_s h
  have hFc := va_free (wc := (zwS cI No Np Go Ns Na)) hD hS hA [5, 6, 7, 8] rfl
  refine zcall_i (w2 := (zwX Xo Po Go No Qo Ko Lo To oo ra Xs ++ zwP cI Po Pp Ps Pa ++ zwG cI Go Gp Gs Ga ++ zwS cI No Np Go Ns Na ++ zwQ cI Qo Qp Qs Qa ++ zwS cI Ko Kp Go Ks Ka ++ zwQ cI Lo Lp Ls La ++ zwS cI To Tp Go Ts Ta ++ zwR cO ra oo ++ zwO (oo 0) (os 0) ++ zwO (oo 1) (os 1) ++ zwO (oo 2) (os 2) ++ zwO (oo 3) (os 3) ++ zwO (oo 4) (os 4) ++ zwO (oo 5) (os 5) ++ zwO (oo 6) (os 6) ++ zwO (oo 7) (os 7) ++ zwO (oo 8) (os 8))) (va_runV (As := [.int a0]) (rest := []) ⟨hx, hb, hml, hown, hts⟩ (c_X4_isPeg l D cI cB cO No Np Go Ns Na a0 _ _ g2) (cwV 1 hts gX5_as_X4_isPeg rfl rfl rfl kV_X4_isPeg ⟨Nat.le_trans (Nat.le_of_ble_eq_true rfl) hRf, Nat.le_trans (Nat.le_of_ble_eq_true rfl) hRl⟩) (zpreV hK hP hD hS hE hFc [5, 6, 7, 8] rfl rfl 5 (ci := 4) rfl rfl [.int a0]) rfl rfl hl.1 rfl (lv_room (Nat.le_of_ble_eq_true rfl)) dX5_as_5 ⟨Nat.zero_le _, Nat.zero_le _⟩) hP hD hS hFc [5, 6, 7, 8] [0, 1, 2, 3, 4, 9, 10, 11, 12, 13, 14, 15, 16, 17, 18, 19, 20, 21, 22, 23, 24, 25, 26, 27, 28, 29, 30, 31, 32] [0, 1, 2, 3, 4, 29, 30, 31, 32, 5, 6, 7, 8, 9, 10, 11, 12, 13, 14, 15, 16, 17, 18, 19, 20, 21, 22, 23, 24, 25, 26, 27, 28] 33 rfl rfl rfl rfl (fun H locs hP hD hS => ?_)
  refine lv_if_ne (tgt := 14) hx hb dX5_as_8 (by decide) (fun c3 => ?_) (fun c3 => ?_)
  · have h := zif_f c3 h
    refine lv_iload_n hx hb dX5_as_14 rfl (lv_at hl 2 rfl) ?_
    refine lv_if_lt (tgt := 23) hx hb dX5_as_15 (by decide) (fun c4 => ?_) (fun c4 => ?_)
    · have h := zif_t c4 h
      refine lv_bipush (v := (-102 : Int32)) hx hb dX5_as_23 (by decide) ?_
      cases zend h
      exact hq hP hD hS dX5_as_25
    · have h := zif_f c4 h
      refine lv_iload_n hx hb dX5_as_18 rfl (lv_at hl 2 rfl) ?_
      refine lv_iconst (v := (5 : Int32)) hx hb dX5_as_19 (by decide) ?_
      refine lv_icmp_lt (tgt := 26) hx hb dX5_as_20 (by decide) (fun c5 => ?_) (fun c5 => ?_)
      · have h := zif_t c5 h
        refine va_gets hx hb zzTAKEN_AS hS hown lk119 (fun _ h9 => h9) dX5_as_26 ?_
        refine lv_iload_n hx hb dX5_as_29 rfl (lv_at hl 2 rfl) ?_
        obtain ⟨z6, h⟩ := zck_s h
        refine va_ti (v := .int (zTA (a1).toNatClampNeg)) hx hb ztTAKEN_AS hS (zin_s z6) rfl dX5_as_30 ?_
        refine lv_aload_n hx hb dX5_as_31 rfl (lv_at hl 0 rfl) ?_
        refine va_get (D := D) (ci := 5) (v := .ref No) (C := RX5) (T := TX5) (N := 13) hx hb hts inX5 hown hK hP 0 rfl rfl 2 (by decide) lk28 (fun _ h9 => h9) rfl dX5_as_32 ?_
        refine lv_iload_n hx hb dX5_as_35 rfl (lv_at hl 1 rfl) ?_
        obtain ⟨r7, g8, h⟩ := zb1_s h
        have hFc := va_free (wc := (zwS cI No Np Go Ns Na)) hD hS hA [5, 6, 7, 8] rfl
        refine zcall_i (w2 := (zwX Xo Po Go No Qo Ko Lo To oo ra Xs ++ zwP cI Po Pp Ps Pa ++ zwG cI Go Gp Gs Ga ++ zwS cI No Np Go Ns Na ++ zwQ cI Qo Qp Qs Qa ++ zwS cI Ko Kp Go Ks Ka ++ zwQ cI Lo Lp Ls La ++ zwS cI To Tp Go Ts Ta ++ zwR cO ra oo ++ zwO (oo 0) (os 0) ++ zwO (oo 1) (os 1) ++ zwO (oo 2) (os 2) ++ zwO (oo 3) (os 3) ++ zwO (oo 4) (os 4) ++ zwO (oo 5) (os 5) ++ zwO (oo 6) (os 6) ++ zwO (oo 7) (os 7) ++ zwO (oo 8) (os 8))) (va_runV (As := [.int a0]) (rest := [.int (zTA (a1).toNatClampNeg)]) ⟨hx, hb, hml, hown, hts⟩ (c_X4_kindOf l D cI cB cO No Np Go Ns Na a0 _ _ g8) (cwV 1 hts gX5_as_X4_kindOf rfl rfl rfl kV_X4_kindOf ⟨Nat.le_trans (Nat.le_of_ble_eq_true rfl) hRf, Nat.le_trans (Nat.le_of_ble_eq_true rfl) hRl⟩) (zpreV hK hP hD hS hE hFc [5, 6, 7, 8] rfl rfl 5 (ci := 4) rfl rfl [.int a0]) rfl rfl hl.1 rfl (lv_room (Nat.le_of_ble_eq_true rfl)) dX5_as_36 ⟨Nat.zero_le _, Nat.zero_le _⟩) hP hD hS hFc [5, 6, 7, 8] [0, 1, 2, 3, 4, 9, 10, 11, 12, 13, 14, 15, 16, 17, 18, 19, 20, 21, 22, 23, 24, 25, 26, 27, 28, 29, 30, 31, 32] [0, 1, 2, 3, 4, 29, 30, 31, 32, 5, 6, 7, 8, 9, 10, 11, 12, 13, 14, 15, 16, 17, 18, 19, 20, 21, 22, 23, 24, 25, 26, 27, 28] 33 rfl rfl rfl rfl (fun H locs hP hD hS => ?_)
        obtain ⟨r9, g10, h⟩ := zb1_s h
        have hFc := va_free (wc := ([] : va_W)) hD hS hA [] rfl
        refine zcall_i (w2 := (zwX Xo Po Go No Qo Ko Lo To oo ra Xs ++ zwP cI Po Pp Ps Pa ++ zwG cI Go Gp Gs Ga ++ zwS cI No Np Go Ns Na ++ zwQ cI Qo Qp Qs Qa ++ zwS cI Ko Kp Go Ks Ka ++ zwQ cI Lo Lp Ls La ++ zwS cI To Tp Go Ts Ta ++ zwR cO ra oo ++ zwO (oo 0) (os 0) ++ zwO (oo 1) (os 1) ++ zwO (oo 2) (os 2) ++ zwO (oo 3) (os 3) ++ zwO (oo 4) (os 4) ++ zwO (oo 5) (os 5) ++ zwO (oo 6) (os 6) ++ zwO (oo 7) (os 7) ++ zwO (oo 8) (os 8))) (va_runS (As := [.int (zTA (a1).toNatClampNeg), .int r7]) (rest := []) ⟨hx, hb, hml, hown, hts⟩ (c_X5_hasBit l D cI cB cO (zTA (a1).toNatClampNeg) r7 _ _ g10) (va_cwS 2 hts gX5_as_X5_hasBit rfl rfl rfl kS_X5_hasBit ⟨Nat.le_trans (Nat.le_of_ble_eq_true rfl) hRf, Nat.le_trans (Nat.le_of_ble_eq_true rfl) hRl⟩) (zpreS hK hP hD hS hE hFc [] rfl rfl [.int (zTA (a1).toNatClampNeg), .int r7]) rfl rfl hl.1 rfl (lv_room (Nat.le_of_ble_eq_true rfl)) dX5_as_39 ⟨Nat.zero_le _, Nat.zero_le _⟩) hP hD hS hFc [] [0, 1, 2, 3, 4, 5, 6, 7, 8, 9, 10, 11, 12, 13, 14, 15, 16, 17, 18, 19, 20, 21, 22, 23, 24, 25, 26, 27, 28, 29, 30, 31, 32] [0, 1, 2, 3, 4, 5, 6, 7, 8, 9, 10, 11, 12, 13, 14, 15, 16, 17, 18, 19, 20, 21, 22, 23, 24, 25, 26, 27, 28, 29, 30, 31, 32] 33 rfl rfl rfl rfl (fun H locs hP hD hS => ?_)
        refine lv_if_eq (tgt := 49) hx hb dX5_as_42 (by decide) (fun c11 => ?_) (fun c11 => ?_)
        · have h := zif_t c11 h
          refine lv_iconst (v := (-1 : Int32)) hx hb dX5_as_49 (by decide) ?_
          cases zend h
          exact hq hP hD hS dX5_as_50
        · have h := zif_f c11 h
          refine lv_iload_n hx hb dX5_as_45 rfl (lv_at hl 1 rfl) ?_
          refine lv_goto (tgt := 50) hx hb dX5_as_46 (by decide) ?_
          cases zend h
          exact hq hP hD hS dX5_as_50
      · have h := zif_f c5 h
        refine lv_bipush (v := (-102 : Int32)) hx hb dX5_as_23 (by decide) ?_
        cases zend h
        exact hq hP hD hS dX5_as_25
  · have h := zif_t c3 h
    refine lv_bipush (v := (-101 : Int32)) hx hb dX5_as_11 (by decide) ?_
    cases zend h
    exact hq hP hD hS dX5_as_13
set_option maxHeartbeats 4000000 in
set_option maxRecDepth 100000 in
theorem c_X5_place (l : Launch) (D : va_G) (cI cB cO : ClassId) (Xo : Nat) (Po : Nat) (Pp : Nat → Nat) (Go : Nat) (Gp : Nat → Nat) (No : Nat) (Np : Nat → Nat) (Qo : Nat) (Qp : Nat → Nat) (Ko : Nat) (Kp : Nat → Nat) (Lo : Nat) (Lp : Nat → Nat) (To : Nat) (Tp : Nat → Nat) (ra : Nat) (oo : Nat → Nat) (Xs : Nat → Int32) (Ps : Nat → Int32) (Pa : Nat → Nat → Int32) (Gs : Nat → Int32) (Ga : Nat → Nat → Int32) (Ns : Nat → Int32) (Na : Nat → Nat → Int32) (Qs : Nat → Int32) (Qa : Nat → Nat → Int32) (Ks : Nat → Int32) (Ka : Nat → Nat → Int32) (Ls : Nat → Int32) (La : Nat → Nat → Int32) (Ts : Nat → Int32) (Ta : Nat → Nat → Int32) (os : Nat → Nat → Int32) (a0 : Int32) (a1 : Int32) (rv : Int32) (sz : Nat) (h : fX5_place Gs Ns Na a0 a1 = some rv) : Met l yX5_place wsX5_place ({ frames := 2, cells := 0, slots := 0, locals := 42 } : Room) (va_Pc [.ref Xo, .int a0, .int a1] (zPre D (zTY cI cB cO) (zwX Xo Po Go No Qo Ko Lo To oo ra Xs ++ zwP cI Po Pp Ps Pa ++ zwG cI Go Gp Gs Ga ++ zwS cI No Np Go Ns Na ++ zwQ cI Qo Qp Qs Qa ++ zwS cI Ko Kp Go Ks Ka ++ zwQ cI Lo Lp Ls La ++ zwS cI To Tp Go Ts Ta ++ zwR cO ra oo ++ zwO (oo 0) (os 0) ++ zwO (oo 1) (os 1) ++ zwO (oo 2) (os 2) ++ zwO (oo 3) (os 3) ++ zwO (oo 4) (os 4) ++ zwO (oo 5) (os 5) ++ zwO (oo 6) (os 6) ++ zwO (oo 7) (os 7) ++ zwO (oo 8) (os 8)) sz)) (va_Qi (fun r (_ : Unit) => r = rv) (fun _ => zPost D (zTY cI cB cO) (zwX Xo Po Go No Qo Ko Lo To oo ra Xs ++ zwP cI Po Pp Ps Pa ++ zwG cI Go Gp Gs Ga ++ zwS cI No Np Go Ns Na ++ zwQ cI Qo Qp Qs Qa ++ zwS cI Ko Kp Go Ks Ka ++ zwQ cI Lo Lp Ls La ++ zwS cI To Tp Go Ts Ta ++ zwR cO ra oo ++ zwO (oo 0) (os 0) ++ zwO (oo 1) (os 1) ++ zwO (oo 2) (os 2) ++ zwO (oo 3) (os 3) ++ zwO (oo 4) (os 4) ++ zwO (oo 5) (os 5) ++ zwO (oo 6) (os 6) ++ zwO (oo 7) (os 7) ++ zwO (oo 8) (os 8)) (va_A (zwX Xo Po Go No Qo Ko Lo To oo ra Xs ++ zwP cI Po Pp Ps Pa ++ zwG cI Go Gp Gs Ga ++ zwS cI No Np Go Ns Na ++ zwQ cI Qo Qp Qs Qa ++ zwS cI Ko Kp Go Ks Ka ++ zwQ cI Lo Lp Ls La ++ zwS cI To Tp Go Ts Ta ++ zwR cO ra oo ++ zwO (oo 0) (os 0) ++ zwO (oo 1) (os 1) ++ zwO (oo 2) (os 2) ++ zwO (oo 3) (os 3) ++ zwO (oo 4) (os 4) ++ zwO (oo 5) (os 5) ++ zwO (oo 6) (os 6) ++ zwO (oo 7) (os 7) ++ zwO (oo 8) (os 8)) sz)) (va_A (zwX Xo Po Go No Qo Ko Lo To oo ra Xs ++ zwP cI Po Pp Ps Pa ++ zwG cI Go Gp Gs Ga ++ zwS cI No Np Go Ns Na ++ zwQ cI Qo Qp Qs Qa ++ zwS cI Ko Kp Go Ks Ka ++ zwQ cI Lo Lp Ls La ++ zwS cI To Tp Go Ts Ta ++ zwR cO ra oo ++ zwO (oo 0) (os 0) ++ zwO (oo 1) (os 1) ++ zwO (oo 2) (os 2) ++ zwO (oo 3) (os 3) ++ zwO (oo 4) (os 4) ++ zwO (oo 5) (os 5) ++ zwO (oo 6) (os 6) ++ zwO (oo 7) (os 7) ++ zwO (oo 8) (os 8)) sz)) 0 0 (va_A (zwX Xo Po Go No Qo Ko Lo To oo ra Xs ++ zwP cI Po Pp Ps Pa ++ zwG cI Go Gp Gs Ga ++ zwS cI No Np Go Ns Na ++ zwQ cI Qo Qp Qs Qa ++ zwS cI Ko Kp Go Ks Ka ++ zwQ cI Lo Lp Ls La ++ zwS cI To Tp Go Ts Ta ++ zwR cO ra oo ++ zwO (oo 0) (os 0) ++ zwO (oo 1) (os 1) ++ zwO (oo 2) (os 2) ++ zwO (oo 3) (os 3) ++ zwO (oo 4) (os 4) ++ zwO (oo 5) (os 5) ++ zwO (oo 6) (os 6) ++ zwO (oo 7) (os 7) ++ zwO (oo 8) (os 8)) sz) := by
  unfold fX5_place at h
  refine zmet_i (cc := cX5_place) (maxL := 3) (by decide) rfl (Nat.le_of_ble_eq_true rfl) rfl rfl ?_
  intro p e s m args below meth c R Q A ls hx hb hts hown hml hK hP hD hE hA hS hRf hRl hl hq
  have hown : s.vm.findClass RX5 = some m.cls := hown
  have hl : lv_has ls 3 [(0, .ref Xo), (1, .int a0), (2, .int a1)] := hl
  have inX5 : ∀ w ∈ u_ws RX5 TX5 13, w ∈ wsX5_place := by decide +kernel
  have lk19 : (Cond.fieldLink RX5 19 "PegField" "grid" "LPegField$Grid;").before args s = true := hts _ (by decide +kernel)
  have lk28 : (Cond.fieldLink RX5 28 "PegField" "now" "LPegField$State;").before args s = true := hts _ (by decide +kernel)
  refine lv_aload_n hx hb dX5_place_0 rfl (lv_at hl 0 rfl) ?_
  refine va_get (D := D) (ci := 5) (v := .ref Go) (C := RX5) (T := TX5) (N := 13) hx hb hts inX5 hown hK hP 0 rfl rfl 1 (by decide) lk19 (fun _ h9 => h9) rfl dX5_place_1 ?_
  refine lv_iload_n hx hb dX5_place_4 rfl (lv_at hl 1 rfl) ?_
  obtain ⟨r1, g2, h⟩ := zb1_s h
  have hFc := va_free (wc := (zwG cI Go Gp Gs Ga)) hD hS hA [3, 4] rfl
  refine zcall_i (w2 := (zwX Xo Po Go No Qo Ko Lo To oo ra Xs ++ zwP cI Po Pp Ps Pa ++ zwG cI Go Gp Gs Ga ++ zwS cI No Np Go Ns Na ++ zwQ cI Qo Qp Qs Qa ++ zwS cI Ko Kp Go Ks Ka ++ zwQ cI Lo Lp Ls La ++ zwS cI To Tp Go Ts Ta ++ zwR cO ra oo ++ zwO (oo 0) (os 0) ++ zwO (oo 1) (os 1) ++ zwO (oo 2) (os 2) ++ zwO (oo 3) (os 3) ++ zwO (oo 4) (os 4) ++ zwO (oo 5) (os 5) ++ zwO (oo 6) (os 6) ++ zwO (oo 7) (os 7) ++ zwO (oo 8) (os 8))) (va_runV (As := [.int a0]) (rest := []) ⟨hx, hb, hml, hown, hts⟩ (c_X0_has l D cI cB cO Go Gp Gs Ga a0 _ _ g2) (cwV 1 hts gX5_place_X0_has rfl rfl rfl kV_X0_has ⟨Nat.le_trans (Nat.le_of_ble_eq_true rfl) hRf, Nat.le_trans (Nat.le_of_ble_eq_true rfl) hRl⟩) (zpreV hK hP hD hS hE hFc [3, 4] rfl rfl 3 (ci := 0) rfl rfl [.int a0]) rfl rfl hl.1 rfl (lv_room (Nat.le_of_ble_eq_true rfl)) dX5_place_5 ⟨Nat.zero_le _, Nat.zero_le _⟩) hP hD hS hFc [3, 4] [0, 1, 2, 5, 6, 7, 8, 9, 10, 11, 12, 13, 14, 15, 16, 17, 18, 19, 20, 21, 22, 23, 24, 25, 26, 27, 28, 29, 30, 31, 32] [0, 1, 2, 31, 32, 3, 4, 5, 6, 7, 8, 9, 10, 11, 12, 13, 14, 15, 16, 17, 18, 19, 20, 21, 22, 23, 24, 25, 26, 27, 28, 29, 30] 33 rfl rfl rfl rfl (fun H locs hP hD hS => ?_)
  refine lv_if_ne (tgt := 14) hx hb dX5_place_8 (by decide) (fun c3 => ?_) (fun c3 => ?_)
  · have h := zif_f c3 h
    refine lv_iload_n hx hb dX5_place_14 rfl (lv_at hl 2 rfl) ?_
    by_cases c4 : a1 = (0 : Int32)
    · have h := zif_t c4 h
      refine lv_lookup (tgt := 40) (off := 25) hx hb dX5_place_15 (by decide) (by rw [c4]; decide) (by decide) ?_
      refine lv_aload_n hx hb dX5_place_40 rfl (lv_at hl 0 rfl) ?_
      refine va_get (D := D) (ci := 5) (v := .ref No) (C := RX5) (T := TX5) (N := 13) hx hb hts inX5 hown hK hP 0 rfl rfl 2 (by decide) lk28 (fun _ h9 => h9) rfl dX5_place_41 ?_
      refine lv_iload_n hx hb dX5_place_44 rfl (lv_at hl 1 rfl) ?_
      obtain ⟨r5, g6, h⟩ := zb1_s h
      have hFc := va_free (wc := (zwS cI No Np Go Ns Na ++ zwG cI Go Gp Gs Ga)) hD hS hA [5, 6, 7, 8, 3, 4] rfl
      refine zcall_i (w2 := (zwX Xo Po Go No Qo Ko Lo To oo ra Xs ++ zwP cI Po Pp Ps Pa ++ zwG cI Go Gp Gs Ga ++ zwS cI No Np Go Ns Na ++ zwQ cI Qo Qp Qs Qa ++ zwS cI Ko Kp Go Ks Ka ++ zwQ cI Lo Lp Ls La ++ zwS cI To Tp Go Ts Ta ++ zwR cO ra oo ++ zwO (oo 0) (os 0) ++ zwO (oo 1) (os 1) ++ zwO (oo 2) (os 2) ++ zwO (oo 3) (os 3) ++ zwO (oo 4) (os 4) ++ zwO (oo 5) (os 5) ++ zwO (oo 6) (os 6) ++ zwO (oo 7) (os 7) ++ zwO (oo 8) (os 8))) (va_runV (As := [.int a0]) (rest := []) ⟨hx, hb, hml, hown, hts⟩ (c_X4_isHole l D cI cB cO No Np Go Gp Ns Na Gs Ga a0 _ _ g6) (cwV 1 hts gX5_place_X4_isHole rfl rfl rfl kV_X4_isHole ⟨Nat.le_trans (Nat.le_of_ble_eq_true rfl) hRf, Nat.le_trans (Nat.le_of_ble_eq_true rfl) hRl⟩) (zpreV hK hP hD hS hE hFc [5, 6, 7, 8, 3, 4] rfl rfl 5 (ci := 4) rfl rfl [.int a0]) rfl rfl hl.1 rfl (lv_room (Nat.le_of_ble_eq_true rfl)) dX5_place_45 ⟨Nat.zero_le _, Nat.zero_le _⟩) hP hD hS hFc [5, 6, 7, 8, 3, 4] [0, 1, 2, 9, 10, 11, 12, 13, 14, 15, 16, 17, 18, 19, 20, 21, 22, 23, 24, 25, 26, 27, 28, 29, 30, 31, 32] [0, 1, 2, 31, 32, 27, 28, 29, 30, 3, 4, 5, 6, 7, 8, 9, 10, 11, 12, 13, 14, 15, 16, 17, 18, 19, 20, 21, 22, 23, 24, 25, 26] 33 rfl rfl rfl rfl (fun H locs hP hD hS => ?_)
      refine lv_if_eq (tgt := 55) hx hb dX5_place_48 (by decide) (fun c7 => ?_) (fun c7 => ?_)
      · have h := zif_t c7 h
        refine lv_iconst (v := (0 : Int32)) hx hb dX5_place_55 (by decide) ?_
        cases zend h
        exact hq hP hD hS dX5_place_56
      · have h := zif_f c7 h
        refine lv_iconst (v := (1 : Int32)) hx hb dX5_place_51 (by decide) ?_
        refine lv_goto (tgt := 56) hx hb dX5_place_52 (by decide) ?_
        cases zend h
        exact hq hP hD hS dX5_place_56
    · have h := zif_f c4 h
      by_cases c8 : a1 = (1 : Int32)
      · have h := zif_t c8 h
        refine lv_lookup (tgt := 57) (off := 42) hx hb dX5_place_15 (by decide) (by rw [c8]; decide) (by decide) ?_
        refine lv_aload_n hx hb dX5_place_57 rfl (lv_at hl 0 rfl) ?_
        refine va_get (D := D) (ci := 5) (v := .ref No) (C := RX5) (T := TX5) (N := 13) hx hb hts inX5 hown hK hP 0 rfl rfl 2 (by decide) lk28 (fun _ h9 => h9) rfl dX5_place_58 ?_
        refine lv_iload_n hx hb dX5_place_61 rfl (lv_at hl 1 rfl) ?_
        obtain ⟨r9, g10, h⟩ := zb1_s h
        have hFc := va_free (wc := (zwS cI No Np Go Ns Na ++ zwG cI Go Gp Gs Ga)) hD hS hA [5, 6, 7, 8, 3, 4] rfl
        refine zcall_i (w2 := (zwX Xo Po Go No Qo Ko Lo To oo ra Xs ++ zwP cI Po Pp Ps Pa ++ zwG cI Go Gp Gs Ga ++ zwS cI No Np Go Ns Na ++ zwQ cI Qo Qp Qs Qa ++ zwS cI Ko Kp Go Ks Ka ++ zwQ cI Lo Lp Ls La ++ zwS cI To Tp Go Ts Ta ++ zwR cO ra oo ++ zwO (oo 0) (os 0) ++ zwO (oo 1) (os 1) ++ zwO (oo 2) (os 2) ++ zwO (oo 3) (os 3) ++ zwO (oo 4) (os 4) ++ zwO (oo 5) (os 5) ++ zwO (oo 6) (os 6) ++ zwO (oo 7) (os 7) ++ zwO (oo 8) (os 8))) (va_runV (As := [.int a0]) (rest := []) ⟨hx, hb, hml, hown, hts⟩ (c_X4_pegIn l D cI cB cO No Np Go Gp Ns Na Gs Ga a0 _ _ g10) (cwV 1 hts gX5_place_X4_pegIn rfl rfl rfl kV_X4_pegIn ⟨Nat.le_trans (Nat.le_of_ble_eq_true rfl) hRf, Nat.le_trans (Nat.le_of_ble_eq_true rfl) hRl⟩) (zpreV hK hP hD hS hE hFc [5, 6, 7, 8, 3, 4] rfl rfl 5 (ci := 4) rfl rfl [.int a0]) rfl rfl hl.1 rfl (lv_room (Nat.le_of_ble_eq_true rfl)) dX5_place_62 ⟨Nat.zero_le _, Nat.zero_le _⟩) hP hD hS hFc [5, 6, 7, 8, 3, 4] [0, 1, 2, 9, 10, 11, 12, 13, 14, 15, 16, 17, 18, 19, 20, 21, 22, 23, 24, 25, 26, 27, 28, 29, 30, 31, 32] [0, 1, 2, 31, 32, 27, 28, 29, 30, 3, 4, 5, 6, 7, 8, 9, 10, 11, 12, 13, 14, 15, 16, 17, 18, 19, 20, 21, 22, 23, 24, 25, 26] 33 rfl rfl rfl rfl (fun H locs hP hD hS => ?_)
        cases zend h
        exact hq hP hD hS dX5_place_65
      · have h := zif_f c8 h
        have nc4 := zne_i (k := 0) (0 : Int32) (by decide) c4
        have nc8 := zne_i (k := 1) (1 : Int32) (by decide) c8
        refine lv_lookup (tgt := 66) (off := 51) hx hb dX5_place_15 (by decide) (zlk [(0, 25), (1, 42)] 51 _ (List.forall_mem_cons.mpr ⟨nc4, (List.forall_mem_cons.mpr ⟨nc8, (fun _ h => absurd h List.not_mem_nil)⟩)⟩)) (by decide) ?_
        refine lv_bipush (v := (-102 : Int32)) hx hb dX5_place_66 (by decide) ?_
        cases zend h
        exact hq hP hD hS dX5_place_68
  · have h := zif_t c3 h
    refine lv_bipush (v := (-101 : Int32)) hx hb dX5_place_11 (by decide) ?_
    cases zend h
    exact hq hP hD hS dX5_place_13
set_option maxHeartbeats 4000000 in
set_option maxRecDepth 100000 in
theorem c_X5_jump (l : Launch) (D : va_G) (cI cB cO : ClassId) (Xo : Nat) (Po : Nat) (Pp : Nat → Nat) (Go : Nat) (Gp : Nat → Nat) (No : Nat) (Np : Nat → Nat) (Qo : Nat) (Qp : Nat → Nat) (Ko : Nat) (Kp : Nat → Nat) (Lo : Nat) (Lp : Nat → Nat) (To : Nat) (Tp : Nat → Nat) (ra : Nat) (oo : Nat → Nat) (Xs : Nat → Int32) (Ps : Nat → Int32) (Pa : Nat → Nat → Int32) (Gs : Nat → Int32) (Ga : Nat → Nat → Int32) (Ns : Nat → Int32) (Na : Nat → Nat → Int32) (Qs : Nat → Int32) (Qa : Nat → Nat → Int32) (Ks : Nat → Int32) (Ka : Nat → Nat → Int32) (Ls : Nat → Int32) (La : Nat → Nat → Int32) (Ts : Nat → Int32) (Ta : Nat → Nat → Int32) (os : Nat → Nat → Int32) (a0 : Int32) (a1 : Int32) (rv : Int32) (Xs' : Nat → Int32) (Ns' : Nat → Int32) (Na' : Nat → Nat → Int32) (sz : Nat) (h : fX5_jump Xs Gs Ga Ns Na a0 a1 = some (rv, Xs', Ns', Na')) : Met l yX5_jump wsX5_jump ({ frames := 4, cells := 0, slots := 0, locals := 92 } : Room) (va_Pc [.ref Xo, .int a0, .int a1] (zPre D (zTY cI cB cO) (zwX Xo Po Go No Qo Ko Lo To oo ra Xs ++ zwP cI Po Pp Ps Pa ++ zwG cI Go Gp Gs Ga ++ zwS cI No Np Go Ns Na ++ zwQ cI Qo Qp Qs Qa ++ zwS cI Ko Kp Go Ks Ka ++ zwQ cI Lo Lp Ls La ++ zwS cI To Tp Go Ts Ta ++ zwR cO ra oo ++ zwO (oo 0) (os 0) ++ zwO (oo 1) (os 1) ++ zwO (oo 2) (os 2) ++ zwO (oo 3) (os 3) ++ zwO (oo 4) (os 4) ++ zwO (oo 5) (os 5) ++ zwO (oo 6) (os 6) ++ zwO (oo 7) (os 7) ++ zwO (oo 8) (os 8)) sz)) (va_Qi (fun r (_ : Unit) => r = rv) (fun _ => zPost D (zTY cI cB cO) (zwX Xo Po Go No Qo Ko Lo To oo ra Xs' ++ zwP cI Po Pp Ps Pa ++ zwG cI Go Gp Gs Ga ++ zwS cI No Np Go Ns' Na' ++ zwQ cI Qo Qp Qs Qa ++ zwS cI Ko Kp Go Ks Ka ++ zwQ cI Lo Lp Ls La ++ zwS cI To Tp Go Ts Ta ++ zwR cO ra oo ++ zwO (oo 0) (os 0) ++ zwO (oo 1) (os 1) ++ zwO (oo 2) (os 2) ++ zwO (oo 3) (os 3) ++ zwO (oo 4) (os 4) ++ zwO (oo 5) (os 5) ++ zwO (oo 6) (os 6) ++ zwO (oo 7) (os 7) ++ zwO (oo 8) (os 8)) (va_A (zwX Xo Po Go No Qo Ko Lo To oo ra Xs ++ zwP cI Po Pp Ps Pa ++ zwG cI Go Gp Gs Ga ++ zwS cI No Np Go Ns Na ++ zwQ cI Qo Qp Qs Qa ++ zwS cI Ko Kp Go Ks Ka ++ zwQ cI Lo Lp Ls La ++ zwS cI To Tp Go Ts Ta ++ zwR cO ra oo ++ zwO (oo 0) (os 0) ++ zwO (oo 1) (os 1) ++ zwO (oo 2) (os 2) ++ zwO (oo 3) (os 3) ++ zwO (oo 4) (os 4) ++ zwO (oo 5) (os 5) ++ zwO (oo 6) (os 6) ++ zwO (oo 7) (os 7) ++ zwO (oo 8) (os 8)) sz)) (va_A (zwX Xo Po Go No Qo Ko Lo To oo ra Xs ++ zwP cI Po Pp Ps Pa ++ zwG cI Go Gp Gs Ga ++ zwS cI No Np Go Ns Na ++ zwQ cI Qo Qp Qs Qa ++ zwS cI Ko Kp Go Ks Ka ++ zwQ cI Lo Lp Ls La ++ zwS cI To Tp Go Ts Ta ++ zwR cO ra oo ++ zwO (oo 0) (os 0) ++ zwO (oo 1) (os 1) ++ zwO (oo 2) (os 2) ++ zwO (oo 3) (os 3) ++ zwO (oo 4) (os 4) ++ zwO (oo 5) (os 5) ++ zwO (oo 6) (os 6) ++ zwO (oo 7) (os 7) ++ zwO (oo 8) (os 8)) sz)) 0 0 (va_A (zwX Xo Po Go No Qo Ko Lo To oo ra Xs ++ zwP cI Po Pp Ps Pa ++ zwG cI Go Gp Gs Ga ++ zwS cI No Np Go Ns Na ++ zwQ cI Qo Qp Qs Qa ++ zwS cI Ko Kp Go Ks Ka ++ zwQ cI Lo Lp Ls La ++ zwS cI To Tp Go Ts Ta ++ zwR cO ra oo ++ zwO (oo 0) (os 0) ++ zwO (oo 1) (os 1) ++ zwO (oo 2) (os 2) ++ zwO (oo 3) (os 3) ++ zwO (oo 4) (os 4) ++ zwO (oo 5) (os 5) ++ zwO (oo 6) (os 6) ++ zwO (oo 7) (os 7) ++ zwO (oo 8) (os 8)) sz) := by
  unfold fX5_jump at h
  refine zmet_i (cc := cX5_jump) (maxL := 4) (by decide) rfl (Nat.le_of_ble_eq_true rfl) rfl rfl ?_
  intro p e s m args below meth c R Q A ls hx hb hts hown hml hK hP hD hE hA hS hRf hRl hl hq
  have hown : s.vm.findClass RX5 = some m.cls := hown
  have hl : lv_has ls 4 [(0, .ref Xo), (1, .int a0), (2, .int a1)] := hl
  have inX5 : ∀ w ∈ u_ws RX5 TX5 13, w ∈ wsX5_jump := by decide +kernel
  have lk28 : (Cond.fieldLink RX5 28 "PegField" "now" "LPegField$State;").before args s = true := hts _ (by decide +kernel)
  have lk19 : (Cond.fieldLink RX5 19 "PegField" "grid" "LPegField$Grid;").before args s = true := hts _ (by decide +kernel)
  have inX4 : ∀ w ∈ u_ws RX4 TX4 8, w ∈ wsX5_jump := by decide +kernel
  have lk140 : (Cond.fieldLinkNest RX5 140 "PegField$State" "jumps" "I" "PegField").before args s = true := hE.2.use (by decide +kernel)
  have lk92 : (Cond.fieldLink RX5 92 "PegField" "isLooked" "Z").before args s = true := hts _ (by decide +kernel)
  have lk150 : (Cond.fieldLinkNest RX5 150 "PegField$State" "onBoard" "I" "PegField").before args s = true := hE.2.use (by decide +kernel)
  refine lv_aload_n hx hb dX5_jump_0 rfl (lv_at hl 0 rfl) ?_
  refine va_get (D := D) (ci := 5) (v := .ref No) (C := RX5) (T := TX5) (N := 13) hx hb hts inX5 hown hK hP 0 rfl rfl 2 (by decide) lk28 (fun _ h9 => h9) rfl dX5_jump_1 ?_
  refine lv_iload_n hx hb dX5_jump_4 rfl (lv_at hl 1 rfl) ?_
  obtain ⟨r1, g2, h⟩ := zb1_s h
  have hFc := va_free (wc := (zwS cI No Np Go Ns Na)) hD hS hA [5, 6, 7, 8] rfl
  refine zcall_i (w2 := (zwX Xo Po Go No Qo Ko Lo To oo ra Xs ++ zwP cI Po Pp Ps Pa ++ zwG cI Go Gp Gs Ga ++ zwS cI No Np Go Ns Na ++ zwQ cI Qo Qp Qs Qa ++ zwS cI Ko Kp Go Ks Ka ++ zwQ cI Lo Lp Ls La ++ zwS cI To Tp Go Ts Ta ++ zwR cO ra oo ++ zwO (oo 0) (os 0) ++ zwO (oo 1) (os 1) ++ zwO (oo 2) (os 2) ++ zwO (oo 3) (os 3) ++ zwO (oo 4) (os 4) ++ zwO (oo 5) (os 5) ++ zwO (oo 6) (os 6) ++ zwO (oo 7) (os 7) ++ zwO (oo 8) (os 8))) (va_runV (As := [.int a0]) (rest := []) ⟨hx, hb, hml, hown, hts⟩ (c_X4_isPeg l D cI cB cO No Np Go Ns Na a0 _ _ g2) (cwV 1 hts gX5_jump_X4_isPeg rfl rfl rfl kV_X4_isPeg ⟨Nat.le_trans (Nat.le_of_ble_eq_true rfl) hRf, Nat.le_trans (Nat.le_of_ble_eq_true rfl) hRl⟩) (zpreV hK hP hD hS hE hFc [5, 6, 7, 8] rfl rfl 5 (ci := 4) rfl rfl [.int a0]) rfl rfl hl.1 rfl (lv_room (Nat.le_of_ble_eq_true rfl)) dX5_jump_5 ⟨Nat.zero_le _, Nat.zero_le _⟩) hP hD hS hFc [5, 6, 7, 8] [0, 1, 2, 3, 4, 9, 10, 11, 12, 13, 14, 15, 16, 17, 18, 19, 20, 21, 22, 23, 24, 25, 26, 27, 28, 29, 30, 31, 32] [0, 1, 2, 3, 4, 29, 30, 31, 32, 5, 6, 7, 8, 9, 10, 11, 12, 13, 14, 15, 16, 17, 18, 19, 20, 21, 22, 23, 24, 25, 26, 27, 28] 33 rfl rfl rfl rfl (fun H locs hP hD hS => ?_)
  refine lv_if_eq (tgt := 22) hx hb dX5_jump_8 (by decide) (fun c3 => ?_) (fun c3 => ?_)
  · have h := zif_t c3 h
    refine lv_bipush (v := (-101 : Int32)) hx hb dX5_jump_22 (by decide) ?_
    cases zend h
    exact hq hP hD hS dX5_jump_24
  · have h := zif_f c3 h
    refine lv_aload_n hx hb dX5_jump_11 rfl (lv_at hl 0 rfl) ?_
    refine va_get (D := D) (ci := 5) (v := .ref Go) (C := RX5) (T := TX5) (N := 13) hx hb hts inX5 hown hK hP 0 rfl rfl 1 (by decide) lk19 (fun _ h9 => h9) rfl dX5_jump_12 ?_
    refine lv_iload_n hx hb dX5_jump_15 rfl (lv_at hl 2 rfl) ?_
    obtain ⟨r4, g5, h⟩ := zb1_s h
    have hFc := va_free (wc := (zwG cI Go Gp Gs Ga)) hD hS hA [3, 4] rfl
    refine zcall_i (w2 := (zwX Xo Po Go No Qo Ko Lo To oo ra Xs ++ zwP cI Po Pp Ps Pa ++ zwG cI Go Gp Gs Ga ++ zwS cI No Np Go Ns Na ++ zwQ cI Qo Qp Qs Qa ++ zwS cI Ko Kp Go Ks Ka ++ zwQ cI Lo Lp Ls La ++ zwS cI To Tp Go Ts Ta ++ zwR cO ra oo ++ zwO (oo 0) (os 0) ++ zwO (oo 1) (os 1) ++ zwO (oo 2) (os 2) ++ zwO (oo 3) (os 3) ++ zwO (oo 4) (os 4) ++ zwO (oo 5) (os 5) ++ zwO (oo 6) (os 6) ++ zwO (oo 7) (os 7) ++ zwO (oo 8) (os 8))) (va_runV (As := [.int a1]) (rest := []) ⟨hx, hb, hml, hown, hts⟩ (c_X0_has l D cI cB cO Go Gp Gs Ga a1 _ _ g5) (cwV 1 hts gX5_jump_X0_has rfl rfl rfl kV_X0_has ⟨Nat.le_trans (Nat.le_of_ble_eq_true rfl) hRf, Nat.le_trans (Nat.le_of_ble_eq_true rfl) hRl⟩) (zpreV hK hP hD hS hE hFc [3, 4] rfl rfl 3 (ci := 0) rfl rfl [.int a1]) rfl rfl hl.1 rfl (lv_room (Nat.le_of_ble_eq_true rfl)) dX5_jump_16 ⟨Nat.zero_le _, Nat.zero_le _⟩) hP hD hS hFc [3, 4] [0, 1, 2, 5, 6, 7, 8, 9, 10, 11, 12, 13, 14, 15, 16, 17, 18, 19, 20, 21, 22, 23, 24, 25, 26, 27, 28, 29, 30, 31, 32] [0, 1, 2, 31, 32, 3, 4, 5, 6, 7, 8, 9, 10, 11, 12, 13, 14, 15, 16, 17, 18, 19, 20, 21, 22, 23, 24, 25, 26, 27, 28, 29, 30] 33 rfl rfl rfl rfl (fun H locs hP hD hS => ?_)
    refine lv_if_ne (tgt := 25) hx hb dX5_jump_19 (by decide) (fun c6 => ?_) (fun c6 => ?_)
    · have h := zif_f c6 h
      refine lv_aload_n hx hb dX5_jump_25 rfl (lv_at hl 0 rfl) ?_
      refine va_get (D := D) (ci := 5) (v := .ref No) (C := RX5) (T := TX5) (N := 13) hx hb hts inX5 hown hK hP 0 rfl rfl 2 (by decide) lk28 (fun _ h9 => h9) rfl dX5_jump_26 ?_
      refine lv_iload_n hx hb dX5_jump_29 rfl (lv_at hl 1 rfl) ?_
      refine lv_iload_n hx hb dX5_jump_30 rfl (lv_at hl 2 rfl) ?_
      obtain ⟨r7, g8, h⟩ := zb1_s h
      have hFc := va_free (wc := (zwS cI No Np Go Ns Na ++ zwG cI Go Gp Gs Ga)) hD hS hA [5, 6, 7, 8, 3, 4] rfl
      refine zcall_i (w2 := (zwX Xo Po Go No Qo Ko Lo To oo ra Xs ++ zwP cI Po Pp Ps Pa ++ zwG cI Go Gp Gs Ga ++ zwS cI No Np Go Ns Na ++ zwQ cI Qo Qp Qs Qa ++ zwS cI Ko Kp Go Ks Ka ++ zwQ cI Lo Lp Ls La ++ zwS cI To Tp Go Ts Ta ++ zwR cO ra oo ++ zwO (oo 0) (os 0) ++ zwO (oo 1) (os 1) ++ zwO (oo 2) (os 2) ++ zwO (oo 3) (os 3) ++ zwO (oo 4) (os 4) ++ zwO (oo 5) (os 5) ++ zwO (oo 6) (os 6) ++ zwO (oo 7) (os 7) ++ zwO (oo 8) (os 8))) (va_runV (As := [.int a0, .int a1]) (rest := []) ⟨hx, hb, hml, hown, hts⟩ (c_X4_directionTo l D cI cB cO No Np Go Gp Ns Na Gs Ga a0 a1 _ _ g8) (cwV 2 hts gX5_jump_X4_directionTo rfl rfl rfl kV_X4_directionTo ⟨Nat.le_trans (Nat.le_of_ble_eq_true rfl) hRf, Nat.le_trans (Nat.le_of_ble_eq_true rfl) hRl⟩) (zpreV hK hP hD hS hE hFc [5, 6, 7, 8, 3, 4] rfl rfl 5 (ci := 4) rfl rfl [.int a0, .int a1]) rfl rfl hl.1 rfl (lv_room (Nat.le_of_ble_eq_true rfl)) dX5_jump_31 ⟨Nat.zero_le _, Nat.zero_le _⟩) hP hD hS hFc [5, 6, 7, 8, 3, 4] [0, 1, 2, 9, 10, 11, 12, 13, 14, 15, 16, 17, 18, 19, 20, 21, 22, 23, 24, 25, 26, 27, 28, 29, 30, 31, 32] [0, 1, 2, 31, 32, 27, 28, 29, 30, 3, 4, 5, 6, 7, 8, 9, 10, 11, 12, 13, 14, 15, 16, 17, 18, 19, 20, 21, 22, 23, 24, 25, 26] 33 rfl rfl rfl rfl (fun H locs hP hD hS => ?_)
      refine lv_istore_n (lv' := [(3, .int r7), (0, .ref Xo), (1, .int a0), (2, .int a1)]) hx hb dX5_jump_34 rfl hl (by decide) rfl (fun ls hl => ?_)
      refine lv_iload_n hx hb dX5_jump_35 rfl (lv_at hl 0 rfl) ?_
      refine lv_iconst (v := (-1 : Int32)) hx hb dX5_jump_36 (by decide) ?_
      refine lv_icmp_ne (tgt := 43) hx hb dX5_jump_37 (by decide) (fun c9 => ?_) (fun c9 => ?_)
      · have h := zif_f c9 h
        refine lv_aload_n hx hb dX5_jump_43 rfl (lv_at hl 1 rfl) ?_
        refine va_get (D := D) (ci := 5) (v := .ref No) (C := RX5) (T := TX5) (N := 13) hx hb hts inX5 hown hK hP 0 rfl rfl 2 (by decide) lk28 (fun _ h9 => h9) rfl dX5_jump_44 ?_
        refine va_getN (D := D) (ci := 4) (v := .int (Ns 4)) (C := RX4) (T := TX4) (N := 8) hx hb hts inX4 hown hK hP 5 rfl rfl 4 (by decide) lk140 (fun _ h9 => h9) rfl dX5_jump_47 ?_
        refine lv_sipush (v := (999 : Int32)) hx hb dX5_jump_50 (by decide) ?_
        refine lv_icmp_lt (tgt := 59) hx hb dX5_jump_53 (by decide) (fun c10 => ?_) (fun c10 => ?_)
        · have h := zif_t c10 h
          refine lv_aload_n hx hb dX5_jump_59 rfl (lv_at hl 1 rfl) ?_
          refine va_get (D := D) (ci := 5) (v := .ref No) (C := RX5) (T := TX5) (N := 13) hx hb hts inX5 hown hK hP 0 rfl rfl 2 (by decide) lk28 (fun _ h9 => h9) rfl dX5_jump_60 ?_
          refine lv_iload_n hx hb dX5_jump_63 rfl (lv_at hl 2 rfl) ?_
          refine lv_aload_n hx hb dX5_jump_64 rfl (lv_at hl 1 rfl) ?_
          refine va_get (D := D) (ci := 5) (v := .ref No) (C := RX5) (T := TX5) (N := 13) hx hb hts inX5 hown hK hP 0 rfl rfl 2 (by decide) lk28 (fun _ h9 => h9) rfl dX5_jump_65 ?_
          refine lv_iload_n hx hb dX5_jump_68 rfl (lv_at hl 2 rfl) ?_
          refine lv_iload_n hx hb dX5_jump_69 rfl (lv_at hl 0 rfl) ?_
          obtain ⟨r11, g12, h⟩ := zb1_s h
          have hFc := va_free (wc := (zwS cI No Np Go Ns Na ++ zwG cI Go Gp Gs Ga)) hD hS hA [5, 6, 7, 8, 3, 4] rfl
          refine zcall_i (w2 := (zwX Xo Po Go No Qo Ko Lo To oo ra Xs ++ zwP cI Po Pp Ps Pa ++ zwG cI Go Gp Gs Ga ++ zwS cI No Np Go Ns Na ++ zwQ cI Qo Qp Qs Qa ++ zwS cI Ko Kp Go Ks Ka ++ zwQ cI Lo Lp Ls La ++ zwS cI To Tp Go Ts Ta ++ zwR cO ra oo ++ zwO (oo 0) (os 0) ++ zwO (oo 1) (os 1) ++ zwO (oo 2) (os 2) ++ zwO (oo 3) (os 3) ++ zwO (oo 4) (os 4) ++ zwO (oo 5) (os 5) ++ zwO (oo 6) (os 6) ++ zwO (oo 7) (os 7) ++ zwO (oo 8) (os 8))) (va_runV (As := [.int a0, .int r7]) (rest := [.int a0, .ref No]) ⟨hx, hb, hml, hown, hts⟩ (c_X4_neighbourOf l D cI cB cO No Np Go Gp Ns Na Gs Ga a0 r7 _ _ g12) (cwV 2 hts gX5_jump_X4_neighbourOf rfl rfl rfl kV_X4_neighbourOf ⟨Nat.le_trans (Nat.le_of_ble_eq_true rfl) hRf, Nat.le_trans (Nat.le_of_ble_eq_true rfl) hRl⟩) (zpreV hK hP hD hS hE hFc [5, 6, 7, 8, 3, 4] rfl rfl 5 (ci := 4) rfl rfl [.int a0, .int r7]) rfl rfl hl.1 rfl (lv_room (Nat.le_of_ble_eq_true rfl)) dX5_jump_70 ⟨Nat.zero_le _, Nat.zero_le _⟩) hP hD hS hFc [5, 6, 7, 8, 3, 4] [0, 1, 2, 9, 10, 11, 12, 13, 14, 15, 16, 17, 18, 19, 20, 21, 22, 23, 24, 25, 26, 27, 28, 29, 30, 31, 32] [0, 1, 2, 31, 32, 27, 28, 29, 30, 3, 4, 5, 6, 7, 8, 9, 10, 11, 12, 13, 14, 15, 16, 17, 18, 19, 20, 21, 22, 23, 24, 25, 26] 33 rfl rfl rfl rfl (fun H locs hP hD hS => ?_)
          refine lv_iload_n hx hb dX5_jump_73 rfl (lv_at hl 3 rfl) ?_
          obtain ⟨Ss_13, Sa_14, g15, h⟩ := zb2_s h
          have hFc := va_free (wc := (zwS cI No Np Go Ns Na ++ zwG cI Go Gp Gs Ga)) hD hS hA [5, 6, 7, 8, 3, 4] rfl
          refine zcall_v (w2 := (zwX Xo Po Go No Qo Ko Lo To oo ra Xs ++ zwP cI Po Pp Ps Pa ++ zwG cI Go Gp Gs Ga ++ zwS cI No Np Go Ss_13 Sa_14 ++ zwQ cI Qo Qp Qs Qa ++ zwS cI Ko Kp Go Ks Ka ++ zwQ cI Lo Lp Ls La ++ zwS cI To Tp Go Ts Ta ++ zwR cO ra oo ++ zwO (oo 0) (os 0) ++ zwO (oo 1) (os 1) ++ zwO (oo 2) (os 2) ++ zwO (oo 3) (os 3) ++ zwO (oo 4) (os 4) ++ zwO (oo 5) (os 5) ++ zwO (oo 6) (os 6) ++ zwO (oo 7) (os 7) ++ zwO (oo 8) (os 8))) (va_runV (As := [.int a0, .int r11, .int a1]) (rest := []) ⟨hx, hb, hml, hown, hts⟩ (c_X4_leap l D cI cB cO No Np Go Gp Ns Na Gs Ga a0 r11 a1 _ _ _ g15) (cwV 3 hts gX5_jump_X4_leap rfl rfl rfl kV_X4_leap ⟨Nat.le_trans (Nat.le_of_ble_eq_true rfl) hRf, Nat.le_trans (Nat.le_of_ble_eq_true rfl) hRl⟩) (zpreV hK hP hD hS hE hFc [5, 6, 7, 8, 3, 4] rfl rfl 5 (ci := 4) rfl rfl [.int a0, .int r11, .int a1]) rfl rfl hl.1 rfl (lv_room (Nat.le_of_ble_eq_true rfl)) dX5_jump_74 ⟨Nat.zero_le _, Nat.zero_le _⟩) hP hD hS hFc [5, 6, 7, 8, 3, 4] [0, 1, 2, 9, 10, 11, 12, 13, 14, 15, 16, 17, 18, 19, 20, 21, 22, 23, 24, 25, 26, 27, 28, 29, 30, 31, 32] [0, 1, 2, 31, 32, 27, 28, 29, 30, 3, 4, 5, 6, 7, 8, 9, 10, 11, 12, 13, 14, 15, 16, 17, 18, 19, 20, 21, 22, 23, 24, 25, 26] 33 rfl rfl rfl rfl (fun H locs hP hD hS => ?_)
          refine lv_aload_n hx hb dX5_jump_77 rfl (lv_at hl 1 rfl) ?_
          refine va_get (D := D) (ci := 5) (v := .ref No) (C := RX5) (T := TX5) (N := 13) hx hb hts inX5 hown hK hP 0 rfl rfl 2 (by decide) lk28 (fun _ h9 => h9) rfl dX5_jump_78 ?_
          refine lv_dup hx hb dX5_jump_81 rfl ?_
          refine va_getN (D := D) (ci := 4) (v := .int (Ss_13 4)) (C := RX4) (T := TX4) (N := 8) hx hb hts inX4 hown hK hP 5 rfl rfl 4 (by decide) lk140 (fun _ h9 => h9) rfl dX5_jump_82 ?_
          refine lv_iconst (v := (1 : Int32)) hx hb dX5_jump_85 (by decide) ?_
          refine lv_iadd hx hb dX5_jump_86 ?_
          refine va_putN (D := D) (ci := 4) (v := .int ((Ss_13 4) + (1 : Int32))) (ty := .int) (C := RX4) (T := TX4) (N := 8) hx hb hts inX4 tyX4 tyX4_ok nmX4 hown hK hP hD hS 5 rfl rfl 4 (by decide) lk140 (fun _ h9 => h9) rfl (by decide +kernel) rfl rfl (Nat.le_of_ble_eq_true rfl) dX5_jump_87 (fun H locs hP hD hS => ?_)
          have hP : va_P D vwCl (zwX Xo Po Go No Qo Ko Lo To oo ra Xs ++ zwP cI Po Pp Ps Pa ++ zwG cI Go Gp Gs Ga ++ zwS cI No Np Go (upd Ss_13 4 ((Ss_13 4) + (1 : Int32))) Sa_14 ++ zwQ cI Qo Qp Qs Qa ++ zwS cI Ko Kp Go Ks Ka ++ zwQ cI Lo Lp Ls La ++ zwS cI To Tp Go Ts Ta ++ zwR cO ra oo ++ zwO (oo 0) (os 0) ++ zwO (oo 1) (os 1) ++ zwO (oo 2) (os 2) ++ zwO (oo 3) (os 3) ++ zwO (oo 4) (os 4) ++ zwO (oo 5) (os 5) ++ zwO (oo 6) (os 6) ++ zwO (oo 7) (os 7) ++ zwO (oo 8) (os 8)) H := hP
          have hD : va_D A (zwX Xo Po Go No Qo Ko Lo To oo ra Xs ++ zwP cI Po Pp Ps Pa ++ zwG cI Go Gp Gs Ga ++ zwS cI No Np Go (upd Ss_13 4 ((Ss_13 4) + (1 : Int32))) Sa_14 ++ zwQ cI Qo Qp Qs Qa ++ zwS cI Ko Kp Go Ks Ka ++ zwQ cI Lo Lp Ls La ++ zwS cI To Tp Go Ts Ta ++ zwR cO ra oo ++ zwO (oo 0) (os 0) ++ zwO (oo 1) (os 1) ++ zwO (oo 2) (os 2) ++ zwO (oo 3) (os 3) ++ zwO (oo 4) (os 4) ++ zwO (oo 5) (os 5) ++ zwO (oo 6) (os 6) ++ zwO (oo 7) (os 7) ++ zwO (oo 8) (os 8)) := hD
          refine lv_aload_n hx hb dX5_jump_90 rfl (lv_at hl 1 rfl) ?_
          refine lv_iconst (v := (0 : Int32)) hx hb dX5_jump_91 (by decide) ?_
          refine va_put (D := D) (ci := 5) (v := .int (0 : Int32)) (ty := .boolean) (C := RX5) (T := TX5) (N := 13) hx hb hts inX5 tyX5 tyX5_ok nmX5 hown hK hP hD hS 0 rfl rfl 10 (by decide) lk92 (fun _ h9 => h9) rfl (by decide +kernel) (by decide) (by decide) (Nat.le_of_ble_eq_true rfl) dX5_jump_92 (fun H locs hP hD hS => ?_)
          have hP : va_P D vwCl (zwX Xo Po Go No Qo Ko Lo To oo ra (upd Xs 10 (0 : Int32)) ++ zwP cI Po Pp Ps Pa ++ zwG cI Go Gp Gs Ga ++ zwS cI No Np Go (upd Ss_13 4 ((Ss_13 4) + (1 : Int32))) Sa_14 ++ zwQ cI Qo Qp Qs Qa ++ zwS cI Ko Kp Go Ks Ka ++ zwQ cI Lo Lp Ls La ++ zwS cI To Tp Go Ts Ta ++ zwR cO ra oo ++ zwO (oo 0) (os 0) ++ zwO (oo 1) (os 1) ++ zwO (oo 2) (os 2) ++ zwO (oo 3) (os 3) ++ zwO (oo 4) (os 4) ++ zwO (oo 5) (os 5) ++ zwO (oo 6) (os 6) ++ zwO (oo 7) (os 7) ++ zwO (oo 8) (os 8)) H := hP
          have hD : va_D A (zwX Xo Po Go No Qo Ko Lo To oo ra (upd Xs 10 (0 : Int32)) ++ zwP cI Po Pp Ps Pa ++ zwG cI Go Gp Gs Ga ++ zwS cI No Np Go (upd Ss_13 4 ((Ss_13 4) + (1 : Int32))) Sa_14 ++ zwQ cI Qo Qp Qs Qa ++ zwS cI Ko Kp Go Ks Ka ++ zwQ cI Lo Lp Ls La ++ zwS cI To Tp Go Ts Ta ++ zwR cO ra oo ++ zwO (oo 0) (os 0) ++ zwO (oo 1) (os 1) ++ zwO (oo 2) (os 2) ++ zwO (oo 3) (os 3) ++ zwO (oo 4) (os 4) ++ zwO (oo 5) (os 5) ++ zwO (oo 6) (os 6) ++ zwO (oo 7) (os 7) ++ zwO (oo 8) (os 8)) := hD
          refine lv_aload_n hx hb dX5_jump_95 rfl (lv_at hl 1 rfl) ?_
          refine va_get (D := D) (ci := 5) (v := .ref No) (C := RX5) (T := TX5) (N := 13) hx hb hts inX5 hown hK hP 0 rfl rfl 2 (by decide) lk28 (fun _ h9 => h9) rfl dX5_jump_96 ?_
          refine va_getN (D := D) (ci := 4) (v := .int (Ss_13 3)) (C := RX4) (T := TX4) (N := 8) hx hb hts inX4 hown hK hP 5 rfl rfl 3 (by decide) lk150 (fun _ h9 => h9) rfl dX5_jump_99 ?_
          cases zend h
          exact hq hP hD hS dX5_jump_102
        · have h := zif_f c10 h
          refine lv_bipush (v := (-104 : Int32)) hx hb dX5_jump_56 (by decide) ?_
          cases zend h
          exact hq hP hD hS dX5_jump_58
      · have h := zif_t c9 h
        refine lv_bipush (v := (-103 : Int32)) hx hb dX5_jump_40 (by decide) ?_
        cases zend h
        exact hq hP hD hS dX5_jump_42
    · have h := zif_t c6 h
      refine lv_bipush (v := (-101 : Int32)) hx hb dX5_jump_22 (by decide) ?_
      cases zend h
      exact hq hP hD hS dX5_jump_24
set_option maxHeartbeats 4000000 in
set_option maxRecDepth 100000 in
theorem c_X5_put (l : Launch) (D : va_G) (cI cB cO : ClassId) (Xo : Nat) (Po : Nat) (Pp : Nat → Nat) (Go : Nat) (Gp : Nat → Nat) (No : Nat) (Np : Nat → Nat) (Qo : Nat) (Qp : Nat → Nat) (Ko : Nat) (Kp : Nat → Nat) (Lo : Nat) (Lp : Nat → Nat) (To : Nat) (Tp : Nat → Nat) (ra : Nat) (oo : Nat → Nat) (Xs : Nat → Int32) (Ps : Nat → Int32) (Pa : Nat → Nat → Int32) (Gs : Nat → Int32) (Ga : Nat → Nat → Int32) (Ns : Nat → Int32) (Na : Nat → Nat → Int32) (Qs : Nat → Int32) (Qa : Nat → Nat → Int32) (Ks : Nat → Int32) (Ka : Nat → Nat → Int32) (Ls : Nat → Int32) (La : Nat → Nat → Int32) (Ts : Nat → Int32) (Ta : Nat → Nat → Int32) (os : Nat → Nat → Int32) (a0 : Int32) (a1 : Int32) (rv : Int32) (Xs' : Nat → Int32) (Ns' : Nat → Int32) (Na' : Nat → Nat → Int32) (sz : Nat) (h : fX5_put Xs Gs Ns Na a0 a1 = some (rv, Xs', Ns', Na')) : Met l yX5_put wsX5_put ({ frames := 2, cells := 0, slots := 0, locals := 43 } : Room) (va_Pc [.ref Xo, .int a0, .int a1] (zPre D (zTY cI cB cO) (zwX Xo Po Go No Qo Ko Lo To oo ra Xs ++ zwP cI Po Pp Ps Pa ++ zwG cI Go Gp Gs Ga ++ zwS cI No Np Go Ns Na ++ zwQ cI Qo Qp Qs Qa ++ zwS cI Ko Kp Go Ks Ka ++ zwQ cI Lo Lp Ls La ++ zwS cI To Tp Go Ts Ta ++ zwR cO ra oo ++ zwO (oo 0) (os 0) ++ zwO (oo 1) (os 1) ++ zwO (oo 2) (os 2) ++ zwO (oo 3) (os 3) ++ zwO (oo 4) (os 4) ++ zwO (oo 5) (os 5) ++ zwO (oo 6) (os 6) ++ zwO (oo 7) (os 7) ++ zwO (oo 8) (os 8)) sz)) (va_Qi (fun r (_ : Unit) => r = rv) (fun _ => zPost D (zTY cI cB cO) (zwX Xo Po Go No Qo Ko Lo To oo ra Xs' ++ zwP cI Po Pp Ps Pa ++ zwG cI Go Gp Gs Ga ++ zwS cI No Np Go Ns' Na' ++ zwQ cI Qo Qp Qs Qa ++ zwS cI Ko Kp Go Ks Ka ++ zwQ cI Lo Lp Ls La ++ zwS cI To Tp Go Ts Ta ++ zwR cO ra oo ++ zwO (oo 0) (os 0) ++ zwO (oo 1) (os 1) ++ zwO (oo 2) (os 2) ++ zwO (oo 3) (os 3) ++ zwO (oo 4) (os 4) ++ zwO (oo 5) (os 5) ++ zwO (oo 6) (os 6) ++ zwO (oo 7) (os 7) ++ zwO (oo 8) (os 8)) (va_A (zwX Xo Po Go No Qo Ko Lo To oo ra Xs ++ zwP cI Po Pp Ps Pa ++ zwG cI Go Gp Gs Ga ++ zwS cI No Np Go Ns Na ++ zwQ cI Qo Qp Qs Qa ++ zwS cI Ko Kp Go Ks Ka ++ zwQ cI Lo Lp Ls La ++ zwS cI To Tp Go Ts Ta ++ zwR cO ra oo ++ zwO (oo 0) (os 0) ++ zwO (oo 1) (os 1) ++ zwO (oo 2) (os 2) ++ zwO (oo 3) (os 3) ++ zwO (oo 4) (os 4) ++ zwO (oo 5) (os 5) ++ zwO (oo 6) (os 6) ++ zwO (oo 7) (os 7) ++ zwO (oo 8) (os 8)) sz)) (va_A (zwX Xo Po Go No Qo Ko Lo To oo ra Xs ++ zwP cI Po Pp Ps Pa ++ zwG cI Go Gp Gs Ga ++ zwS cI No Np Go Ns Na ++ zwQ cI Qo Qp Qs Qa ++ zwS cI Ko Kp Go Ks Ka ++ zwQ cI Lo Lp Ls La ++ zwS cI To Tp Go Ts Ta ++ zwR cO ra oo ++ zwO (oo 0) (os 0) ++ zwO (oo 1) (os 1) ++ zwO (oo 2) (os 2) ++ zwO (oo 3) (os 3) ++ zwO (oo 4) (os 4) ++ zwO (oo 5) (os 5) ++ zwO (oo 6) (os 6) ++ zwO (oo 7) (os 7) ++ zwO (oo 8) (os 8)) sz)) 0 0 (va_A (zwX Xo Po Go No Qo Ko Lo To oo ra Xs ++ zwP cI Po Pp Ps Pa ++ zwG cI Go Gp Gs Ga ++ zwS cI No Np Go Ns Na ++ zwQ cI Qo Qp Qs Qa ++ zwS cI Ko Kp Go Ks Ka ++ zwQ cI Lo Lp Ls La ++ zwS cI To Tp Go Ts Ta ++ zwR cO ra oo ++ zwO (oo 0) (os 0) ++ zwO (oo 1) (os 1) ++ zwO (oo 2) (os 2) ++ zwO (oo 3) (os 3) ++ zwO (oo 4) (os 4) ++ zwO (oo 5) (os 5) ++ zwO (oo 6) (os 6) ++ zwO (oo 7) (os 7) ++ zwO (oo 8) (os 8)) sz) := by
  unfold fX5_put at h
  refine zmet_i (cc := cX5_put) (maxL := 3) (by decide) rfl (Nat.le_of_ble_eq_true rfl) rfl rfl ?_
  intro p e s m args below meth c R Q A ls hx hb hts hown hml hK hP hD hE hA hS hRf hRl hl hq
  have hown : s.vm.findClass RX5 = some m.cls := hown
  have hl : lv_has ls 3 [(0, .ref Xo), (1, .int a0), (2, .int a1)] := hl
  have inX5 : ∀ w ∈ u_ws RX5 TX5 13, w ∈ wsX5_put := by decide +kernel
  have lk28 : (Cond.fieldLink RX5 28 "PegField" "now" "LPegField$State;").before args s = true := hts _ (by decide +kernel)
  have lk19 : (Cond.fieldLink RX5 19 "PegField" "grid" "LPegField$Grid;").before args s = true := hts _ (by decide +kernel)
  have lk92 : (Cond.fieldLink RX5 92 "PegField" "isLooked" "Z").before args s = true := hts _ (by decide +kernel)
  have inX4 : ∀ w ∈ u_ws RX4 TX4 8, w ∈ wsX5_put := by decide +kernel
  have lk150 : (Cond.fieldLinkNest RX5 150 "PegField$State" "onBoard" "I" "PegField").before args s = true := hE.2.use (by decide +kernel)
  refine lv_aload_n hx hb dX5_put_0 rfl (lv_at hl 0 rfl) ?_
  refine va_get (D := D) (ci := 5) (v := .ref No) (C := RX5) (T := TX5) (N := 13) hx hb hts inX5 hown hK hP 0 rfl rfl 2 (by decide) lk28 (fun _ h9 => h9) rfl dX5_put_1 ?_
  refine lv_iload_n hx hb dX5_put_4 rfl (lv_at hl 1 rfl) ?_
  obtain ⟨r1, g2, h⟩ := zb1_s h
  have hFc := va_free (wc := (zwS cI No Np Go Ns Na)) hD hS hA [5, 6, 7, 8] rfl
  refine zcall_i (w2 := (zwX Xo Po Go No Qo Ko Lo To oo ra Xs ++ zwP cI Po Pp Ps Pa ++ zwG cI Go Gp Gs Ga ++ zwS cI No Np Go Ns Na ++ zwQ cI Qo Qp Qs Qa ++ zwS cI Ko Kp Go Ks Ka ++ zwQ cI Lo Lp Ls La ++ zwS cI To Tp Go Ts Ta ++ zwR cO ra oo ++ zwO (oo 0) (os 0) ++ zwO (oo 1) (os 1) ++ zwO (oo 2) (os 2) ++ zwO (oo 3) (os 3) ++ zwO (oo 4) (os 4) ++ zwO (oo 5) (os 5) ++ zwO (oo 6) (os 6) ++ zwO (oo 7) (os 7) ++ zwO (oo 8) (os 8))) (va_runV (As := [.int a0]) (rest := []) ⟨hx, hb, hml, hown, hts⟩ (c_X4_isPeg l D cI cB cO No Np Go Ns Na a0 _ _ g2) (cwV 1 hts gX5_put_X4_isPeg rfl rfl rfl kV_X4_isPeg ⟨Nat.le_trans (Nat.le_of_ble_eq_true rfl) hRf, Nat.le_trans (Nat.le_of_ble_eq_true rfl) hRl⟩) (zpreV hK hP hD hS hE hFc [5, 6, 7, 8] rfl rfl 5 (ci := 4) rfl rfl [.int a0]) rfl rfl hl.1 rfl (lv_room (Nat.le_of_ble_eq_true rfl)) dX5_put_5 ⟨Nat.zero_le _, Nat.zero_le _⟩) hP hD hS hFc [5, 6, 7, 8] [0, 1, 2, 3, 4, 9, 10, 11, 12, 13, 14, 15, 16, 17, 18, 19, 20, 21, 22, 23, 24, 25, 26, 27, 28, 29, 30, 31, 32] [0, 1, 2, 3, 4, 29, 30, 31, 32, 5, 6, 7, 8, 9, 10, 11, 12, 13, 14, 15, 16, 17, 18, 19, 20, 21, 22, 23, 24, 25, 26, 27, 28] 33 rfl rfl rfl rfl (fun H locs hP hD hS => ?_)
  refine lv_if_eq (tgt := 22) hx hb dX5_put_8 (by decide) (fun c3 => ?_) (fun c3 => ?_)
  · have h := zif_t c3 h
    refine lv_bipush (v := (-101 : Int32)) hx hb dX5_put_22 (by decide) ?_
    cases zend h
    exact hq hP hD hS dX5_put_24
  · have h := zif_f c3 h
    refine lv_aload_n hx hb dX5_put_11 rfl (lv_at hl 0 rfl) ?_
    refine va_get (D := D) (ci := 5) (v := .ref Go) (C := RX5) (T := TX5) (N := 13) hx hb hts inX5 hown hK hP 0 rfl rfl 1 (by decide) lk19 (fun _ h9 => h9) rfl dX5_put_12 ?_
    refine lv_iload_n hx hb dX5_put_15 rfl (lv_at hl 2 rfl) ?_
    obtain ⟨r4, g5, h⟩ := zb1_s h
    have hFc := va_free (wc := (zwG cI Go Gp Gs Ga)) hD hS hA [3, 4] rfl
    refine zcall_i (w2 := (zwX Xo Po Go No Qo Ko Lo To oo ra Xs ++ zwP cI Po Pp Ps Pa ++ zwG cI Go Gp Gs Ga ++ zwS cI No Np Go Ns Na ++ zwQ cI Qo Qp Qs Qa ++ zwS cI Ko Kp Go Ks Ka ++ zwQ cI Lo Lp Ls La ++ zwS cI To Tp Go Ts Ta ++ zwR cO ra oo ++ zwO (oo 0) (os 0) ++ zwO (oo 1) (os 1) ++ zwO (oo 2) (os 2) ++ zwO (oo 3) (os 3) ++ zwO (oo 4) (os 4) ++ zwO (oo 5) (os 5) ++ zwO (oo 6) (os 6) ++ zwO (oo 7) (os 7) ++ zwO (oo 8) (os 8))) (va_runV (As := [.int a1]) (rest := []) ⟨hx, hb, hml, hown, hts⟩ (c_X0_has l D cI cB cO Go Gp Gs Ga a1 _ _ g5) (cwV 1 hts gX5_put_X0_has rfl rfl rfl kV_X0_has ⟨Nat.le_trans (Nat.le_of_ble_eq_true rfl) hRf, Nat.le_trans (Nat.le_of_ble_eq_true rfl) hRl⟩) (zpreV hK hP hD hS hE hFc [3, 4] rfl rfl 3 (ci := 0) rfl rfl [.int a1]) rfl rfl hl.1 rfl (lv_room (Nat.le_of_ble_eq_true rfl)) dX5_put_16 ⟨Nat.zero_le _, Nat.zero_le _⟩) hP hD hS hFc [3, 4] [0, 1, 2, 5, 6, 7, 8, 9, 10, 11, 12, 13, 14, 15, 16, 17, 18, 19, 20, 21, 22, 23, 24, 25, 26, 27, 28, 29, 30, 31, 32] [0, 1, 2, 31, 32, 3, 4, 5, 6, 7, 8, 9, 10, 11, 12, 13, 14, 15, 16, 17, 18, 19, 20, 21, 22, 23, 24, 25, 26, 27, 28, 29, 30] 33 rfl rfl rfl rfl (fun H locs hP hD hS => ?_)
    refine lv_if_ne (tgt := 25) hx hb dX5_put_19 (by decide) (fun c6 => ?_) (fun c6 => ?_)
    · have h := zif_f c6 h
      refine lv_aload_n hx hb dX5_put_25 rfl (lv_at hl 0 rfl) ?_
      refine va_get (D := D) (ci := 5) (v := .ref No) (C := RX5) (T := TX5) (N := 13) hx hb hts inX5 hown hK hP 0 rfl rfl 2 (by decide) lk28 (fun _ h9 => h9) rfl dX5_put_26 ?_
      refine lv_iload_n hx hb dX5_put_29 rfl (lv_at hl 1 rfl) ?_
      obtain ⟨r7, g8, h⟩ := zb1_s h
      have hFc := va_free (wc := (zwS cI No Np Go Ns Na)) hD hS hA [5, 6, 7, 8] rfl
      refine zcall_i (w2 := (zwX Xo Po Go No Qo Ko Lo To oo ra Xs ++ zwP cI Po Pp Ps Pa ++ zwG cI Go Gp Gs Ga ++ zwS cI No Np Go Ns Na ++ zwQ cI Qo Qp Qs Qa ++ zwS cI Ko Kp Go Ks Ka ++ zwQ cI Lo Lp Ls La ++ zwS cI To Tp Go Ts Ta ++ zwR cO ra oo ++ zwO (oo 0) (os 0) ++ zwO (oo 1) (os 1) ++ zwO (oo 2) (os 2) ++ zwO (oo 3) (os 3) ++ zwO (oo 4) (os 4) ++ zwO (oo 5) (os 5) ++ zwO (oo 6) (os 6) ++ zwO (oo 7) (os 7) ++ zwO (oo 8) (os 8))) (va_runV (As := [.int a0]) (rest := []) ⟨hx, hb, hml, hown, hts⟩ (c_X4_homeOf l D cI cB cO No Np Go Ns Na a0 _ _ g8) (cwV 1 hts gX5_put_X4_homeOf rfl rfl rfl kV_X4_homeOf ⟨Nat.le_trans (Nat.le_of_ble_eq_true rfl) hRf, Nat.le_trans (Nat.le_of_ble_eq_true rfl) hRl⟩) (zpreV hK hP hD hS hE hFc [5, 6, 7, 8] rfl rfl 5 (ci := 4) rfl rfl [.int a0]) rfl rfl hl.1 rfl (lv_room (Nat.le_of_ble_eq_true rfl)) dX5_put_30 ⟨Nat.zero_le _, Nat.zero_le _⟩) hP hD hS hFc [5, 6, 7, 8] [0, 1, 2, 3, 4, 9, 10, 11, 12, 13, 14, 15, 16, 17, 18, 19, 20, 21, 22, 23, 24, 25, 26, 27, 28, 29, 30, 31, 32] [0, 1, 2, 3, 4, 29, 30, 31, 32, 5, 6, 7, 8, 9, 10, 11, 12, 13, 14, 15, 16, 17, 18, 19, 20, 21, 22, 23, 24, 25, 26, 27, 28] 33 rfl rfl rfl rfl (fun H locs hP hD hS => ?_)
      refine lv_iconst (v := (-1 : Int32)) hx hb dX5_put_33 (by decide) ?_
      refine lv_icmp_ne (tgt := 48) hx hb dX5_put_34 (by decide) (fun c9 => ?_) (fun c9 => ?_)
      · have h := zif_f c9 h
        refine lv_bipush (v := (-103 : Int32)) hx hb dX5_put_48 (by decide) ?_
        cases zend h
        exact hq hP hD hS dX5_put_50
      · have h := zif_t c9 h
        refine lv_aload_n hx hb dX5_put_37 rfl (lv_at hl 0 rfl) ?_
        refine va_get (D := D) (ci := 5) (v := .ref No) (C := RX5) (T := TX5) (N := 13) hx hb hts inX5 hown hK hP 0 rfl rfl 2 (by decide) lk28 (fun _ h9 => h9) rfl dX5_put_38 ?_
        refine lv_iload_n hx hb dX5_put_41 rfl (lv_at hl 2 rfl) ?_
        obtain ⟨r10, g11, h⟩ := zb1_s h
        have hFc := va_free (wc := (zwS cI No Np Go Ns Na ++ zwG cI Go Gp Gs Ga)) hD hS hA [5, 6, 7, 8, 3, 4] rfl
        refine zcall_i (w2 := (zwX Xo Po Go No Qo Ko Lo To oo ra Xs ++ zwP cI Po Pp Ps Pa ++ zwG cI Go Gp Gs Ga ++ zwS cI No Np Go Ns Na ++ zwQ cI Qo Qp Qs Qa ++ zwS cI Ko Kp Go Ks Ka ++ zwQ cI Lo Lp Ls La ++ zwS cI To Tp Go Ts Ta ++ zwR cO ra oo ++ zwO (oo 0) (os 0) ++ zwO (oo 1) (os 1) ++ zwO (oo 2) (os 2) ++ zwO (oo 3) (os 3) ++ zwO (oo 4) (os 4) ++ zwO (oo 5) (os 5) ++ zwO (oo 6) (os 6) ++ zwO (oo 7) (os 7) ++ zwO (oo 8) (os 8))) (va_runV (As := [.int a1]) (rest := []) ⟨hx, hb, hml, hown, hts⟩ (c_X4_isEmptyHole l D cI cB cO No Np Go Gp Ns Na Gs Ga a1 _ _ g11) (cwV 1 hts gX5_put_X4_isEmptyHole rfl rfl rfl kV_X4_isEmptyHole ⟨Nat.le_trans (Nat.le_of_ble_eq_true rfl) hRf, Nat.le_trans (Nat.le_of_ble_eq_true rfl) hRl⟩) (zpreV hK hP hD hS hE hFc [5, 6, 7, 8, 3, 4] rfl rfl 5 (ci := 4) rfl rfl [.int a1]) rfl rfl hl.1 rfl (lv_room (Nat.le_of_ble_eq_true rfl)) dX5_put_42 ⟨Nat.zero_le _, Nat.zero_le _⟩) hP hD hS hFc [5, 6, 7, 8, 3, 4] [0, 1, 2, 9, 10, 11, 12, 13, 14, 15, 16, 17, 18, 19, 20, 21, 22, 23, 24, 25, 26, 27, 28, 29, 30, 31, 32] [0, 1, 2, 31, 32, 27, 28, 29, 30, 3, 4, 5, 6, 7, 8, 9, 10, 11, 12, 13, 14, 15, 16, 17, 18, 19, 20, 21, 22, 23, 24, 25, 26] 33 rfl rfl rfl rfl (fun H locs hP hD hS => ?_)
        refine lv_if_ne (tgt := 51) hx hb dX5_put_45 (by decide) (fun c12 => ?_) (fun c12 => ?_)
        · have h := zif_f c12 h
          refine lv_aload_n hx hb dX5_put_51 rfl (lv_at hl 0 rfl) ?_
          refine va_get (D := D) (ci := 5) (v := .ref No) (C := RX5) (T := TX5) (N := 13) hx hb hts inX5 hown hK hP 0 rfl rfl 2 (by decide) lk28 (fun _ h9 => h9) rfl dX5_put_52 ?_
          refine lv_iload_n hx hb dX5_put_55 rfl (lv_at hl 1 rfl) ?_
          refine lv_iload_n hx hb dX5_put_56 rfl (lv_at hl 2 rfl) ?_
          obtain ⟨Ss_13, Sa_14, g15, h⟩ := zb2_s h
          have hFc := va_free (wc := (zwS cI No Np Go Ns Na ++ zwG cI Go Gp Gs Ga)) hD hS hA [5, 6, 7, 8, 3, 4] rfl
          refine zcall_v (w2 := (zwX Xo Po Go No Qo Ko Lo To oo ra Xs ++ zwP cI Po Pp Ps Pa ++ zwG cI Go Gp Gs Ga ++ zwS cI No Np Go Ss_13 Sa_14 ++ zwQ cI Qo Qp Qs Qa ++ zwS cI Ko Kp Go Ks Ka ++ zwQ cI Lo Lp Ls La ++ zwS cI To Tp Go Ts Ta ++ zwR cO ra oo ++ zwO (oo 0) (os 0) ++ zwO (oo 1) (os 1) ++ zwO (oo 2) (os 2) ++ zwO (oo 3) (os 3) ++ zwO (oo 4) (os 4) ++ zwO (oo 5) (os 5) ++ zwO (oo 6) (os 6) ++ zwO (oo 7) (os 7) ++ zwO (oo 8) (os 8))) (va_runV (As := [.int a0, .int a1]) (rest := []) ⟨hx, hb, hml, hown, hts⟩ (c_X4_set l D cI cB cO No Np Go Gp Ns Na Gs Ga a0 a1 _ _ _ g15) (cwV 2 hts gX5_put_X4_set rfl rfl rfl kV_X4_set ⟨Nat.le_trans (Nat.le_of_ble_eq_true rfl) hRf, Nat.le_trans (Nat.le_of_ble_eq_true rfl) hRl⟩) (zpreV hK hP hD hS hE hFc [5, 6, 7, 8, 3, 4] rfl rfl 5 (ci := 4) rfl rfl [.int a0, .int a1]) rfl rfl hl.1 rfl (lv_room (Nat.le_of_ble_eq_true rfl)) dX5_put_57 ⟨Nat.zero_le _, Nat.zero_le _⟩) hP hD hS hFc [5, 6, 7, 8, 3, 4] [0, 1, 2, 9, 10, 11, 12, 13, 14, 15, 16, 17, 18, 19, 20, 21, 22, 23, 24, 25, 26, 27, 28, 29, 30, 31, 32] [0, 1, 2, 31, 32, 27, 28, 29, 30, 3, 4, 5, 6, 7, 8, 9, 10, 11, 12, 13, 14, 15, 16, 17, 18, 19, 20, 21, 22, 23, 24, 25, 26] 33 rfl rfl rfl rfl (fun H locs hP hD hS => ?_)
          refine lv_aload_n hx hb dX5_put_60 rfl (lv_at hl 0 rfl) ?_
          refine lv_iconst (v := (0 : Int32)) hx hb dX5_put_61 (by decide) ?_
          refine va_put (D := D) (ci := 5) (v := .int (0 : Int32)) (ty := .boolean) (C := RX5) (T := TX5) (N := 13) hx hb hts inX5 tyX5 tyX5_ok nmX5 hown hK hP hD hS 0 rfl rfl 10 (by decide) lk92 (fun _ h9 => h9) rfl (by decide +kernel) (by decide) (by decide) (Nat.le_of_ble_eq_true rfl) dX5_put_62 (fun H locs hP hD hS => ?_)
          have hP : va_P D vwCl (zwX Xo Po Go No Qo Ko Lo To oo ra (upd Xs 10 (0 : Int32)) ++ zwP cI Po Pp Ps Pa ++ zwG cI Go Gp Gs Ga ++ zwS cI No Np Go Ss_13 Sa_14 ++ zwQ cI Qo Qp Qs Qa ++ zwS cI Ko Kp Go Ks Ka ++ zwQ cI Lo Lp Ls La ++ zwS cI To Tp Go Ts Ta ++ zwR cO ra oo ++ zwO (oo 0) (os 0) ++ zwO (oo 1) (os 1) ++ zwO (oo 2) (os 2) ++ zwO (oo 3) (os 3) ++ zwO (oo 4) (os 4) ++ zwO (oo 5) (os 5) ++ zwO (oo 6) (os 6) ++ zwO (oo 7) (os 7) ++ zwO (oo 8) (os 8)) H := hP
          have hD : va_D A (zwX Xo Po Go No Qo Ko Lo To oo ra (upd Xs 10 (0 : Int32)) ++ zwP cI Po Pp Ps Pa ++ zwG cI Go Gp Gs Ga ++ zwS cI No Np Go Ss_13 Sa_14 ++ zwQ cI Qo Qp Qs Qa ++ zwS cI Ko Kp Go Ks Ka ++ zwQ cI Lo Lp Ls La ++ zwS cI To Tp Go Ts Ta ++ zwR cO ra oo ++ zwO (oo 0) (os 0) ++ zwO (oo 1) (os 1) ++ zwO (oo 2) (os 2) ++ zwO (oo 3) (os 3) ++ zwO (oo 4) (os 4) ++ zwO (oo 5) (os 5) ++ zwO (oo 6) (os 6) ++ zwO (oo 7) (os 7) ++ zwO (oo 8) (os 8)) := hD
          refine lv_aload_n hx hb dX5_put_65 rfl (lv_at hl 0 rfl) ?_
          refine va_get (D := D) (ci := 5) (v := .ref No) (C := RX5) (T := TX5) (N := 13) hx hb hts inX5 hown hK hP 0 rfl rfl 2 (by decide) lk28 (fun _ h9 => h9) rfl dX5_put_66 ?_
          refine va_getN (D := D) (ci := 4) (v := .int (Ss_13 3)) (C := RX4) (T := TX4) (N := 8) hx hb hts inX4 hown hK hP 5 rfl rfl 3 (by decide) lk150 (fun _ h9 => h9) rfl dX5_put_69 ?_
          cases zend h
          exact hq hP hD hS dX5_put_72
        · have h := zif_t c12 h
          refine lv_bipush (v := (-103 : Int32)) hx hb dX5_put_48 (by decide) ?_
          cases zend h
          exact hq hP hD hS dX5_put_50
    · have h := zif_t c6 h
      refine lv_bipush (v := (-101 : Int32)) hx hb dX5_put_22 (by decide) ?_
      cases zend h
      exact hq hP hD hS dX5_put_24
set_option maxHeartbeats 4000000 in
set_option maxRecDepth 100000 in
theorem c_X5_plug (l : Launch) (D : va_G) (cI cB cO : ClassId) (Xo : Nat) (Po : Nat) (Pp : Nat → Nat) (Go : Nat) (Gp : Nat → Nat) (No : Nat) (Np : Nat → Nat) (Qo : Nat) (Qp : Nat → Nat) (Ko : Nat) (Kp : Nat → Nat) (Lo : Nat) (Lp : Nat → Nat) (To : Nat) (Tp : Nat → Nat) (ra : Nat) (oo : Nat → Nat) (Xs : Nat → Int32) (Ps : Nat → Int32) (Pa : Nat → Nat → Int32) (Gs : Nat → Int32) (Ga : Nat → Nat → Int32) (Ns : Nat → Int32) (Na : Nat → Nat → Int32) (Qs : Nat → Int32) (Qa : Nat → Nat → Int32) (Ks : Nat → Int32) (Ka : Nat → Nat → Int32) (Ls : Nat → Int32) (La : Nat → Nat → Int32) (Ts : Nat → Int32) (Ta : Nat → Nat → Int32) (os : Nat → Nat → Int32) (a0 : Int32) (rv : Int32) (Xs' : Nat → Int32) (Ns' : Nat → Int32) (sz : Nat) (h : fX5_plug Xs Gs Ns Na a0 = some (rv, Xs', Ns')) : Met l yX5_plug wsX5_plug ({ frames := 2, cells := 0, slots := 0, locals := 42 } : Room) (va_Pc [.ref Xo, .int a0] (zPre D (zTY cI cB cO) (zwX Xo Po Go No Qo Ko Lo To oo ra Xs ++ zwP cI Po Pp Ps Pa ++ zwG cI Go Gp Gs Ga ++ zwS cI No Np Go Ns Na ++ zwQ cI Qo Qp Qs Qa ++ zwS cI Ko Kp Go Ks Ka ++ zwQ cI Lo Lp Ls La ++ zwS cI To Tp Go Ts Ta ++ zwR cO ra oo ++ zwO (oo 0) (os 0) ++ zwO (oo 1) (os 1) ++ zwO (oo 2) (os 2) ++ zwO (oo 3) (os 3) ++ zwO (oo 4) (os 4) ++ zwO (oo 5) (os 5) ++ zwO (oo 6) (os 6) ++ zwO (oo 7) (os 7) ++ zwO (oo 8) (os 8)) sz)) (va_Qi (fun r (_ : Unit) => r = rv) (fun _ => zPost D (zTY cI cB cO) (zwX Xo Po Go No Qo Ko Lo To oo ra Xs' ++ zwP cI Po Pp Ps Pa ++ zwG cI Go Gp Gs Ga ++ zwS cI No Np Go Ns' Na ++ zwQ cI Qo Qp Qs Qa ++ zwS cI Ko Kp Go Ks Ka ++ zwQ cI Lo Lp Ls La ++ zwS cI To Tp Go Ts Ta ++ zwR cO ra oo ++ zwO (oo 0) (os 0) ++ zwO (oo 1) (os 1) ++ zwO (oo 2) (os 2) ++ zwO (oo 3) (os 3) ++ zwO (oo 4) (os 4) ++ zwO (oo 5) (os 5) ++ zwO (oo 6) (os 6) ++ zwO (oo 7) (os 7) ++ zwO (oo 8) (os 8)) (va_A (zwX Xo Po Go No Qo Ko Lo To oo ra Xs ++ zwP cI Po Pp Ps Pa ++ zwG cI Go Gp Gs Ga ++ zwS cI No Np Go Ns Na ++ zwQ cI Qo Qp Qs Qa ++ zwS cI Ko Kp Go Ks Ka ++ zwQ cI Lo Lp Ls La ++ zwS cI To Tp Go Ts Ta ++ zwR cO ra oo ++ zwO (oo 0) (os 0) ++ zwO (oo 1) (os 1) ++ zwO (oo 2) (os 2) ++ zwO (oo 3) (os 3) ++ zwO (oo 4) (os 4) ++ zwO (oo 5) (os 5) ++ zwO (oo 6) (os 6) ++ zwO (oo 7) (os 7) ++ zwO (oo 8) (os 8)) sz)) (va_A (zwX Xo Po Go No Qo Ko Lo To oo ra Xs ++ zwP cI Po Pp Ps Pa ++ zwG cI Go Gp Gs Ga ++ zwS cI No Np Go Ns Na ++ zwQ cI Qo Qp Qs Qa ++ zwS cI Ko Kp Go Ks Ka ++ zwQ cI Lo Lp Ls La ++ zwS cI To Tp Go Ts Ta ++ zwR cO ra oo ++ zwO (oo 0) (os 0) ++ zwO (oo 1) (os 1) ++ zwO (oo 2) (os 2) ++ zwO (oo 3) (os 3) ++ zwO (oo 4) (os 4) ++ zwO (oo 5) (os 5) ++ zwO (oo 6) (os 6) ++ zwO (oo 7) (os 7) ++ zwO (oo 8) (os 8)) sz)) 0 0 (va_A (zwX Xo Po Go No Qo Ko Lo To oo ra Xs ++ zwP cI Po Pp Ps Pa ++ zwG cI Go Gp Gs Ga ++ zwS cI No Np Go Ns Na ++ zwQ cI Qo Qp Qs Qa ++ zwS cI Ko Kp Go Ks Ka ++ zwQ cI Lo Lp Ls La ++ zwS cI To Tp Go Ts Ta ++ zwR cO ra oo ++ zwO (oo 0) (os 0) ++ zwO (oo 1) (os 1) ++ zwO (oo 2) (os 2) ++ zwO (oo 3) (os 3) ++ zwO (oo 4) (os 4) ++ zwO (oo 5) (os 5) ++ zwO (oo 6) (os 6) ++ zwO (oo 7) (os 7) ++ zwO (oo 8) (os 8)) sz) := by
  unfold fX5_plug at h
  refine zmet_i (cc := cX5_plug) (maxL := 2) (by decide) rfl (Nat.le_of_ble_eq_true rfl) rfl rfl ?_
  intro p e s m args below meth c R Q A ls hx hb hts hown hml hK hP hD hE hA hS hRf hRl hl hq
  have hown : s.vm.findClass RX5 = some m.cls := hown
  have hl : lv_has ls 2 [(0, .ref Xo), (1, .int a0)] := hl
  have inX5 : ∀ w ∈ u_ws RX5 TX5 13, w ∈ wsX5_plug := by decide +kernel
  have lk19 : (Cond.fieldLink RX5 19 "PegField" "grid" "LPegField$Grid;").before args s = true := hts _ (by decide +kernel)
  have lk28 : (Cond.fieldLink RX5 28 "PegField" "now" "LPegField$State;").before args s = true := hts _ (by decide +kernel)
  have inX4 : ∀ w ∈ u_ws RX4 TX4 8, w ∈ wsX5_plug := by decide +kernel
  have lk159 : (Cond.fieldLinkNest RX5 159 "PegField$State" "holes" "I" "PegField").before args s = true := hE.2.use (by decide +kernel)
  have lk92 : (Cond.fieldLink RX5 92 "PegField" "isLooked" "Z").before args s = true := hts _ (by decide +kernel)
  refine lv_aload_n hx hb dX5_plug_0 rfl (lv_at hl 0 rfl) ?_
  refine va_get (D := D) (ci := 5) (v := .ref Go) (C := RX5) (T := TX5) (N := 13) hx hb hts inX5 hown hK hP 0 rfl rfl 1 (by decide) lk19 (fun _ h9 => h9) rfl dX5_plug_1 ?_
  refine lv_iload_n hx hb dX5_plug_4 rfl (lv_at hl 1 rfl) ?_
  obtain ⟨r1, g2, h⟩ := zb1_s h
  have hFc := va_free (wc := (zwG cI Go Gp Gs Ga)) hD hS hA [3, 4] rfl
  refine zcall_i (w2 := (zwX Xo Po Go No Qo Ko Lo To oo ra Xs ++ zwP cI Po Pp Ps Pa ++ zwG cI Go Gp Gs Ga ++ zwS cI No Np Go Ns Na ++ zwQ cI Qo Qp Qs Qa ++ zwS cI Ko Kp Go Ks Ka ++ zwQ cI Lo Lp Ls La ++ zwS cI To Tp Go Ts Ta ++ zwR cO ra oo ++ zwO (oo 0) (os 0) ++ zwO (oo 1) (os 1) ++ zwO (oo 2) (os 2) ++ zwO (oo 3) (os 3) ++ zwO (oo 4) (os 4) ++ zwO (oo 5) (os 5) ++ zwO (oo 6) (os 6) ++ zwO (oo 7) (os 7) ++ zwO (oo 8) (os 8))) (va_runV (As := [.int a0]) (rest := []) ⟨hx, hb, hml, hown, hts⟩ (c_X0_has l D cI cB cO Go Gp Gs Ga a0 _ _ g2) (cwV 1 hts gX5_plug_X0_has rfl rfl rfl kV_X0_has ⟨Nat.le_trans (Nat.le_of_ble_eq_true rfl) hRf, Nat.le_trans (Nat.le_of_ble_eq_true rfl) hRl⟩) (zpreV hK hP hD hS hE hFc [3, 4] rfl rfl 3 (ci := 0) rfl rfl [.int a0]) rfl rfl hl.1 rfl (lv_room (Nat.le_of_ble_eq_true rfl)) dX5_plug_5 ⟨Nat.zero_le _, Nat.zero_le _⟩) hP hD hS hFc [3, 4] [0, 1, 2, 5, 6, 7, 8, 9, 10, 11, 12, 13, 14, 15, 16, 17, 18, 19, 20, 21, 22, 23, 24, 25, 26, 27, 28, 29, 30, 31, 32] [0, 1, 2, 31, 32, 3, 4, 5, 6, 7, 8, 9, 10, 11, 12, 13, 14, 15, 16, 17, 18, 19, 20, 21, 22, 23, 24, 25, 26, 27, 28, 29, 30] 33 rfl rfl rfl rfl (fun H locs hP hD hS => ?_)
  refine lv_if_ne (tgt := 14) hx hb dX5_plug_8 (by decide) (fun c3 => ?_) (fun c3 => ?_)
  · have h := zif_f c3 h
    refine lv_aload_n hx hb dX5_plug_14 rfl (lv_at hl 0 rfl) ?_
    refine va_get (D := D) (ci := 5) (v := .ref No) (C := RX5) (T := TX5) (N := 13) hx hb hts inX5 hown hK hP 0 rfl rfl 2 (by decide) lk28 (fun _ h9 => h9) rfl dX5_plug_15 ?_
    refine lv_iload_n hx hb dX5_plug_18 rfl (lv_at hl 1 rfl) ?_
    obtain ⟨r4, g5, h⟩ := zb1_s h
    have hFc := va_free (wc := (zwS cI No Np Go Ns Na ++ zwG cI Go Gp Gs Ga)) hD hS hA [5, 6, 7, 8, 3, 4] rfl
    refine zcall_i (w2 := (zwX Xo Po Go No Qo Ko Lo To oo ra Xs ++ zwP cI Po Pp Ps Pa ++ zwG cI Go Gp Gs Ga ++ zwS cI No Np Go Ns Na ++ zwQ cI Qo Qp Qs Qa ++ zwS cI Ko Kp Go Ks Ka ++ zwQ cI Lo Lp Ls La ++ zwS cI To Tp Go Ts Ta ++ zwR cO ra oo ++ zwO (oo 0) (os 0) ++ zwO (oo 1) (os 1) ++ zwO (oo 2) (os 2) ++ zwO (oo 3) (os 3) ++ zwO (oo 4) (os 4) ++ zwO (oo 5) (os 5) ++ zwO (oo 6) (os 6) ++ zwO (oo 7) (os 7) ++ zwO (oo 8) (os 8))) (va_runV (As := [.int a0]) (rest := []) ⟨hx, hb, hml, hown, hts⟩ (c_X4_isEmptyHole l D cI cB cO No Np Go Gp Ns Na Gs Ga a0 _ _ g5) (cwV 1 hts gX5_plug_X4_isEmptyHole rfl rfl rfl kV_X4_isEmptyHole ⟨Nat.le_trans (Nat.le_of_ble_eq_true rfl) hRf, Nat.le_trans (Nat.le_of_ble_eq_true rfl) hRl⟩) (zpreV hK hP hD hS hE hFc [5, 6, 7, 8, 3, 4] rfl rfl 5 (ci := 4) rfl rfl [.int a0]) rfl rfl hl.1 rfl (lv_room (Nat.le_of_ble_eq_true rfl)) dX5_plug_19 ⟨Nat.zero_le _, Nat.zero_le _⟩) hP hD hS hFc [5, 6, 7, 8, 3, 4] [0, 1, 2, 9, 10, 11, 12, 13, 14, 15, 16, 17, 18, 19, 20, 21, 22, 23, 24, 25, 26, 27, 28, 29, 30, 31, 32] [0, 1, 2, 31, 32, 27, 28, 29, 30, 3, 4, 5, 6, 7, 8, 9, 10, 11, 12, 13, 14, 15, 16, 17, 18, 19, 20, 21, 22, 23, 24, 25, 26] 33 rfl rfl rfl rfl (fun H locs hP hD hS => ?_)
    refine lv_if_ne (tgt := 28) hx hb dX5_plug_22 (by decide) (fun c6 => ?_) (fun c6 => ?_)
    · have h := zif_f c6 h
      refine lv_aload_n hx hb dX5_plug_28 rfl (lv_at hl 0 rfl) ?_
      refine va_get (D := D) (ci := 5) (v := .ref No) (C := RX5) (T := TX5) (N := 13) hx hb hts inX5 hown hK hP 0 rfl rfl 2 (by decide) lk28 (fun _ h9 => h9) rfl dX5_plug_29 ?_
      refine lv_dup hx hb dX5_plug_32 rfl ?_
      refine va_getN (D := D) (ci := 4) (v := .int (Ns 1)) (C := RX4) (T := TX4) (N := 8) hx hb hts inX4 hown hK hP 5 rfl rfl 1 (by decide) lk159 (fun _ h9 => h9) rfl dX5_plug_33 ?_
      refine lv_iconst (v := (1 : Int32)) hx hb dX5_plug_36 (by decide) ?_
      refine lv_iload_n hx hb dX5_plug_37 rfl (lv_at hl 1 rfl) ?_
      refine lv_ishl hx hb dX5_plug_38 ?_
      refine lv_iconst (v := (-1 : Int32)) hx hb dX5_plug_39 (by decide) ?_
      refine lv_ixor hx hb dX5_plug_40 ?_
      refine lv_iand hx hb dX5_plug_41 ?_
      refine va_putN (D := D) (ci := 4) (v := .int ((Ns 1) &&& (((1 : Int32) <<< (a0 &&& 31)) ^^^ (-1 : Int32)))) (ty := .int) (C := RX4) (T := TX4) (N := 8) hx hb hts inX4 tyX4 tyX4_ok nmX4 hown hK hP hD hS 5 rfl rfl 1 (by decide) lk159 (fun _ h9 => h9) rfl (by decide +kernel) rfl rfl (Nat.le_of_ble_eq_true rfl) dX5_plug_42 (fun H locs hP hD hS => ?_)
      have hP : va_P D vwCl (zwX Xo Po Go No Qo Ko Lo To oo ra Xs ++ zwP cI Po Pp Ps Pa ++ zwG cI Go Gp Gs Ga ++ zwS cI No Np Go (upd Ns 1 ((Ns 1) &&& (((1 : Int32) <<< (a0 &&& 31)) ^^^ (-1 : Int32)))) Na ++ zwQ cI Qo Qp Qs Qa ++ zwS cI Ko Kp Go Ks Ka ++ zwQ cI Lo Lp Ls La ++ zwS cI To Tp Go Ts Ta ++ zwR cO ra oo ++ zwO (oo 0) (os 0) ++ zwO (oo 1) (os 1) ++ zwO (oo 2) (os 2) ++ zwO (oo 3) (os 3) ++ zwO (oo 4) (os 4) ++ zwO (oo 5) (os 5) ++ zwO (oo 6) (os 6) ++ zwO (oo 7) (os 7) ++ zwO (oo 8) (os 8)) H := hP
      have hD : va_D A (zwX Xo Po Go No Qo Ko Lo To oo ra Xs ++ zwP cI Po Pp Ps Pa ++ zwG cI Go Gp Gs Ga ++ zwS cI No Np Go (upd Ns 1 ((Ns 1) &&& (((1 : Int32) <<< (a0 &&& 31)) ^^^ (-1 : Int32)))) Na ++ zwQ cI Qo Qp Qs Qa ++ zwS cI Ko Kp Go Ks Ka ++ zwQ cI Lo Lp Ls La ++ zwS cI To Tp Go Ts Ta ++ zwR cO ra oo ++ zwO (oo 0) (os 0) ++ zwO (oo 1) (os 1) ++ zwO (oo 2) (os 2) ++ zwO (oo 3) (os 3) ++ zwO (oo 4) (os 4) ++ zwO (oo 5) (os 5) ++ zwO (oo 6) (os 6) ++ zwO (oo 7) (os 7) ++ zwO (oo 8) (os 8)) := hD
      refine lv_aload_n hx hb dX5_plug_45 rfl (lv_at hl 0 rfl) ?_
      refine lv_iconst (v := (0 : Int32)) hx hb dX5_plug_46 (by decide) ?_
      refine va_put (D := D) (ci := 5) (v := .int (0 : Int32)) (ty := .boolean) (C := RX5) (T := TX5) (N := 13) hx hb hts inX5 tyX5 tyX5_ok nmX5 hown hK hP hD hS 0 rfl rfl 10 (by decide) lk92 (fun _ h9 => h9) rfl (by decide +kernel) (by decide) (by decide) (Nat.le_of_ble_eq_true rfl) dX5_plug_47 (fun H locs hP hD hS => ?_)
      have hP : va_P D vwCl (zwX Xo Po Go No Qo Ko Lo To oo ra (upd Xs 10 (0 : Int32)) ++ zwP cI Po Pp Ps Pa ++ zwG cI Go Gp Gs Ga ++ zwS cI No Np Go (upd Ns 1 ((Ns 1) &&& (((1 : Int32) <<< (a0 &&& 31)) ^^^ (-1 : Int32)))) Na ++ zwQ cI Qo Qp Qs Qa ++ zwS cI Ko Kp Go Ks Ka ++ zwQ cI Lo Lp Ls La ++ zwS cI To Tp Go Ts Ta ++ zwR cO ra oo ++ zwO (oo 0) (os 0) ++ zwO (oo 1) (os 1) ++ zwO (oo 2) (os 2) ++ zwO (oo 3) (os 3) ++ zwO (oo 4) (os 4) ++ zwO (oo 5) (os 5) ++ zwO (oo 6) (os 6) ++ zwO (oo 7) (os 7) ++ zwO (oo 8) (os 8)) H := hP
      have hD : va_D A (zwX Xo Po Go No Qo Ko Lo To oo ra (upd Xs 10 (0 : Int32)) ++ zwP cI Po Pp Ps Pa ++ zwG cI Go Gp Gs Ga ++ zwS cI No Np Go (upd Ns 1 ((Ns 1) &&& (((1 : Int32) <<< (a0 &&& 31)) ^^^ (-1 : Int32)))) Na ++ zwQ cI Qo Qp Qs Qa ++ zwS cI Ko Kp Go Ks Ka ++ zwQ cI Lo Lp Ls La ++ zwS cI To Tp Go Ts Ta ++ zwR cO ra oo ++ zwO (oo 0) (os 0) ++ zwO (oo 1) (os 1) ++ zwO (oo 2) (os 2) ++ zwO (oo 3) (os 3) ++ zwO (oo 4) (os 4) ++ zwO (oo 5) (os 5) ++ zwO (oo 6) (os 6) ++ zwO (oo 7) (os 7) ++ zwO (oo 8) (os 8)) := hD
      refine lv_aload_n hx hb dX5_plug_50 rfl (lv_at hl 0 rfl) ?_
      refine va_get (D := D) (ci := 5) (v := .ref No) (C := RX5) (T := TX5) (N := 13) hx hb hts inX5 hown hK hP 0 rfl rfl 2 (by decide) lk28 (fun _ h9 => h9) rfl dX5_plug_51 ?_
      refine va_getN (D := D) (ci := 4) (v := .int ((Ns 1) &&& (((1 : Int32) <<< (a0 &&& 31)) ^^^ (-1 : Int32)))) (C := RX4) (T := TX4) (N := 8) hx hb hts inX4 hown hK hP 5 rfl rfl 1 (by decide) lk159 (fun _ h9 => h9) rfl dX5_plug_54 ?_
      obtain ⟨r7, g8, h⟩ := zb1_s h
      have hFc := va_free (wc := ([] : va_W)) hD hS hA [] rfl
      refine zcall_i (w2 := (zwX Xo Po Go No Qo Ko Lo To oo ra (upd Xs 10 (0 : Int32)) ++ zwP cI Po Pp Ps Pa ++ zwG cI Go Gp Gs Ga ++ zwS cI No Np Go (upd Ns 1 ((Ns 1) &&& (((1 : Int32) <<< (a0 &&& 31)) ^^^ (-1 : Int32)))) Na ++ zwQ cI Qo Qp Qs Qa ++ zwS cI Ko Kp Go Ks Ka ++ zwQ cI Lo Lp Ls La ++ zwS cI To Tp Go Ts Ta ++ zwR cO ra oo ++ zwO (oo 0) (os 0) ++ zwO (oo 1) (os 1) ++ zwO (oo 2) (os 2) ++ zwO (oo 3) (os 3) ++ zwO (oo 4) (os 4) ++ zwO (oo 5) (os 5) ++ zwO (oo 6) (os 6) ++ zwO (oo 7) (os 7) ++ zwO (oo 8) (os 8))) (va_runS (As := [.int ((Ns 1) &&& (((1 : Int32) <<< (a0 &&& 31)) ^^^ (-1 : Int32)))]) (rest := []) ⟨hx, hb, hml, hown, hts⟩ (c_J6_bitCount_0f7a4 l D cI cB cO ((Ns 1) &&& (((1 : Int32) <<< (a0 &&& 31)) ^^^ (-1 : Int32))) _ _ g8) (va_cwS 1 hts gX5_plug_J6_bitCount_0f7a4 rfl rfl rfl kS_J6_bitCount_0f7a4 ⟨Nat.le_trans (Nat.le_of_ble_eq_true rfl) hRf, Nat.le_trans (Nat.le_of_ble_eq_true rfl) hRl⟩) (zpreS hK hP hD hS hE hFc [] rfl rfl [.int ((Ns 1) &&& (((1 : Int32) <<< (a0 &&& 31)) ^^^ (-1 : Int32)))]) rfl rfl hl.1 rfl (lv_room (Nat.le_of_ble_eq_true rfl)) dX5_plug_57 ⟨Nat.zero_le _, Nat.zero_le _⟩) hP hD hS hFc [] [0, 1, 2, 3, 4, 5, 6, 7, 8, 9, 10, 11, 12, 13, 14, 15, 16, 17, 18, 19, 20, 21, 22, 23, 24, 25, 26, 27, 28, 29, 30, 31, 32] [0, 1, 2, 3, 4, 5, 6, 7, 8, 9, 10, 11, 12, 13, 14, 15, 16, 17, 18, 19, 20, 21, 22, 23, 24, 25, 26, 27, 28, 29, 30, 31, 32] 33 rfl rfl rfl rfl (fun H locs hP hD hS => ?_)
      cases zend h
      exact hq hP hD hS dX5_plug_60
    · have h := zif_t c6 h
      refine lv_bipush (v := (-103 : Int32)) hx hb dX5_plug_25 (by decide) ?_
      cases zend h
      exact hq hP hD hS dX5_plug_27
  · have h := zif_t c3 h
    refine lv_bipush (v := (-101 : Int32)) hx hb dX5_plug_11 (by decide) ?_
    cases zend h
    exact hq hP hD hS dX5_plug_13
set_option maxHeartbeats 4000000 in
set_option maxRecDepth 100000 in
theorem c_X5_bore (l : Launch) (D : va_G) (cI cB cO : ClassId) (Xo : Nat) (Po : Nat) (Pp : Nat → Nat) (Go : Nat) (Gp : Nat → Nat) (No : Nat) (Np : Nat → Nat) (Qo : Nat) (Qp : Nat → Nat) (Ko : Nat) (Kp : Nat → Nat) (Lo : Nat) (Lp : Nat → Nat) (To : Nat) (Tp : Nat → Nat) (ra : Nat) (oo : Nat → Nat) (Xs : Nat → Int32) (Ps : Nat → Int32) (Pa : Nat → Nat → Int32) (Gs : Nat → Int32) (Ga : Nat → Nat → Int32) (Ns : Nat → Int32) (Na : Nat → Nat → Int32) (Qs : Nat → Int32) (Qa : Nat → Nat → Int32) (Ks : Nat → Int32) (Ka : Nat → Nat → Int32) (Ls : Nat → Int32) (La : Nat → Nat → Int32) (Ts : Nat → Int32) (Ta : Nat → Nat → Int32) (os : Nat → Nat → Int32) (a0 : Int32) (rv : Int32) (Xs' : Nat → Int32) (Ns' : Nat → Int32) (sz : Nat) (h : fX5_bore Xs Gs Ns a0 = some (rv, Xs', Ns')) : Met l yX5_bore wsX5_bore ({ frames := 2, cells := 0, slots := 0, locals := 42 } : Room) (va_Pc [.ref Xo, .int a0] (zPre D (zTY cI cB cO) (zwX Xo Po Go No Qo Ko Lo To oo ra Xs ++ zwP cI Po Pp Ps Pa ++ zwG cI Go Gp Gs Ga ++ zwS cI No Np Go Ns Na ++ zwQ cI Qo Qp Qs Qa ++ zwS cI Ko Kp Go Ks Ka ++ zwQ cI Lo Lp Ls La ++ zwS cI To Tp Go Ts Ta ++ zwR cO ra oo ++ zwO (oo 0) (os 0) ++ zwO (oo 1) (os 1) ++ zwO (oo 2) (os 2) ++ zwO (oo 3) (os 3) ++ zwO (oo 4) (os 4) ++ zwO (oo 5) (os 5) ++ zwO (oo 6) (os 6) ++ zwO (oo 7) (os 7) ++ zwO (oo 8) (os 8)) sz)) (va_Qi (fun r (_ : Unit) => r = rv) (fun _ => zPost D (zTY cI cB cO) (zwX Xo Po Go No Qo Ko Lo To oo ra Xs' ++ zwP cI Po Pp Ps Pa ++ zwG cI Go Gp Gs Ga ++ zwS cI No Np Go Ns' Na ++ zwQ cI Qo Qp Qs Qa ++ zwS cI Ko Kp Go Ks Ka ++ zwQ cI Lo Lp Ls La ++ zwS cI To Tp Go Ts Ta ++ zwR cO ra oo ++ zwO (oo 0) (os 0) ++ zwO (oo 1) (os 1) ++ zwO (oo 2) (os 2) ++ zwO (oo 3) (os 3) ++ zwO (oo 4) (os 4) ++ zwO (oo 5) (os 5) ++ zwO (oo 6) (os 6) ++ zwO (oo 7) (os 7) ++ zwO (oo 8) (os 8)) (va_A (zwX Xo Po Go No Qo Ko Lo To oo ra Xs ++ zwP cI Po Pp Ps Pa ++ zwG cI Go Gp Gs Ga ++ zwS cI No Np Go Ns Na ++ zwQ cI Qo Qp Qs Qa ++ zwS cI Ko Kp Go Ks Ka ++ zwQ cI Lo Lp Ls La ++ zwS cI To Tp Go Ts Ta ++ zwR cO ra oo ++ zwO (oo 0) (os 0) ++ zwO (oo 1) (os 1) ++ zwO (oo 2) (os 2) ++ zwO (oo 3) (os 3) ++ zwO (oo 4) (os 4) ++ zwO (oo 5) (os 5) ++ zwO (oo 6) (os 6) ++ zwO (oo 7) (os 7) ++ zwO (oo 8) (os 8)) sz)) (va_A (zwX Xo Po Go No Qo Ko Lo To oo ra Xs ++ zwP cI Po Pp Ps Pa ++ zwG cI Go Gp Gs Ga ++ zwS cI No Np Go Ns Na ++ zwQ cI Qo Qp Qs Qa ++ zwS cI Ko Kp Go Ks Ka ++ zwQ cI Lo Lp Ls La ++ zwS cI To Tp Go Ts Ta ++ zwR cO ra oo ++ zwO (oo 0) (os 0) ++ zwO (oo 1) (os 1) ++ zwO (oo 2) (os 2) ++ zwO (oo 3) (os 3) ++ zwO (oo 4) (os 4) ++ zwO (oo 5) (os 5) ++ zwO (oo 6) (os 6) ++ zwO (oo 7) (os 7) ++ zwO (oo 8) (os 8)) sz)) 0 0 (va_A (zwX Xo Po Go No Qo Ko Lo To oo ra Xs ++ zwP cI Po Pp Ps Pa ++ zwG cI Go Gp Gs Ga ++ zwS cI No Np Go Ns Na ++ zwQ cI Qo Qp Qs Qa ++ zwS cI Ko Kp Go Ks Ka ++ zwQ cI Lo Lp Ls La ++ zwS cI To Tp Go Ts Ta ++ zwR cO ra oo ++ zwO (oo 0) (os 0) ++ zwO (oo 1) (os 1) ++ zwO (oo 2) (os 2) ++ zwO (oo 3) (os 3) ++ zwO (oo 4) (os 4) ++ zwO (oo 5) (os 5) ++ zwO (oo 6) (os 6) ++ zwO (oo 7) (os 7) ++ zwO (oo 8) (os 8)) sz) := by
  unfold fX5_bore at h
  refine zmet_i (cc := cX5_bore) (maxL := 2) (by decide) rfl (Nat.le_of_ble_eq_true rfl) rfl rfl ?_
  intro p e s m args below meth c R Q A ls hx hb hts hown hml hK hP hD hE hA hS hRf hRl hl hq
  have hown : s.vm.findClass RX5 = some m.cls := hown
  have hl : lv_has ls 2 [(0, .ref Xo), (1, .int a0)] := hl
  have inX5 : ∀ w ∈ u_ws RX5 TX5 13, w ∈ wsX5_bore := by decide +kernel
  have lk19 : (Cond.fieldLink RX5 19 "PegField" "grid" "LPegField$Grid;").before args s = true := hts _ (by decide +kernel)
  have lk28 : (Cond.fieldLink RX5 28 "PegField" "now" "LPegField$State;").before args s = true := hts _ (by decide +kernel)
  have inX4 : ∀ w ∈ u_ws RX4 TX4 8, w ∈ wsX5_bore := by decide +kernel
  have lk159 : (Cond.fieldLinkNest RX5 159 "PegField$State" "holes" "I" "PegField").before args s = true := hE.2.use (by decide +kernel)
  have lk92 : (Cond.fieldLink RX5 92 "PegField" "isLooked" "Z").before args s = true := hts _ (by decide +kernel)
  refine lv_aload_n hx hb dX5_bore_0 rfl (lv_at hl 0 rfl) ?_
  refine va_get (D := D) (ci := 5) (v := .ref Go) (C := RX5) (T := TX5) (N := 13) hx hb hts inX5 hown hK hP 0 rfl rfl 1 (by decide) lk19 (fun _ h9 => h9) rfl dX5_bore_1 ?_
  refine lv_iload_n hx hb dX5_bore_4 rfl (lv_at hl 1 rfl) ?_
  obtain ⟨r1, g2, h⟩ := zb1_s h
  have hFc := va_free (wc := (zwG cI Go Gp Gs Ga)) hD hS hA [3, 4] rfl
  refine zcall_i (w2 := (zwX Xo Po Go No Qo Ko Lo To oo ra Xs ++ zwP cI Po Pp Ps Pa ++ zwG cI Go Gp Gs Ga ++ zwS cI No Np Go Ns Na ++ zwQ cI Qo Qp Qs Qa ++ zwS cI Ko Kp Go Ks Ka ++ zwQ cI Lo Lp Ls La ++ zwS cI To Tp Go Ts Ta ++ zwR cO ra oo ++ zwO (oo 0) (os 0) ++ zwO (oo 1) (os 1) ++ zwO (oo 2) (os 2) ++ zwO (oo 3) (os 3) ++ zwO (oo 4) (os 4) ++ zwO (oo 5) (os 5) ++ zwO (oo 6) (os 6) ++ zwO (oo 7) (os 7) ++ zwO (oo 8) (os 8))) (va_runV (As := [.int a0]) (rest := []) ⟨hx, hb, hml, hown, hts⟩ (c_X0_has l D cI cB cO Go Gp Gs Ga a0 _ _ g2) (cwV 1 hts gX5_bore_X0_has rfl rfl rfl kV_X0_has ⟨Nat.le_trans (Nat.le_of_ble_eq_true rfl) hRf, Nat.le_trans (Nat.le_of_ble_eq_true rfl) hRl⟩) (zpreV hK hP hD hS hE hFc [3, 4] rfl rfl 3 (ci := 0) rfl rfl [.int a0]) rfl rfl hl.1 rfl (lv_room (Nat.le_of_ble_eq_true rfl)) dX5_bore_5 ⟨Nat.zero_le _, Nat.zero_le _⟩) hP hD hS hFc [3, 4] [0, 1, 2, 5, 6, 7, 8, 9, 10, 11, 12, 13, 14, 15, 16, 17, 18, 19, 20, 21, 22, 23, 24, 25, 26, 27, 28, 29, 30, 31, 32] [0, 1, 2, 31, 32, 3, 4, 5, 6, 7, 8, 9, 10, 11, 12, 13, 14, 15, 16, 17, 18, 19, 20, 21, 22, 23, 24, 25, 26, 27, 28, 29, 30] 33 rfl rfl rfl rfl (fun H locs hP hD hS => ?_)
  refine lv_if_ne (tgt := 14) hx hb dX5_bore_8 (by decide) (fun c3 => ?_) (fun c3 => ?_)
  · have h := zif_f c3 h
    refine lv_aload_n hx hb dX5_bore_14 rfl (lv_at hl 0 rfl) ?_
    refine va_get (D := D) (ci := 5) (v := .ref No) (C := RX5) (T := TX5) (N := 13) hx hb hts inX5 hown hK hP 0 rfl rfl 2 (by decide) lk28 (fun _ h9 => h9) rfl dX5_bore_15 ?_
    refine lv_iload_n hx hb dX5_bore_18 rfl (lv_at hl 1 rfl) ?_
    obtain ⟨r4, g5, h⟩ := zb1_s h
    have hFc := va_free (wc := (zwS cI No Np Go Ns Na ++ zwG cI Go Gp Gs Ga)) hD hS hA [5, 6, 7, 8, 3, 4] rfl
    refine zcall_i (w2 := (zwX Xo Po Go No Qo Ko Lo To oo ra Xs ++ zwP cI Po Pp Ps Pa ++ zwG cI Go Gp Gs Ga ++ zwS cI No Np Go Ns Na ++ zwQ cI Qo Qp Qs Qa ++ zwS cI Ko Kp Go Ks Ka ++ zwQ cI Lo Lp Ls La ++ zwS cI To Tp Go Ts Ta ++ zwR cO ra oo ++ zwO (oo 0) (os 0) ++ zwO (oo 1) (os 1) ++ zwO (oo 2) (os 2) ++ zwO (oo 3) (os 3) ++ zwO (oo 4) (os 4) ++ zwO (oo 5) (os 5) ++ zwO (oo 6) (os 6) ++ zwO (oo 7) (os 7) ++ zwO (oo 8) (os 8))) (va_runV (As := [.int a0]) (rest := []) ⟨hx, hb, hml, hown, hts⟩ (c_X4_isHole l D cI cB cO No Np Go Gp Ns Na Gs Ga a0 _ _ g5) (cwV 1 hts gX5_bore_X4_isHole rfl rfl rfl kV_X4_isHole ⟨Nat.le_trans (Nat.le_of_ble_eq_true rfl) hRf, Nat.le_trans (Nat.le_of_ble_eq_true rfl) hRl⟩) (zpreV hK hP hD hS hE hFc [5, 6, 7, 8, 3, 4] rfl rfl 5 (ci := 4) rfl rfl [.int a0]) rfl rfl hl.1 rfl (lv_room (Nat.le_of_ble_eq_true rfl)) dX5_bore_19 ⟨Nat.zero_le _, Nat.zero_le _⟩) hP hD hS hFc [5, 6, 7, 8, 3, 4] [0, 1, 2, 9, 10, 11, 12, 13, 14, 15, 16, 17, 18, 19, 20, 21, 22, 23, 24, 25, 26, 27, 28, 29, 30, 31, 32] [0, 1, 2, 31, 32, 27, 28, 29, 30, 3, 4, 5, 6, 7, 8, 9, 10, 11, 12, 13, 14, 15, 16, 17, 18, 19, 20, 21, 22, 23, 24, 25, 26] 33 rfl rfl rfl rfl (fun H locs hP hD hS => ?_)
    refine lv_if_eq (tgt := 28) hx hb dX5_bore_22 (by decide) (fun c6 => ?_) (fun c6 => ?_)
    · have h := zif_t c6 h
      refine lv_aload_n hx hb dX5_bore_28 rfl (lv_at hl 0 rfl) ?_
      refine va_get (D := D) (ci := 5) (v := .ref No) (C := RX5) (T := TX5) (N := 13) hx hb hts inX5 hown hK hP 0 rfl rfl 2 (by decide) lk28 (fun _ h9 => h9) rfl dX5_bore_29 ?_
      refine lv_dup hx hb dX5_bore_32 rfl ?_
      refine va_getN (D := D) (ci := 4) (v := .int (Ns 1)) (C := RX4) (T := TX4) (N := 8) hx hb hts inX4 hown hK hP 5 rfl rfl 1 (by decide) lk159 (fun _ h9 => h9) rfl dX5_bore_33 ?_
      refine lv_iconst (v := (1 : Int32)) hx hb dX5_bore_36 (by decide) ?_
      refine lv_iload_n hx hb dX5_bore_37 rfl (lv_at hl 1 rfl) ?_
      refine lv_ishl hx hb dX5_bore_38 ?_
      refine lv_ior hx hb dX5_bore_39 ?_
      refine va_putN (D := D) (ci := 4) (v := .int ((Ns 1) ||| ((1 : Int32) <<< (a0 &&& 31)))) (ty := .int) (C := RX4) (T := TX4) (N := 8) hx hb hts inX4 tyX4 tyX4_ok nmX4 hown hK hP hD hS 5 rfl rfl 1 (by decide) lk159 (fun _ h9 => h9) rfl (by decide +kernel) rfl rfl (Nat.le_of_ble_eq_true rfl) dX5_bore_40 (fun H locs hP hD hS => ?_)
      have hP : va_P D vwCl (zwX Xo Po Go No Qo Ko Lo To oo ra Xs ++ zwP cI Po Pp Ps Pa ++ zwG cI Go Gp Gs Ga ++ zwS cI No Np Go (upd Ns 1 ((Ns 1) ||| ((1 : Int32) <<< (a0 &&& 31)))) Na ++ zwQ cI Qo Qp Qs Qa ++ zwS cI Ko Kp Go Ks Ka ++ zwQ cI Lo Lp Ls La ++ zwS cI To Tp Go Ts Ta ++ zwR cO ra oo ++ zwO (oo 0) (os 0) ++ zwO (oo 1) (os 1) ++ zwO (oo 2) (os 2) ++ zwO (oo 3) (os 3) ++ zwO (oo 4) (os 4) ++ zwO (oo 5) (os 5) ++ zwO (oo 6) (os 6) ++ zwO (oo 7) (os 7) ++ zwO (oo 8) (os 8)) H := hP
      have hD : va_D A (zwX Xo Po Go No Qo Ko Lo To oo ra Xs ++ zwP cI Po Pp Ps Pa ++ zwG cI Go Gp Gs Ga ++ zwS cI No Np Go (upd Ns 1 ((Ns 1) ||| ((1 : Int32) <<< (a0 &&& 31)))) Na ++ zwQ cI Qo Qp Qs Qa ++ zwS cI Ko Kp Go Ks Ka ++ zwQ cI Lo Lp Ls La ++ zwS cI To Tp Go Ts Ta ++ zwR cO ra oo ++ zwO (oo 0) (os 0) ++ zwO (oo 1) (os 1) ++ zwO (oo 2) (os 2) ++ zwO (oo 3) (os 3) ++ zwO (oo 4) (os 4) ++ zwO (oo 5) (os 5) ++ zwO (oo 6) (os 6) ++ zwO (oo 7) (os 7) ++ zwO (oo 8) (os 8)) := hD
      refine lv_aload_n hx hb dX5_bore_43 rfl (lv_at hl 0 rfl) ?_
      refine lv_iconst (v := (0 : Int32)) hx hb dX5_bore_44 (by decide) ?_
      refine va_put (D := D) (ci := 5) (v := .int (0 : Int32)) (ty := .boolean) (C := RX5) (T := TX5) (N := 13) hx hb hts inX5 tyX5 tyX5_ok nmX5 hown hK hP hD hS 0 rfl rfl 10 (by decide) lk92 (fun _ h9 => h9) rfl (by decide +kernel) (by decide) (by decide) (Nat.le_of_ble_eq_true rfl) dX5_bore_45 (fun H locs hP hD hS => ?_)
      have hP : va_P D vwCl (zwX Xo Po Go No Qo Ko Lo To oo ra (upd Xs 10 (0 : Int32)) ++ zwP cI Po Pp Ps Pa ++ zwG cI Go Gp Gs Ga ++ zwS cI No Np Go (upd Ns 1 ((Ns 1) ||| ((1 : Int32) <<< (a0 &&& 31)))) Na ++ zwQ cI Qo Qp Qs Qa ++ zwS cI Ko Kp Go Ks Ka ++ zwQ cI Lo Lp Ls La ++ zwS cI To Tp Go Ts Ta ++ zwR cO ra oo ++ zwO (oo 0) (os 0) ++ zwO (oo 1) (os 1) ++ zwO (oo 2) (os 2) ++ zwO (oo 3) (os 3) ++ zwO (oo 4) (os 4) ++ zwO (oo 5) (os 5) ++ zwO (oo 6) (os 6) ++ zwO (oo 7) (os 7) ++ zwO (oo 8) (os 8)) H := hP
      have hD : va_D A (zwX Xo Po Go No Qo Ko Lo To oo ra (upd Xs 10 (0 : Int32)) ++ zwP cI Po Pp Ps Pa ++ zwG cI Go Gp Gs Ga ++ zwS cI No Np Go (upd Ns 1 ((Ns 1) ||| ((1 : Int32) <<< (a0 &&& 31)))) Na ++ zwQ cI Qo Qp Qs Qa ++ zwS cI Ko Kp Go Ks Ka ++ zwQ cI Lo Lp Ls La ++ zwS cI To Tp Go Ts Ta ++ zwR cO ra oo ++ zwO (oo 0) (os 0) ++ zwO (oo 1) (os 1) ++ zwO (oo 2) (os 2) ++ zwO (oo 3) (os 3) ++ zwO (oo 4) (os 4) ++ zwO (oo 5) (os 5) ++ zwO (oo 6) (os 6) ++ zwO (oo 7) (os 7) ++ zwO (oo 8) (os 8)) := hD
      refine lv_aload_n hx hb dX5_bore_48 rfl (lv_at hl 0 rfl) ?_
      refine va_get (D := D) (ci := 5) (v := .ref No) (C := RX5) (T := TX5) (N := 13) hx hb hts inX5 hown hK hP 0 rfl rfl 2 (by decide) lk28 (fun _ h9 => h9) rfl dX5_bore_49 ?_
      refine va_getN (D := D) (ci := 4) (v := .int ((Ns 1) ||| ((1 : Int32) <<< (a0 &&& 31)))) (C := RX4) (T := TX4) (N := 8) hx hb hts inX4 hown hK hP 5 rfl rfl 1 (by decide) lk159 (fun _ h9 => h9) rfl dX5_bore_52 ?_
      obtain ⟨r7, g8, h⟩ := zb1_s h
      have hFc := va_free (wc := ([] : va_W)) hD hS hA [] rfl
      refine zcall_i (w2 := (zwX Xo Po Go No Qo Ko Lo To oo ra (upd Xs 10 (0 : Int32)) ++ zwP cI Po Pp Ps Pa ++ zwG cI Go Gp Gs Ga ++ zwS cI No Np Go (upd Ns 1 ((Ns 1) ||| ((1 : Int32) <<< (a0 &&& 31)))) Na ++ zwQ cI Qo Qp Qs Qa ++ zwS cI Ko Kp Go Ks Ka ++ zwQ cI Lo Lp Ls La ++ zwS cI To Tp Go Ts Ta ++ zwR cO ra oo ++ zwO (oo 0) (os 0) ++ zwO (oo 1) (os 1) ++ zwO (oo 2) (os 2) ++ zwO (oo 3) (os 3) ++ zwO (oo 4) (os 4) ++ zwO (oo 5) (os 5) ++ zwO (oo 6) (os 6) ++ zwO (oo 7) (os 7) ++ zwO (oo 8) (os 8))) (va_runS (As := [.int ((Ns 1) ||| ((1 : Int32) <<< (a0 &&& 31)))]) (rest := []) ⟨hx, hb, hml, hown, hts⟩ (c_J6_bitCount_0f7a4 l D cI cB cO ((Ns 1) ||| ((1 : Int32) <<< (a0 &&& 31))) _ _ g8) (va_cwS 1 hts gX5_bore_J6_bitCount_0f7a4 rfl rfl rfl kS_J6_bitCount_0f7a4 ⟨Nat.le_trans (Nat.le_of_ble_eq_true rfl) hRf, Nat.le_trans (Nat.le_of_ble_eq_true rfl) hRl⟩) (zpreS hK hP hD hS hE hFc [] rfl rfl [.int ((Ns 1) ||| ((1 : Int32) <<< (a0 &&& 31)))]) rfl rfl hl.1 rfl (lv_room (Nat.le_of_ble_eq_true rfl)) dX5_bore_55 ⟨Nat.zero_le _, Nat.zero_le _⟩) hP hD hS hFc [] [0, 1, 2, 3, 4, 5, 6, 7, 8, 9, 10, 11, 12, 13, 14, 15, 16, 17, 18, 19, 20, 21, 22, 23, 24, 25, 26, 27, 28, 29, 30, 31, 32] [0, 1, 2, 3, 4, 5, 6, 7, 8, 9, 10, 11, 12, 13, 14, 15, 16, 17, 18, 19, 20, 21, 22, 23, 24, 25, 26, 27, 28, 29, 30, 31, 32] 33 rfl rfl rfl rfl (fun H locs hP hD hS => ?_)
      cases zend h
      exact hq hP hD hS dX5_bore_58
    · have h := zif_f c6 h
      refine lv_bipush (v := (-103 : Int32)) hx hb dX5_bore_25 (by decide) ?_
      cases zend h
      exact hq hP hD hS dX5_bore_27
  · have h := zif_t c3 h
    refine lv_bipush (v := (-101 : Int32)) hx hb dX5_bore_11 (by decide) ?_
    cases zend h
    exact hq hP hD hS dX5_bore_13
set_option maxHeartbeats 4000000 in
set_option maxRecDepth 100000 in
theorem c_X5_be (l : Launch) (D : va_G) (cI cB cO : ClassId) (Xo : Nat) (Po : Nat) (Pp : Nat → Nat) (Go : Nat) (Gp : Nat → Nat) (No : Nat) (Np : Nat → Nat) (Qo : Nat) (Qp : Nat → Nat) (Ko : Nat) (Kp : Nat → Nat) (Lo : Nat) (Lp : Nat → Nat) (To : Nat) (Tp : Nat → Nat) (ra : Nat) (oo : Nat → Nat) (Xs : Nat → Int32) (Ps : Nat → Int32) (Pa : Nat → Nat → Int32) (Gs : Nat → Int32) (Ga : Nat → Nat → Int32) (Ns : Nat → Int32) (Na : Nat → Nat → Int32) (Qs : Nat → Int32) (Qa : Nat → Nat → Int32) (Ks : Nat → Int32) (Ka : Nat → Nat → Int32) (Ls : Nat → Int32) (La : Nat → Nat → Int32) (Ts : Nat → Int32) (Ta : Nat → Nat → Int32) (os : Nat → Nat → Int32) (a0 : Int32) (a1 : Int32) (rv : Int32) (Xs' : Nat → Int32) (Na' : Nat → Nat → Int32) (sz : Nat) (h : fX5_be Xs Ns Na a0 a1 = some (rv, Xs', Na')) : Met l yX5_be wsX5_be ({ frames := 2, cells := 0, slots := 0, locals := 43 } : Room) (va_Pc [.ref Xo, .int a0, .int a1] (zPre D (zTY cI cB cO) (zwX Xo Po Go No Qo Ko Lo To oo ra Xs ++ zwP cI Po Pp Ps Pa ++ zwG cI Go Gp Gs Ga ++ zwS cI No Np Go Ns Na ++ zwQ cI Qo Qp Qs Qa ++ zwS cI Ko Kp Go Ks Ka ++ zwQ cI Lo Lp Ls La ++ zwS cI To Tp Go Ts Ta ++ zwR cO ra oo ++ zwO (oo 0) (os 0) ++ zwO (oo 1) (os 1) ++ zwO (oo 2) (os 2) ++ zwO (oo 3) (os 3) ++ zwO (oo 4) (os 4) ++ zwO (oo 5) (os 5) ++ zwO (oo 6) (os 6) ++ zwO (oo 7) (os 7) ++ zwO (oo 8) (os 8)) sz)) (va_Qi (fun r (_ : Unit) => r = rv) (fun _ => zPost D (zTY cI cB cO) (zwX Xo Po Go No Qo Ko Lo To oo ra Xs' ++ zwP cI Po Pp Ps Pa ++ zwG cI Go Gp Gs Ga ++ zwS cI No Np Go Ns Na' ++ zwQ cI Qo Qp Qs Qa ++ zwS cI Ko Kp Go Ks Ka ++ zwQ cI Lo Lp Ls La ++ zwS cI To Tp Go Ts Ta ++ zwR cO ra oo ++ zwO (oo 0) (os 0) ++ zwO (oo 1) (os 1) ++ zwO (oo 2) (os 2) ++ zwO (oo 3) (os 3) ++ zwO (oo 4) (os 4) ++ zwO (oo 5) (os 5) ++ zwO (oo 6) (os 6) ++ zwO (oo 7) (os 7) ++ zwO (oo 8) (os 8)) (va_A (zwX Xo Po Go No Qo Ko Lo To oo ra Xs ++ zwP cI Po Pp Ps Pa ++ zwG cI Go Gp Gs Ga ++ zwS cI No Np Go Ns Na ++ zwQ cI Qo Qp Qs Qa ++ zwS cI Ko Kp Go Ks Ka ++ zwQ cI Lo Lp Ls La ++ zwS cI To Tp Go Ts Ta ++ zwR cO ra oo ++ zwO (oo 0) (os 0) ++ zwO (oo 1) (os 1) ++ zwO (oo 2) (os 2) ++ zwO (oo 3) (os 3) ++ zwO (oo 4) (os 4) ++ zwO (oo 5) (os 5) ++ zwO (oo 6) (os 6) ++ zwO (oo 7) (os 7) ++ zwO (oo 8) (os 8)) sz)) (va_A (zwX Xo Po Go No Qo Ko Lo To oo ra Xs ++ zwP cI Po Pp Ps Pa ++ zwG cI Go Gp Gs Ga ++ zwS cI No Np Go Ns Na ++ zwQ cI Qo Qp Qs Qa ++ zwS cI Ko Kp Go Ks Ka ++ zwQ cI Lo Lp Ls La ++ zwS cI To Tp Go Ts Ta ++ zwR cO ra oo ++ zwO (oo 0) (os 0) ++ zwO (oo 1) (os 1) ++ zwO (oo 2) (os 2) ++ zwO (oo 3) (os 3) ++ zwO (oo 4) (os 4) ++ zwO (oo 5) (os 5) ++ zwO (oo 6) (os 6) ++ zwO (oo 7) (os 7) ++ zwO (oo 8) (os 8)) sz)) 0 0 (va_A (zwX Xo Po Go No Qo Ko Lo To oo ra Xs ++ zwP cI Po Pp Ps Pa ++ zwG cI Go Gp Gs Ga ++ zwS cI No Np Go Ns Na ++ zwQ cI Qo Qp Qs Qa ++ zwS cI Ko Kp Go Ks Ka ++ zwQ cI Lo Lp Ls La ++ zwS cI To Tp Go Ts Ta ++ zwR cO ra oo ++ zwO (oo 0) (os 0) ++ zwO (oo 1) (os 1) ++ zwO (oo 2) (os 2) ++ zwO (oo 3) (os 3) ++ zwO (oo 4) (os 4) ++ zwO (oo 5) (os 5) ++ zwO (oo 6) (os 6) ++ zwO (oo 7) (os 7) ++ zwO (oo 8) (os 8)) sz) := by
  unfold fX5_be at h
  refine zmet_i (cc := cX5_be) (maxL := 4) (by decide) rfl (Nat.le_of_ble_eq_true rfl) rfl rfl ?_
  intro p e s m args below meth c R Q A ls hx hb hts hown hml hK hP hD hE hA hS hRf hRl hl hq
  have hown : s.vm.findClass RX5 = some m.cls := hown
  have hl : lv_has ls 4 [(0, .ref Xo), (1, .int a0), (2, .int a1)] := hl
  have inX5 : ∀ w ∈ u_ws RX5 TX5 13, w ∈ wsX5_be := by decide +kernel
  have lk28 : (Cond.fieldLink RX5 28 "PegField" "now" "LPegField$State;").before args s = true := hts _ (by decide +kernel)
  have lk92 : (Cond.fieldLink RX5 92 "PegField" "isLooked" "Z").before args s = true := hts _ (by decide +kernel)
  refine lv_aload_n hx hb dX5_be_0 rfl (lv_at hl 0 rfl) ?_
  refine va_get (D := D) (ci := 5) (v := .ref No) (C := RX5) (T := TX5) (N := 13) hx hb hts inX5 hown hK hP 0 rfl rfl 2 (by decide) lk28 (fun _ h9 => h9) rfl dX5_be_1 ?_
  refine lv_iload_n hx hb dX5_be_4 rfl (lv_at hl 1 rfl) ?_
  obtain ⟨r1, g2, h⟩ := zb1_s h
  have hFc := va_free (wc := (zwS cI No Np Go Ns Na)) hD hS hA [5, 6, 7, 8] rfl
  refine zcall_i (w2 := (zwX Xo Po Go No Qo Ko Lo To oo ra Xs ++ zwP cI Po Pp Ps Pa ++ zwG cI Go Gp Gs Ga ++ zwS cI No Np Go Ns Na ++ zwQ cI Qo Qp Qs Qa ++ zwS cI Ko Kp Go Ks Ka ++ zwQ cI Lo Lp Ls La ++ zwS cI To Tp Go Ts Ta ++ zwR cO ra oo ++ zwO (oo 0) (os 0) ++ zwO (oo 1) (os 1) ++ zwO (oo 2) (os 2) ++ zwO (oo 3) (os 3) ++ zwO (oo 4) (os 4) ++ zwO (oo 5) (os 5) ++ zwO (oo 6) (os 6) ++ zwO (oo 7) (os 7) ++ zwO (oo 8) (os 8))) (va_runV (As := [.int a0]) (rest := []) ⟨hx, hb, hml, hown, hts⟩ (c_X4_isPeg l D cI cB cO No Np Go Ns Na a0 _ _ g2) (cwV 1 hts gX5_be_X4_isPeg rfl rfl rfl kV_X4_isPeg ⟨Nat.le_trans (Nat.le_of_ble_eq_true rfl) hRf, Nat.le_trans (Nat.le_of_ble_eq_true rfl) hRl⟩) (zpreV hK hP hD hS hE hFc [5, 6, 7, 8] rfl rfl 5 (ci := 4) rfl rfl [.int a0]) rfl rfl hl.1 rfl (lv_room (Nat.le_of_ble_eq_true rfl)) dX5_be_5 ⟨Nat.zero_le _, Nat.zero_le _⟩) hP hD hS hFc [5, 6, 7, 8] [0, 1, 2, 3, 4, 9, 10, 11, 12, 13, 14, 15, 16, 17, 18, 19, 20, 21, 22, 23, 24, 25, 26, 27, 28, 29, 30, 31, 32] [0, 1, 2, 3, 4, 29, 30, 31, 32, 5, 6, 7, 8, 9, 10, 11, 12, 13, 14, 15, 16, 17, 18, 19, 20, 21, 22, 23, 24, 25, 26, 27, 28] 33 rfl rfl rfl rfl (fun H locs hP hD hS => ?_)
  refine lv_if_ne (tgt := 14) hx hb dX5_be_8 (by decide) (fun c3 => ?_) (fun c3 => ?_)
  · have h := zif_f c3 h
    refine lv_iload_n hx hb dX5_be_14 rfl (lv_at hl 2 rfl) ?_
    refine lv_if_lt (tgt := 23) hx hb dX5_be_15 (by decide) (fun c4 => ?_) (fun c4 => ?_)
    · have h := zif_t c4 h
      refine lv_bipush (v := (-102 : Int32)) hx hb dX5_be_23 (by decide) ?_
      cases zend h
      exact hq hP hD hS dX5_be_25
    · have h := zif_f c4 h
      refine lv_iload_n hx hb dX5_be_18 rfl (lv_at hl 2 rfl) ?_
      refine lv_iconst (v := (5 : Int32)) hx hb dX5_be_19 (by decide) ?_
      refine lv_icmp_lt (tgt := 26) hx hb dX5_be_20 (by decide) (fun c5 => ?_) (fun c5 => ?_)
      · have h := zif_t c5 h
        refine lv_aload_n hx hb dX5_be_26 rfl (lv_at hl 0 rfl) ?_
        refine va_get (D := D) (ci := 5) (v := .ref No) (C := RX5) (T := TX5) (N := 13) hx hb hts inX5 hown hK hP 0 rfl rfl 2 (by decide) lk28 (fun _ h9 => h9) rfl dX5_be_27 ?_
        refine lv_iload_n hx hb dX5_be_30 rfl (lv_at hl 1 rfl) ?_
        obtain ⟨r6, g7, h⟩ := zb1_s h
        have hFc := va_free (wc := (zwS cI No Np Go Ns Na)) hD hS hA [5, 6, 7, 8] rfl
        refine zcall_i (w2 := (zwX Xo Po Go No Qo Ko Lo To oo ra Xs ++ zwP cI Po Pp Ps Pa ++ zwG cI Go Gp Gs Ga ++ zwS cI No Np Go Ns Na ++ zwQ cI Qo Qp Qs Qa ++ zwS cI Ko Kp Go Ks Ka ++ zwQ cI Lo Lp Ls La ++ zwS cI To Tp Go Ts Ta ++ zwR cO ra oo ++ zwO (oo 0) (os 0) ++ zwO (oo 1) (os 1) ++ zwO (oo 2) (os 2) ++ zwO (oo 3) (os 3) ++ zwO (oo 4) (os 4) ++ zwO (oo 5) (os 5) ++ zwO (oo 6) (os 6) ++ zwO (oo 7) (os 7) ++ zwO (oo 8) (os 8))) (va_runV (As := [.int a0]) (rest := []) ⟨hx, hb, hml, hown, hts⟩ (c_X4_kindOf l D cI cB cO No Np Go Ns Na a0 _ _ g7) (cwV 1 hts gX5_be_X4_kindOf rfl rfl rfl kV_X4_kindOf ⟨Nat.le_trans (Nat.le_of_ble_eq_true rfl) hRf, Nat.le_trans (Nat.le_of_ble_eq_true rfl) hRl⟩) (zpreV hK hP hD hS hE hFc [5, 6, 7, 8] rfl rfl 5 (ci := 4) rfl rfl [.int a0]) rfl rfl hl.1 rfl (lv_room (Nat.le_of_ble_eq_true rfl)) dX5_be_31 ⟨Nat.zero_le _, Nat.zero_le _⟩) hP hD hS hFc [5, 6, 7, 8] [0, 1, 2, 3, 4, 9, 10, 11, 12, 13, 14, 15, 16, 17, 18, 19, 20, 21, 22, 23, 24, 25, 26, 27, 28, 29, 30, 31, 32] [0, 1, 2, 3, 4, 29, 30, 31, 32, 5, 6, 7, 8, 9, 10, 11, 12, 13, 14, 15, 16, 17, 18, 19, 20, 21, 22, 23, 24, 25, 26, 27, 28] 33 rfl rfl rfl rfl (fun H locs hP hD hS => ?_)
        refine lv_istore_n (lv' := [(3, .int r6), (0, .ref Xo), (1, .int a0), (2, .int a1)]) hx hb dX5_be_34 rfl hl (by decide) rfl (fun ls hl => ?_)
        refine lv_aload_n hx hb dX5_be_35 rfl (lv_at hl 1 rfl) ?_
        refine va_get (D := D) (ci := 5) (v := .ref No) (C := RX5) (T := TX5) (N := 13) hx hb hts inX5 hown hK hP 0 rfl rfl 2 (by decide) lk28 (fun _ h9 => h9) rfl dX5_be_36 ?_
        refine lv_iload_n hx hb dX5_be_39 rfl (lv_at hl 2 rfl) ?_
        refine lv_iload_n hx hb dX5_be_40 rfl (lv_at hl 3 rfl) ?_
        obtain ⟨Sa_8, g9, h⟩ := zb1_s h
        have hFc := va_free (wc := (zwS cI No Np Go Ns Na)) hD hS hA [5, 6, 7, 8] rfl
        refine zcall_v (w2 := (zwX Xo Po Go No Qo Ko Lo To oo ra Xs ++ zwP cI Po Pp Ps Pa ++ zwG cI Go Gp Gs Ga ++ zwS cI No Np Go Ns Sa_8 ++ zwQ cI Qo Qp Qs Qa ++ zwS cI Ko Kp Go Ks Ka ++ zwQ cI Lo Lp Ls La ++ zwS cI To Tp Go Ts Ta ++ zwR cO ra oo ++ zwO (oo 0) (os 0) ++ zwO (oo 1) (os 1) ++ zwO (oo 2) (os 2) ++ zwO (oo 3) (os 3) ++ zwO (oo 4) (os 4) ++ zwO (oo 5) (os 5) ++ zwO (oo 6) (os 6) ++ zwO (oo 7) (os 7) ++ zwO (oo 8) (os 8))) (va_runV (As := [.int a0, .int a1]) (rest := []) ⟨hx, hb, hml, hown, hts⟩ (c_X4_turn l D cI cB cO No Np Go Ns Na a0 a1 _ _ g9) (cwV 2 hts gX5_be_X4_turn rfl rfl rfl kV_X4_turn ⟨Nat.le_trans (Nat.le_of_ble_eq_true rfl) hRf, Nat.le_trans (Nat.le_of_ble_eq_true rfl) hRl⟩) (zpreV hK hP hD hS hE hFc [5, 6, 7, 8] rfl rfl 5 (ci := 4) rfl rfl [.int a0, .int a1]) rfl rfl hl.1 rfl (lv_room (Nat.le_of_ble_eq_true rfl)) dX5_be_41 ⟨Nat.zero_le _, Nat.zero_le _⟩) hP hD hS hFc [5, 6, 7, 8] [0, 1, 2, 3, 4, 9, 10, 11, 12, 13, 14, 15, 16, 17, 18, 19, 20, 21, 22, 23, 24, 25, 26, 27, 28, 29, 30, 31, 32] [0, 1, 2, 3, 4, 29, 30, 31, 32, 5, 6, 7, 8, 9, 10, 11, 12, 13, 14, 15, 16, 17, 18, 19, 20, 21, 22, 23, 24, 25, 26, 27, 28] 33 rfl rfl rfl rfl (fun H locs hP hD hS => ?_)
        refine lv_aload_n hx hb dX5_be_44 rfl (lv_at hl 1 rfl) ?_
        refine lv_iconst (v := (0 : Int32)) hx hb dX5_be_45 (by decide) ?_
        refine va_put (D := D) (ci := 5) (v := .int (0 : Int32)) (ty := .boolean) (C := RX5) (T := TX5) (N := 13) hx hb hts inX5 tyX5 tyX5_ok nmX5 hown hK hP hD hS 0 rfl rfl 10 (by decide) lk92 (fun _ h9 => h9) rfl (by decide +kernel) (by decide) (by decide) (Nat.le_of_ble_eq_true rfl) dX5_be_46 (fun H locs hP hD hS => ?_)
        have hP : va_P D vwCl (zwX Xo Po Go No Qo Ko Lo To oo ra (upd Xs 10 (0 : Int32)) ++ zwP cI Po Pp Ps Pa ++ zwG cI Go Gp Gs Ga ++ zwS cI No Np Go Ns Sa_8 ++ zwQ cI Qo Qp Qs Qa ++ zwS cI Ko Kp Go Ks Ka ++ zwQ cI Lo Lp Ls La ++ zwS cI To Tp Go Ts Ta ++ zwR cO ra oo ++ zwO (oo 0) (os 0) ++ zwO (oo 1) (os 1) ++ zwO (oo 2) (os 2) ++ zwO (oo 3) (os 3) ++ zwO (oo 4) (os 4) ++ zwO (oo 5) (os 5) ++ zwO (oo 6) (os 6) ++ zwO (oo 7) (os 7) ++ zwO (oo 8) (os 8)) H := hP
        have hD : va_D A (zwX Xo Po Go No Qo Ko Lo To oo ra (upd Xs 10 (0 : Int32)) ++ zwP cI Po Pp Ps Pa ++ zwG cI Go Gp Gs Ga ++ zwS cI No Np Go Ns Sa_8 ++ zwQ cI Qo Qp Qs Qa ++ zwS cI Ko Kp Go Ks Ka ++ zwQ cI Lo Lp Ls La ++ zwS cI To Tp Go Ts Ta ++ zwR cO ra oo ++ zwO (oo 0) (os 0) ++ zwO (oo 1) (os 1) ++ zwO (oo 2) (os 2) ++ zwO (oo 3) (os 3) ++ zwO (oo 4) (os 4) ++ zwO (oo 5) (os 5) ++ zwO (oo 6) (os 6) ++ zwO (oo 7) (os 7) ++ zwO (oo 8) (os 8)) := hD
        refine lv_iload_n hx hb dX5_be_49 rfl (lv_at hl 0 rfl) ?_
        cases zend h
        exact hq hP hD hS dX5_be_50
      · have h := zif_f c5 h
        refine lv_bipush (v := (-102 : Int32)) hx hb dX5_be_23 (by decide) ?_
        cases zend h
        exact hq hP hD hS dX5_be_25
  · have h := zif_t c3 h
    refine lv_bipush (v := (-101 : Int32)) hx hb dX5_be_11 (by decide) ?_
    cases zend h
    exact hq hP hD hS dX5_be_13
set_option maxHeartbeats 4000000 in
set_option maxRecDepth 100000 in
theorem c_X5_look_8 (l : Launch) (D : va_G) (cI cB cO : ClassId) (So : Nat) (Sp : Nat → Nat) (Go : Nat) (Gp : Nat → Nat) (ra : Nat) (oo : Nat → Nat) (Ss : Nat → Int32) (Sa : Nat → Nat → Int32) (Gs : Nat → Int32) (Ga : Nat → Nat → Int32) (os : Nat → Nat → Int32)  (os' : Nat → Nat → Int32) (sz : Nat) (h : fX5_look_8 Ss Sa os = some os') : Met l yX5_look wsX5_look ({ frames := 3, cells := 0, slots := 0, locals := 65 } : Room) (va_Pc [.ref So, .ref ra, .int (8 : Int32)] (zPre D (zTY cI cB cO) (zwS cI So Sp Go Ss Sa ++ zwG cI Go Gp Gs Ga ++ zwR cO ra oo ++ zwO (oo 0) (os 0) ++ zwO (oo 1) (os 1) ++ zwO (oo 2) (os 2) ++ zwO (oo 3) (os 3) ++ zwO (oo 4) (os 4) ++ zwO (oo 5) (os 5) ++ zwO (oo 6) (os 6) ++ zwO (oo 7) (os 7) ++ zwO (oo 8) (os 8)) sz)) (va_Qv (fun (_ : Unit) => True) (fun _ => zPost D (zTY cI cB cO) (zwS cI So Sp Go Ss Sa ++ zwG cI Go Gp Gs Ga ++ zwR cO ra oo ++ zwO (oo 0) (os' 0) ++ zwO (oo 1) (os' 1) ++ zwO (oo 2) (os' 2) ++ zwO (oo 3) (os' 3) ++ zwO (oo 4) (os' 4) ++ zwO (oo 5) (os' 5) ++ zwO (oo 6) (os' 6) ++ zwO (oo 7) (os' 7) ++ zwO (oo 8) (os' 8)) (va_A (zwS cI So Sp Go Ss Sa ++ zwG cI Go Gp Gs Ga ++ zwR cO ra oo ++ zwO (oo 0) (os 0) ++ zwO (oo 1) (os 1) ++ zwO (oo 2) (os 2) ++ zwO (oo 3) (os 3) ++ zwO (oo 4) (os 4) ++ zwO (oo 5) (os 5) ++ zwO (oo 6) (os 6) ++ zwO (oo 7) (os 7) ++ zwO (oo 8) (os 8)) sz)) (va_A (zwS cI So Sp Go Ss Sa ++ zwG cI Go Gp Gs Ga ++ zwR cO ra oo ++ zwO (oo 0) (os 0) ++ zwO (oo 1) (os 1) ++ zwO (oo 2) (os 2) ++ zwO (oo 3) (os 3) ++ zwO (oo 4) (os 4) ++ zwO (oo 5) (os 5) ++ zwO (oo 6) (os 6) ++ zwO (oo 7) (os 7) ++ zwO (oo 8) (os 8)) sz)) 0 0 (va_A (zwS cI So Sp Go Ss Sa ++ zwG cI Go Gp Gs Ga ++ zwR cO ra oo ++ zwO (oo 0) (os 0) ++ zwO (oo 1) (os 1) ++ zwO (oo 2) (os 2) ++ zwO (oo 3) (os 3) ++ zwO (oo 4) (os 4) ++ zwO (oo 5) (os 5) ++ zwO (oo 6) (os 6) ++ zwO (oo 7) (os 7) ++ zwO (oo 8) (os 8)) sz) := by
  unfold fX5_look_8 at h
  refine zmet_v (cc := cX5_look) (maxL := 10) (by decide) rfl (Nat.le_of_ble_eq_true rfl) rfl rfl ?_
  intro p e s m args below meth c R Q A ls hx hb hts hown hml hK hP hD hE hA hS hRf hRl hl hq
  have hown : s.vm.findClass RX5 = some m.cls := hown
  have hl : lv_has ls 10 [(0, .ref So), (1, .ref ra), (2, .int (8 : Int32))] := hl
  have inX4 : ∀ w ∈ u_ws RX4 TX4 8, w ∈ wsX5_look := by decide +kernel
  have lk98 : (Cond.fieldLinkNest RX5 98 "PegField$State" "pegs" "I" "PegField").before args s = true := hE.2.use (by decide +kernel)
  have lk150 : (Cond.fieldLinkNest RX5 150 "PegField$State" "onBoard" "I" "PegField").before args s = true := hE.2.use (by decide +kernel)
  refine lv_iload_n hx hb dX5_look_0 rfl (lv_at hl 2 rfl) ?_
  refine lv_if_lt (tgt := 16) hx hb dX5_look_1 (by decide) (fun q => absurd q (by decide)) (fun _ => ?_)
  refine lv_iload_n hx hb dX5_look_4 rfl (lv_at hl 2 rfl) ?_
  refine lv_aload_n hx hb dX5_look_5 rfl (lv_at hl 1 rfl) ?_
  refine va_alen hx hb hK hP 6 2 rfl rfl (v := (9 : Int32)) rfl dX5_look_6 ?_
  refine lv_icmp_ge (tgt := 16) hx hb dX5_look_7 (by decide) (fun q => absurd q (by decide)) (fun _ => ?_)
  refine lv_aload_n hx hb dX5_look_10 rfl (lv_at hl 1 rfl) ?_
  refine lv_iload_n hx hb dX5_look_11 rfl (lv_at hl 2 rfl) ?_
  refine va_aldq hx hb hK hP 6 2 rfl rfl (vp_in_iff.mpr (by decide)) dX5_look_12 ?_
  refine W.eq (g2 := F0 m 13 ls [.ref (oo 8)]) rfl ?_
  refine lv_ifnonnull (tgt := 17) hx hb dX5_look_13 (by decide) ?_
  refine lv_aload_n hx hb dX5_look_17 rfl (lv_at hl 1 rfl) ?_
  refine lv_iload_n hx hb dX5_look_18 rfl (lv_at hl 2 rfl) ?_
  refine va_aldq hx hb hK hP 6 2 rfl rfl (vp_in_iff.mpr (by decide)) dX5_look_19 ?_
  refine W.eq (g2 := F0 m 20 ls [.ref (oo 8)]) rfl ?_
  refine lv_astore_n (lv' := [(3, .ref (oo 8)), (0, .ref So), (1, .ref ra), (2, .int (8 : Int32))]) hx hb dX5_look_20 rfl hl (by decide) rfl (fun ls hl => ?_)
  refine lv_aload_n hx hb dX5_look_21 rfl (lv_at hl 0 rfl) ?_
  obtain ⟨Os_1, g2, h⟩ := zb1_s h
  have hFc := va_free (wc := (zwO (oo 8) (os 8))) hD hS hA [15] rfl
  refine zcall_v (w2 := (zwS cI So Sp Go Ss Sa ++ zwG cI Go Gp Gs Ga ++ zwR cO ra oo ++ zwO (oo 0) (os 0) ++ zwO (oo 1) (os 1) ++ zwO (oo 2) (os 2) ++ zwO (oo 3) (os 3) ++ zwO (oo 4) (os 4) ++ zwO (oo 5) (os 5) ++ zwO (oo 6) (os 6) ++ zwO (oo 7) (os 7) ++ zwO (oo 8) Os_1)) (va_runV (As := []) (rest := []) ⟨hx, hb, hml, hown, hts⟩ (c_X1_begin l D cI cB cO (oo 8) (os 8) _ _ g2) (cwV 0 hts gX5_look_X1_begin rfl rfl rfl kV_X1_begin ⟨Nat.le_trans (Nat.le_of_ble_eq_true rfl) hRf, Nat.le_trans (Nat.le_of_ble_eq_true rfl) hRl⟩) (zpreV hK hP hD hS hE hFc [15] rfl rfl 15 (ci := 1) rfl rfl []) rfl rfl hl.1 rfl (lv_room (Nat.le_of_ble_eq_true rfl)) dX5_look_22 ⟨Nat.zero_le _, Nat.zero_le _⟩) hP hD hS hFc [15] [0, 1, 2, 3, 4, 5, 6, 7, 8, 9, 10, 11, 12, 13, 14] [0, 1, 2, 3, 4, 5, 6, 7, 8, 9, 10, 11, 12, 13, 14, 15] 16 rfl rfl rfl rfl (fun H locs hP hD hS => ?_)
  refine lv_iload_n hx hb dX5_look_25 rfl (lv_at hl 3 rfl) ?_
  refine lv_iconst (v := (1 : Int32)) hx hb dX5_look_26 (by decide) ?_
  refine lv_iadd hx hb dX5_look_27 ?_
  refine lv_topi (fun k3 ek3 => ?_)
  obtain rfl : k3 = (9 : Int32) := ek3.trans (by decide)
  refine lv_aload_n hx hb dX5_look_28 rfl (lv_at hl 2 rfl) ?_
  refine va_alen hx hb hK hP 6 2 rfl rfl (v := (9 : Int32)) rfl dX5_look_29 ?_
  refine lv_icmp_ge (tgt := 41) hx hb dX5_look_30 (by decide) (fun _ => ?_) (fun q => absurd q (by decide))
  refine lv_null hx hb dX5_look_41 ?_
  refine lv_astoreN (lv' := [(4, .null), (3, .ref (oo 8)), (0, .ref So), (1, .ref ra), (2, .int (8 : Int32))]) hx hb dX5_look_42 hl (by decide) rfl (fun ls hl => ?_)
  refine lv_iconst (v := (0 : Int32)) hx hb dX5_look_44 (by decide) ?_
  refine lv_istore (lv' := [(5, .int (0 : Int32)), (4, .null), (3, .ref (oo 8)), (0, .ref So), (1, .ref ra), (2, .int (8 : Int32))]) hx hb dX5_look_45 hl (by decide) rfl (fun ls hl => ?_)
  refine lv_iload hx hb dX5_look_47 (lv_at hl 0 rfl) ?_
  refine lv_aload_n hx hb dX5_look_49 rfl (lv_at hl 3 rfl) ?_
  refine va_getN (D := D) (ci := 4) (v := .int (Ss 2)) (C := RX4) (T := TX4) (N := 8) hx hb hts inX4 hown hK hP 0 rfl rfl 2 (by decide) lk98 (fun _ h9 => h9) rfl dX5_look_50 ?_
  obtain ⟨uj8, j8, h⟩ := zb1_s h
  have K161 : ∀ (H : Heap) (locs : List Loc) (ls : Array Slot), va_P D vwCl (zwS cI So Sp Go Ss Sa ++ zwG cI Go Gp Gs Ga ++ zwR cO ra oo ++ zwO (oo 0) (os 0) ++ zwO (oo 1) (os 1) ++ zwO (oo 2) (os 2) ++ zwO (oo 3) (os 3) ++ zwO (oo 4) (os 4) ++ zwO (oo 5) (os 5) ++ zwO (oo 6) (os 6) ++ zwO (oo 7) (os 7) ++ zwO (oo 8) Os_1) H → va_D A (zwS cI So Sp Go Ss Sa ++ zwG cI Go Gp Gs Ga ++ zwR cO ra oo ++ zwO (oo 0) (os 0) ++ zwO (oo 1) (os 1) ++ zwO (oo 2) (os 2) ++ zwO (oo 3) (os 3) ++ zwO (oo 4) (os 4) ++ zwO (oo 5) (os 5) ++ zwO (oo 6) (os 6) ++ zwO (oo 7) (os 7) ++ zwO (oo 8) Os_1) → va_S A s.heap H locs → lv_has ls 10 [(0, .ref So), (3, .ref (oo 8))] → W p l e R s m args below meth c H locs 0 0 Q (F0 m 161 ls []) := by
    intro H locs ls hP hD hS hl
    refine lv_aload_n hx hb dX5_look_161 rfl (lv_at hl 1 rfl) ?_
    refine lv_aload_n hx hb dX5_look_162 rfl (lv_at hl 0 rfl) ?_
    refine va_getN (D := D) (ci := 4) (v := .int (Ss 3)) (C := RX4) (T := TX4) (N := 8) hx hb hts inX4 hown hK hP 0 rfl rfl 3 (by decide) lk150 (fun _ h9 => h9) rfl dX5_look_163 ?_
    refine lv_aload_n hx hb dX5_look_166 rfl (lv_at hl 0 rfl) ?_
    obtain ⟨r4, g5, h⟩ := zb1_s h
    have hFc := va_free (wc := (zwS cI So Sp Go Ss Sa ++ zwG cI Go Gp Gs Ga)) hD hS hA [0, 1, 2, 3, 4, 5] rfl
    refine zcall_i (w2 := (zwS cI So Sp Go Ss Sa ++ zwG cI Go Gp Gs Ga ++ zwR cO ra oo ++ zwO (oo 0) (os 0) ++ zwO (oo 1) (os 1) ++ zwO (oo 2) (os 2) ++ zwO (oo 3) (os 3) ++ zwO (oo 4) (os 4) ++ zwO (oo 5) (os 5) ++ zwO (oo 6) (os 6) ++ zwO (oo 7) (os 7) ++ zwO (oo 8) Os_1)) (va_runV (As := []) (rest := [.int (Ss 3), .ref (oo 8)]) ⟨hx, hb, hml, hown, hts⟩ (c_X4_aloneBit l D cI cB cO So Sp Go Gp Ss Sa Gs Ga _ _ g5) (cwV 0 hts gX5_look_X4_aloneBit rfl rfl rfl kV_X4_aloneBit ⟨Nat.le_trans (Nat.le_of_ble_eq_true rfl) hRf, Nat.le_trans (Nat.le_of_ble_eq_true rfl) hRl⟩) (zpreV hK hP hD hS hE hFc [0, 1, 2, 3, 4, 5] rfl rfl 0 (ci := 4) rfl rfl []) rfl rfl hl.1 rfl (lv_room (Nat.le_of_ble_eq_true rfl)) dX5_look_167 ⟨Nat.zero_le _, Nat.zero_le _⟩) hP hD hS hFc [0, 1, 2, 3, 4, 5] [6, 7, 8, 9, 10, 11, 12, 13, 14, 15] [10, 11, 12, 13, 14, 15, 0, 1, 2, 3, 4, 5, 6, 7, 8, 9] 16 rfl rfl rfl rfl (fun H locs hP hD hS => ?_)
    obtain ⟨Os_6, g7, h⟩ := zb1_s h
    have hFc := va_free (wc := (zwO (oo 8) Os_1)) hD hS hA [15] rfl
    refine zcall_v (w2 := (zwS cI So Sp Go Ss Sa ++ zwG cI Go Gp Gs Ga ++ zwR cO ra oo ++ zwO (oo 0) (os 0) ++ zwO (oo 1) (os 1) ++ zwO (oo 2) (os 2) ++ zwO (oo 3) (os 3) ++ zwO (oo 4) (os 4) ++ zwO (oo 5) (os 5) ++ zwO (oo 6) (os 6) ++ zwO (oo 7) (os 7) ++ zwO (oo 8) Os_6)) (va_runV (As := [.int (Ss 3), .int r4]) (rest := []) ⟨hx, hb, hml, hown, hts⟩ (c_X1_end l D cI cB cO (oo 8) Os_1 (Ss 3) r4 _ _ g7) (cwV 2 hts gX5_look_X1_end rfl rfl rfl kV_X1_end ⟨Nat.le_trans (Nat.le_of_ble_eq_true rfl) hRf, Nat.le_trans (Nat.le_of_ble_eq_true rfl) hRl⟩) (zpreV hK hP hD hS hE hFc [15] rfl rfl 15 (ci := 1) rfl rfl [.int (Ss 3), .int r4]) rfl rfl hl.1 rfl (lv_room (Nat.le_of_ble_eq_true rfl)) dX5_look_170 ⟨Nat.zero_le _, Nat.zero_le _⟩) hP hD hS hFc [15] [0, 1, 2, 3, 4, 5, 6, 7, 8, 9, 10, 11, 12, 13, 14] [0, 1, 2, 3, 4, 5, 6, 7, 8, 9, 10, 11, 12, 13, 14, 15] 16 rfl rfl rfl rfl (fun H locs hP hD hS => ?_)
    cases zend h
    exact hq hP hD hS dX5_look_173
  clear h
  have h := j8
  clear j8
  refine lv_icmp_ge (tgt := 161) hx hb dX5_look_53 (by decide) (fun c9 => ?_) (fun c9 => ?_)
  · have h := zif_t c9 h
    exact K161 _ _ _ hP hD hS (lv_sub hl [3, 2] rfl)
  · have h := zif_f c9 h
    refine lv_aloadN hx hb dX5_look_56 (lv_at hl 1 rfl) ?_
    refine lv_ifnullN (tgt := 161) hx hb dX5_look_58 (by decide) ?_
    exact K161 _ _ _ hP hD hS (lv_sub hl [3, 2] rfl)
set_option maxHeartbeats 4000000 in
set_option maxRecDepth 100000 in
theorem c_X5_look_7 (l : Launch) (D : va_G) (cI cB cO : ClassId) (So : Nat) (Sp : Nat → Nat) (Go : Nat) (Gp : Nat → Nat) (ra : Nat) (oo : Nat → Nat) (Ss : Nat → Int32) (Sa : Nat → Nat → Int32) (Gs : Nat → Int32) (Ga : Nat → Nat → Int32) (os : Nat → Nat → Int32)  (Ss' : Nat → Int32) (Sa' : Nat → Nat → Int32) (os' : Nat → Nat → Int32) (sz : Nat) (h : fX5_look_7 Ss Sa Gs Ga os = some (Ss', Sa', os')) : Met l yX5_look wsX5_look ({ frames := 4, cells := 0, slots := 0, locals := 94 } : Room) (va_Pc [.ref So, .ref ra, .int (7 : Int32)] (zPre D (zTY cI cB cO) (zwS cI So Sp Go Ss Sa ++ zwG cI Go Gp Gs Ga ++ zwR cO ra oo ++ zwO (oo 0) (os 0) ++ zwO (oo 1) (os 1) ++ zwO (oo 2) (os 2) ++ zwO (oo 3) (os 3) ++ zwO (oo 4) (os 4) ++ zwO (oo 5) (os 5) ++ zwO (oo 6) (os 6) ++ zwO (oo 7) (os 7) ++ zwO (oo 8) (os 8)) sz)) (va_Qv (fun (_ : Unit) => True) (fun _ => zPost D (zTY cI cB cO) (zwS cI So Sp Go Ss' Sa' ++ zwG cI Go Gp Gs Ga ++ zwR cO ra oo ++ zwO (oo 0) (os' 0) ++ zwO (oo 1) (os' 1) ++ zwO (oo 2) (os' 2) ++ zwO (oo 3) (os' 3) ++ zwO (oo 4) (os' 4) ++ zwO (oo 5) (os' 5) ++ zwO (oo 6) (os' 6) ++ zwO (oo 7) (os' 7) ++ zwO (oo 8) (os' 8)) (va_A (zwS cI So Sp Go Ss Sa ++ zwG cI Go Gp Gs Ga ++ zwR cO ra oo ++ zwO (oo 0) (os 0) ++ zwO (oo 1) (os 1) ++ zwO (oo 2) (os 2) ++ zwO (oo 3) (os 3) ++ zwO (oo 4) (os 4) ++ zwO (oo 5) (os 5) ++ zwO (oo 6) (os 6) ++ zwO (oo 7) (os 7) ++ zwO (oo 8) (os 8)) sz)) (va_A (zwS cI So Sp Go Ss Sa ++ zwG cI Go Gp Gs Ga ++ zwR cO ra oo ++ zwO (oo 0) (os 0) ++ zwO (oo 1) (os 1) ++ zwO (oo 2) (os 2) ++ zwO (oo 3) (os 3) ++ zwO (oo 4) (os 4) ++ zwO (oo 5) (os 5) ++ zwO (oo 6) (os 6) ++ zwO (oo 7) (os 7) ++ zwO (oo 8) (os 8)) sz)) 0 0 (va_A (zwS cI So Sp Go Ss Sa ++ zwG cI Go Gp Gs Ga ++ zwR cO ra oo ++ zwO (oo 0) (os 0) ++ zwO (oo 1) (os 1) ++ zwO (oo 2) (os 2) ++ zwO (oo 3) (os 3) ++ zwO (oo 4) (os 4) ++ zwO (oo 5) (os 5) ++ zwO (oo 6) (os 6) ++ zwO (oo 7) (os 7) ++ zwO (oo 8) (os 8)) sz) := by
  unfold fX5_look_7 at h
  refine zmet_v (cc := cX5_look) (maxL := 10) (by decide) rfl (Nat.le_of_ble_eq_true rfl) rfl rfl ?_
  intro p e s m args below meth c R Q A ls hx hb hts hown hml hK hP hD hE hA hS hRf hRl hl hq
  have hown : s.vm.findClass RX5 = some m.cls := hown
  have hl : lv_has ls 10 [(0, .ref So), (1, .ref ra), (2, .int (7 : Int32))] := hl
  have inX4 : ∀ w ∈ u_ws RX4 TX4 8, w ∈ wsX5_look := by decide +kernel
  have lk98 : (Cond.fieldLinkNest RX5 98 "PegField$State" "pegs" "I" "PegField").before args s = true := hE.2.use (by decide +kernel)
  have lk150 : (Cond.fieldLinkNest RX5 150 "PegField$State" "onBoard" "I" "PegField").before args s = true := hE.2.use (by decide +kernel)
  refine lv_iload_n hx hb dX5_look_0 rfl (lv_at hl 2 rfl) ?_
  refine lv_if_lt (tgt := 16) hx hb dX5_look_1 (by decide) (fun q => absurd q (by decide)) (fun _ => ?_)
  refine lv_iload_n hx hb dX5_look_4 rfl (lv_at hl 2 rfl) ?_
  refine lv_aload_n hx hb dX5_look_5 rfl (lv_at hl 1 rfl) ?_
  refine va_alen hx hb hK hP 6 2 rfl rfl (v := (9 : Int32)) rfl dX5_look_6 ?_
  refine lv_icmp_ge (tgt := 16) hx hb dX5_look_7 (by decide) (fun q => absurd q (by decide)) (fun _ => ?_)
  refine lv_aload_n hx hb dX5_look_10 rfl (lv_at hl 1 rfl) ?_
  refine lv_iload_n hx hb dX5_look_11 rfl (lv_at hl 2 rfl) ?_
  refine va_aldq hx hb hK hP 6 2 rfl rfl (vp_in_iff.mpr (by decide)) dX5_look_12 ?_
  refine W.eq (g2 := F0 m 13 ls [.ref (oo 7)]) rfl ?_
  refine lv_ifnonnull (tgt := 17) hx hb dX5_look_13 (by decide) ?_
  refine lv_aload_n hx hb dX5_look_17 rfl (lv_at hl 1 rfl) ?_
  refine lv_iload_n hx hb dX5_look_18 rfl (lv_at hl 2 rfl) ?_
  refine va_aldq hx hb hK hP 6 2 rfl rfl (vp_in_iff.mpr (by decide)) dX5_look_19 ?_
  refine W.eq (g2 := F0 m 20 ls [.ref (oo 7)]) rfl ?_
  refine lv_astore_n (lv' := [(3, .ref (oo 7)), (0, .ref So), (1, .ref ra), (2, .int (7 : Int32))]) hx hb dX5_look_20 rfl hl (by decide) rfl (fun ls hl => ?_)
  refine lv_aload_n hx hb dX5_look_21 rfl (lv_at hl 0 rfl) ?_
  obtain ⟨Os_1, g2, h⟩ := zb1_s h
  have hFc := va_free (wc := (zwO (oo 7) (os 7))) hD hS hA [14] rfl
  refine zcall_v (w2 := (zwS cI So Sp Go Ss Sa ++ zwG cI Go Gp Gs Ga ++ zwR cO ra oo ++ zwO (oo 0) (os 0) ++ zwO (oo 1) (os 1) ++ zwO (oo 2) (os 2) ++ zwO (oo 3) (os 3) ++ zwO (oo 4) (os 4) ++ zwO (oo 5) (os 5) ++ zwO (oo 6) (os 6) ++ zwO (oo 7) Os_1 ++ zwO (oo 8) (os 8))) (va_runV (As := []) (rest := []) ⟨hx, hb, hml, hown, hts⟩ (c_X1_begin l D cI cB cO (oo 7) (os 7) _ _ g2) (cwV 0 hts gX5_look_X1_begin rfl rfl rfl kV_X1_begin ⟨Nat.le_trans (Nat.le_of_ble_eq_true rfl) hRf, Nat.le_trans (Nat.le_of_ble_eq_true rfl) hRl⟩) (zpreV hK hP hD hS hE hFc [14] rfl rfl 14 (ci := 1) rfl rfl []) rfl rfl hl.1 rfl (lv_room (Nat.le_of_ble_eq_true rfl)) dX5_look_22 ⟨Nat.zero_le _, Nat.zero_le _⟩) hP hD hS hFc [14] [0, 1, 2, 3, 4, 5, 6, 7, 8, 9, 10, 11, 12, 13, 15] [0, 1, 2, 3, 4, 5, 6, 7, 8, 9, 10, 11, 12, 13, 15, 14] 16 rfl rfl rfl rfl (fun H locs hP hD hS => ?_)
  refine lv_iload_n hx hb dX5_look_25 rfl (lv_at hl 3 rfl) ?_
  refine lv_iconst (v := (1 : Int32)) hx hb dX5_look_26 (by decide) ?_
  refine lv_iadd hx hb dX5_look_27 ?_
  refine lv_topi (fun k3 ek3 => ?_)
  obtain rfl : k3 = (8 : Int32) := ek3.trans (by decide)
  refine lv_aload_n hx hb dX5_look_28 rfl (lv_at hl 2 rfl) ?_
  refine va_alen hx hb hK hP 6 2 rfl rfl (v := (9 : Int32)) rfl dX5_look_29 ?_
  refine lv_icmp_ge (tgt := 41) hx hb dX5_look_30 (by decide) (fun q => absurd q (by decide)) (fun _ => ?_)
  refine lv_aload_n hx hb dX5_look_33 rfl (lv_at hl 2 rfl) ?_
  refine lv_iload_n hx hb dX5_look_34 rfl (lv_at hl 3 rfl) ?_
  refine lv_iconst (v := (1 : Int32)) hx hb dX5_look_35 (by decide) ?_
  refine lv_iadd hx hb dX5_look_36 ?_
  refine lv_topi (fun k4 ek4 => ?_)
  obtain rfl : k4 = (8 : Int32) := ek4.trans (by decide)
  refine va_aldq hx hb hK hP 6 2 rfl rfl (vp_in_iff.mpr (by decide)) dX5_look_37 ?_
  refine W.eq (g2 := F0 m 38 ls [.ref (oo 8)]) rfl ?_
  refine lv_goto (tgt := 42) hx hb dX5_look_38 (by decide) ?_
  refine lv_astore (lv' := [(4, .ref (oo 8)), (3, .ref (oo 7)), (0, .ref So), (1, .ref ra), (2, .int (7 : Int32))]) hx hb dX5_look_42 hl (by decide) rfl (fun ls hl => ?_)
  refine lv_iconst (v := (0 : Int32)) hx hb dX5_look_44 (by decide) ?_
  refine lv_istore (lv' := [(5, .int (0 : Int32)), (4, .ref (oo 8)), (3, .ref (oo 7)), (0, .ref So), (1, .ref ra), (2, .int (7 : Int32))]) hx hb dX5_look_45 hl (by decide) rfl (fun ls hl => ?_)
  obtain ⟨Ss_161x47, Sa_161x47, os_161x47, i33, h⟩ := zb3_s h
  have KX161 : ∀ (H : Heap) (locs : List Loc) (ls : Array Slot), va_P D vwCl (zwS cI So Sp Go Ss_161x47 Sa_161x47 ++ zwG cI Go Gp Gs Ga ++ zwR cO ra oo ++ zwO (oo 0) (os_161x47 0) ++ zwO (oo 1) (os_161x47 1) ++ zwO (oo 2) (os_161x47 2) ++ zwO (oo 3) (os_161x47 3) ++ zwO (oo 4) (os_161x47 4) ++ zwO (oo 5) (os_161x47 5) ++ zwO (oo 6) (os_161x47 6) ++ zwO (oo 7) (os_161x47 7) ++ zwO (oo 8) (os_161x47 8)) H → va_D A (zwS cI So Sp Go Ss_161x47 Sa_161x47 ++ zwG cI Go Gp Gs Ga ++ zwR cO ra oo ++ zwO (oo 0) (os_161x47 0) ++ zwO (oo 1) (os_161x47 1) ++ zwO (oo 2) (os_161x47 2) ++ zwO (oo 3) (os_161x47 3) ++ zwO (oo 4) (os_161x47 4) ++ zwO (oo 5) (os_161x47 5) ++ zwO (oo 6) (os_161x47 6) ++ zwO (oo 7) (os_161x47 7) ++ zwO (oo 8) (os_161x47 8)) → va_S A s.heap H locs → lv_has ls 10 [(0, .ref So), (3, .ref (oo 7))] → W p l e R s m args below meth c H locs 0 0 Q (F0 m 161 ls []) := by
    intro H locs ls hP hD hS hl
    refine lv_aload_n hx hb dX5_look_161 rfl (lv_at hl 1 rfl) ?_
    refine lv_aload_n hx hb dX5_look_162 rfl (lv_at hl 0 rfl) ?_
    refine va_getN (D := D) (ci := 4) (v := .int (Ss_161x47 3)) (C := RX4) (T := TX4) (N := 8) hx hb hts inX4 hown hK hP 0 rfl rfl 3 (by decide) lk150 (fun _ h9 => h9) rfl dX5_look_163 ?_
    refine lv_aload_n hx hb dX5_look_166 rfl (lv_at hl 0 rfl) ?_
    obtain ⟨r29, g30, h⟩ := zb1_s h
    have hFc := va_free (wc := (zwS cI So Sp Go Ss_161x47 Sa_161x47 ++ zwG cI Go Gp Gs Ga)) hD hS hA [0, 1, 2, 3, 4, 5] rfl
    refine zcall_i (w2 := (zwS cI So Sp Go Ss_161x47 Sa_161x47 ++ zwG cI Go Gp Gs Ga ++ zwR cO ra oo ++ zwO (oo 0) (os_161x47 0) ++ zwO (oo 1) (os_161x47 1) ++ zwO (oo 2) (os_161x47 2) ++ zwO (oo 3) (os_161x47 3) ++ zwO (oo 4) (os_161x47 4) ++ zwO (oo 5) (os_161x47 5) ++ zwO (oo 6) (os_161x47 6) ++ zwO (oo 7) (os_161x47 7) ++ zwO (oo 8) (os_161x47 8))) (va_runV (As := []) (rest := [.int (Ss_161x47 3), .ref (oo 7)]) ⟨hx, hb, hml, hown, hts⟩ (c_X4_aloneBit l D cI cB cO So Sp Go Gp Ss_161x47 Sa_161x47 Gs Ga _ _ g30) (cwV 0 hts gX5_look_X4_aloneBit rfl rfl rfl kV_X4_aloneBit ⟨Nat.le_trans (Nat.le_of_ble_eq_true rfl) hRf, Nat.le_trans (Nat.le_of_ble_eq_true rfl) hRl⟩) (zpreV hK hP hD hS hE hFc [0, 1, 2, 3, 4, 5] rfl rfl 0 (ci := 4) rfl rfl []) rfl rfl hl.1 rfl (lv_room (Nat.le_of_ble_eq_true rfl)) dX5_look_167 ⟨Nat.zero_le _, Nat.zero_le _⟩) hP hD hS hFc [0, 1, 2, 3, 4, 5] [6, 7, 8, 9, 10, 11, 12, 13, 14, 15] [10, 11, 12, 13, 14, 15, 0, 1, 2, 3, 4, 5, 6, 7, 8, 9] 16 rfl rfl rfl rfl (fun H locs hP hD hS => ?_)
    obtain ⟨Os_31, g32, h⟩ := zb1_s h
    have hFc := va_free (wc := (zwO (oo 7) (os_161x47 7))) hD hS hA [14] rfl
    refine zcall_v (w2 := (zwS cI So Sp Go Ss_161x47 Sa_161x47 ++ zwG cI Go Gp Gs Ga ++ zwR cO ra oo ++ zwO (oo 0) (os_161x47 0) ++ zwO (oo 1) (os_161x47 1) ++ zwO (oo 2) (os_161x47 2) ++ zwO (oo 3) (os_161x47 3) ++ zwO (oo 4) (os_161x47 4) ++ zwO (oo 5) (os_161x47 5) ++ zwO (oo 6) (os_161x47 6) ++ zwO (oo 7) Os_31 ++ zwO (oo 8) (os_161x47 8))) (va_runV (As := [.int (Ss_161x47 3), .int r29]) (rest := []) ⟨hx, hb, hml, hown, hts⟩ (c_X1_end l D cI cB cO (oo 7) (os_161x47 7) (Ss_161x47 3) r29 _ _ g32) (cwV 2 hts gX5_look_X1_end rfl rfl rfl kV_X1_end ⟨Nat.le_trans (Nat.le_of_ble_eq_true rfl) hRf, Nat.le_trans (Nat.le_of_ble_eq_true rfl) hRl⟩) (zpreV hK hP hD hS hE hFc [14] rfl rfl 14 (ci := 1) rfl rfl [.int (Ss_161x47 3), .int r29]) rfl rfl hl.1 rfl (lv_room (Nat.le_of_ble_eq_true rfl)) dX5_look_170 ⟨Nat.zero_le _, Nat.zero_le _⟩) hP hD hS hFc [14] [0, 1, 2, 3, 4, 5, 6, 7, 8, 9, 10, 11, 12, 13, 15] [0, 1, 2, 3, 4, 5, 6, 7, 8, 9, 10, 11, 12, 13, 15, 14] 16 rfl rfl rfl rfl (fun H locs hP hD hS => ?_)
    cases zend h
    exact hq hP hD hS dX5_look_173
  clear h
  refine zi4_ind (P := (fun (x5_47h : Int32) (Ss_47h : Nat → Int32) (Sa_47h : Nat → Nat → Int32) (os_47h : Nat → Nat → Int32) => ∀ (H : Heap) (locs : List Loc) (ls : Array Slot), va_P D vwCl (zwS cI So Sp Go Ss_47h Sa_47h ++ zwG cI Go Gp Gs Ga ++ zwR cO ra oo ++ zwO (oo 0) (os_47h 0) ++ zwO (oo 1) (os_47h 1) ++ zwO (oo 2) (os_47h 2) ++ zwO (oo 3) (os_47h 3) ++ zwO (oo 4) (os_47h 4) ++ zwO (oo 5) (os_47h 5) ++ zwO (oo 6) (os_47h 6) ++ zwO (oo 7) (os_47h 7) ++ zwO (oo 8) (os_47h 8)) H → va_D A (zwS cI So Sp Go Ss_47h Sa_47h ++ zwG cI Go Gp Gs Ga ++ zwR cO ra oo ++ zwO (oo 0) (os_47h 0) ++ zwO (oo 1) (os_47h 1) ++ zwO (oo 2) (os_47h 2) ++ zwO (oo 3) (os_47h 3) ++ zwO (oo 4) (os_47h 4) ++ zwO (oo 5) (os_47h 5) ++ zwO (oo 6) (os_47h 6) ++ zwO (oo 7) (os_47h 7) ++ zwO (oo 8) (os_47h 8)) → va_S A s.heap H locs → lv_has ls 10 [(0, .ref So), (1, .ref ra), (2, .int (7 : Int32)), (3, .ref (oo 7)), (4, .ref (oo 8)), (5, .int x5_47h)] → W p l e R s m args below meth c H locs 0 0 Q (F0 m 47 ls []))) ?_ i33 _ _ _ hP hD hS (lv_sub hl [3, 4, 5, 2, 1, 0] rfl)
  clear i33 hP hD hS hl
  intro x5_47h Ss_47h Sa_47h os_47h z47 h zl47 zr47 H locs ls hP hD hS hl
  refine lv_iload hx hb dX5_look_47 (lv_at hl 5 rfl) ?_
  refine lv_aload_n hx hb dX5_look_49 rfl (lv_at hl 0 rfl) ?_
  refine va_getN (D := D) (ci := 4) (v := .int (Ss_47h 2)) (C := RX4) (T := TX4) (N := 8) hx hb hts inX4 hown hK hP 0 rfl rfl 2 (by decide) lk98 (fun _ h9 => h9) rfl dX5_look_50 ?_
  refine lv_icmp_ge (tgt := 161) hx hb dX5_look_53 (by decide) (fun c6 => ?_) (fun c6 => ?_)
  · have h := zif_t c6 h
    cases zr47 _ (zend h).symm
    exact KX161 _ _ _ hP hD hS (lv_sub hl [0, 3] rfl)
  · have h := zif_f c6 h
    refine lv_aload hx hb dX5_look_56 (lv_at hl 4 rfl) ?_
    refine lv_ifnull hx hb dX5_look_58 ?_
    refine lv_iconst (v := (0 : Int32)) hx hb dX5_look_61 (by decide) ?_
    refine lv_istore (lv' := [(6, .int (0 : Int32)), (0, .ref So), (1, .ref ra), (2, .int (7 : Int32)), (3, .ref (oo 7)), (4, .ref (oo 8)), (5, .int x5_47h)]) hx hb dX5_look_62 hl (by decide) rfl (fun ls hl => ?_)
    obtain ⟨Ss_155x64, Sa_155x64, os_155x64, i28, h⟩ := zb3_s h
    have KX155 : ∀ (H : Heap) (locs : List Loc) (ls : Array Slot), va_P D vwCl (zwS cI So Sp Go Ss_155x64 Sa_155x64 ++ zwG cI Go Gp Gs Ga ++ zwR cO ra oo ++ zwO (oo 0) (os_155x64 0) ++ zwO (oo 1) (os_155x64 1) ++ zwO (oo 2) (os_155x64 2) ++ zwO (oo 3) (os_155x64 3) ++ zwO (oo 4) (os_155x64 4) ++ zwO (oo 5) (os_155x64 5) ++ zwO (oo 6) (os_155x64 6) ++ zwO (oo 7) (os_155x64 7) ++ zwO (oo 8) (os_155x64 8)) H → va_D A (zwS cI So Sp Go Ss_155x64 Sa_155x64 ++ zwG cI Go Gp Gs Ga ++ zwR cO ra oo ++ zwO (oo 0) (os_155x64 0) ++ zwO (oo 1) (os_155x64 1) ++ zwO (oo 2) (os_155x64 2) ++ zwO (oo 3) (os_155x64 3) ++ zwO (oo 4) (os_155x64 4) ++ zwO (oo 5) (os_155x64 5) ++ zwO (oo 6) (os_155x64 6) ++ zwO (oo 7) (os_155x64 7) ++ zwO (oo 8) (os_155x64 8)) → va_S A s.heap H locs → lv_has ls 10 [(0, .ref So), (1, .ref ra), (2, .int (7 : Int32)), (3, .ref (oo 7)), (4, .ref (oo 8)), (5, .int x5_47h)] → W p l e R s m args below meth c H locs 0 0 Q (F0 m 155 ls []) := by
      intro H locs ls hP hD hS hl
      refine lv_iinc (v := (x5_47h + (1 : Int32))) (lv' := [(5, .int (x5_47h + (1 : Int32))), (0, .ref So), (1, .ref ra), (2, .int (7 : Int32)), (3, .ref (oo 7)), (4, .ref (oo 8))]) hx hb dX5_look_155 hl (k := 5) rfl rfl (by decide) rfl (fun ls hl => ?_)
      refine lv_goto (tgt := 47) hx hb dX5_look_158 (by decide) ?_
      exact zl47 _ _ _ _ (zend h).symm _ _ _ hP hD hS (lv_sub hl [1, 2, 3, 4, 5, 0] rfl)
    clear h
    refine zi4_ind (P := (fun (x6_64h : Int32) (Ss_64h : Nat → Int32) (Sa_64h : Nat → Nat → Int32) (os_64h : Nat → Nat → Int32) => ∀ (H : Heap) (locs : List Loc) (ls : Array Slot), va_P D vwCl (zwS cI So Sp Go Ss_64h Sa_64h ++ zwG cI Go Gp Gs Ga ++ zwR cO ra oo ++ zwO (oo 0) (os_64h 0) ++ zwO (oo 1) (os_64h 1) ++ zwO (oo 2) (os_64h 2) ++ zwO (oo 3) (os_64h 3) ++ zwO (oo 4) (os_64h 4) ++ zwO (oo 5) (os_64h 5) ++ zwO (oo 6) (os_64h 6) ++ zwO (oo 7) (os_64h 7) ++ zwO (oo 8) (os_64h 8)) H → va_D A (zwS cI So Sp Go Ss_64h Sa_64h ++ zwG cI Go Gp Gs Ga ++ zwR cO ra oo ++ zwO (oo 0) (os_64h 0) ++ zwO (oo 1) (os_64h 1) ++ zwO (oo 2) (os_64h 2) ++ zwO (oo 3) (os_64h 3) ++ zwO (oo 4) (os_64h 4) ++ zwO (oo 5) (os_64h 5) ++ zwO (oo 6) (os_64h 6) ++ zwO (oo 7) (os_64h 7) ++ zwO (oo 8) (os_64h 8)) → va_S A s.heap H locs → lv_has ls 10 [(0, .ref So), (1, .ref ra), (2, .int (7 : Int32)), (3, .ref (oo 7)), (4, .ref (oo 8)), (5, .int x5_47h), (6, .int x6_64h)] → W p l e R s m args below meth c H locs 0 0 Q (F0 m 64 ls []))) ?_ i28 _ _ _ hP hD hS (lv_sub hl [1, 2, 3, 4, 5, 6, 0] rfl)
    clear i28 hP hD hS hl
    intro x6_64h Ss_64h Sa_64h os_64h z64 h zl64 zr64 H locs ls hP hD hS hl
    refine lv_iload hx hb dX5_look_64 (lv_at hl 6 rfl) ?_
    refine lv_bipush (v := (8 : Int32)) hx hb dX5_look_66 (by decide) ?_
    refine lv_icmp_ge (tgt := 155) hx hb dX5_look_68 (by decide) (fun c8 => ?_) (fun c8 => ?_)
    · have h := zif_t c8 h
      cases zr64 _ (zend h).symm
      exact KX155 _ _ _ hP hD hS (lv_sub hl [0, 1, 2, 3, 4, 5] rfl)
    · have h := zif_f c8 h
      refine lv_aload_n hx hb dX5_look_71 rfl (lv_at hl 0 rfl) ?_
      refine lv_iload hx hb dX5_look_72 (lv_at hl 5 rfl) ?_
      refine lv_iload hx hb dX5_look_74 (lv_at hl 6 rfl) ?_
      obtain ⟨r9, g10, h⟩ := zb1_s h
      have hFc := va_free (wc := (zwS cI So Sp Go Ss_64h Sa_64h ++ zwG cI Go Gp Gs Ga)) hD hS hA [0, 1, 2, 3, 4, 5] rfl
      refine zcall_i (w2 := (zwS cI So Sp Go Ss_64h Sa_64h ++ zwG cI Go Gp Gs Ga ++ zwR cO ra oo ++ zwO (oo 0) (os_64h 0) ++ zwO (oo 1) (os_64h 1) ++ zwO (oo 2) (os_64h 2) ++ zwO (oo 3) (os_64h 3) ++ zwO (oo 4) (os_64h 4) ++ zwO (oo 5) (os_64h 5) ++ zwO (oo 6) (os_64h 6) ++ zwO (oo 7) (os_64h 7) ++ zwO (oo 8) (os_64h 8))) (va_runV (As := [.int x5_47h, .int x6_64h]) (rest := []) ⟨hx, hb, hml, hown, hts⟩ (c_X4_targetOf l D cI cB cO So Sp Go Gp Ss_64h Sa_64h Gs Ga x5_47h x6_64h _ _ g10) (cwV 2 hts gX5_look_X4_targetOf rfl rfl rfl kV_X4_targetOf ⟨Nat.le_trans (Nat.le_of_ble_eq_true rfl) hRf, Nat.le_trans (Nat.le_of_ble_eq_true rfl) hRl⟩) (zpreV hK hP hD hS hE hFc [0, 1, 2, 3, 4, 5] rfl rfl 0 (ci := 4) rfl rfl [.int x5_47h, .int x6_64h]) rfl rfl hl.1 rfl (lv_room (Nat.le_of_ble_eq_true rfl)) dX5_look_76 ⟨Nat.zero_le _, Nat.zero_le _⟩) hP hD hS hFc [0, 1, 2, 3, 4, 5] [6, 7, 8, 9, 10, 11, 12, 13, 14, 15] [10, 11, 12, 13, 14, 15, 0, 1, 2, 3, 4, 5, 6, 7, 8, 9] 16 rfl rfl rfl rfl (fun H locs hP hD hS => ?_)
      refine lv_istore (lv' := [(7, .int r9), (0, .ref So), (1, .ref ra), (2, .int (7 : Int32)), (3, .ref (oo 7)), (4, .ref (oo 8)), (5, .int x5_47h), (6, .int x6_64h)]) hx hb dX5_look_79 hl (by decide) rfl (fun ls hl => ?_)
      refine lv_iload hx hb dX5_look_81 (lv_at hl 0 rfl) ?_
      refine lv_iconst (v := (-1 : Int32)) hx hb dX5_look_83 (by decide) ?_
      obtain ⟨Ss_149, Sa_149, os_149, j11, h⟩ := zb3_s h
      have K149 : ∀ (H : Heap) (locs : List Loc) (ls : Array Slot), va_P D vwCl (zwS cI So Sp Go Ss_149 Sa_149 ++ zwG cI Go Gp Gs Ga ++ zwR cO ra oo ++ zwO (oo 0) (os_149 0) ++ zwO (oo 1) (os_149 1) ++ zwO (oo 2) (os_149 2) ++ zwO (oo 3) (os_149 3) ++ zwO (oo 4) (os_149 4) ++ zwO (oo 5) (os_149 5) ++ zwO (oo 6) (os_149 6) ++ zwO (oo 7) (os_149 7) ++ zwO (oo 8) (os_149 8)) H → va_D A (zwS cI So Sp Go Ss_149 Sa_149 ++ zwG cI Go Gp Gs Ga ++ zwR cO ra oo ++ zwO (oo 0) (os_149 0) ++ zwO (oo 1) (os_149 1) ++ zwO (oo 2) (os_149 2) ++ zwO (oo 3) (os_149 3) ++ zwO (oo 4) (os_149 4) ++ zwO (oo 5) (os_149 5) ++ zwO (oo 6) (os_149 6) ++ zwO (oo 7) (os_149 7) ++ zwO (oo 8) (os_149 8)) → va_S A s.heap H locs → lv_has ls 10 [(0, .ref So), (1, .ref ra), (2, .int (7 : Int32)), (3, .ref (oo 7)), (4, .ref (oo 8)), (5, .int x5_47h), (6, .int x6_64h)] → W p l e R s m args below meth c H locs 0 0 Q (F0 m 149 ls []) := by
        intro H locs ls hP hD hS hl
        refine lv_iinc (v := (x6_64h + (1 : Int32))) (lv' := [(6, .int (x6_64h + (1 : Int32))), (0, .ref So), (1, .ref ra), (2, .int (7 : Int32)), (3, .ref (oo 7)), (4, .ref (oo 8)), (5, .int x5_47h)]) hx hb dX5_look_149 hl (k := 6) rfl rfl (by decide) rfl (fun ls hl => ?_)
        refine lv_goto (tgt := 64) hx hb dX5_look_152 (by decide) ?_
        exact zl64 _ _ _ _ (zend h).symm _ _ _ hP hD hS (lv_sub hl [1, 2, 3, 4, 5, 6, 0] rfl)
      clear h
      have h := j11
      clear j11
      refine lv_icmp_eq (tgt := 149) hx hb dX5_look_84 (by decide) (fun c12 => ?_) (fun c12 => ?_)
      · have h := zif_t c12 h
        cases zend h
        exact K149 _ _ _ hP hD hS (lv_sub hl [1, 2, 3, 4, 5, 6, 7] rfl)
      · have h := zif_f c12 h
        refine lv_aload_n hx hb dX5_look_87 rfl (lv_at hl 1 rfl) ?_
        refine lv_iload hx hb dX5_look_88 (lv_at hl 6 rfl) ?_
        obtain ⟨r13, g14, h⟩ := zb1_s h
        have hFc := va_free (wc := (zwS cI So Sp Go Ss_64h Sa_64h)) hD hS hA [0, 1, 2, 3] rfl
        refine zcall_i (w2 := (zwS cI So Sp Go Ss_64h Sa_64h ++ zwG cI Go Gp Gs Ga ++ zwR cO ra oo ++ zwO (oo 0) (os_64h 0) ++ zwO (oo 1) (os_64h 1) ++ zwO (oo 2) (os_64h 2) ++ zwO (oo 3) (os_64h 3) ++ zwO (oo 4) (os_64h 4) ++ zwO (oo 5) (os_64h 5) ++ zwO (oo 6) (os_64h 6) ++ zwO (oo 7) (os_64h 7) ++ zwO (oo 8) (os_64h 8))) (va_runV (As := [.int x5_47h]) (rest := []) ⟨hx, hb, hml, hown, hts⟩ (c_X4_homeOf l D cI cB cO So Sp Go Ss_64h Sa_64h x5_47h _ _ g14) (cwV 1 hts gX5_look_X4_homeOf rfl rfl rfl kV_X4_homeOf ⟨Nat.le_trans (Nat.le_of_ble_eq_true rfl) hRf, Nat.le_trans (Nat.le_of_ble_eq_true rfl) hRl⟩) (zpreV hK hP hD hS hE hFc [0, 1, 2, 3] rfl rfl 0 (ci := 4) rfl rfl [.int x5_47h]) rfl rfl hl.1 rfl (lv_room (Nat.le_of_ble_eq_true rfl)) dX5_look_90 ⟨Nat.zero_le _, Nat.zero_le _⟩) hP hD hS hFc [0, 1, 2, 3] [4, 5, 6, 7, 8, 9, 10, 11, 12, 13, 14, 15] [12, 13, 14, 15, 0, 1, 2, 3, 4, 5, 6, 7, 8, 9, 10, 11] 16 rfl rfl rfl rfl (fun H locs hP hD hS => ?_)
        refine lv_istore (lv' := [(8, .int r13), (7, .int r9), (0, .ref So), (1, .ref ra), (2, .int (7 : Int32)), (3, .ref (oo 7)), (4, .ref (oo 8)), (5, .int x5_47h), (6, .int x6_64h)]) hx hb dX5_look_93 hl (by decide) rfl (fun ls hl => ?_)
        refine lv_aload_n hx hb dX5_look_95 rfl (lv_at hl 2 rfl) ?_
        refine lv_iload hx hb dX5_look_96 (lv_at hl 7 rfl) ?_
        refine lv_iload hx hb dX5_look_98 (lv_at hl 8 rfl) ?_
        obtain ⟨r15, g16, h⟩ := zb1_s h
        have hFc := va_free (wc := (zwS cI So Sp Go Ss_64h Sa_64h ++ zwG cI Go Gp Gs Ga)) hD hS hA [0, 1, 2, 3, 4, 5] rfl
        refine zcall_i (w2 := (zwS cI So Sp Go Ss_64h Sa_64h ++ zwG cI Go Gp Gs Ga ++ zwR cO ra oo ++ zwO (oo 0) (os_64h 0) ++ zwO (oo 1) (os_64h 1) ++ zwO (oo 2) (os_64h 2) ++ zwO (oo 3) (os_64h 3) ++ zwO (oo 4) (os_64h 4) ++ zwO (oo 5) (os_64h 5) ++ zwO (oo 6) (os_64h 6) ++ zwO (oo 7) (os_64h 7) ++ zwO (oo 8) (os_64h 8))) (va_runV (As := [.int x5_47h, .int x6_64h]) (rest := []) ⟨hx, hb, hml, hown, hts⟩ (c_X4_neighbourOf l D cI cB cO So Sp Go Gp Ss_64h Sa_64h Gs Ga x5_47h x6_64h _ _ g16) (cwV 2 hts gX5_look_X4_neighbourOf rfl rfl rfl kV_X4_neighbourOf ⟨Nat.le_trans (Nat.le_of_ble_eq_true rfl) hRf, Nat.le_trans (Nat.le_of_ble_eq_true rfl) hRl⟩) (zpreV hK hP hD hS hE hFc [0, 1, 2, 3, 4, 5] rfl rfl 0 (ci := 4) rfl rfl [.int x5_47h, .int x6_64h]) rfl rfl hl.1 rfl (lv_room (Nat.le_of_ble_eq_true rfl)) dX5_look_100 ⟨Nat.zero_le _, Nat.zero_le _⟩) hP hD hS hFc [0, 1, 2, 3, 4, 5] [6, 7, 8, 9, 10, 11, 12, 13, 14, 15] [10, 11, 12, 13, 14, 15, 0, 1, 2, 3, 4, 5, 6, 7, 8, 9] 16 rfl rfl rfl rfl (fun H locs hP hD hS => ?_)
        refine lv_istore (lv' := [(9, .int r15), (8, .int r13), (7, .int r9), (0, .ref So), (1, .ref ra), (2, .int (7 : Int32)), (3, .ref (oo 7)), (4, .ref (oo 8)), (5, .int x5_47h), (6, .int x6_64h)]) hx hb dX5_look_103 hl (by decide) rfl (fun ls hl => ?_)
        refine lv_aload_n hx hb dX5_look_105 rfl (lv_at hl 3 rfl) ?_
        refine lv_iload hx hb dX5_look_106 (lv_at hl 8 rfl) ?_
        refine lv_iload hx hb dX5_look_108 (lv_at hl 0 rfl) ?_
        refine lv_iload hx hb dX5_look_110 (lv_at hl 2 rfl) ?_
        obtain ⟨Ss_17, Sa_18, g19, h⟩ := zb2_s h
        have hFc := va_free (wc := (zwS cI So Sp Go Ss_64h Sa_64h ++ zwG cI Go Gp Gs Ga)) hD hS hA [0, 1, 2, 3, 4, 5] rfl
        refine zcall_v (w2 := (zwS cI So Sp Go Ss_17 Sa_18 ++ zwG cI Go Gp Gs Ga ++ zwR cO ra oo ++ zwO (oo 0) (os_64h 0) ++ zwO (oo 1) (os_64h 1) ++ zwO (oo 2) (os_64h 2) ++ zwO (oo 3) (os_64h 3) ++ zwO (oo 4) (os_64h 4) ++ zwO (oo 5) (os_64h 5) ++ zwO (oo 6) (os_64h 6) ++ zwO (oo 7) (os_64h 7) ++ zwO (oo 8) (os_64h 8))) (va_runV (As := [.int x5_47h, .int r15, .int r9]) (rest := []) ⟨hx, hb, hml, hown, hts⟩ (c_X4_leap l D cI cB cO So Sp Go Gp Ss_64h Sa_64h Gs Ga x5_47h r15 r9 _ _ _ g19) (cwV 3 hts gX5_look_X4_leap rfl rfl rfl kV_X4_leap ⟨Nat.le_trans (Nat.le_of_ble_eq_true rfl) hRf, Nat.le_trans (Nat.le_of_ble_eq_true rfl) hRl⟩) (zpreV hK hP hD hS hE hFc [0, 1, 2, 3, 4, 5] rfl rfl 0 (ci := 4) rfl rfl [.int x5_47h, .int r15, .int r9]) rfl rfl hl.1 rfl (lv_room (Nat.le_of_ble_eq_true rfl)) dX5_look_112 ⟨Nat.zero_le _, Nat.zero_le _⟩) hP hD hS hFc [0, 1, 2, 3, 4, 5] [6, 7, 8, 9, 10, 11, 12, 13, 14, 15] [10, 11, 12, 13, 14, 15, 0, 1, 2, 3, 4, 5, 6, 7, 8, 9] 16 rfl rfl rfl rfl (fun H locs hP hD hS => ?_)
        refine lv_aload_n hx hb dX5_look_115 rfl (lv_at hl 3 rfl) ?_
        refine lv_aload_n hx hb dX5_look_116 rfl (lv_at hl 4 rfl) ?_
        refine lv_iload_n hx hb dX5_look_117 rfl (lv_at hl 5 rfl) ?_
        refine lv_iconst (v := (1 : Int32)) hx hb dX5_look_118 (by decide) ?_
        refine lv_iadd hx hb dX5_look_119 ?_
        refine lv_topi (fun k20 ek20 => ?_)
        obtain rfl : k20 = (8 : Int32) := ek20.trans (by decide)
        obtain ⟨os_21, g22, h⟩ := zb1_s h
        have hFc := va_free (wc := (zwS cI So Sp Go Ss_17 Sa_18 ++ zwG cI Go Gp Gs Ga ++ zwR cO ra oo ++ zwO (oo 0) (os_64h 0) ++ zwO (oo 1) (os_64h 1) ++ zwO (oo 2) (os_64h 2) ++ zwO (oo 3) (os_64h 3) ++ zwO (oo 4) (os_64h 4) ++ zwO (oo 5) (os_64h 5) ++ zwO (oo 6) (os_64h 6) ++ zwO (oo 7) (os_64h 7) ++ zwO (oo 8) (os_64h 8))) hD hS hA [0, 1, 2, 3, 4, 5, 6, 7, 8, 9, 10, 11, 12, 13, 14, 15] rfl
        refine zcall_v (w2 := (zwS cI So Sp Go Ss_17 Sa_18 ++ zwG cI Go Gp Gs Ga ++ zwR cO ra oo ++ zwO (oo 0) (os_21 0) ++ zwO (oo 1) (os_21 1) ++ zwO (oo 2) (os_21 2) ++ zwO (oo 3) (os_21 3) ++ zwO (oo 4) (os_21 4) ++ zwO (oo 5) (os_21 5) ++ zwO (oo 6) (os_21 6) ++ zwO (oo 7) (os_21 7) ++ zwO (oo 8) (os_21 8))) (va_runS (As := [.ref So, .ref ra, .int (8 : Int32)]) (rest := []) ⟨hx, hb, hml, hown, hts⟩ (c_X5_look_8 l D cI cB cO So Sp Go Gp ra oo Ss_17 Sa_18 Gs Ga os_64h _ _ g22) (va_cwS 3 hts gX5_look_X5_look rfl rfl rfl kS_X5_look ⟨Nat.le_trans (Nat.le_of_ble_eq_true rfl) hRf, Nat.le_trans (Nat.le_of_ble_eq_true rfl) hRl⟩) (zpreS hK hP hD hS hE hFc [0, 1, 2, 3, 4, 5, 6, 7, 8, 9, 10, 11, 12, 13, 14, 15] rfl rfl [.ref So, .ref ra, .int (8 : Int32)]) rfl rfl hl.1 rfl (lv_room (Nat.le_of_ble_eq_true rfl)) dX5_look_120 ⟨Nat.zero_le _, Nat.zero_le _⟩) hP hD hS hFc [0, 1, 2, 3, 4, 5, 6, 7, 8, 9, 10, 11, 12, 13, 14, 15] [] [0, 1, 2, 3, 4, 5, 6, 7, 8, 9, 10, 11, 12, 13, 14, 15] 16 rfl rfl rfl rfl (fun H locs hP hD hS => ?_)
        refine lv_aload_n hx hb dX5_look_123 rfl (lv_at hl 3 rfl) ?_
        refine lv_iload hx hb dX5_look_124 (lv_at hl 8 rfl) ?_
        refine lv_iload hx hb dX5_look_126 (lv_at hl 1 rfl) ?_
        refine lv_iload hx hb dX5_look_128 (lv_at hl 0 rfl) ?_
        refine lv_iload hx hb dX5_look_130 (lv_at hl 9 rfl) ?_
        obtain ⟨Ss_23, Sa_24, g25, h⟩ := zb2_s h
        have hFc := va_free (wc := (zwS cI So Sp Go Ss_17 Sa_18 ++ zwG cI Go Gp Gs Ga)) hD hS hA [0, 1, 2, 3, 4, 5] rfl
        refine zcall_v (w2 := (zwS cI So Sp Go Ss_23 Sa_24 ++ zwG cI Go Gp Gs Ga ++ zwR cO ra oo ++ zwO (oo 0) (os_21 0) ++ zwO (oo 1) (os_21 1) ++ zwO (oo 2) (os_21 2) ++ zwO (oo 3) (os_21 3) ++ zwO (oo 4) (os_21 4) ++ zwO (oo 5) (os_21 5) ++ zwO (oo 6) (os_21 6) ++ zwO (oo 7) (os_21 7) ++ zwO (oo 8) (os_21 8))) (va_runV (As := [.int x5_47h, .int r13, .int r15, .int x6_64h]) (rest := []) ⟨hx, hb, hml, hown, hts⟩ (c_X4_takeBack l D cI cB cO So Sp Go Gp Ss_17 Sa_18 Gs Ga x5_47h r13 r15 x6_64h _ _ _ g25) (cwV 4 hts gX5_look_X4_takeBack rfl rfl rfl kV_X4_takeBack ⟨Nat.le_trans (Nat.le_of_ble_eq_true rfl) hRf, Nat.le_trans (Nat.le_of_ble_eq_true rfl) hRl⟩) (zpreV hK hP hD hS hE hFc [0, 1, 2, 3, 4, 5] rfl rfl 0 (ci := 4) rfl rfl [.int x5_47h, .int r13, .int r15, .int x6_64h]) rfl rfl hl.1 rfl (lv_room (Nat.le_of_ble_eq_true rfl)) dX5_look_132 ⟨Nat.zero_le _, Nat.zero_le _⟩) hP hD hS hFc [0, 1, 2, 3, 4, 5] [6, 7, 8, 9, 10, 11, 12, 13, 14, 15] [10, 11, 12, 13, 14, 15, 0, 1, 2, 3, 4, 5, 6, 7, 8, 9] 16 rfl rfl rfl rfl (fun H locs hP hD hS => ?_)
        refine lv_aload_n hx hb dX5_look_135 rfl (lv_at hl 6 rfl) ?_
        refine lv_bipush (v := (100 : Int32)) hx hb dX5_look_136 (by decide) ?_
        refine lv_iload hx hb dX5_look_138 (lv_at hl 8 rfl) ?_
        refine lv_imul hx hb dX5_look_140 ?_
        refine lv_iload hx hb dX5_look_141 (lv_at hl 2 rfl) ?_
        refine lv_iadd hx hb dX5_look_143 ?_
        refine lv_aload hx hb dX5_look_144 (lv_at hl 7 rfl) ?_
        obtain ⟨Os_26, g27, h⟩ := zb1_s h
        have hFc := va_free (wc := (zwO (oo 7) (os_21 7) ++ zwO (oo 8) (os_21 8))) hD hS hA [14, 15] rfl
        refine zcall_v (w2 := (zwS cI So Sp Go Ss_23 Sa_24 ++ zwG cI Go Gp Gs Ga ++ zwR cO ra oo ++ zwO (oo 0) (os_21 0) ++ zwO (oo 1) (os_21 1) ++ zwO (oo 2) (os_21 2) ++ zwO (oo 3) (os_21 3) ++ zwO (oo 4) (os_21 4) ++ zwO (oo 5) (os_21 5) ++ zwO (oo 6) (os_21 6) ++ zwO (oo 7) Os_26 ++ zwO (oo 8) (os_21 8))) (va_runV (As := [.int (((100 : Int32) * x5_47h) + r9), .ref (oo 8)]) (rest := []) ⟨hx, hb, hml, hown, hts⟩ (c_X1_take l D cI cB cO (oo 7) (oo 8) (os_21 7) (os_21 8) (((100 : Int32) * x5_47h) + r9) _ _ g27) (cwV 2 hts gX5_look_X1_take rfl rfl rfl kV_X1_take ⟨Nat.le_trans (Nat.le_of_ble_eq_true rfl) hRf, Nat.le_trans (Nat.le_of_ble_eq_true rfl) hRl⟩) (zpreV hK hP hD hS hE hFc [14, 15] rfl rfl 14 (ci := 1) rfl rfl [.int (((100 : Int32) * x5_47h) + r9), .ref (oo 8)]) rfl rfl hl.1 rfl (lv_room (Nat.le_of_ble_eq_true rfl)) dX5_look_146 ⟨Nat.zero_le _, Nat.zero_le _⟩) hP hD hS hFc [14, 15] [0, 1, 2, 3, 4, 5, 6, 7, 8, 9, 10, 11, 12, 13] [0, 1, 2, 3, 4, 5, 6, 7, 8, 9, 10, 11, 12, 13, 14, 15] 16 rfl rfl rfl rfl (fun H locs hP hD hS => ?_)
        cases zend h
        exact K149 _ _ _ hP hD hS (lv_sub hl [3, 4, 5, 6, 7, 8, 9] rfl)
set_option maxHeartbeats 4000000 in
set_option maxRecDepth 100000 in
theorem c_X5_look_6 (l : Launch) (D : va_G) (cI cB cO : ClassId) (So : Nat) (Sp : Nat → Nat) (Go : Nat) (Gp : Nat → Nat) (ra : Nat) (oo : Nat → Nat) (Ss : Nat → Int32) (Sa : Nat → Nat → Int32) (Gs : Nat → Int32) (Ga : Nat → Nat → Int32) (os : Nat → Nat → Int32)  (Ss' : Nat → Int32) (Sa' : Nat → Nat → Int32) (os' : Nat → Nat → Int32) (sz : Nat) (h : fX5_look_6 Ss Sa Gs Ga os = some (Ss', Sa', os')) : Met l yX5_look wsX5_look ({ frames := 5, cells := 0, slots := 0, locals := 123 } : Room) (va_Pc [.ref So, .ref ra, .int (6 : Int32)] (zPre D (zTY cI cB cO) (zwS cI So Sp Go Ss Sa ++ zwG cI Go Gp Gs Ga ++ zwR cO ra oo ++ zwO (oo 0) (os 0) ++ zwO (oo 1) (os 1) ++ zwO (oo 2) (os 2) ++ zwO (oo 3) (os 3) ++ zwO (oo 4) (os 4) ++ zwO (oo 5) (os 5) ++ zwO (oo 6) (os 6) ++ zwO (oo 7) (os 7) ++ zwO (oo 8) (os 8)) sz)) (va_Qv (fun (_ : Unit) => True) (fun _ => zPost D (zTY cI cB cO) (zwS cI So Sp Go Ss' Sa' ++ zwG cI Go Gp Gs Ga ++ zwR cO ra oo ++ zwO (oo 0) (os' 0) ++ zwO (oo 1) (os' 1) ++ zwO (oo 2) (os' 2) ++ zwO (oo 3) (os' 3) ++ zwO (oo 4) (os' 4) ++ zwO (oo 5) (os' 5) ++ zwO (oo 6) (os' 6) ++ zwO (oo 7) (os' 7) ++ zwO (oo 8) (os' 8)) (va_A (zwS cI So Sp Go Ss Sa ++ zwG cI Go Gp Gs Ga ++ zwR cO ra oo ++ zwO (oo 0) (os 0) ++ zwO (oo 1) (os 1) ++ zwO (oo 2) (os 2) ++ zwO (oo 3) (os 3) ++ zwO (oo 4) (os 4) ++ zwO (oo 5) (os 5) ++ zwO (oo 6) (os 6) ++ zwO (oo 7) (os 7) ++ zwO (oo 8) (os 8)) sz)) (va_A (zwS cI So Sp Go Ss Sa ++ zwG cI Go Gp Gs Ga ++ zwR cO ra oo ++ zwO (oo 0) (os 0) ++ zwO (oo 1) (os 1) ++ zwO (oo 2) (os 2) ++ zwO (oo 3) (os 3) ++ zwO (oo 4) (os 4) ++ zwO (oo 5) (os 5) ++ zwO (oo 6) (os 6) ++ zwO (oo 7) (os 7) ++ zwO (oo 8) (os 8)) sz)) 0 0 (va_A (zwS cI So Sp Go Ss Sa ++ zwG cI Go Gp Gs Ga ++ zwR cO ra oo ++ zwO (oo 0) (os 0) ++ zwO (oo 1) (os 1) ++ zwO (oo 2) (os 2) ++ zwO (oo 3) (os 3) ++ zwO (oo 4) (os 4) ++ zwO (oo 5) (os 5) ++ zwO (oo 6) (os 6) ++ zwO (oo 7) (os 7) ++ zwO (oo 8) (os 8)) sz) := by
  unfold fX5_look_6 at h
  refine zmet_v (cc := cX5_look) (maxL := 10) (by decide) rfl (Nat.le_of_ble_eq_true rfl) rfl rfl ?_
  intro p e s m args below meth c R Q A ls hx hb hts hown hml hK hP hD hE hA hS hRf hRl hl hq
  have hown : s.vm.findClass RX5 = some m.cls := hown
  have hl : lv_has ls 10 [(0, .ref So), (1, .ref ra), (2, .int (6 : Int32))] := hl
  have inX4 : ∀ w ∈ u_ws RX4 TX4 8, w ∈ wsX5_look := by decide +kernel
  have lk98 : (Cond.fieldLinkNest RX5 98 "PegField$State" "pegs" "I" "PegField").before args s = true := hE.2.use (by decide +kernel)
  have lk150 : (Cond.fieldLinkNest RX5 150 "PegField$State" "onBoard" "I" "PegField").before args s = true := hE.2.use (by decide +kernel)
  refine lv_iload_n hx hb dX5_look_0 rfl (lv_at hl 2 rfl) ?_
  refine lv_if_lt (tgt := 16) hx hb dX5_look_1 (by decide) (fun q => absurd q (by decide)) (fun _ => ?_)
  refine lv_iload_n hx hb dX5_look_4 rfl (lv_at hl 2 rfl) ?_
  refine lv_aload_n hx hb dX5_look_5 rfl (lv_at hl 1 rfl) ?_
  refine va_alen hx hb hK hP 6 2 rfl rfl (v := (9 : Int32)) rfl dX5_look_6 ?_
  refine lv_icmp_ge (tgt := 16) hx hb dX5_look_7 (by decide) (fun q => absurd q (by decide)) (fun _ => ?_)
  refine lv_aload_n hx hb dX5_look_10 rfl (lv_at hl 1 rfl) ?_
  refine lv_iload_n hx hb dX5_look_11 rfl (lv_at hl 2 rfl) ?_
  refine va_aldq hx hb hK hP 6 2 rfl rfl (vp_in_iff.mpr (by decide)) dX5_look_12 ?_
  refine W.eq (g2 := F0 m 13 ls [.ref (oo 6)]) rfl ?_
  refine lv_ifnonnull (tgt := 17) hx hb dX5_look_13 (by decide) ?_
  refine lv_aload_n hx hb dX5_look_17 rfl (lv_at hl 1 rfl) ?_
  refine lv_iload_n hx hb dX5_look_18 rfl (lv_at hl 2 rfl) ?_
  refine va_aldq hx hb hK hP 6 2 rfl rfl (vp_in_iff.mpr (by decide)) dX5_look_19 ?_
  refine W.eq (g2 := F0 m 20 ls [.ref (oo 6)]) rfl ?_
  refine lv_astore_n (lv' := [(3, .ref (oo 6)), (0, .ref So), (1, .ref ra), (2, .int (6 : Int32))]) hx hb dX5_look_20 rfl hl (by decide) rfl (fun ls hl => ?_)
  refine lv_aload_n hx hb dX5_look_21 rfl (lv_at hl 0 rfl) ?_
  obtain ⟨Os_1, g2, h⟩ := zb1_s h
  have hFc := va_free (wc := (zwO (oo 6) (os 6))) hD hS hA [13] rfl
  refine zcall_v (w2 := (zwS cI So Sp Go Ss Sa ++ zwG cI Go Gp Gs Ga ++ zwR cO ra oo ++ zwO (oo 0) (os 0) ++ zwO (oo 1) (os 1) ++ zwO (oo 2) (os 2) ++ zwO (oo 3) (os 3) ++ zwO (oo 4) (os 4) ++ zwO (oo 5) (os 5) ++ zwO (oo 6) Os_1 ++ zwO (oo 7) (os 7) ++ zwO (oo 8) (os 8))) (va_runV (As := []) (rest := []) ⟨hx, hb, hml, hown, hts⟩ (c_X1_begin l D cI cB cO (oo 6) (os 6) _ _ g2) (cwV 0 hts gX5_look_X1_begin rfl rfl rfl kV_X1_begin ⟨Nat.le_trans (Nat.le_of_ble_eq_true rfl) hRf, Nat.le_trans (Nat.le_of_ble_eq_true rfl) hRl⟩) (zpreV hK hP hD hS hE hFc [13] rfl rfl 13 (ci := 1) rfl rfl []) rfl rfl hl.1 rfl (lv_room (Nat.le_of_ble_eq_true rfl)) dX5_look_22 ⟨Nat.zero_le _, Nat.zero_le _⟩) hP hD hS hFc [13] [0, 1, 2, 3, 4, 5, 6, 7, 8, 9, 10, 11, 12, 14, 15] [0, 1, 2, 3, 4, 5, 6, 7, 8, 9, 10, 11, 12, 15, 13, 14] 16 rfl rfl rfl rfl (fun H locs hP hD hS => ?_)
  refine lv_iload_n hx hb dX5_look_25 rfl (lv_at hl 3 rfl) ?_
  refine lv_iconst (v := (1 : Int32)) hx hb dX5_look_26 (by decide) ?_
  refine lv_iadd hx hb dX5_look_27 ?_
  refine lv_topi (fun k3 ek3 => ?_)
  obtain rfl : k3 = (7 : Int32) := ek3.trans (by decide)
  refine lv_aload_n hx hb dX5_look_28 rfl (lv_at hl 2 rfl) ?_
  refine va_alen hx hb hK hP 6 2 rfl rfl (v := (9 : Int32)) rfl dX5_look_29 ?_
  refine lv_icmp_ge (tgt := 41) hx hb dX5_look_30 (by decide) (fun q => absurd q (by decide)) (fun _ => ?_)
  refine lv_aload_n hx hb dX5_look_33 rfl (lv_at hl 2 rfl) ?_
  refine lv_iload_n hx hb dX5_look_34 rfl (lv_at hl 3 rfl) ?_
  refine lv_iconst (v := (1 : Int32)) hx hb dX5_look_35 (by decide) ?_
  refine lv_iadd hx hb dX5_look_36 ?_
  refine lv_topi (fun k4 ek4 => ?_)
  obtain rfl : k4 = (7 : Int32) := ek4.trans (by decide)
  refine va_aldq hx hb hK hP 6 2 rfl rfl (vp_in_iff.mpr (by decide)) dX5_look_37 ?_
  refine W.eq (g2 := F0 m 38 ls [.ref (oo 7)]) rfl ?_
  refine lv_goto (tgt := 42) hx hb dX5_look_38 (by decide) ?_
  refine lv_astore (lv' := [(4, .ref (oo 7)), (3, .ref (oo 6)), (0, .ref So), (1, .ref ra), (2, .int (6 : Int32))]) hx hb dX5_look_42 hl (by decide) rfl (fun ls hl => ?_)
  refine lv_iconst (v := (0 : Int32)) hx hb dX5_look_44 (by decide) ?_
  refine lv_istore (lv' := [(5, .int (0 : Int32)), (4, .ref (oo 7)), (3, .ref (oo 6)), (0, .ref So), (1, .ref ra), (2, .int (6 : Int32))]) hx hb dX5_look_45 hl (by decide) rfl (fun ls hl => ?_)
  obtain ⟨Ss_161x47, Sa_161x47, os_161x47, i35, h⟩ := zb3_s h
  have KX161 : ∀ (H : Heap) (locs : List Loc) (ls : Array Slot), va_P D vwCl (zwS cI So Sp Go Ss_161x47 Sa_161x47 ++ zwG cI Go Gp Gs Ga ++ zwR cO ra oo ++ zwO (oo 0) (os_161x47 0) ++ zwO (oo 1) (os_161x47 1) ++ zwO (oo 2) (os_161x47 2) ++ zwO (oo 3) (os_161x47 3) ++ zwO (oo 4) (os_161x47 4) ++ zwO (oo 5) (os_161x47 5) ++ zwO (oo 6) (os_161x47 6) ++ zwO (oo 7) (os_161x47 7) ++ zwO (oo 8) (os_161x47 8)) H → va_D A (zwS cI So Sp Go Ss_161x47 Sa_161x47 ++ zwG cI Go Gp Gs Ga ++ zwR cO ra oo ++ zwO (oo 0) (os_161x47 0) ++ zwO (oo 1) (os_161x47 1) ++ zwO (oo 2) (os_161x47 2) ++ zwO (oo 3) (os_161x47 3) ++ zwO (oo 4) (os_161x47 4) ++ zwO (oo 5) (os_161x47 5) ++ zwO (oo 6) (os_161x47 6) ++ zwO (oo 7) (os_161x47 7) ++ zwO (oo 8) (os_161x47 8)) → va_S A s.heap H locs → lv_has ls 10 [(0, .ref So), (3, .ref (oo 6))] → W p l e R s m args below meth c H locs 0 0 Q (F0 m 161 ls []) := by
    intro H locs ls hP hD hS hl
    refine lv_aload_n hx hb dX5_look_161 rfl (lv_at hl 1 rfl) ?_
    refine lv_aload_n hx hb dX5_look_162 rfl (lv_at hl 0 rfl) ?_
    refine va_getN (D := D) (ci := 4) (v := .int (Ss_161x47 3)) (C := RX4) (T := TX4) (N := 8) hx hb hts inX4 hown hK hP 0 rfl rfl 3 (by decide) lk150 (fun _ h9 => h9) rfl dX5_look_163 ?_
    refine lv_aload_n hx hb dX5_look_166 rfl (lv_at hl 0 rfl) ?_
    obtain ⟨r31, g32, h⟩ := zb1_s h
    have hFc := va_free (wc := (zwS cI So Sp Go Ss_161x47 Sa_161x47 ++ zwG cI Go Gp Gs Ga)) hD hS hA [0, 1, 2, 3, 4, 5] rfl
    refine zcall_i (w2 := (zwS cI So Sp Go Ss_161x47 Sa_161x47 ++ zwG cI Go Gp Gs Ga ++ zwR cO ra oo ++ zwO (oo 0) (os_161x47 0) ++ zwO (oo 1) (os_161x47 1) ++ zwO (oo 2) (os_161x47 2) ++ zwO (oo 3) (os_161x47 3) ++ zwO (oo 4) (os_161x47 4) ++ zwO (oo 5) (os_161x47 5) ++ zwO (oo 6) (os_161x47 6) ++ zwO (oo 7) (os_161x47 7) ++ zwO (oo 8) (os_161x47 8))) (va_runV (As := []) (rest := [.int (Ss_161x47 3), .ref (oo 6)]) ⟨hx, hb, hml, hown, hts⟩ (c_X4_aloneBit l D cI cB cO So Sp Go Gp Ss_161x47 Sa_161x47 Gs Ga _ _ g32) (cwV 0 hts gX5_look_X4_aloneBit rfl rfl rfl kV_X4_aloneBit ⟨Nat.le_trans (Nat.le_of_ble_eq_true rfl) hRf, Nat.le_trans (Nat.le_of_ble_eq_true rfl) hRl⟩) (zpreV hK hP hD hS hE hFc [0, 1, 2, 3, 4, 5] rfl rfl 0 (ci := 4) rfl rfl []) rfl rfl hl.1 rfl (lv_room (Nat.le_of_ble_eq_true rfl)) dX5_look_167 ⟨Nat.zero_le _, Nat.zero_le _⟩) hP hD hS hFc [0, 1, 2, 3, 4, 5] [6, 7, 8, 9, 10, 11, 12, 13, 14, 15] [10, 11, 12, 13, 14, 15, 0, 1, 2, 3, 4, 5, 6, 7, 8, 9] 16 rfl rfl rfl rfl (fun H locs hP hD hS => ?_)
    obtain ⟨Os_33, g34, h⟩ := zb1_s h
    have hFc := va_free (wc := (zwO (oo 6) (os_161x47 6))) hD hS hA [13] rfl
    refine zcall_v (w2 := (zwS cI So Sp Go Ss_161x47 Sa_161x47 ++ zwG cI Go Gp Gs Ga ++ zwR cO ra oo ++ zwO (oo 0) (os_161x47 0) ++ zwO (oo 1) (os_161x47 1) ++ zwO (oo 2) (os_161x47 2) ++ zwO (oo 3) (os_161x47 3) ++ zwO (oo 4) (os_161x47 4) ++ zwO (oo 5) (os_161x47 5) ++ zwO (oo 6) Os_33 ++ zwO (oo 7) (os_161x47 7) ++ zwO (oo 8) (os_161x47 8))) (va_runV (As := [.int (Ss_161x47 3), .int r31]) (rest := []) ⟨hx, hb, hml, hown, hts⟩ (c_X1_end l D cI cB cO (oo 6) (os_161x47 6) (Ss_161x47 3) r31 _ _ g34) (cwV 2 hts gX5_look_X1_end rfl rfl rfl kV_X1_end ⟨Nat.le_trans (Nat.le_of_ble_eq_true rfl) hRf, Nat.le_trans (Nat.le_of_ble_eq_true rfl) hRl⟩) (zpreV hK hP hD hS hE hFc [13] rfl rfl 13 (ci := 1) rfl rfl [.int (Ss_161x47 3), .int r31]) rfl rfl hl.1 rfl (lv_room (Nat.le_of_ble_eq_true rfl)) dX5_look_170 ⟨Nat.zero_le _, Nat.zero_le _⟩) hP hD hS hFc [13] [0, 1, 2, 3, 4, 5, 6, 7, 8, 9, 10, 11, 12, 14, 15] [0, 1, 2, 3, 4, 5, 6, 7, 8, 9, 10, 11, 12, 15, 13, 14] 16 rfl rfl rfl rfl (fun H locs hP hD hS => ?_)
    cases zend h
    exact hq hP hD hS dX5_look_173
  clear h
  refine zi4_ind (P := (fun (x5_47h : Int32) (Ss_47h : Nat → Int32) (Sa_47h : Nat → Nat → Int32) (os_47h : Nat → Nat → Int32) => ∀ (H : Heap) (locs : List Loc) (ls : Array Slot), va_P D vwCl (zwS cI So Sp Go Ss_47h Sa_47h ++ zwG cI Go Gp Gs Ga ++ zwR cO ra oo ++ zwO (oo 0) (os_47h 0) ++ zwO (oo 1) (os_47h 1) ++ zwO (oo 2) (os_47h 2) ++ zwO (oo 3) (os_47h 3) ++ zwO (oo 4) (os_47h 4) ++ zwO (oo 5) (os_47h 5) ++ zwO (oo 6) (os_47h 6) ++ zwO (oo 7) (os_47h 7) ++ zwO (oo 8) (os_47h 8)) H → va_D A (zwS cI So Sp Go Ss_47h Sa_47h ++ zwG cI Go Gp Gs Ga ++ zwR cO ra oo ++ zwO (oo 0) (os_47h 0) ++ zwO (oo 1) (os_47h 1) ++ zwO (oo 2) (os_47h 2) ++ zwO (oo 3) (os_47h 3) ++ zwO (oo 4) (os_47h 4) ++ zwO (oo 5) (os_47h 5) ++ zwO (oo 6) (os_47h 6) ++ zwO (oo 7) (os_47h 7) ++ zwO (oo 8) (os_47h 8)) → va_S A s.heap H locs → lv_has ls 10 [(0, .ref So), (1, .ref ra), (2, .int (6 : Int32)), (3, .ref (oo 6)), (4, .ref (oo 7)), (5, .int x5_47h)] → W p l e R s m args below meth c H locs 0 0 Q (F0 m 47 ls []))) ?_ i35 _ _ _ hP hD hS (lv_sub hl [3, 4, 5, 2, 1, 0] rfl)
  clear i35 hP hD hS hl
  intro x5_47h Ss_47h Sa_47h os_47h z47 h zl47 zr47 H locs ls hP hD hS hl
  refine lv_iload hx hb dX5_look_47 (lv_at hl 5 rfl) ?_
  refine lv_aload_n hx hb dX5_look_49 rfl (lv_at hl 0 rfl) ?_
  refine va_getN (D := D) (ci := 4) (v := .int (Ss_47h 2)) (C := RX4) (T := TX4) (N := 8) hx hb hts inX4 hown hK hP 0 rfl rfl 2 (by decide) lk98 (fun _ h9 => h9) rfl dX5_look_50 ?_
  refine lv_icmp_ge (tgt := 161) hx hb dX5_look_53 (by decide) (fun c6 => ?_) (fun c6 => ?_)
  · have h := zif_t c6 h
    cases zr47 _ (zend h).symm
    exact KX161 _ _ _ hP hD hS (lv_sub hl [0, 3] rfl)
  · have h := zif_f c6 h
    refine lv_aload hx hb dX5_look_56 (lv_at hl 4 rfl) ?_
    refine lv_ifnull hx hb dX5_look_58 ?_
    refine lv_iconst (v := (0 : Int32)) hx hb dX5_look_61 (by decide) ?_
    refine lv_istore (lv' := [(6, .int (0 : Int32)), (0, .ref So), (1, .ref ra), (2, .int (6 : Int32)), (3, .ref (oo 6)), (4, .ref (oo 7)), (5, .int x5_47h)]) hx hb dX5_look_62 hl (by decide) rfl (fun ls hl => ?_)
    obtain ⟨Ss_155x64, Sa_155x64, os_155x64, i30, h⟩ := zb3_s h
    have KX155 : ∀ (H : Heap) (locs : List Loc) (ls : Array Slot), va_P D vwCl (zwS cI So Sp Go Ss_155x64 Sa_155x64 ++ zwG cI Go Gp Gs Ga ++ zwR cO ra oo ++ zwO (oo 0) (os_155x64 0) ++ zwO (oo 1) (os_155x64 1) ++ zwO (oo 2) (os_155x64 2) ++ zwO (oo 3) (os_155x64 3) ++ zwO (oo 4) (os_155x64 4) ++ zwO (oo 5) (os_155x64 5) ++ zwO (oo 6) (os_155x64 6) ++ zwO (oo 7) (os_155x64 7) ++ zwO (oo 8) (os_155x64 8)) H → va_D A (zwS cI So Sp Go Ss_155x64 Sa_155x64 ++ zwG cI Go Gp Gs Ga ++ zwR cO ra oo ++ zwO (oo 0) (os_155x64 0) ++ zwO (oo 1) (os_155x64 1) ++ zwO (oo 2) (os_155x64 2) ++ zwO (oo 3) (os_155x64 3) ++ zwO (oo 4) (os_155x64 4) ++ zwO (oo 5) (os_155x64 5) ++ zwO (oo 6) (os_155x64 6) ++ zwO (oo 7) (os_155x64 7) ++ zwO (oo 8) (os_155x64 8)) → va_S A s.heap H locs → lv_has ls 10 [(0, .ref So), (1, .ref ra), (2, .int (6 : Int32)), (3, .ref (oo 6)), (4, .ref (oo 7)), (5, .int x5_47h)] → W p l e R s m args below meth c H locs 0 0 Q (F0 m 155 ls []) := by
      intro H locs ls hP hD hS hl
      refine lv_iinc (v := (x5_47h + (1 : Int32))) (lv' := [(5, .int (x5_47h + (1 : Int32))), (0, .ref So), (1, .ref ra), (2, .int (6 : Int32)), (3, .ref (oo 6)), (4, .ref (oo 7))]) hx hb dX5_look_155 hl (k := 5) rfl rfl (by decide) rfl (fun ls hl => ?_)
      refine lv_goto (tgt := 47) hx hb dX5_look_158 (by decide) ?_
      exact zl47 _ _ _ _ (zend h).symm _ _ _ hP hD hS (lv_sub hl [1, 2, 3, 4, 5, 0] rfl)
    clear h
    refine zi4_ind (P := (fun (x6_64h : Int32) (Ss_64h : Nat → Int32) (Sa_64h : Nat → Nat → Int32) (os_64h : Nat → Nat → Int32) => ∀ (H : Heap) (locs : List Loc) (ls : Array Slot), va_P D vwCl (zwS cI So Sp Go Ss_64h Sa_64h ++ zwG cI Go Gp Gs Ga ++ zwR cO ra oo ++ zwO (oo 0) (os_64h 0) ++ zwO (oo 1) (os_64h 1) ++ zwO (oo 2) (os_64h 2) ++ zwO (oo 3) (os_64h 3) ++ zwO (oo 4) (os_64h 4) ++ zwO (oo 5) (os_64h 5) ++ zwO (oo 6) (os_64h 6) ++ zwO (oo 7) (os_64h 7) ++ zwO (oo 8) (os_64h 8)) H → va_D A (zwS cI So Sp Go Ss_64h Sa_64h ++ zwG cI Go Gp Gs Ga ++ zwR cO ra oo ++ zwO (oo 0) (os_64h 0) ++ zwO (oo 1) (os_64h 1) ++ zwO (oo 2) (os_64h 2) ++ zwO (oo 3) (os_64h 3) ++ zwO (oo 4) (os_64h 4) ++ zwO (oo 5) (os_64h 5) ++ zwO (oo 6) (os_64h 6) ++ zwO (oo 7) (os_64h 7) ++ zwO (oo 8) (os_64h 8)) → va_S A s.heap H locs → lv_has ls 10 [(0, .ref So), (1, .ref ra), (2, .int (6 : Int32)), (3, .ref (oo 6)), (4, .ref (oo 7)), (5, .int x5_47h), (6, .int x6_64h)] → W p l e R s m args below meth c H locs 0 0 Q (F0 m 64 ls []))) ?_ i30 _ _ _ hP hD hS (lv_sub hl [1, 2, 3, 4, 5, 6, 0] rfl)
    clear i30 hP hD hS hl
    intro x6_64h Ss_64h Sa_64h os_64h z64 h zl64 zr64 H locs ls hP hD hS hl
    refine lv_iload hx hb dX5_look_64 (lv_at hl 6 rfl) ?_
    refine lv_bipush (v := (8 : Int32)) hx hb dX5_look_66 (by decide) ?_
    refine lv_icmp_ge (tgt := 155) hx hb dX5_look_68 (by decide) (fun c8 => ?_) (fun c8 => ?_)
    · have h := zif_t c8 h
      cases zr64 _ (zend h).symm
      exact KX155 _ _ _ hP hD hS (lv_sub hl [0, 1, 2, 3, 4, 5] rfl)
    · have h := zif_f c8 h
      refine lv_aload_n hx hb dX5_look_71 rfl (lv_at hl 0 rfl) ?_
      refine lv_iload hx hb dX5_look_72 (lv_at hl 5 rfl) ?_
      refine lv_iload hx hb dX5_look_74 (lv_at hl 6 rfl) ?_
      obtain ⟨r9, g10, h⟩ := zb1_s h
      have hFc := va_free (wc := (zwS cI So Sp Go Ss_64h Sa_64h ++ zwG cI Go Gp Gs Ga)) hD hS hA [0, 1, 2, 3, 4, 5] rfl
      refine zcall_i (w2 := (zwS cI So Sp Go Ss_64h Sa_64h ++ zwG cI Go Gp Gs Ga ++ zwR cO ra oo ++ zwO (oo 0) (os_64h 0) ++ zwO (oo 1) (os_64h 1) ++ zwO (oo 2) (os_64h 2) ++ zwO (oo 3) (os_64h 3) ++ zwO (oo 4) (os_64h 4) ++ zwO (oo 5) (os_64h 5) ++ zwO (oo 6) (os_64h 6) ++ zwO (oo 7) (os_64h 7) ++ zwO (oo 8) (os_64h 8))) (va_runV (As := [.int x5_47h, .int x6_64h]) (rest := []) ⟨hx, hb, hml, hown, hts⟩ (c_X4_targetOf l D cI cB cO So Sp Go Gp Ss_64h Sa_64h Gs Ga x5_47h x6_64h _ _ g10) (cwV 2 hts gX5_look_X4_targetOf rfl rfl rfl kV_X4_targetOf ⟨Nat.le_trans (Nat.le_of_ble_eq_true rfl) hRf, Nat.le_trans (Nat.le_of_ble_eq_true rfl) hRl⟩) (zpreV hK hP hD hS hE hFc [0, 1, 2, 3, 4, 5] rfl rfl 0 (ci := 4) rfl rfl [.int x5_47h, .int x6_64h]) rfl rfl hl.1 rfl (lv_room (Nat.le_of_ble_eq_true rfl)) dX5_look_76 ⟨Nat.zero_le _, Nat.zero_le _⟩) hP hD hS hFc [0, 1, 2, 3, 4, 5] [6, 7, 8, 9, 10, 11, 12, 13, 14, 15] [10, 11, 12, 13, 14, 15, 0, 1, 2, 3, 4, 5, 6, 7, 8, 9] 16 rfl rfl rfl rfl (fun H locs hP hD hS => ?_)
      refine lv_istore (lv' := [(7, .int r9), (0, .ref So), (1, .ref ra), (2, .int (6 : Int32)), (3, .ref (oo 6)), (4, .ref (oo 7)), (5, .int x5_47h), (6, .int x6_64h)]) hx hb dX5_look_79 hl (by decide) rfl (fun ls hl => ?_)
      refine lv_iload hx hb dX5_look_81 (lv_at hl 0 rfl) ?_
      refine lv_iconst (v := (-1 : Int32)) hx hb dX5_look_83 (by decide) ?_
      obtain ⟨Ss_149, Sa_149, os_149, j11, h⟩ := zb3_s h
      have K149 : ∀ (H : Heap) (locs : List Loc) (ls : Array Slot), va_P D vwCl (zwS cI So Sp Go Ss_149 Sa_149 ++ zwG cI Go Gp Gs Ga ++ zwR cO ra oo ++ zwO (oo 0) (os_149 0) ++ zwO (oo 1) (os_149 1) ++ zwO (oo 2) (os_149 2) ++ zwO (oo 3) (os_149 3) ++ zwO (oo 4) (os_149 4) ++ zwO (oo 5) (os_149 5) ++ zwO (oo 6) (os_149 6) ++ zwO (oo 7) (os_149 7) ++ zwO (oo 8) (os_149 8)) H → va_D A (zwS cI So Sp Go Ss_149 Sa_149 ++ zwG cI Go Gp Gs Ga ++ zwR cO ra oo ++ zwO (oo 0) (os_149 0) ++ zwO (oo 1) (os_149 1) ++ zwO (oo 2) (os_149 2) ++ zwO (oo 3) (os_149 3) ++ zwO (oo 4) (os_149 4) ++ zwO (oo 5) (os_149 5) ++ zwO (oo 6) (os_149 6) ++ zwO (oo 7) (os_149 7) ++ zwO (oo 8) (os_149 8)) → va_S A s.heap H locs → lv_has ls 10 [(0, .ref So), (1, .ref ra), (2, .int (6 : Int32)), (3, .ref (oo 6)), (4, .ref (oo 7)), (5, .int x5_47h), (6, .int x6_64h)] → W p l e R s m args below meth c H locs 0 0 Q (F0 m 149 ls []) := by
        intro H locs ls hP hD hS hl
        refine lv_iinc (v := (x6_64h + (1 : Int32))) (lv' := [(6, .int (x6_64h + (1 : Int32))), (0, .ref So), (1, .ref ra), (2, .int (6 : Int32)), (3, .ref (oo 6)), (4, .ref (oo 7)), (5, .int x5_47h)]) hx hb dX5_look_149 hl (k := 6) rfl rfl (by decide) rfl (fun ls hl => ?_)
        refine lv_goto (tgt := 64) hx hb dX5_look_152 (by decide) ?_
        exact zl64 _ _ _ _ (zend h).symm _ _ _ hP hD hS (lv_sub hl [1, 2, 3, 4, 5, 6, 0] rfl)
      clear h
      have h := j11
      clear j11
      refine lv_icmp_eq (tgt := 149) hx hb dX5_look_84 (by decide) (fun c12 => ?_) (fun c12 => ?_)
      · have h := zif_t c12 h
        cases zend h
        exact K149 _ _ _ hP hD hS (lv_sub hl [1, 2, 3, 4, 5, 6, 7] rfl)
      · have h := zif_f c12 h
        refine lv_aload_n hx hb dX5_look_87 rfl (lv_at hl 1 rfl) ?_
        refine lv_iload hx hb dX5_look_88 (lv_at hl 6 rfl) ?_
        obtain ⟨r13, g14, h⟩ := zb1_s h
        have hFc := va_free (wc := (zwS cI So Sp Go Ss_64h Sa_64h)) hD hS hA [0, 1, 2, 3] rfl
        refine zcall_i (w2 := (zwS cI So Sp Go Ss_64h Sa_64h ++ zwG cI Go Gp Gs Ga ++ zwR cO ra oo ++ zwO (oo 0) (os_64h 0) ++ zwO (oo 1) (os_64h 1) ++ zwO (oo 2) (os_64h 2) ++ zwO (oo 3) (os_64h 3) ++ zwO (oo 4) (os_64h 4) ++ zwO (oo 5) (os_64h 5) ++ zwO (oo 6) (os_64h 6) ++ zwO (oo 7) (os_64h 7) ++ zwO (oo 8) (os_64h 8))) (va_runV (As := [.int x5_47h]) (rest := []) ⟨hx, hb, hml, hown, hts⟩ (c_X4_homeOf l D cI cB cO So Sp Go Ss_64h Sa_64h x5_47h _ _ g14) (cwV 1 hts gX5_look_X4_homeOf rfl rfl rfl kV_X4_homeOf ⟨Nat.le_trans (Nat.le_of_ble_eq_true rfl) hRf, Nat.le_trans (Nat.le_of_ble_eq_true rfl) hRl⟩) (zpreV hK hP hD hS hE hFc [0, 1, 2, 3] rfl rfl 0 (ci := 4) rfl rfl [.int x5_47h]) rfl rfl hl.1 rfl (lv_room (Nat.le_of_ble_eq_true rfl)) dX5_look_90 ⟨Nat.zero_le _, Nat.zero_le _⟩) hP hD hS hFc [0, 1, 2, 3] [4, 5, 6, 7, 8, 9, 10, 11, 12, 13, 14, 15] [12, 13, 14, 15, 0, 1, 2, 3, 4, 5, 6, 7, 8, 9, 10, 11] 16 rfl rfl rfl rfl (fun H locs hP hD hS => ?_)
        refine lv_istore (lv' := [(8, .int r13), (7, .int r9), (0, .ref So), (1, .ref ra), (2, .int (6 : Int32)), (3, .ref (oo 6)), (4, .ref (oo 7)), (5, .int x5_47h), (6, .int x6_64h)]) hx hb dX5_look_93 hl (by decide) rfl (fun ls hl => ?_)
        refine lv_aload_n hx hb dX5_look_95 rfl (lv_at hl 2 rfl) ?_
        refine lv_iload hx hb dX5_look_96 (lv_at hl 7 rfl) ?_
        refine lv_iload hx hb dX5_look_98 (lv_at hl 8 rfl) ?_
        obtain ⟨r15, g16, h⟩ := zb1_s h
        have hFc := va_free (wc := (zwS cI So Sp Go Ss_64h Sa_64h ++ zwG cI Go Gp Gs Ga)) hD hS hA [0, 1, 2, 3, 4, 5] rfl
        refine zcall_i (w2 := (zwS cI So Sp Go Ss_64h Sa_64h ++ zwG cI Go Gp Gs Ga ++ zwR cO ra oo ++ zwO (oo 0) (os_64h 0) ++ zwO (oo 1) (os_64h 1) ++ zwO (oo 2) (os_64h 2) ++ zwO (oo 3) (os_64h 3) ++ zwO (oo 4) (os_64h 4) ++ zwO (oo 5) (os_64h 5) ++ zwO (oo 6) (os_64h 6) ++ zwO (oo 7) (os_64h 7) ++ zwO (oo 8) (os_64h 8))) (va_runV (As := [.int x5_47h, .int x6_64h]) (rest := []) ⟨hx, hb, hml, hown, hts⟩ (c_X4_neighbourOf l D cI cB cO So Sp Go Gp Ss_64h Sa_64h Gs Ga x5_47h x6_64h _ _ g16) (cwV 2 hts gX5_look_X4_neighbourOf rfl rfl rfl kV_X4_neighbourOf ⟨Nat.le_trans (Nat.le_of_ble_eq_true rfl) hRf, Nat.le_trans (Nat.le_of_ble_eq_true rfl) hRl⟩) (zpreV hK hP hD hS hE hFc [0, 1, 2, 3, 4, 5] rfl rfl 0 (ci := 4) rfl rfl [.int x5_47h, .int x6_64h]) rfl rfl hl.1 rfl (lv_room (Nat.le_of_ble_eq_true rfl)) dX5_look_100 ⟨Nat.zero_le _, Nat.zero_le _⟩) hP hD hS hFc [0, 1, 2, 3, 4, 5] [6, 7, 8, 9, 10, 11, 12, 13, 14, 15] [10, 11, 12, 13, 14, 15, 0, 1, 2, 3, 4, 5, 6, 7, 8, 9] 16 rfl rfl rfl rfl (fun H locs hP hD hS => ?_)
        refine lv_istore (lv' := [(9, .int r15), (8, .int r13), (7, .int r9), (0, .ref So), (1, .ref ra), (2, .int (6 : Int32)), (3, .ref (oo 6)), (4, .ref (oo 7)), (5, .int x5_47h), (6, .int x6_64h)]) hx hb dX5_look_103 hl (by decide) rfl (fun ls hl => ?_)
        refine lv_aload_n hx hb dX5_look_105 rfl (lv_at hl 3 rfl) ?_
        refine lv_iload hx hb dX5_look_106 (lv_at hl 8 rfl) ?_
        refine lv_iload hx hb dX5_look_108 (lv_at hl 0 rfl) ?_
        refine lv_iload hx hb dX5_look_110 (lv_at hl 2 rfl) ?_
        obtain ⟨Ss_17, Sa_18, g19, h⟩ := zb2_s h
        have hFc := va_free (wc := (zwS cI So Sp Go Ss_64h Sa_64h ++ zwG cI Go Gp Gs Ga)) hD hS hA [0, 1, 2, 3, 4, 5] rfl
        refine zcall_v (w2 := (zwS cI So Sp Go Ss_17 Sa_18 ++ zwG cI Go Gp Gs Ga ++ zwR cO ra oo ++ zwO (oo 0) (os_64h 0) ++ zwO (oo 1) (os_64h 1) ++ zwO (oo 2) (os_64h 2) ++ zwO (oo 3) (os_64h 3) ++ zwO (oo 4) (os_64h 4) ++ zwO (oo 5) (os_64h 5) ++ zwO (oo 6) (os_64h 6) ++ zwO (oo 7) (os_64h 7) ++ zwO (oo 8) (os_64h 8))) (va_runV (As := [.int x5_47h, .int r15, .int r9]) (rest := []) ⟨hx, hb, hml, hown, hts⟩ (c_X4_leap l D cI cB cO So Sp Go Gp Ss_64h Sa_64h Gs Ga x5_47h r15 r9 _ _ _ g19) (cwV 3 hts gX5_look_X4_leap rfl rfl rfl kV_X4_leap ⟨Nat.le_trans (Nat.le_of_ble_eq_true rfl) hRf, Nat.le_trans (Nat.le_of_ble_eq_true rfl) hRl⟩) (zpreV hK hP hD hS hE hFc [0, 1, 2, 3, 4, 5] rfl rfl 0 (ci := 4) rfl rfl [.int x5_47h, .int r15, .int r9]) rfl rfl hl.1 rfl (lv_room (Nat.le_of_ble_eq_true rfl)) dX5_look_112 ⟨Nat.zero_le _, Nat.zero_le _⟩) hP hD hS hFc [0, 1, 2, 3, 4, 5] [6, 7, 8, 9, 10, 11, 12, 13, 14, 15] [10, 11, 12, 13, 14, 15, 0, 1, 2, 3, 4, 5, 6, 7, 8, 9] 16 rfl rfl rfl rfl (fun H locs hP hD hS => ?_)
        refine lv_aload_n hx hb dX5_look_115 rfl (lv_at hl 3 rfl) ?_
        refine lv_aload_n hx hb dX5_look_116 rfl (lv_at hl 4 rfl) ?_
        refine lv_iload_n hx hb dX5_look_117 rfl (lv_at hl 5 rfl) ?_
        refine lv_iconst (v := (1 : Int32)) hx hb dX5_look_118 (by decide) ?_
        refine lv_iadd hx hb dX5_look_119 ?_
        refine lv_topi (fun k20 ek20 => ?_)
        obtain rfl : k20 = (7 : Int32) := ek20.trans (by decide)
        obtain ⟨Ss_21, Sa_22, os_23, g24, h⟩ := zb3_s h
        have hFc := va_free (wc := (zwS cI So Sp Go Ss_17 Sa_18 ++ zwG cI Go Gp Gs Ga ++ zwR cO ra oo ++ zwO (oo 0) (os_64h 0) ++ zwO (oo 1) (os_64h 1) ++ zwO (oo 2) (os_64h 2) ++ zwO (oo 3) (os_64h 3) ++ zwO (oo 4) (os_64h 4) ++ zwO (oo 5) (os_64h 5) ++ zwO (oo 6) (os_64h 6) ++ zwO (oo 7) (os_64h 7) ++ zwO (oo 8) (os_64h 8))) hD hS hA [0, 1, 2, 3, 4, 5, 6, 7, 8, 9, 10, 11, 12, 13, 14, 15] rfl
        refine zcall_v (w2 := (zwS cI So Sp Go Ss_21 Sa_22 ++ zwG cI Go Gp Gs Ga ++ zwR cO ra oo ++ zwO (oo 0) (os_23 0) ++ zwO (oo 1) (os_23 1) ++ zwO (oo 2) (os_23 2) ++ zwO (oo 3) (os_23 3) ++ zwO (oo 4) (os_23 4) ++ zwO (oo 5) (os_23 5) ++ zwO (oo 6) (os_23 6) ++ zwO (oo 7) (os_23 7) ++ zwO (oo 8) (os_23 8))) (va_runS (As := [.ref So, .ref ra, .int (7 : Int32)]) (rest := []) ⟨hx, hb, hml, hown, hts⟩ (c_X5_look_7 l D cI cB cO So Sp Go Gp ra oo Ss_17 Sa_18 Gs Ga os_64h _ _ _ _ g24) (va_cwS 3 hts gX5_look_X5_look rfl rfl rfl kS_X5_look ⟨Nat.le_trans (Nat.le_of_ble_eq_true rfl) hRf, Nat.le_trans (Nat.le_of_ble_eq_true rfl) hRl⟩) (zpreS hK hP hD hS hE hFc [0, 1, 2, 3, 4, 5, 6, 7, 8, 9, 10, 11, 12, 13, 14, 15] rfl rfl [.ref So, .ref ra, .int (7 : Int32)]) rfl rfl hl.1 rfl (lv_room (Nat.le_of_ble_eq_true rfl)) dX5_look_120 ⟨Nat.zero_le _, Nat.zero_le _⟩) hP hD hS hFc [0, 1, 2, 3, 4, 5, 6, 7, 8, 9, 10, 11, 12, 13, 14, 15] [] [0, 1, 2, 3, 4, 5, 6, 7, 8, 9, 10, 11, 12, 13, 14, 15] 16 rfl rfl rfl rfl (fun H locs hP hD hS => ?_)
        refine lv_aload_n hx hb dX5_look_123 rfl (lv_at hl 3 rfl) ?_
        refine lv_iload hx hb dX5_look_124 (lv_at hl 8 rfl) ?_
        refine lv_iload hx hb dX5_look_126 (lv_at hl 1 rfl) ?_
        refine lv_iload hx hb dX5_look_128 (lv_at hl 0 rfl) ?_
        refine lv_iload hx hb dX5_look_130 (lv_at hl 9 rfl) ?_
        obtain ⟨Ss_25, Sa_26, g27, h⟩ := zb2_s h
        have hFc := va_free (wc := (zwS cI So Sp Go Ss_21 Sa_22 ++ zwG cI Go Gp Gs Ga)) hD hS hA [0, 1, 2, 3, 4, 5] rfl
        refine zcall_v (w2 := (zwS cI So Sp Go Ss_25 Sa_26 ++ zwG cI Go Gp Gs Ga ++ zwR cO ra oo ++ zwO (oo 0) (os_23 0) ++ zwO (oo 1) (os_23 1) ++ zwO (oo 2) (os_23 2) ++ zwO (oo 3) (os_23 3) ++ zwO (oo 4) (os_23 4) ++ zwO (oo 5) (os_23 5) ++ zwO (oo 6) (os_23 6) ++ zwO (oo 7) (os_23 7) ++ zwO (oo 8) (os_23 8))) (va_runV (As := [.int x5_47h, .int r13, .int r15, .int x6_64h]) (rest := []) ⟨hx, hb, hml, hown, hts⟩ (c_X4_takeBack l D cI cB cO So Sp Go Gp Ss_21 Sa_22 Gs Ga x5_47h r13 r15 x6_64h _ _ _ g27) (cwV 4 hts gX5_look_X4_takeBack rfl rfl rfl kV_X4_takeBack ⟨Nat.le_trans (Nat.le_of_ble_eq_true rfl) hRf, Nat.le_trans (Nat.le_of_ble_eq_true rfl) hRl⟩) (zpreV hK hP hD hS hE hFc [0, 1, 2, 3, 4, 5] rfl rfl 0 (ci := 4) rfl rfl [.int x5_47h, .int r13, .int r15, .int x6_64h]) rfl rfl hl.1 rfl (lv_room (Nat.le_of_ble_eq_true rfl)) dX5_look_132 ⟨Nat.zero_le _, Nat.zero_le _⟩) hP hD hS hFc [0, 1, 2, 3, 4, 5] [6, 7, 8, 9, 10, 11, 12, 13, 14, 15] [10, 11, 12, 13, 14, 15, 0, 1, 2, 3, 4, 5, 6, 7, 8, 9] 16 rfl rfl rfl rfl (fun H locs hP hD hS => ?_)
        refine lv_aload_n hx hb dX5_look_135 rfl (lv_at hl 6 rfl) ?_
        refine lv_bipush (v := (100 : Int32)) hx hb dX5_look_136 (by decide) ?_
        refine lv_iload hx hb dX5_look_138 (lv_at hl 8 rfl) ?_
        refine lv_imul hx hb dX5_look_140 ?_
        refine lv_iload hx hb dX5_look_141 (lv_at hl 2 rfl) ?_
        refine lv_iadd hx hb dX5_look_143 ?_
        refine lv_aload hx hb dX5_look_144 (lv_at hl 7 rfl) ?_
        obtain ⟨Os_28, g29, h⟩ := zb1_s h
        have hFc := va_free (wc := (zwO (oo 6) (os_23 6) ++ zwO (oo 7) (os_23 7))) hD hS hA [13, 14] rfl
        refine zcall_v (w2 := (zwS cI So Sp Go Ss_25 Sa_26 ++ zwG cI Go Gp Gs Ga ++ zwR cO ra oo ++ zwO (oo 0) (os_23 0) ++ zwO (oo 1) (os_23 1) ++ zwO (oo 2) (os_23 2) ++ zwO (oo 3) (os_23 3) ++ zwO (oo 4) (os_23 4) ++ zwO (oo 5) (os_23 5) ++ zwO (oo 6) Os_28 ++ zwO (oo 7) (os_23 7) ++ zwO (oo 8) (os_23 8))) (va_runV (As := [.int (((100 : Int32) * x5_47h) + r9), .ref (oo 7)]) (rest := []) ⟨hx, hb, hml, hown, hts⟩ (c_X1_take l D cI cB cO (oo 6) (oo 7) (os_23 6) (os_23 7) (((100 : Int32) * x5_47h) + r9) _ _ g29) (cwV 2 hts gX5_look_X1_take rfl rfl rfl kV_X1_take ⟨Nat.le_trans (Nat.le_of_ble_eq_true rfl) hRf, Nat.le_trans (Nat.le_of_ble_eq_true rfl) hRl⟩) (zpreV hK hP hD hS hE hFc [13, 14] rfl rfl 13 (ci := 1) rfl rfl [.int (((100 : Int32) * x5_47h) + r9), .ref (oo 7)]) rfl rfl hl.1 rfl (lv_room (Nat.le_of_ble_eq_true rfl)) dX5_look_146 ⟨Nat.zero_le _, Nat.zero_le _⟩) hP hD hS hFc [13, 14] [0, 1, 2, 3, 4, 5, 6, 7, 8, 9, 10, 11, 12, 15] [0, 1, 2, 3, 4, 5, 6, 7, 8, 9, 10, 11, 12, 14, 15, 13] 16 rfl rfl rfl rfl (fun H locs hP hD hS => ?_)
        cases zend h
        exact K149 _ _ _ hP hD hS (lv_sub hl [3, 4, 5, 6, 7, 8, 9] rfl)
set_option maxHeartbeats 4000000 in
set_option maxRecDepth 100000 in
theorem c_X5_look_5 (l : Launch) (D : va_G) (cI cB cO : ClassId) (So : Nat) (Sp : Nat → Nat) (Go : Nat) (Gp : Nat → Nat) (ra : Nat) (oo : Nat → Nat) (Ss : Nat → Int32) (Sa : Nat → Nat → Int32) (Gs : Nat → Int32) (Ga : Nat → Nat → Int32) (os : Nat → Nat → Int32)  (Ss' : Nat → Int32) (Sa' : Nat → Nat → Int32) (os' : Nat → Nat → Int32) (sz : Nat) (h : fX5_look_5 Ss Sa Gs Ga os = some (Ss', Sa', os')) : Met l yX5_look wsX5_look ({ frames := 6, cells := 0, slots := 0, locals := 152 } : Room) (va_Pc [.ref So, .ref ra, .int (5 : Int32)] (zPre D (zTY cI cB cO) (zwS cI So Sp Go Ss Sa ++ zwG cI Go Gp Gs Ga ++ zwR cO ra oo ++ zwO (oo 0) (os 0) ++ zwO (oo 1) (os 1) ++ zwO (oo 2) (os 2) ++ zwO (oo 3) (os 3) ++ zwO (oo 4) (os 4) ++ zwO (oo 5) (os 5) ++ zwO (oo 6) (os 6) ++ zwO (oo 7) (os 7) ++ zwO (oo 8) (os 8)) sz)) (va_Qv (fun (_ : Unit) => True) (fun _ => zPost D (zTY cI cB cO) (zwS cI So Sp Go Ss' Sa' ++ zwG cI Go Gp Gs Ga ++ zwR cO ra oo ++ zwO (oo 0) (os' 0) ++ zwO (oo 1) (os' 1) ++ zwO (oo 2) (os' 2) ++ zwO (oo 3) (os' 3) ++ zwO (oo 4) (os' 4) ++ zwO (oo 5) (os' 5) ++ zwO (oo 6) (os' 6) ++ zwO (oo 7) (os' 7) ++ zwO (oo 8) (os' 8)) (va_A (zwS cI So Sp Go Ss Sa ++ zwG cI Go Gp Gs Ga ++ zwR cO ra oo ++ zwO (oo 0) (os 0) ++ zwO (oo 1) (os 1) ++ zwO (oo 2) (os 2) ++ zwO (oo 3) (os 3) ++ zwO (oo 4) (os 4) ++ zwO (oo 5) (os 5) ++ zwO (oo 6) (os 6) ++ zwO (oo 7) (os 7) ++ zwO (oo 8) (os 8)) sz)) (va_A (zwS cI So Sp Go Ss Sa ++ zwG cI Go Gp Gs Ga ++ zwR cO ra oo ++ zwO (oo 0) (os 0) ++ zwO (oo 1) (os 1) ++ zwO (oo 2) (os 2) ++ zwO (oo 3) (os 3) ++ zwO (oo 4) (os 4) ++ zwO (oo 5) (os 5) ++ zwO (oo 6) (os 6) ++ zwO (oo 7) (os 7) ++ zwO (oo 8) (os 8)) sz)) 0 0 (va_A (zwS cI So Sp Go Ss Sa ++ zwG cI Go Gp Gs Ga ++ zwR cO ra oo ++ zwO (oo 0) (os 0) ++ zwO (oo 1) (os 1) ++ zwO (oo 2) (os 2) ++ zwO (oo 3) (os 3) ++ zwO (oo 4) (os 4) ++ zwO (oo 5) (os 5) ++ zwO (oo 6) (os 6) ++ zwO (oo 7) (os 7) ++ zwO (oo 8) (os 8)) sz) := by
  unfold fX5_look_5 at h
  refine zmet_v (cc := cX5_look) (maxL := 10) (by decide) rfl (Nat.le_of_ble_eq_true rfl) rfl rfl ?_
  intro p e s m args below meth c R Q A ls hx hb hts hown hml hK hP hD hE hA hS hRf hRl hl hq
  have hown : s.vm.findClass RX5 = some m.cls := hown
  have hl : lv_has ls 10 [(0, .ref So), (1, .ref ra), (2, .int (5 : Int32))] := hl
  have inX4 : ∀ w ∈ u_ws RX4 TX4 8, w ∈ wsX5_look := by decide +kernel
  have lk98 : (Cond.fieldLinkNest RX5 98 "PegField$State" "pegs" "I" "PegField").before args s = true := hE.2.use (by decide +kernel)
  have lk150 : (Cond.fieldLinkNest RX5 150 "PegField$State" "onBoard" "I" "PegField").before args s = true := hE.2.use (by decide +kernel)
  refine lv_iload_n hx hb dX5_look_0 rfl (lv_at hl 2 rfl) ?_
  refine lv_if_lt (tgt := 16) hx hb dX5_look_1 (by decide) (fun q => absurd q (by decide)) (fun _ => ?_)
  refine lv_iload_n hx hb dX5_look_4 rfl (lv_at hl 2 rfl) ?_
  refine lv_aload_n hx hb dX5_look_5 rfl (lv_at hl 1 rfl) ?_
  refine va_alen hx hb hK hP 6 2 rfl rfl (v := (9 : Int32)) rfl dX5_look_6 ?_
  refine lv_icmp_ge (tgt := 16) hx hb dX5_look_7 (by decide) (fun q => absurd q (by decide)) (fun _ => ?_)
  refine lv_aload_n hx hb dX5_look_10 rfl (lv_at hl 1 rfl) ?_
  refine lv_iload_n hx hb dX5_look_11 rfl (lv_at hl 2 rfl) ?_
  refine va_aldq hx hb hK hP 6 2 rfl rfl (vp_in_iff.mpr (by decide)) dX5_look_12 ?_
  refine W.eq (g2 := F0 m 13 ls [.ref (oo 5)]) rfl ?_
  refine lv_ifnonnull (tgt := 17) hx hb dX5_look_13 (by decide) ?_
  refine lv_aload_n hx hb dX5_look_17 rfl (lv_at hl 1 rfl) ?_
  refine lv_iload_n hx hb dX5_look_18 rfl (lv_at hl 2 rfl) ?_
  refine va_aldq hx hb hK hP 6 2 rfl rfl (vp_in_iff.mpr (by decide)) dX5_look_19 ?_
  refine W.eq (g2 := F0 m 20 ls [.ref (oo 5)]) rfl ?_
  refine lv_astore_n (lv' := [(3, .ref (oo 5)), (0, .ref So), (1, .ref ra), (2, .int (5 : Int32))]) hx hb dX5_look_20 rfl hl (by decide) rfl (fun ls hl => ?_)
  refine lv_aload_n hx hb dX5_look_21 rfl (lv_at hl 0 rfl) ?_
  obtain ⟨Os_1, g2, h⟩ := zb1_s h
  have hFc := va_free (wc := (zwO (oo 5) (os 5))) hD hS hA [12] rfl
  refine zcall_v (w2 := (zwS cI So Sp Go Ss Sa ++ zwG cI Go Gp Gs Ga ++ zwR cO ra oo ++ zwO (oo 0) (os 0) ++ zwO (oo 1) (os 1) ++ zwO (oo 2) (os 2) ++ zwO (oo 3) (os 3) ++ zwO (oo 4) (os 4) ++ zwO (oo 5) Os_1 ++ zwO (oo 6) (os 6) ++ zwO (oo 7) (os 7) ++ zwO (oo 8) (os 8))) (va_runV (As := []) (rest := []) ⟨hx, hb, hml, hown, hts⟩ (c_X1_begin l D cI cB cO (oo 5) (os 5) _ _ g2) (cwV 0 hts gX5_look_X1_begin rfl rfl rfl kV_X1_begin ⟨Nat.le_trans (Nat.le_of_ble_eq_true rfl) hRf, Nat.le_trans (Nat.le_of_ble_eq_true rfl) hRl⟩) (zpreV hK hP hD hS hE hFc [12] rfl rfl 12 (ci := 1) rfl rfl []) rfl rfl hl.1 rfl (lv_room (Nat.le_of_ble_eq_true rfl)) dX5_look_22 ⟨Nat.zero_le _, Nat.zero_le _⟩) hP hD hS hFc [12] [0, 1, 2, 3, 4, 5, 6, 7, 8, 9, 10, 11, 13, 14, 15] [0, 1, 2, 3, 4, 5, 6, 7, 8, 9, 10, 11, 15, 12, 13, 14] 16 rfl rfl rfl rfl (fun H locs hP hD hS => ?_)
  refine lv_iload_n hx hb dX5_look_25 rfl (lv_at hl 3 rfl) ?_
  refine lv_iconst (v := (1 : Int32)) hx hb dX5_look_26 (by decide) ?_
  refine lv_iadd hx hb dX5_look_27 ?_
  refine lv_topi (fun k3 ek3 => ?_)
  obtain rfl : k3 = (6 : Int32) := ek3.trans (by decide)
  refine lv_aload_n hx hb dX5_look_28 rfl (lv_at hl 2 rfl) ?_
  refine va_alen hx hb hK hP 6 2 rfl rfl (v := (9 : Int32)) rfl dX5_look_29 ?_
  refine lv_icmp_ge (tgt := 41) hx hb dX5_look_30 (by decide) (fun q => absurd q (by decide)) (fun _ => ?_)
  refine lv_aload_n hx hb dX5_look_33 rfl (lv_at hl 2 rfl) ?_
  refine lv_iload_n hx hb dX5_look_34 rfl (lv_at hl 3 rfl) ?_
  refine lv_iconst (v := (1 : Int32)) hx hb dX5_look_35 (by decide) ?_
  refine lv_iadd hx hb dX5_look_36 ?_
  refine lv_topi (fun k4 ek4 => ?_)
  obtain rfl : k4 = (6 : Int32) := ek4.trans (by decide)
  refine va_aldq hx hb hK hP 6 2 rfl rfl (vp_in_iff.mpr (by decide)) dX5_look_37 ?_
  refine W.eq (g2 := F0 m 38 ls [.ref (oo 6)]) rfl ?_
  refine lv_goto (tgt := 42) hx hb dX5_look_38 (by decide) ?_
  refine lv_astore (lv' := [(4, .ref (oo 6)), (3, .ref (oo 5)), (0, .ref So), (1, .ref ra), (2, .int (5 : Int32))]) hx hb dX5_look_42 hl (by decide) rfl (fun ls hl => ?_)
  refine lv_iconst (v := (0 : Int32)) hx hb dX5_look_44 (by decide) ?_
  refine lv_istore (lv' := [(5, .int (0 : Int32)), (4, .ref (oo 6)), (3, .ref (oo 5)), (0, .ref So), (1, .ref ra), (2, .int (5 : Int32))]) hx hb dX5_look_45 hl (by decide) rfl (fun ls hl => ?_)
  obtain ⟨Ss_161x47, Sa_161x47, os_161x47, i35, h⟩ := zb3_s h
  have KX161 : ∀ (H : Heap) (locs : List Loc) (ls : Array Slot), va_P D vwCl (zwS cI So Sp Go Ss_161x47 Sa_161x47 ++ zwG cI Go Gp Gs Ga ++ zwR cO ra oo ++ zwO (oo 0) (os_161x47 0) ++ zwO (oo 1) (os_161x47 1) ++ zwO (oo 2) (os_161x47 2) ++ zwO (oo 3) (os_161x47 3) ++ zwO (oo 4) (os_161x47 4) ++ zwO (oo 5) (os_161x47 5) ++ zwO (oo 6) (os_161x47 6) ++ zwO (oo 7) (os_161x47 7) ++ zwO (oo 8) (os_161x47 8)) H → va_D A (zwS cI So Sp Go Ss_161x47 Sa_161x47 ++ zwG cI Go Gp Gs Ga ++ zwR cO ra oo ++ zwO (oo 0) (os_161x47 0) ++ zwO (oo 1) (os_161x47 1) ++ zwO (oo 2) (os_161x47 2) ++ zwO (oo 3) (os_161x47 3) ++ zwO (oo 4) (os_161x47 4) ++ zwO (oo 5) (os_161x47 5) ++ zwO (oo 6) (os_161x47 6) ++ zwO (oo 7) (os_161x47 7) ++ zwO (oo 8) (os_161x47 8)) → va_S A s.heap H locs → lv_has ls 10 [(0, .ref So), (3, .ref (oo 5))] → W p l e R s m args below meth c H locs 0 0 Q (F0 m 161 ls []) := by
    intro H locs ls hP hD hS hl
    refine lv_aload_n hx hb dX5_look_161 rfl (lv_at hl 1 rfl) ?_
    refine lv_aload_n hx hb dX5_look_162 rfl (lv_at hl 0 rfl) ?_
    refine va_getN (D := D) (ci := 4) (v := .int (Ss_161x47 3)) (C := RX4) (T := TX4) (N := 8) hx hb hts inX4 hown hK hP 0 rfl rfl 3 (by decide) lk150 (fun _ h9 => h9) rfl dX5_look_163 ?_
    refine lv_aload_n hx hb dX5_look_166 rfl (lv_at hl 0 rfl) ?_
    obtain ⟨r31, g32, h⟩ := zb1_s h
    have hFc := va_free (wc := (zwS cI So Sp Go Ss_161x47 Sa_161x47 ++ zwG cI Go Gp Gs Ga)) hD hS hA [0, 1, 2, 3, 4, 5] rfl
    refine zcall_i (w2 := (zwS cI So Sp Go Ss_161x47 Sa_161x47 ++ zwG cI Go Gp Gs Ga ++ zwR cO ra oo ++ zwO (oo 0) (os_161x47 0) ++ zwO (oo 1) (os_161x47 1) ++ zwO (oo 2) (os_161x47 2) ++ zwO (oo 3) (os_161x47 3) ++ zwO (oo 4) (os_161x47 4) ++ zwO (oo 5) (os_161x47 5) ++ zwO (oo 6) (os_161x47 6) ++ zwO (oo 7) (os_161x47 7) ++ zwO (oo 8) (os_161x47 8))) (va_runV (As := []) (rest := [.int (Ss_161x47 3), .ref (oo 5)]) ⟨hx, hb, hml, hown, hts⟩ (c_X4_aloneBit l D cI cB cO So Sp Go Gp Ss_161x47 Sa_161x47 Gs Ga _ _ g32) (cwV 0 hts gX5_look_X4_aloneBit rfl rfl rfl kV_X4_aloneBit ⟨Nat.le_trans (Nat.le_of_ble_eq_true rfl) hRf, Nat.le_trans (Nat.le_of_ble_eq_true rfl) hRl⟩) (zpreV hK hP hD hS hE hFc [0, 1, 2, 3, 4, 5] rfl rfl 0 (ci := 4) rfl rfl []) rfl rfl hl.1 rfl (lv_room (Nat.le_of_ble_eq_true rfl)) dX5_look_167 ⟨Nat.zero_le _, Nat.zero_le _⟩) hP hD hS hFc [0, 1, 2, 3, 4, 5] [6, 7, 8, 9, 10, 11, 12, 13, 14, 15] [10, 11, 12, 13, 14, 15, 0, 1, 2, 3, 4, 5, 6, 7, 8, 9] 16 rfl rfl rfl rfl (fun H locs hP hD hS => ?_)
    obtain ⟨Os_33, g34, h⟩ := zb1_s h
    have hFc := va_free (wc := (zwO (oo 5) (os_161x47 5))) hD hS hA [12] rfl
    refine zcall_v (w2 := (zwS cI So Sp Go Ss_161x47 Sa_161x47 ++ zwG cI Go Gp Gs Ga ++ zwR cO ra oo ++ zwO (oo 0) (os_161x47 0) ++ zwO (oo 1) (os_161x47 1) ++ zwO (oo 2) (os_161x47 2) ++ zwO (oo 3) (os_161x47 3) ++ zwO (oo 4) (os_161x47 4) ++ zwO (oo 5) Os_33 ++ zwO (oo 6) (os_161x47 6) ++ zwO (oo 7) (os_161x47 7) ++ zwO (oo 8) (os_161x47 8))) (va_runV (As := [.int (Ss_161x47 3), .int r31]) (rest := []) ⟨hx, hb, hml, hown, hts⟩ (c_X1_end l D cI cB cO (oo 5) (os_161x47 5) (Ss_161x47 3) r31 _ _ g34) (cwV 2 hts gX5_look_X1_end rfl rfl rfl kV_X1_end ⟨Nat.le_trans (Nat.le_of_ble_eq_true rfl) hRf, Nat.le_trans (Nat.le_of_ble_eq_true rfl) hRl⟩) (zpreV hK hP hD hS hE hFc [12] rfl rfl 12 (ci := 1) rfl rfl [.int (Ss_161x47 3), .int r31]) rfl rfl hl.1 rfl (lv_room (Nat.le_of_ble_eq_true rfl)) dX5_look_170 ⟨Nat.zero_le _, Nat.zero_le _⟩) hP hD hS hFc [12] [0, 1, 2, 3, 4, 5, 6, 7, 8, 9, 10, 11, 13, 14, 15] [0, 1, 2, 3, 4, 5, 6, 7, 8, 9, 10, 11, 15, 12, 13, 14] 16 rfl rfl rfl rfl (fun H locs hP hD hS => ?_)
    cases zend h
    exact hq hP hD hS dX5_look_173
  clear h
  refine zi4_ind (P := (fun (x5_47h : Int32) (Ss_47h : Nat → Int32) (Sa_47h : Nat → Nat → Int32) (os_47h : Nat → Nat → Int32) => ∀ (H : Heap) (locs : List Loc) (ls : Array Slot), va_P D vwCl (zwS cI So Sp Go Ss_47h Sa_47h ++ zwG cI Go Gp Gs Ga ++ zwR cO ra oo ++ zwO (oo 0) (os_47h 0) ++ zwO (oo 1) (os_47h 1) ++ zwO (oo 2) (os_47h 2) ++ zwO (oo 3) (os_47h 3) ++ zwO (oo 4) (os_47h 4) ++ zwO (oo 5) (os_47h 5) ++ zwO (oo 6) (os_47h 6) ++ zwO (oo 7) (os_47h 7) ++ zwO (oo 8) (os_47h 8)) H → va_D A (zwS cI So Sp Go Ss_47h Sa_47h ++ zwG cI Go Gp Gs Ga ++ zwR cO ra oo ++ zwO (oo 0) (os_47h 0) ++ zwO (oo 1) (os_47h 1) ++ zwO (oo 2) (os_47h 2) ++ zwO (oo 3) (os_47h 3) ++ zwO (oo 4) (os_47h 4) ++ zwO (oo 5) (os_47h 5) ++ zwO (oo 6) (os_47h 6) ++ zwO (oo 7) (os_47h 7) ++ zwO (oo 8) (os_47h 8)) → va_S A s.heap H locs → lv_has ls 10 [(0, .ref So), (1, .ref ra), (2, .int (5 : Int32)), (3, .ref (oo 5)), (4, .ref (oo 6)), (5, .int x5_47h)] → W p l e R s m args below meth c H locs 0 0 Q (F0 m 47 ls []))) ?_ i35 _ _ _ hP hD hS (lv_sub hl [3, 4, 5, 2, 1, 0] rfl)
  clear i35 hP hD hS hl
  intro x5_47h Ss_47h Sa_47h os_47h z47 h zl47 zr47 H locs ls hP hD hS hl
  refine lv_iload hx hb dX5_look_47 (lv_at hl 5 rfl) ?_
  refine lv_aload_n hx hb dX5_look_49 rfl (lv_at hl 0 rfl) ?_
  refine va_getN (D := D) (ci := 4) (v := .int (Ss_47h 2)) (C := RX4) (T := TX4) (N := 8) hx hb hts inX4 hown hK hP 0 rfl rfl 2 (by decide) lk98 (fun _ h9 => h9) rfl dX5_look_50 ?_
  refine lv_icmp_ge (tgt := 161) hx hb dX5_look_53 (by decide) (fun c6 => ?_) (fun c6 => ?_)
  · have h := zif_t c6 h
    cases zr47 _ (zend h).symm
    exact KX161 _ _ _ hP hD hS (lv_sub hl [0, 3] rfl)
  · have h := zif_f c6 h
    refine lv_aload hx hb dX5_look_56 (lv_at hl 4 rfl) ?_
    refine lv_ifnull hx hb dX5_look_58 ?_
    refine lv_iconst (v := (0 : Int32)) hx hb dX5_look_61 (by decide) ?_
    refine lv_istore (lv' := [(6, .int (0 : Int32)), (0, .ref So), (1, .ref ra), (2, .int (5 : Int32)), (3, .ref (oo 5)), (4, .ref (oo 6)), (5, .int x5_47h)]) hx hb dX5_look_62 hl (by decide) rfl (fun ls hl => ?_)
    obtain ⟨Ss_155x64, Sa_155x64, os_155x64, i30, h⟩ := zb3_s h
    have KX155 : ∀ (H : Heap) (locs : List Loc) (ls : Array Slot), va_P D vwCl (zwS cI So Sp Go Ss_155x64 Sa_155x64 ++ zwG cI Go Gp Gs Ga ++ zwR cO ra oo ++ zwO (oo 0) (os_155x64 0) ++ zwO (oo 1) (os_155x64 1) ++ zwO (oo 2) (os_155x64 2) ++ zwO (oo 3) (os_155x64 3) ++ zwO (oo 4) (os_155x64 4) ++ zwO (oo 5) (os_155x64 5) ++ zwO (oo 6) (os_155x64 6) ++ zwO (oo 7) (os_155x64 7) ++ zwO (oo 8) (os_155x64 8)) H → va_D A (zwS cI So Sp Go Ss_155x64 Sa_155x64 ++ zwG cI Go Gp Gs Ga ++ zwR cO ra oo ++ zwO (oo 0) (os_155x64 0) ++ zwO (oo 1) (os_155x64 1) ++ zwO (oo 2) (os_155x64 2) ++ zwO (oo 3) (os_155x64 3) ++ zwO (oo 4) (os_155x64 4) ++ zwO (oo 5) (os_155x64 5) ++ zwO (oo 6) (os_155x64 6) ++ zwO (oo 7) (os_155x64 7) ++ zwO (oo 8) (os_155x64 8)) → va_S A s.heap H locs → lv_has ls 10 [(0, .ref So), (1, .ref ra), (2, .int (5 : Int32)), (3, .ref (oo 5)), (4, .ref (oo 6)), (5, .int x5_47h)] → W p l e R s m args below meth c H locs 0 0 Q (F0 m 155 ls []) := by
      intro H locs ls hP hD hS hl
      refine lv_iinc (v := (x5_47h + (1 : Int32))) (lv' := [(5, .int (x5_47h + (1 : Int32))), (0, .ref So), (1, .ref ra), (2, .int (5 : Int32)), (3, .ref (oo 5)), (4, .ref (oo 6))]) hx hb dX5_look_155 hl (k := 5) rfl rfl (by decide) rfl (fun ls hl => ?_)
      refine lv_goto (tgt := 47) hx hb dX5_look_158 (by decide) ?_
      exact zl47 _ _ _ _ (zend h).symm _ _ _ hP hD hS (lv_sub hl [1, 2, 3, 4, 5, 0] rfl)
    clear h
    refine zi4_ind (P := (fun (x6_64h : Int32) (Ss_64h : Nat → Int32) (Sa_64h : Nat → Nat → Int32) (os_64h : Nat → Nat → Int32) => ∀ (H : Heap) (locs : List Loc) (ls : Array Slot), va_P D vwCl (zwS cI So Sp Go Ss_64h Sa_64h ++ zwG cI Go Gp Gs Ga ++ zwR cO ra oo ++ zwO (oo 0) (os_64h 0) ++ zwO (oo 1) (os_64h 1) ++ zwO (oo 2) (os_64h 2) ++ zwO (oo 3) (os_64h 3) ++ zwO (oo 4) (os_64h 4) ++ zwO (oo 5) (os_64h 5) ++ zwO (oo 6) (os_64h 6) ++ zwO (oo 7) (os_64h 7) ++ zwO (oo 8) (os_64h 8)) H → va_D A (zwS cI So Sp Go Ss_64h Sa_64h ++ zwG cI Go Gp Gs Ga ++ zwR cO ra oo ++ zwO (oo 0) (os_64h 0) ++ zwO (oo 1) (os_64h 1) ++ zwO (oo 2) (os_64h 2) ++ zwO (oo 3) (os_64h 3) ++ zwO (oo 4) (os_64h 4) ++ zwO (oo 5) (os_64h 5) ++ zwO (oo 6) (os_64h 6) ++ zwO (oo 7) (os_64h 7) ++ zwO (oo 8) (os_64h 8)) → va_S A s.heap H locs → lv_has ls 10 [(0, .ref So), (1, .ref ra), (2, .int (5 : Int32)), (3, .ref (oo 5)), (4, .ref (oo 6)), (5, .int x5_47h), (6, .int x6_64h)] → W p l e R s m args below meth c H locs 0 0 Q (F0 m 64 ls []))) ?_ i30 _ _ _ hP hD hS (lv_sub hl [1, 2, 3, 4, 5, 6, 0] rfl)
    clear i30 hP hD hS hl
    intro x6_64h Ss_64h Sa_64h os_64h z64 h zl64 zr64 H locs ls hP hD hS hl
    refine lv_iload hx hb dX5_look_64 (lv_at hl 6 rfl) ?_
    refine lv_bipush (v := (8 : Int32)) hx hb dX5_look_66 (by decide) ?_
    refine lv_icmp_ge (tgt := 155) hx hb dX5_look_68 (by decide) (fun c8 => ?_) (fun c8 => ?_)
    · have h := zif_t c8 h
      cases zr64 _ (zend h).symm
      exact KX155 _ _ _ hP hD hS (lv_sub hl [0, 1, 2, 3, 4, 5] rfl)
    · have h := zif_f c8 h
      refine lv_aload_n hx hb dX5_look_71 rfl (lv_at hl 0 rfl) ?_
      refine lv_iload hx hb dX5_look_72 (lv_at hl 5 rfl) ?_
      refine lv_iload hx hb dX5_look_74 (lv_at hl 6 rfl) ?_
      obtain ⟨r9, g10, h⟩ := zb1_s h
      have hFc := va_free (wc := (zwS cI So Sp Go Ss_64h Sa_64h ++ zwG cI Go Gp Gs Ga)) hD hS hA [0, 1, 2, 3, 4, 5] rfl
      refine zcall_i (w2 := (zwS cI So Sp Go Ss_64h Sa_64h ++ zwG cI Go Gp Gs Ga ++ zwR cO ra oo ++ zwO (oo 0) (os_64h 0) ++ zwO (oo 1) (os_64h 1) ++ zwO (oo 2) (os_64h 2) ++ zwO (oo 3) (os_64h 3) ++ zwO (oo 4) (os_64h 4) ++ zwO (oo 5) (os_64h 5) ++ zwO (oo 6) (os_64h 6) ++ zwO (oo 7) (os_64h 7) ++ zwO (oo 8) (os_64h 8))) (va_runV (As := [.int x5_47h, .int x6_64h]) (rest := []) ⟨hx, hb, hml, hown, hts⟩ (c_X4_targetOf l D cI cB cO So Sp Go Gp Ss_64h Sa_64h Gs Ga x5_47h x6_64h _ _ g10) (cwV 2 hts gX5_look_X4_targetOf rfl rfl rfl kV_X4_targetOf ⟨Nat.le_trans (Nat.le_of_ble_eq_true rfl) hRf, Nat.le_trans (Nat.le_of_ble_eq_true rfl) hRl⟩) (zpreV hK hP hD hS hE hFc [0, 1, 2, 3, 4, 5] rfl rfl 0 (ci := 4) rfl rfl [.int x5_47h, .int x6_64h]) rfl rfl hl.1 rfl (lv_room (Nat.le_of_ble_eq_true rfl)) dX5_look_76 ⟨Nat.zero_le _, Nat.zero_le _⟩) hP hD hS hFc [0, 1, 2, 3, 4, 5] [6, 7, 8, 9, 10, 11, 12, 13, 14, 15] [10, 11, 12, 13, 14, 15, 0, 1, 2, 3, 4, 5, 6, 7, 8, 9] 16 rfl rfl rfl rfl (fun H locs hP hD hS => ?_)
      refine lv_istore (lv' := [(7, .int r9), (0, .ref So), (1, .ref ra), (2, .int (5 : Int32)), (3, .ref (oo 5)), (4, .ref (oo 6)), (5, .int x5_47h), (6, .int x6_64h)]) hx hb dX5_look_79 hl (by decide) rfl (fun ls hl => ?_)
      refine lv_iload hx hb dX5_look_81 (lv_at hl 0 rfl) ?_
      refine lv_iconst (v := (-1 : Int32)) hx hb dX5_look_83 (by decide) ?_
      obtain ⟨Ss_149, Sa_149, os_149, j11, h⟩ := zb3_s h
      have K149 : ∀ (H : Heap) (locs : List Loc) (ls : Array Slot), va_P D vwCl (zwS cI So Sp Go Ss_149 Sa_149 ++ zwG cI Go Gp Gs Ga ++ zwR cO ra oo ++ zwO (oo 0) (os_149 0) ++ zwO (oo 1) (os_149 1) ++ zwO (oo 2) (os_149 2) ++ zwO (oo 3) (os_149 3) ++ zwO (oo 4) (os_149 4) ++ zwO (oo 5) (os_149 5) ++ zwO (oo 6) (os_149 6) ++ zwO (oo 7) (os_149 7) ++ zwO (oo 8) (os_149 8)) H → va_D A (zwS cI So Sp Go Ss_149 Sa_149 ++ zwG cI Go Gp Gs Ga ++ zwR cO ra oo ++ zwO (oo 0) (os_149 0) ++ zwO (oo 1) (os_149 1) ++ zwO (oo 2) (os_149 2) ++ zwO (oo 3) (os_149 3) ++ zwO (oo 4) (os_149 4) ++ zwO (oo 5) (os_149 5) ++ zwO (oo 6) (os_149 6) ++ zwO (oo 7) (os_149 7) ++ zwO (oo 8) (os_149 8)) → va_S A s.heap H locs → lv_has ls 10 [(0, .ref So), (1, .ref ra), (2, .int (5 : Int32)), (3, .ref (oo 5)), (4, .ref (oo 6)), (5, .int x5_47h), (6, .int x6_64h)] → W p l e R s m args below meth c H locs 0 0 Q (F0 m 149 ls []) := by
        intro H locs ls hP hD hS hl
        refine lv_iinc (v := (x6_64h + (1 : Int32))) (lv' := [(6, .int (x6_64h + (1 : Int32))), (0, .ref So), (1, .ref ra), (2, .int (5 : Int32)), (3, .ref (oo 5)), (4, .ref (oo 6)), (5, .int x5_47h)]) hx hb dX5_look_149 hl (k := 6) rfl rfl (by decide) rfl (fun ls hl => ?_)
        refine lv_goto (tgt := 64) hx hb dX5_look_152 (by decide) ?_
        exact zl64 _ _ _ _ (zend h).symm _ _ _ hP hD hS (lv_sub hl [1, 2, 3, 4, 5, 6, 0] rfl)
      clear h
      have h := j11
      clear j11
      refine lv_icmp_eq (tgt := 149) hx hb dX5_look_84 (by decide) (fun c12 => ?_) (fun c12 => ?_)
      · have h := zif_t c12 h
        cases zend h
        exact K149 _ _ _ hP hD hS (lv_sub hl [1, 2, 3, 4, 5, 6, 7] rfl)
      · have h := zif_f c12 h
        refine lv_aload_n hx hb dX5_look_87 rfl (lv_at hl 1 rfl) ?_
        refine lv_iload hx hb dX5_look_88 (lv_at hl 6 rfl) ?_
        obtain ⟨r13, g14, h⟩ := zb1_s h
        have hFc := va_free (wc := (zwS cI So Sp Go Ss_64h Sa_64h)) hD hS hA [0, 1, 2, 3] rfl
        refine zcall_i (w2 := (zwS cI So Sp Go Ss_64h Sa_64h ++ zwG cI Go Gp Gs Ga ++ zwR cO ra oo ++ zwO (oo 0) (os_64h 0) ++ zwO (oo 1) (os_64h 1) ++ zwO (oo 2) (os_64h 2) ++ zwO (oo 3) (os_64h 3) ++ zwO (oo 4) (os_64h 4) ++ zwO (oo 5) (os_64h 5) ++ zwO (oo 6) (os_64h 6) ++ zwO (oo 7) (os_64h 7) ++ zwO (oo 8) (os_64h 8))) (va_runV (As := [.int x5_47h]) (rest := []) ⟨hx, hb, hml, hown, hts⟩ (c_X4_homeOf l D cI cB cO So Sp Go Ss_64h Sa_64h x5_47h _ _ g14) (cwV 1 hts gX5_look_X4_homeOf rfl rfl rfl kV_X4_homeOf ⟨Nat.le_trans (Nat.le_of_ble_eq_true rfl) hRf, Nat.le_trans (Nat.le_of_ble_eq_true rfl) hRl⟩) (zpreV hK hP hD hS hE hFc [0, 1, 2, 3] rfl rfl 0 (ci := 4) rfl rfl [.int x5_47h]) rfl rfl hl.1 rfl (lv_room (Nat.le_of_ble_eq_true rfl)) dX5_look_90 ⟨Nat.zero_le _, Nat.zero_le _⟩) hP hD hS hFc [0, 1, 2, 3] [4, 5, 6, 7, 8, 9, 10, 11, 12, 13, 14, 15] [12, 13, 14, 15, 0, 1, 2, 3, 4, 5, 6, 7, 8, 9, 10, 11] 16 rfl rfl rfl rfl (fun H locs hP hD hS => ?_)
        refine lv_istore (lv' := [(8, .int r13), (7, .int r9), (0, .ref So), (1, .ref ra), (2, .int (5 : Int32)), (3, .ref (oo 5)), (4, .ref (oo 6)), (5, .int x5_47h), (6, .int x6_64h)]) hx hb dX5_look_93 hl (by decide) rfl (fun ls hl => ?_)
        refine lv_aload_n hx hb dX5_look_95 rfl (lv_at hl 2 rfl) ?_
        refine lv_iload hx hb dX5_look_96 (lv_at hl 7 rfl) ?_
        refine lv_iload hx hb dX5_look_98 (lv_at hl 8 rfl) ?_
        obtain ⟨r15, g16, h⟩ := zb1_s h
        have hFc := va_free (wc := (zwS cI So Sp Go Ss_64h Sa_64h ++ zwG cI Go Gp Gs Ga)) hD hS hA [0, 1, 2, 3, 4, 5] rfl
        refine zcall_i (w2 := (zwS cI So Sp Go Ss_64h Sa_64h ++ zwG cI Go Gp Gs Ga ++ zwR cO ra oo ++ zwO (oo 0) (os_64h 0) ++ zwO (oo 1) (os_64h 1) ++ zwO (oo 2) (os_64h 2) ++ zwO (oo 3) (os_64h 3) ++ zwO (oo 4) (os_64h 4) ++ zwO (oo 5) (os_64h 5) ++ zwO (oo 6) (os_64h 6) ++ zwO (oo 7) (os_64h 7) ++ zwO (oo 8) (os_64h 8))) (va_runV (As := [.int x5_47h, .int x6_64h]) (rest := []) ⟨hx, hb, hml, hown, hts⟩ (c_X4_neighbourOf l D cI cB cO So Sp Go Gp Ss_64h Sa_64h Gs Ga x5_47h x6_64h _ _ g16) (cwV 2 hts gX5_look_X4_neighbourOf rfl rfl rfl kV_X4_neighbourOf ⟨Nat.le_trans (Nat.le_of_ble_eq_true rfl) hRf, Nat.le_trans (Nat.le_of_ble_eq_true rfl) hRl⟩) (zpreV hK hP hD hS hE hFc [0, 1, 2, 3, 4, 5] rfl rfl 0 (ci := 4) rfl rfl [.int x5_47h, .int x6_64h]) rfl rfl hl.1 rfl (lv_room (Nat.le_of_ble_eq_true rfl)) dX5_look_100 ⟨Nat.zero_le _, Nat.zero_le _⟩) hP hD hS hFc [0, 1, 2, 3, 4, 5] [6, 7, 8, 9, 10, 11, 12, 13, 14, 15] [10, 11, 12, 13, 14, 15, 0, 1, 2, 3, 4, 5, 6, 7, 8, 9] 16 rfl rfl rfl rfl (fun H locs hP hD hS => ?_)
        refine lv_istore (lv' := [(9, .int r15), (8, .int r13), (7, .int r9), (0, .ref So), (1, .ref ra), (2, .int (5 : Int32)), (3, .ref (oo 5)), (4, .ref (oo 6)), (5, .int x5_47h), (6, .int x6_64h)]) hx hb dX5_look_103 hl (by decide) rfl (fun ls hl => ?_)
        refine lv_aload_n hx hb dX5_look_105 rfl (lv_at hl 3 rfl) ?_
        refine lv_iload hx hb dX5_look_106 (lv_at hl 8 rfl) ?_
        refine lv_iload hx hb dX5_look_108 (lv_at hl 0 rfl) ?_
        refine lv_iload hx hb dX5_look_110 (lv_at hl 2 rfl) ?_
        obtain ⟨Ss_17, Sa_18, g19, h⟩ := zb2_s h
        have hFc := va_free (wc := (zwS cI So Sp Go Ss_64h Sa_64h ++ zwG cI Go Gp Gs Ga)) hD hS hA [0, 1, 2, 3, 4, 5] rfl
        refine zcall_v (w2 := (zwS cI So Sp Go Ss_17 Sa_18 ++ zwG cI Go Gp Gs Ga ++ zwR cO ra oo ++ zwO (oo 0) (os_64h 0) ++ zwO (oo 1) (os_64h 1) ++ zwO (oo 2) (os_64h 2) ++ zwO (oo 3) (os_64h 3) ++ zwO (oo 4) (os_64h 4) ++ zwO (oo 5) (os_64h 5) ++ zwO (oo 6) (os_64h 6) ++ zwO (oo 7) (os_64h 7) ++ zwO (oo 8) (os_64h 8))) (va_runV (As := [.int x5_47h, .int r15, .int r9]) (rest := []) ⟨hx, hb, hml, hown, hts⟩ (c_X4_leap l D cI cB cO So Sp Go Gp Ss_64h Sa_64h Gs Ga x5_47h r15 r9 _ _ _ g19) (cwV 3 hts gX5_look_X4_leap rfl rfl rfl kV_X4_leap ⟨Nat.le_trans (Nat.le_of_ble_eq_true rfl) hRf, Nat.le_trans (Nat.le_of_ble_eq_true rfl) hRl⟩) (zpreV hK hP hD hS hE hFc [0, 1, 2, 3, 4, 5] rfl rfl 0 (ci := 4) rfl rfl [.int x5_47h, .int r15, .int r9]) rfl rfl hl.1 rfl (lv_room (Nat.le_of_ble_eq_true rfl)) dX5_look_112 ⟨Nat.zero_le _, Nat.zero_le _⟩) hP hD hS hFc [0, 1, 2, 3, 4, 5] [6, 7, 8, 9, 10, 11, 12, 13, 14, 15] [10, 11, 12, 13, 14, 15, 0, 1, 2, 3, 4, 5, 6, 7, 8, 9] 16 rfl rfl rfl rfl (fun H locs hP hD hS => ?_)
        refine lv_aload_n hx hb dX5_look_115 rfl (lv_at hl 3 rfl) ?_
        refine lv_aload_n hx hb dX5_look_116 rfl (lv_at hl 4 rfl) ?_
        refine lv_iload_n hx hb dX5_look_117 rfl (lv_at hl 5 rfl) ?_
        refine lv_iconst (v := (1 : Int32)) hx hb dX5_look_118 (by decide) ?_
        refine lv_iadd hx hb dX5_look_119 ?_
        refine lv_topi (fun k20 ek20 => ?_)
        obtain rfl : k20 = (6 : Int32) := ek20.trans (by decide)
        obtain ⟨Ss_21, Sa_22, os_23, g24, h⟩ := zb3_s h
        have hFc := va_free (wc := (zwS cI So Sp Go Ss_17 Sa_18 ++ zwG cI Go Gp Gs Ga ++ zwR cO ra oo ++ zwO (oo 0) (os_64h 0) ++ zwO (oo 1) (os_64h 1) ++ zwO (oo 2) (os_64h 2) ++ zwO (oo 3) (os_64h 3) ++ zwO (oo 4) (os_64h 4) ++ zwO (oo 5) (os_64h 5) ++ zwO (oo 6) (os_64h 6) ++ zwO (oo 7) (os_64h 7) ++ zwO (oo 8) (os_64h 8))) hD hS hA [0, 1, 2, 3, 4, 5, 6, 7, 8, 9, 10, 11, 12, 13, 14, 15] rfl
        refine zcall_v (w2 := (zwS cI So Sp Go Ss_21 Sa_22 ++ zwG cI Go Gp Gs Ga ++ zwR cO ra oo ++ zwO (oo 0) (os_23 0) ++ zwO (oo 1) (os_23 1) ++ zwO (oo 2) (os_23 2) ++ zwO (oo 3) (os_23 3) ++ zwO (oo 4) (os_23 4) ++ zwO (oo 5) (os_23 5) ++ zwO (oo 6) (os_23 6) ++ zwO (oo 7) (os_23 7) ++ zwO (oo 8) (os_23 8))) (va_runS (As := [.ref So, .ref ra, .int (6 : Int32)]) (rest := []) ⟨hx, hb, hml, hown, hts⟩ (c_X5_look_6 l D cI cB cO So Sp Go Gp ra oo Ss_17 Sa_18 Gs Ga os_64h _ _ _ _ g24) (va_cwS 3 hts gX5_look_X5_look rfl rfl rfl kS_X5_look ⟨Nat.le_trans (Nat.le_of_ble_eq_true rfl) hRf, Nat.le_trans (Nat.le_of_ble_eq_true rfl) hRl⟩) (zpreS hK hP hD hS hE hFc [0, 1, 2, 3, 4, 5, 6, 7, 8, 9, 10, 11, 12, 13, 14, 15] rfl rfl [.ref So, .ref ra, .int (6 : Int32)]) rfl rfl hl.1 rfl (lv_room (Nat.le_of_ble_eq_true rfl)) dX5_look_120 ⟨Nat.zero_le _, Nat.zero_le _⟩) hP hD hS hFc [0, 1, 2, 3, 4, 5, 6, 7, 8, 9, 10, 11, 12, 13, 14, 15] [] [0, 1, 2, 3, 4, 5, 6, 7, 8, 9, 10, 11, 12, 13, 14, 15] 16 rfl rfl rfl rfl (fun H locs hP hD hS => ?_)
        refine lv_aload_n hx hb dX5_look_123 rfl (lv_at hl 3 rfl) ?_
        refine lv_iload hx hb dX5_look_124 (lv_at hl 8 rfl) ?_
        refine lv_iload hx hb dX5_look_126 (lv_at hl 1 rfl) ?_
        refine lv_iload hx hb dX5_look_128 (lv_at hl 0 rfl) ?_
        refine lv_iload hx hb dX5_look_130 (lv_at hl 9 rfl) ?_
        obtain ⟨Ss_25, Sa_26, g27, h⟩ := zb2_s h
        have hFc := va_free (wc := (zwS cI So Sp Go Ss_21 Sa_22 ++ zwG cI Go Gp Gs Ga)) hD hS hA [0, 1, 2, 3, 4, 5] rfl
        refine zcall_v (w2 := (zwS cI So Sp Go Ss_25 Sa_26 ++ zwG cI Go Gp Gs Ga ++ zwR cO ra oo ++ zwO (oo 0) (os_23 0) ++ zwO (oo 1) (os_23 1) ++ zwO (oo 2) (os_23 2) ++ zwO (oo 3) (os_23 3) ++ zwO (oo 4) (os_23 4) ++ zwO (oo 5) (os_23 5) ++ zwO (oo 6) (os_23 6) ++ zwO (oo 7) (os_23 7) ++ zwO (oo 8) (os_23 8))) (va_runV (As := [.int x5_47h, .int r13, .int r15, .int x6_64h]) (rest := []) ⟨hx, hb, hml, hown, hts⟩ (c_X4_takeBack l D cI cB cO So Sp Go Gp Ss_21 Sa_22 Gs Ga x5_47h r13 r15 x6_64h _ _ _ g27) (cwV 4 hts gX5_look_X4_takeBack rfl rfl rfl kV_X4_takeBack ⟨Nat.le_trans (Nat.le_of_ble_eq_true rfl) hRf, Nat.le_trans (Nat.le_of_ble_eq_true rfl) hRl⟩) (zpreV hK hP hD hS hE hFc [0, 1, 2, 3, 4, 5] rfl rfl 0 (ci := 4) rfl rfl [.int x5_47h, .int r13, .int r15, .int x6_64h]) rfl rfl hl.1 rfl (lv_room (Nat.le_of_ble_eq_true rfl)) dX5_look_132 ⟨Nat.zero_le _, Nat.zero_le _⟩) hP hD hS hFc [0, 1, 2, 3, 4, 5] [6, 7, 8, 9, 10, 11, 12, 13, 14, 15] [10, 11, 12, 13, 14, 15, 0, 1, 2, 3, 4, 5, 6, 7, 8, 9] 16 rfl rfl rfl rfl (fun H locs hP hD hS => ?_)
        refine lv_aload_n hx hb dX5_look_135 rfl (lv_at hl 6 rfl) ?_
        refine lv_bipush (v := (100 : Int32)) hx hb dX5_look_136 (by decide) ?_
        refine lv_iload hx hb dX5_look_138 (lv_at hl 8 rfl) ?_
        refine lv_imul hx hb dX5_look_140 ?_
        refine lv_iload hx hb dX5_look_141 (lv_at hl 2 rfl) ?_
        refine lv_iadd hx hb dX5_look_143 ?_
        refine lv_aload hx hb dX5_look_144 (lv_at hl 7 rfl) ?_
        obtain ⟨Os_28, g29, h⟩ := zb1_s h
        have hFc := va_free (wc := (zwO (oo 5) (os_23 5) ++ zwO (oo 6) (os_23 6))) hD hS hA [12, 13] rfl
        refine zcall_v (w2 := (zwS cI So Sp Go Ss_25 Sa_26 ++ zwG cI Go Gp Gs Ga ++ zwR cO ra oo ++ zwO (oo 0) (os_23 0) ++ zwO (oo 1) (os_23 1) ++ zwO (oo 2) (os_23 2) ++ zwO (oo 3) (os_23 3) ++ zwO (oo 4) (os_23 4) ++ zwO (oo 5) Os_28 ++ zwO (oo 6) (os_23 6) ++ zwO (oo 7) (os_23 7) ++ zwO (oo 8) (os_23 8))) (va_runV (As := [.int (((100 : Int32) * x5_47h) + r9), .ref (oo 6)]) (rest := []) ⟨hx, hb, hml, hown, hts⟩ (c_X1_take l D cI cB cO (oo 5) (oo 6) (os_23 5) (os_23 6) (((100 : Int32) * x5_47h) + r9) _ _ g29) (cwV 2 hts gX5_look_X1_take rfl rfl rfl kV_X1_take ⟨Nat.le_trans (Nat.le_of_ble_eq_true rfl) hRf, Nat.le_trans (Nat.le_of_ble_eq_true rfl) hRl⟩) (zpreV hK hP hD hS hE hFc [12, 13] rfl rfl 12 (ci := 1) rfl rfl [.int (((100 : Int32) * x5_47h) + r9), .ref (oo 6)]) rfl rfl hl.1 rfl (lv_room (Nat.le_of_ble_eq_true rfl)) dX5_look_146 ⟨Nat.zero_le _, Nat.zero_le _⟩) hP hD hS hFc [12, 13] [0, 1, 2, 3, 4, 5, 6, 7, 8, 9, 10, 11, 14, 15] [0, 1, 2, 3, 4, 5, 6, 7, 8, 9, 10, 11, 14, 15, 12, 13] 16 rfl rfl rfl rfl (fun H locs hP hD hS => ?_)
        cases zend h
        exact K149 _ _ _ hP hD hS (lv_sub hl [3, 4, 5, 6, 7, 8, 9] rfl)
set_option maxHeartbeats 4000000 in
set_option maxRecDepth 100000 in
theorem c_X5_look_4 (l : Launch) (D : va_G) (cI cB cO : ClassId) (So : Nat) (Sp : Nat → Nat) (Go : Nat) (Gp : Nat → Nat) (ra : Nat) (oo : Nat → Nat) (Ss : Nat → Int32) (Sa : Nat → Nat → Int32) (Gs : Nat → Int32) (Ga : Nat → Nat → Int32) (os : Nat → Nat → Int32)  (Ss' : Nat → Int32) (Sa' : Nat → Nat → Int32) (os' : Nat → Nat → Int32) (sz : Nat) (h : fX5_look_4 Ss Sa Gs Ga os = some (Ss', Sa', os')) : Met l yX5_look wsX5_look ({ frames := 7, cells := 0, slots := 0, locals := 181 } : Room) (va_Pc [.ref So, .ref ra, .int (4 : Int32)] (zPre D (zTY cI cB cO) (zwS cI So Sp Go Ss Sa ++ zwG cI Go Gp Gs Ga ++ zwR cO ra oo ++ zwO (oo 0) (os 0) ++ zwO (oo 1) (os 1) ++ zwO (oo 2) (os 2) ++ zwO (oo 3) (os 3) ++ zwO (oo 4) (os 4) ++ zwO (oo 5) (os 5) ++ zwO (oo 6) (os 6) ++ zwO (oo 7) (os 7) ++ zwO (oo 8) (os 8)) sz)) (va_Qv (fun (_ : Unit) => True) (fun _ => zPost D (zTY cI cB cO) (zwS cI So Sp Go Ss' Sa' ++ zwG cI Go Gp Gs Ga ++ zwR cO ra oo ++ zwO (oo 0) (os' 0) ++ zwO (oo 1) (os' 1) ++ zwO (oo 2) (os' 2) ++ zwO (oo 3) (os' 3) ++ zwO (oo 4) (os' 4) ++ zwO (oo 5) (os' 5) ++ zwO (oo 6) (os' 6) ++ zwO (oo 7) (os' 7) ++ zwO (oo 8) (os' 8)) (va_A (zwS cI So Sp Go Ss Sa ++ zwG cI Go Gp Gs Ga ++ zwR cO ra oo ++ zwO (oo 0) (os 0) ++ zwO (oo 1) (os 1) ++ zwO (oo 2) (os 2) ++ zwO (oo 3) (os 3) ++ zwO (oo 4) (os 4) ++ zwO (oo 5) (os 5) ++ zwO (oo 6) (os 6) ++ zwO (oo 7) (os 7) ++ zwO (oo 8) (os 8)) sz)) (va_A (zwS cI So Sp Go Ss Sa ++ zwG cI Go Gp Gs Ga ++ zwR cO ra oo ++ zwO (oo 0) (os 0) ++ zwO (oo 1) (os 1) ++ zwO (oo 2) (os 2) ++ zwO (oo 3) (os 3) ++ zwO (oo 4) (os 4) ++ zwO (oo 5) (os 5) ++ zwO (oo 6) (os 6) ++ zwO (oo 7) (os 7) ++ zwO (oo 8) (os 8)) sz)) 0 0 (va_A (zwS cI So Sp Go Ss Sa ++ zwG cI Go Gp Gs Ga ++ zwR cO ra oo ++ zwO (oo 0) (os 0) ++ zwO (oo 1) (os 1) ++ zwO (oo 2) (os 2) ++ zwO (oo 3) (os 3) ++ zwO (oo 4) (os 4) ++ zwO (oo 5) (os 5) ++ zwO (oo 6) (os 6) ++ zwO (oo 7) (os 7) ++ zwO (oo 8) (os 8)) sz) := by
  unfold fX5_look_4 at h
  refine zmet_v (cc := cX5_look) (maxL := 10) (by decide) rfl (Nat.le_of_ble_eq_true rfl) rfl rfl ?_
  intro p e s m args below meth c R Q A ls hx hb hts hown hml hK hP hD hE hA hS hRf hRl hl hq
  have hown : s.vm.findClass RX5 = some m.cls := hown
  have hl : lv_has ls 10 [(0, .ref So), (1, .ref ra), (2, .int (4 : Int32))] := hl
  have inX4 : ∀ w ∈ u_ws RX4 TX4 8, w ∈ wsX5_look := by decide +kernel
  have lk98 : (Cond.fieldLinkNest RX5 98 "PegField$State" "pegs" "I" "PegField").before args s = true := hE.2.use (by decide +kernel)
  have lk150 : (Cond.fieldLinkNest RX5 150 "PegField$State" "onBoard" "I" "PegField").before args s = true := hE.2.use (by decide +kernel)
  refine lv_iload_n hx hb dX5_look_0 rfl (lv_at hl 2 rfl) ?_
  refine lv_if_lt (tgt := 16) hx hb dX5_look_1 (by decide) (fun q => absurd q (by decide)) (fun _ => ?_)
  refine lv_iload_n hx hb dX5_look_4 rfl (lv_at hl 2 rfl) ?_
  refine lv_aload_n hx hb dX5_look_5 rfl (lv_at hl 1 rfl) ?_
  refine va_alen hx hb hK hP 6 2 rfl rfl (v := (9 : Int32)) rfl dX5_look_6 ?_
  refine lv_icmp_ge (tgt := 16) hx hb dX5_look_7 (by decide) (fun q => absurd q (by decide)) (fun _ => ?_)
  refine lv_aload_n hx hb dX5_look_10 rfl (lv_at hl 1 rfl) ?_
  refine lv_iload_n hx hb dX5_look_11 rfl (lv_at hl 2 rfl) ?_
  refine va_aldq hx hb hK hP 6 2 rfl rfl (vp_in_iff.mpr (by decide)) dX5_look_12 ?_
  refine W.eq (g2 := F0 m 13 ls [.ref (oo 4)]) rfl ?_
  refine lv_ifnonnull (tgt := 17) hx hb dX5_look_13 (by decide) ?_
  refine lv_aload_n hx hb dX5_look_17 rfl (lv_at hl 1 rfl) ?_
  refine lv_iload_n hx hb dX5_look_18 rfl (lv_at hl 2 rfl) ?_
  refine va_aldq hx hb hK hP 6 2 rfl rfl (vp_in_iff.mpr (by decide)) dX5_look_19 ?_
  refine W.eq (g2 := F0 m 20 ls [.ref (oo 4)]) rfl ?_
  refine lv_astore_n (lv' := [(3, .ref (oo 4)), (0, .ref So), (1, .ref ra), (2, .int (4 : Int32))]) hx hb dX5_look_20 rfl hl (by decide) rfl (fun ls hl => ?_)
  refine lv_aload_n hx hb dX5_look_21 rfl (lv_at hl 0 rfl) ?_
  obtain ⟨Os_1, g2, h⟩ := zb1_s h
  have hFc := va_free (wc := (zwO (oo 4) (os 4))) hD hS hA [11] rfl
  refine zcall_v (w2 := (zwS cI So Sp Go Ss Sa ++ zwG cI Go Gp Gs Ga ++ zwR cO ra oo ++ zwO (oo 0) (os 0) ++ zwO (oo 1) (os 1) ++ zwO (oo 2) (os 2) ++ zwO (oo 3) (os 3) ++ zwO (oo 4) Os_1 ++ zwO (oo 5) (os 5) ++ zwO (oo 6) (os 6) ++ zwO (oo 7) (os 7) ++ zwO (oo 8) (os 8))) (va_runV (As := []) (rest := []) ⟨hx, hb, hml, hown, hts⟩ (c_X1_begin l D cI cB cO (oo 4) (os 4) _ _ g2) (cwV 0 hts gX5_look_X1_begin rfl rfl rfl kV_X1_begin ⟨Nat.le_trans (Nat.le_of_ble_eq_true rfl) hRf, Nat.le_trans (Nat.le_of_ble_eq_true rfl) hRl⟩) (zpreV hK hP hD hS hE hFc [11] rfl rfl 11 (ci := 1) rfl rfl []) rfl rfl hl.1 rfl (lv_room (Nat.le_of_ble_eq_true rfl)) dX5_look_22 ⟨Nat.zero_le _, Nat.zero_le _⟩) hP hD hS hFc [11] [0, 1, 2, 3, 4, 5, 6, 7, 8, 9, 10, 12, 13, 14, 15] [0, 1, 2, 3, 4, 5, 6, 7, 8, 9, 10, 15, 11, 12, 13, 14] 16 rfl rfl rfl rfl (fun H locs hP hD hS => ?_)
  refine lv_iload_n hx hb dX5_look_25 rfl (lv_at hl 3 rfl) ?_
  refine lv_iconst (v := (1 : Int32)) hx hb dX5_look_26 (by decide) ?_
  refine lv_iadd hx hb dX5_look_27 ?_
  refine lv_topi (fun k3 ek3 => ?_)
  obtain rfl : k3 = (5 : Int32) := ek3.trans (by decide)
  refine lv_aload_n hx hb dX5_look_28 rfl (lv_at hl 2 rfl) ?_
  refine va_alen hx hb hK hP 6 2 rfl rfl (v := (9 : Int32)) rfl dX5_look_29 ?_
  refine lv_icmp_ge (tgt := 41) hx hb dX5_look_30 (by decide) (fun q => absurd q (by decide)) (fun _ => ?_)
  refine lv_aload_n hx hb dX5_look_33 rfl (lv_at hl 2 rfl) ?_
  refine lv_iload_n hx hb dX5_look_34 rfl (lv_at hl 3 rfl) ?_
  refine lv_iconst (v := (1 : Int32)) hx hb dX5_look_35 (by decide) ?_
  refine lv_iadd hx hb dX5_look_36 ?_
  refine lv_topi (fun k4 ek4 => ?_)
  obtain rfl : k4 = (5 : Int32) := ek4.trans (by decide)
  refine va_aldq hx hb hK hP 6 2 rfl rfl (vp_in_iff.mpr (by decide)) dX5_look_37 ?_
  refine W.eq (g2 := F0 m 38 ls [.ref (oo 5)]) rfl ?_
  refine lv_goto (tgt := 42) hx hb dX5_look_38 (by decide) ?_
  refine lv_astore (lv' := [(4, .ref (oo 5)), (3, .ref (oo 4)), (0, .ref So), (1, .ref ra), (2, .int (4 : Int32))]) hx hb dX5_look_42 hl (by decide) rfl (fun ls hl => ?_)
  refine lv_iconst (v := (0 : Int32)) hx hb dX5_look_44 (by decide) ?_
  refine lv_istore (lv' := [(5, .int (0 : Int32)), (4, .ref (oo 5)), (3, .ref (oo 4)), (0, .ref So), (1, .ref ra), (2, .int (4 : Int32))]) hx hb dX5_look_45 hl (by decide) rfl (fun ls hl => ?_)
  obtain ⟨Ss_161x47, Sa_161x47, os_161x47, i35, h⟩ := zb3_s h
  have KX161 : ∀ (H : Heap) (locs : List Loc) (ls : Array Slot), va_P D vwCl (zwS cI So Sp Go Ss_161x47 Sa_161x47 ++ zwG cI Go Gp Gs Ga ++ zwR cO ra oo ++ zwO (oo 0) (os_161x47 0) ++ zwO (oo 1) (os_161x47 1) ++ zwO (oo 2) (os_161x47 2) ++ zwO (oo 3) (os_161x47 3) ++ zwO (oo 4) (os_161x47 4) ++ zwO (oo 5) (os_161x47 5) ++ zwO (oo 6) (os_161x47 6) ++ zwO (oo 7) (os_161x47 7) ++ zwO (oo 8) (os_161x47 8)) H → va_D A (zwS cI So Sp Go Ss_161x47 Sa_161x47 ++ zwG cI Go Gp Gs Ga ++ zwR cO ra oo ++ zwO (oo 0) (os_161x47 0) ++ zwO (oo 1) (os_161x47 1) ++ zwO (oo 2) (os_161x47 2) ++ zwO (oo 3) (os_161x47 3) ++ zwO (oo 4) (os_161x47 4) ++ zwO (oo 5) (os_161x47 5) ++ zwO (oo 6) (os_161x47 6) ++ zwO (oo 7) (os_161x47 7) ++ zwO (oo 8) (os_161x47 8)) → va_S A s.heap H locs → lv_has ls 10 [(0, .ref So), (3, .ref (oo 4))] → W p l e R s m args below meth c H locs 0 0 Q (F0 m 161 ls []) := by
    intro H locs ls hP hD hS hl
    refine lv_aload_n hx hb dX5_look_161 rfl (lv_at hl 1 rfl) ?_
    refine lv_aload_n hx hb dX5_look_162 rfl (lv_at hl 0 rfl) ?_
    refine va_getN (D := D) (ci := 4) (v := .int (Ss_161x47 3)) (C := RX4) (T := TX4) (N := 8) hx hb hts inX4 hown hK hP 0 rfl rfl 3 (by decide) lk150 (fun _ h9 => h9) rfl dX5_look_163 ?_
    refine lv_aload_n hx hb dX5_look_166 rfl (lv_at hl 0 rfl) ?_
    obtain ⟨r31, g32, h⟩ := zb1_s h
    have hFc := va_free (wc := (zwS cI So Sp Go Ss_161x47 Sa_161x47 ++ zwG cI Go Gp Gs Ga)) hD hS hA [0, 1, 2, 3, 4, 5] rfl
    refine zcall_i (w2 := (zwS cI So Sp Go Ss_161x47 Sa_161x47 ++ zwG cI Go Gp Gs Ga ++ zwR cO ra oo ++ zwO (oo 0) (os_161x47 0) ++ zwO (oo 1) (os_161x47 1) ++ zwO (oo 2) (os_161x47 2) ++ zwO (oo 3) (os_161x47 3) ++ zwO (oo 4) (os_161x47 4) ++ zwO (oo 5) (os_161x47 5) ++ zwO (oo 6) (os_161x47 6) ++ zwO (oo 7) (os_161x47 7) ++ zwO (oo 8) (os_161x47 8))) (va_runV (As := []) (rest := [.int (Ss_161x47 3), .ref (oo 4)]) ⟨hx, hb, hml, hown, hts⟩ (c_X4_aloneBit l D cI cB cO So Sp Go Gp Ss_161x47 Sa_161x47 Gs Ga _ _ g32) (cwV 0 hts gX5_look_X4_aloneBit rfl rfl rfl kV_X4_aloneBit ⟨Nat.le_trans (Nat.le_of_ble_eq_true rfl) hRf, Nat.le_trans (Nat.le_of_ble_eq_true rfl) hRl⟩) (zpreV hK hP hD hS hE hFc [0, 1, 2, 3, 4, 5] rfl rfl 0 (ci := 4) rfl rfl []) rfl rfl hl.1 rfl (lv_room (Nat.le_of_ble_eq_true rfl)) dX5_look_167 ⟨Nat.zero_le _, Nat.zero_le _⟩) hP hD hS hFc [0, 1, 2, 3, 4, 5] [6, 7, 8, 9, 10, 11, 12, 13, 14, 15] [10, 11, 12, 13, 14, 15, 0, 1, 2, 3, 4, 5, 6, 7, 8, 9] 16 rfl rfl rfl rfl (fun H locs hP hD hS => ?_)
    obtain ⟨Os_33, g34, h⟩ := zb1_s h
    have hFc := va_free (wc := (zwO (oo 4) (os_161x47 4))) hD hS hA [11] rfl
    refine zcall_v (w2 := (zwS cI So Sp Go Ss_161x47 Sa_161x47 ++ zwG cI Go Gp Gs Ga ++ zwR cO ra oo ++ zwO (oo 0) (os_161x47 0) ++ zwO (oo 1) (os_161x47 1) ++ zwO (oo 2) (os_161x47 2) ++ zwO (oo 3) (os_161x47 3) ++ zwO (oo 4) Os_33 ++ zwO (oo 5) (os_161x47 5) ++ zwO (oo 6) (os_161x47 6) ++ zwO (oo 7) (os_161x47 7) ++ zwO (oo 8) (os_161x47 8))) (va_runV (As := [.int (Ss_161x47 3), .int r31]) (rest := []) ⟨hx, hb, hml, hown, hts⟩ (c_X1_end l D cI cB cO (oo 4) (os_161x47 4) (Ss_161x47 3) r31 _ _ g34) (cwV 2 hts gX5_look_X1_end rfl rfl rfl kV_X1_end ⟨Nat.le_trans (Nat.le_of_ble_eq_true rfl) hRf, Nat.le_trans (Nat.le_of_ble_eq_true rfl) hRl⟩) (zpreV hK hP hD hS hE hFc [11] rfl rfl 11 (ci := 1) rfl rfl [.int (Ss_161x47 3), .int r31]) rfl rfl hl.1 rfl (lv_room (Nat.le_of_ble_eq_true rfl)) dX5_look_170 ⟨Nat.zero_le _, Nat.zero_le _⟩) hP hD hS hFc [11] [0, 1, 2, 3, 4, 5, 6, 7, 8, 9, 10, 12, 13, 14, 15] [0, 1, 2, 3, 4, 5, 6, 7, 8, 9, 10, 15, 11, 12, 13, 14] 16 rfl rfl rfl rfl (fun H locs hP hD hS => ?_)
    cases zend h
    exact hq hP hD hS dX5_look_173
  clear h
  refine zi4_ind (P := (fun (x5_47h : Int32) (Ss_47h : Nat → Int32) (Sa_47h : Nat → Nat → Int32) (os_47h : Nat → Nat → Int32) => ∀ (H : Heap) (locs : List Loc) (ls : Array Slot), va_P D vwCl (zwS cI So Sp Go Ss_47h Sa_47h ++ zwG cI Go Gp Gs Ga ++ zwR cO ra oo ++ zwO (oo 0) (os_47h 0) ++ zwO (oo 1) (os_47h 1) ++ zwO (oo 2) (os_47h 2) ++ zwO (oo 3) (os_47h 3) ++ zwO (oo 4) (os_47h 4) ++ zwO (oo 5) (os_47h 5) ++ zwO (oo 6) (os_47h 6) ++ zwO (oo 7) (os_47h 7) ++ zwO (oo 8) (os_47h 8)) H → va_D A (zwS cI So Sp Go Ss_47h Sa_47h ++ zwG cI Go Gp Gs Ga ++ zwR cO ra oo ++ zwO (oo 0) (os_47h 0) ++ zwO (oo 1) (os_47h 1) ++ zwO (oo 2) (os_47h 2) ++ zwO (oo 3) (os_47h 3) ++ zwO (oo 4) (os_47h 4) ++ zwO (oo 5) (os_47h 5) ++ zwO (oo 6) (os_47h 6) ++ zwO (oo 7) (os_47h 7) ++ zwO (oo 8) (os_47h 8)) → va_S A s.heap H locs → lv_has ls 10 [(0, .ref So), (1, .ref ra), (2, .int (4 : Int32)), (3, .ref (oo 4)), (4, .ref (oo 5)), (5, .int x5_47h)] → W p l e R s m args below meth c H locs 0 0 Q (F0 m 47 ls []))) ?_ i35 _ _ _ hP hD hS (lv_sub hl [3, 4, 5, 2, 1, 0] rfl)
  clear i35 hP hD hS hl
  intro x5_47h Ss_47h Sa_47h os_47h z47 h zl47 zr47 H locs ls hP hD hS hl
  refine lv_iload hx hb dX5_look_47 (lv_at hl 5 rfl) ?_
  refine lv_aload_n hx hb dX5_look_49 rfl (lv_at hl 0 rfl) ?_
  refine va_getN (D := D) (ci := 4) (v := .int (Ss_47h 2)) (C := RX4) (T := TX4) (N := 8) hx hb hts inX4 hown hK hP 0 rfl rfl 2 (by decide) lk98 (fun _ h9 => h9) rfl dX5_look_50 ?_
  refine lv_icmp_ge (tgt := 161) hx hb dX5_look_53 (by decide) (fun c6 => ?_) (fun c6 => ?_)
  · have h := zif_t c6 h
    cases zr47 _ (zend h).symm
    exact KX161 _ _ _ hP hD hS (lv_sub hl [0, 3] rfl)
  · have h := zif_f c6 h
    refine lv_aload hx hb dX5_look_56 (lv_at hl 4 rfl) ?_
    refine lv_ifnull hx hb dX5_look_58 ?_
    refine lv_iconst (v := (0 : Int32)) hx hb dX5_look_61 (by decide) ?_
    refine lv_istore (lv' := [(6, .int (0 : Int32)), (0, .ref So), (1, .ref ra), (2, .int (4 : Int32)), (3, .ref (oo 4)), (4, .ref (oo 5)), (5, .int x5_47h)]) hx hb dX5_look_62 hl (by decide) rfl (fun ls hl => ?_)
    obtain ⟨Ss_155x64, Sa_155x64, os_155x64, i30, h⟩ := zb3_s h
    have KX155 : ∀ (H : Heap) (locs : List Loc) (ls : Array Slot), va_P D vwCl (zwS cI So Sp Go Ss_155x64 Sa_155x64 ++ zwG cI Go Gp Gs Ga ++ zwR cO ra oo ++ zwO (oo 0) (os_155x64 0) ++ zwO (oo 1) (os_155x64 1) ++ zwO (oo 2) (os_155x64 2) ++ zwO (oo 3) (os_155x64 3) ++ zwO (oo 4) (os_155x64 4) ++ zwO (oo 5) (os_155x64 5) ++ zwO (oo 6) (os_155x64 6) ++ zwO (oo 7) (os_155x64 7) ++ zwO (oo 8) (os_155x64 8)) H → va_D A (zwS cI So Sp Go Ss_155x64 Sa_155x64 ++ zwG cI Go Gp Gs Ga ++ zwR cO ra oo ++ zwO (oo 0) (os_155x64 0) ++ zwO (oo 1) (os_155x64 1) ++ zwO (oo 2) (os_155x64 2) ++ zwO (oo 3) (os_155x64 3) ++ zwO (oo 4) (os_155x64 4) ++ zwO (oo 5) (os_155x64 5) ++ zwO (oo 6) (os_155x64 6) ++ zwO (oo 7) (os_155x64 7) ++ zwO (oo 8) (os_155x64 8)) → va_S A s.heap H locs → lv_has ls 10 [(0, .ref So), (1, .ref ra), (2, .int (4 : Int32)), (3, .ref (oo 4)), (4, .ref (oo 5)), (5, .int x5_47h)] → W p l e R s m args below meth c H locs 0 0 Q (F0 m 155 ls []) := by
      intro H locs ls hP hD hS hl
      refine lv_iinc (v := (x5_47h + (1 : Int32))) (lv' := [(5, .int (x5_47h + (1 : Int32))), (0, .ref So), (1, .ref ra), (2, .int (4 : Int32)), (3, .ref (oo 4)), (4, .ref (oo 5))]) hx hb dX5_look_155 hl (k := 5) rfl rfl (by decide) rfl (fun ls hl => ?_)
      refine lv_goto (tgt := 47) hx hb dX5_look_158 (by decide) ?_
      exact zl47 _ _ _ _ (zend h).symm _ _ _ hP hD hS (lv_sub hl [1, 2, 3, 4, 5, 0] rfl)
    clear h
    refine zi4_ind (P := (fun (x6_64h : Int32) (Ss_64h : Nat → Int32) (Sa_64h : Nat → Nat → Int32) (os_64h : Nat → Nat → Int32) => ∀ (H : Heap) (locs : List Loc) (ls : Array Slot), va_P D vwCl (zwS cI So Sp Go Ss_64h Sa_64h ++ zwG cI Go Gp Gs Ga ++ zwR cO ra oo ++ zwO (oo 0) (os_64h 0) ++ zwO (oo 1) (os_64h 1) ++ zwO (oo 2) (os_64h 2) ++ zwO (oo 3) (os_64h 3) ++ zwO (oo 4) (os_64h 4) ++ zwO (oo 5) (os_64h 5) ++ zwO (oo 6) (os_64h 6) ++ zwO (oo 7) (os_64h 7) ++ zwO (oo 8) (os_64h 8)) H → va_D A (zwS cI So Sp Go Ss_64h Sa_64h ++ zwG cI Go Gp Gs Ga ++ zwR cO ra oo ++ zwO (oo 0) (os_64h 0) ++ zwO (oo 1) (os_64h 1) ++ zwO (oo 2) (os_64h 2) ++ zwO (oo 3) (os_64h 3) ++ zwO (oo 4) (os_64h 4) ++ zwO (oo 5) (os_64h 5) ++ zwO (oo 6) (os_64h 6) ++ zwO (oo 7) (os_64h 7) ++ zwO (oo 8) (os_64h 8)) → va_S A s.heap H locs → lv_has ls 10 [(0, .ref So), (1, .ref ra), (2, .int (4 : Int32)), (3, .ref (oo 4)), (4, .ref (oo 5)), (5, .int x5_47h), (6, .int x6_64h)] → W p l e R s m args below meth c H locs 0 0 Q (F0 m 64 ls []))) ?_ i30 _ _ _ hP hD hS (lv_sub hl [1, 2, 3, 4, 5, 6, 0] rfl)
    clear i30 hP hD hS hl
    intro x6_64h Ss_64h Sa_64h os_64h z64 h zl64 zr64 H locs ls hP hD hS hl
    refine lv_iload hx hb dX5_look_64 (lv_at hl 6 rfl) ?_
    refine lv_bipush (v := (8 : Int32)) hx hb dX5_look_66 (by decide) ?_
    refine lv_icmp_ge (tgt := 155) hx hb dX5_look_68 (by decide) (fun c8 => ?_) (fun c8 => ?_)
    · have h := zif_t c8 h
      cases zr64 _ (zend h).symm
      exact KX155 _ _ _ hP hD hS (lv_sub hl [0, 1, 2, 3, 4, 5] rfl)
    · have h := zif_f c8 h
      refine lv_aload_n hx hb dX5_look_71 rfl (lv_at hl 0 rfl) ?_
      refine lv_iload hx hb dX5_look_72 (lv_at hl 5 rfl) ?_
      refine lv_iload hx hb dX5_look_74 (lv_at hl 6 rfl) ?_
      obtain ⟨r9, g10, h⟩ := zb1_s h
      have hFc := va_free (wc := (zwS cI So Sp Go Ss_64h Sa_64h ++ zwG cI Go Gp Gs Ga)) hD hS hA [0, 1, 2, 3, 4, 5] rfl
      refine zcall_i (w2 := (zwS cI So Sp Go Ss_64h Sa_64h ++ zwG cI Go Gp Gs Ga ++ zwR cO ra oo ++ zwO (oo 0) (os_64h 0) ++ zwO (oo 1) (os_64h 1) ++ zwO (oo 2) (os_64h 2) ++ zwO (oo 3) (os_64h 3) ++ zwO (oo 4) (os_64h 4) ++ zwO (oo 5) (os_64h 5) ++ zwO (oo 6) (os_64h 6) ++ zwO (oo 7) (os_64h 7) ++ zwO (oo 8) (os_64h 8))) (va_runV (As := [.int x5_47h, .int x6_64h]) (rest := []) ⟨hx, hb, hml, hown, hts⟩ (c_X4_targetOf l D cI cB cO So Sp Go Gp Ss_64h Sa_64h Gs Ga x5_47h x6_64h _ _ g10) (cwV 2 hts gX5_look_X4_targetOf rfl rfl rfl kV_X4_targetOf ⟨Nat.le_trans (Nat.le_of_ble_eq_true rfl) hRf, Nat.le_trans (Nat.le_of_ble_eq_true rfl) hRl⟩) (zpreV hK hP hD hS hE hFc [0, 1, 2, 3, 4, 5] rfl rfl 0 (ci := 4) rfl rfl [.int x5_47h, .int x6_64h]) rfl rfl hl.1 rfl (lv_room (Nat.le_of_ble_eq_true rfl)) dX5_look_76 ⟨Nat.zero_le _, Nat.zero_le _⟩) hP hD hS hFc [0, 1, 2, 3, 4, 5] [6, 7, 8, 9, 10, 11, 12, 13, 14, 15] [10, 11, 12, 13, 14, 15, 0, 1, 2, 3, 4, 5, 6, 7, 8, 9] 16 rfl rfl rfl rfl (fun H locs hP hD hS => ?_)
      refine lv_istore (lv' := [(7, .int r9), (0, .ref So), (1, .ref ra), (2, .int (4 : Int32)), (3, .ref (oo 4)), (4, .ref (oo 5)), (5, .int x5_47h), (6, .int x6_64h)]) hx hb dX5_look_79 hl (by decide) rfl (fun ls hl => ?_)
      refine lv_iload hx hb dX5_look_81 (lv_at hl 0 rfl) ?_
      refine lv_iconst (v := (-1 : Int32)) hx hb dX5_look_83 (by decide) ?_
      obtain ⟨Ss_149, Sa_149, os_149, j11, h⟩ := zb3_s h
      have K149 : ∀ (H : Heap) (locs : List Loc) (ls : Array Slot), va_P D vwCl (zwS cI So Sp Go Ss_149 Sa_149 ++ zwG cI Go Gp Gs Ga ++ zwR cO ra oo ++ zwO (oo 0) (os_149 0) ++ zwO (oo 1) (os_149 1) ++ zwO (oo 2) (os_149 2) ++ zwO (oo 3) (os_149 3) ++ zwO (oo 4) (os_149 4) ++ zwO (oo 5) (os_149 5) ++ zwO (oo 6) (os_149 6) ++ zwO (oo 7) (os_149 7) ++ zwO (oo 8) (os_149 8)) H → va_D A (zwS cI So Sp Go Ss_149 Sa_149 ++ zwG cI Go Gp Gs Ga ++ zwR cO ra oo ++ zwO (oo 0) (os_149 0) ++ zwO (oo 1) (os_149 1) ++ zwO (oo 2) (os_149 2) ++ zwO (oo 3) (os_149 3) ++ zwO (oo 4) (os_149 4) ++ zwO (oo 5) (os_149 5) ++ zwO (oo 6) (os_149 6) ++ zwO (oo 7) (os_149 7) ++ zwO (oo 8) (os_149 8)) → va_S A s.heap H locs → lv_has ls 10 [(0, .ref So), (1, .ref ra), (2, .int (4 : Int32)), (3, .ref (oo 4)), (4, .ref (oo 5)), (5, .int x5_47h), (6, .int x6_64h)] → W p l e R s m args below meth c H locs 0 0 Q (F0 m 149 ls []) := by
        intro H locs ls hP hD hS hl
        refine lv_iinc (v := (x6_64h + (1 : Int32))) (lv' := [(6, .int (x6_64h + (1 : Int32))), (0, .ref So), (1, .ref ra), (2, .int (4 : Int32)), (3, .ref (oo 4)), (4, .ref (oo 5)), (5, .int x5_47h)]) hx hb dX5_look_149 hl (k := 6) rfl rfl (by decide) rfl (fun ls hl => ?_)
        refine lv_goto (tgt := 64) hx hb dX5_look_152 (by decide) ?_
        exact zl64 _ _ _ _ (zend h).symm _ _ _ hP hD hS (lv_sub hl [1, 2, 3, 4, 5, 6, 0] rfl)
      clear h
      have h := j11
      clear j11
      refine lv_icmp_eq (tgt := 149) hx hb dX5_look_84 (by decide) (fun c12 => ?_) (fun c12 => ?_)
      · have h := zif_t c12 h
        cases zend h
        exact K149 _ _ _ hP hD hS (lv_sub hl [1, 2, 3, 4, 5, 6, 7] rfl)
      · have h := zif_f c12 h
        refine lv_aload_n hx hb dX5_look_87 rfl (lv_at hl 1 rfl) ?_
        refine lv_iload hx hb dX5_look_88 (lv_at hl 6 rfl) ?_
        obtain ⟨r13, g14, h⟩ := zb1_s h
        have hFc := va_free (wc := (zwS cI So Sp Go Ss_64h Sa_64h)) hD hS hA [0, 1, 2, 3] rfl
        refine zcall_i (w2 := (zwS cI So Sp Go Ss_64h Sa_64h ++ zwG cI Go Gp Gs Ga ++ zwR cO ra oo ++ zwO (oo 0) (os_64h 0) ++ zwO (oo 1) (os_64h 1) ++ zwO (oo 2) (os_64h 2) ++ zwO (oo 3) (os_64h 3) ++ zwO (oo 4) (os_64h 4) ++ zwO (oo 5) (os_64h 5) ++ zwO (oo 6) (os_64h 6) ++ zwO (oo 7) (os_64h 7) ++ zwO (oo 8) (os_64h 8))) (va_runV (As := [.int x5_47h]) (rest := []) ⟨hx, hb, hml, hown, hts⟩ (c_X4_homeOf l D cI cB cO So Sp Go Ss_64h Sa_64h x5_47h _ _ g14) (cwV 1 hts gX5_look_X4_homeOf rfl rfl rfl kV_X4_homeOf ⟨Nat.le_trans (Nat.le_of_ble_eq_true rfl) hRf, Nat.le_trans (Nat.le_of_ble_eq_true rfl) hRl⟩) (zpreV hK hP hD hS hE hFc [0, 1, 2, 3] rfl rfl 0 (ci := 4) rfl rfl [.int x5_47h]) rfl rfl hl.1 rfl (lv_room (Nat.le_of_ble_eq_true rfl)) dX5_look_90 ⟨Nat.zero_le _, Nat.zero_le _⟩) hP hD hS hFc [0, 1, 2, 3] [4, 5, 6, 7, 8, 9, 10, 11, 12, 13, 14, 15] [12, 13, 14, 15, 0, 1, 2, 3, 4, 5, 6, 7, 8, 9, 10, 11] 16 rfl rfl rfl rfl (fun H locs hP hD hS => ?_)
        refine lv_istore (lv' := [(8, .int r13), (7, .int r9), (0, .ref So), (1, .ref ra), (2, .int (4 : Int32)), (3, .ref (oo 4)), (4, .ref (oo 5)), (5, .int x5_47h), (6, .int x6_64h)]) hx hb dX5_look_93 hl (by decide) rfl (fun ls hl => ?_)
        refine lv_aload_n hx hb dX5_look_95 rfl (lv_at hl 2 rfl) ?_
        refine lv_iload hx hb dX5_look_96 (lv_at hl 7 rfl) ?_
        refine lv_iload hx hb dX5_look_98 (lv_at hl 8 rfl) ?_
        obtain ⟨r15, g16, h⟩ := zb1_s h
        have hFc := va_free (wc := (zwS cI So Sp Go Ss_64h Sa_64h ++ zwG cI Go Gp Gs Ga)) hD hS hA [0, 1, 2, 3, 4, 5] rfl
        refine zcall_i (w2 := (zwS cI So Sp Go Ss_64h Sa_64h ++ zwG cI Go Gp Gs Ga ++ zwR cO ra oo ++ zwO (oo 0) (os_64h 0) ++ zwO (oo 1) (os_64h 1) ++ zwO (oo 2) (os_64h 2) ++ zwO (oo 3) (os_64h 3) ++ zwO (oo 4) (os_64h 4) ++ zwO (oo 5) (os_64h 5) ++ zwO (oo 6) (os_64h 6) ++ zwO (oo 7) (os_64h 7) ++ zwO (oo 8) (os_64h 8))) (va_runV (As := [.int x5_47h, .int x6_64h]) (rest := []) ⟨hx, hb, hml, hown, hts⟩ (c_X4_neighbourOf l D cI cB cO So Sp Go Gp Ss_64h Sa_64h Gs Ga x5_47h x6_64h _ _ g16) (cwV 2 hts gX5_look_X4_neighbourOf rfl rfl rfl kV_X4_neighbourOf ⟨Nat.le_trans (Nat.le_of_ble_eq_true rfl) hRf, Nat.le_trans (Nat.le_of_ble_eq_true rfl) hRl⟩) (zpreV hK hP hD hS hE hFc [0, 1, 2, 3, 4, 5] rfl rfl 0 (ci := 4) rfl rfl [.int x5_47h, .int x6_64h]) rfl rfl hl.1 rfl (lv_room (Nat.le_of_ble_eq_true rfl)) dX5_look_100 ⟨Nat.zero_le _, Nat.zero_le _⟩) hP hD hS hFc [0, 1, 2, 3, 4, 5] [6, 7, 8, 9, 10, 11, 12, 13, 14, 15] [10, 11, 12, 13, 14, 15, 0, 1, 2, 3, 4, 5, 6, 7, 8, 9] 16 rfl rfl rfl rfl (fun H locs hP hD hS => ?_)
        refine lv_istore (lv' := [(9, .int r15), (8, .int r13), (7, .int r9), (0, .ref So), (1, .ref ra), (2, .int (4 : Int32)), (3, .ref (oo 4)), (4, .ref (oo 5)), (5, .int x5_47h), (6, .int x6_64h)]) hx hb dX5_look_103 hl (by decide) rfl (fun ls hl => ?_)
        refine lv_aload_n hx hb dX5_look_105 rfl (lv_at hl 3 rfl) ?_
        refine lv_iload hx hb dX5_look_106 (lv_at hl 8 rfl) ?_
        refine lv_iload hx hb dX5_look_108 (lv_at hl 0 rfl) ?_
        refine lv_iload hx hb dX5_look_110 (lv_at hl 2 rfl) ?_
        obtain ⟨Ss_17, Sa_18, g19, h⟩ := zb2_s h
        have hFc := va_free (wc := (zwS cI So Sp Go Ss_64h Sa_64h ++ zwG cI Go Gp Gs Ga)) hD hS hA [0, 1, 2, 3, 4, 5] rfl
        refine zcall_v (w2 := (zwS cI So Sp Go Ss_17 Sa_18 ++ zwG cI Go Gp Gs Ga ++ zwR cO ra oo ++ zwO (oo 0) (os_64h 0) ++ zwO (oo 1) (os_64h 1) ++ zwO (oo 2) (os_64h 2) ++ zwO (oo 3) (os_64h 3) ++ zwO (oo 4) (os_64h 4) ++ zwO (oo 5) (os_64h 5) ++ zwO (oo 6) (os_64h 6) ++ zwO (oo 7) (os_64h 7) ++ zwO (oo 8) (os_64h 8))) (va_runV (As := [.int x5_47h, .int r15, .int r9]) (rest := []) ⟨hx, hb, hml, hown, hts⟩ (c_X4_leap l D cI cB cO So Sp Go Gp Ss_64h Sa_64h Gs Ga x5_47h r15 r9 _ _ _ g19) (cwV 3 hts gX5_look_X4_leap rfl rfl rfl kV_X4_leap ⟨Nat.le_trans (Nat.le_of_ble_eq_true rfl) hRf, Nat.le_trans (Nat.le_of_ble_eq_true rfl) hRl⟩) (zpreV hK hP hD hS hE hFc [0, 1, 2, 3, 4, 5] rfl rfl 0 (ci := 4) rfl rfl [.int x5_47h, .int r15, .int r9]) rfl rfl hl.1 rfl (lv_room (Nat.le_of_ble_eq_true rfl)) dX5_look_112 ⟨Nat.zero_le _, Nat.zero_le _⟩) hP hD hS hFc [0, 1, 2, 3, 4, 5] [6, 7, 8, 9, 10, 11, 12, 13, 14, 15] [10, 11, 12, 13, 14, 15, 0, 1, 2, 3, 4, 5, 6, 7, 8, 9] 16 rfl rfl rfl rfl (fun H locs hP hD hS => ?_)
        refine lv_aload_n hx hb dX5_look_115 rfl (lv_at hl 3 rfl) ?_
        refine lv_aload_n hx hb dX5_look_116 rfl (lv_at hl 4 rfl) ?_
        refine lv_iload_n hx hb dX5_look_117 rfl (lv_at hl 5 rfl) ?_
        refine lv_iconst (v := (1 : Int32)) hx hb dX5_look_118 (by decide) ?_
        refine lv_iadd hx hb dX5_look_119 ?_
        refine lv_topi (fun k20 ek20 => ?_)
        obtain rfl : k20 = (5 : Int32) := ek20.trans (by decide)
        obtain ⟨Ss_21, Sa_22, os_23, g24, h⟩ := zb3_s h
        have hFc := va_free (wc := (zwS cI So Sp Go Ss_17 Sa_18 ++ zwG cI Go Gp Gs Ga ++ zwR cO ra oo ++ zwO (oo 0) (os_64h 0) ++ zwO (oo 1) (os_64h 1) ++ zwO (oo 2) (os_64h 2) ++ zwO (oo 3) (os_64h 3) ++ zwO (oo 4) (os_64h 4) ++ zwO (oo 5) (os_64h 5) ++ zwO (oo 6) (os_64h 6) ++ zwO (oo 7) (os_64h 7) ++ zwO (oo 8) (os_64h 8))) hD hS hA [0, 1, 2, 3, 4, 5, 6, 7, 8, 9, 10, 11, 12, 13, 14, 15] rfl
        refine zcall_v (w2 := (zwS cI So Sp Go Ss_21 Sa_22 ++ zwG cI Go Gp Gs Ga ++ zwR cO ra oo ++ zwO (oo 0) (os_23 0) ++ zwO (oo 1) (os_23 1) ++ zwO (oo 2) (os_23 2) ++ zwO (oo 3) (os_23 3) ++ zwO (oo 4) (os_23 4) ++ zwO (oo 5) (os_23 5) ++ zwO (oo 6) (os_23 6) ++ zwO (oo 7) (os_23 7) ++ zwO (oo 8) (os_23 8))) (va_runS (As := [.ref So, .ref ra, .int (5 : Int32)]) (rest := []) ⟨hx, hb, hml, hown, hts⟩ (c_X5_look_5 l D cI cB cO So Sp Go Gp ra oo Ss_17 Sa_18 Gs Ga os_64h _ _ _ _ g24) (va_cwS 3 hts gX5_look_X5_look rfl rfl rfl kS_X5_look ⟨Nat.le_trans (Nat.le_of_ble_eq_true rfl) hRf, Nat.le_trans (Nat.le_of_ble_eq_true rfl) hRl⟩) (zpreS hK hP hD hS hE hFc [0, 1, 2, 3, 4, 5, 6, 7, 8, 9, 10, 11, 12, 13, 14, 15] rfl rfl [.ref So, .ref ra, .int (5 : Int32)]) rfl rfl hl.1 rfl (lv_room (Nat.le_of_ble_eq_true rfl)) dX5_look_120 ⟨Nat.zero_le _, Nat.zero_le _⟩) hP hD hS hFc [0, 1, 2, 3, 4, 5, 6, 7, 8, 9, 10, 11, 12, 13, 14, 15] [] [0, 1, 2, 3, 4, 5, 6, 7, 8, 9, 10, 11, 12, 13, 14, 15] 16 rfl rfl rfl rfl (fun H locs hP hD hS => ?_)
        refine lv_aload_n hx hb dX5_look_123 rfl (lv_at hl 3 rfl) ?_
        refine lv_iload hx hb dX5_look_124 (lv_at hl 8 rfl) ?_
        refine lv_iload hx hb dX5_look_126 (lv_at hl 1 rfl) ?_
        refine lv_iload hx hb dX5_look_128 (lv_at hl 0 rfl) ?_
        refine lv_iload hx hb dX5_look_130 (lv_at hl 9 rfl) ?_
        obtain ⟨Ss_25, Sa_26, g27, h⟩ := zb2_s h
        have hFc := va_free (wc := (zwS cI So Sp Go Ss_21 Sa_22 ++ zwG cI Go Gp Gs Ga)) hD hS hA [0, 1, 2, 3, 4, 5] rfl
        refine zcall_v (w2 := (zwS cI So Sp Go Ss_25 Sa_26 ++ zwG cI Go Gp Gs Ga ++ zwR cO ra oo ++ zwO (oo 0) (os_23 0) ++ zwO (oo 1) (os_23 1) ++ zwO (oo 2) (os_23 2) ++ zwO (oo 3) (os_23 3) ++ zwO (oo 4) (os_23 4) ++ zwO (oo 5) (os_23 5) ++ zwO (oo 6) (os_23 6) ++ zwO (oo 7) (os_23 7) ++ zwO (oo 8) (os_23 8))) (va_runV (As := [.int x5_47h, .int r13, .int r15, .int x6_64h]) (rest := []) ⟨hx, hb, hml, hown, hts⟩ (c_X4_takeBack l D cI cB cO So Sp Go Gp Ss_21 Sa_22 Gs Ga x5_47h r13 r15 x6_64h _ _ _ g27) (cwV 4 hts gX5_look_X4_takeBack rfl rfl rfl kV_X4_takeBack ⟨Nat.le_trans (Nat.le_of_ble_eq_true rfl) hRf, Nat.le_trans (Nat.le_of_ble_eq_true rfl) hRl⟩) (zpreV hK hP hD hS hE hFc [0, 1, 2, 3, 4, 5] rfl rfl 0 (ci := 4) rfl rfl [.int x5_47h, .int r13, .int r15, .int x6_64h]) rfl rfl hl.1 rfl (lv_room (Nat.le_of_ble_eq_true rfl)) dX5_look_132 ⟨Nat.zero_le _, Nat.zero_le _⟩) hP hD hS hFc [0, 1, 2, 3, 4, 5] [6, 7, 8, 9, 10, 11, 12, 13, 14, 15] [10, 11, 12, 13, 14, 15, 0, 1, 2, 3, 4, 5, 6, 7, 8, 9] 16 rfl rfl rfl rfl (fun H locs hP hD hS => ?_)
        refine lv_aload_n hx hb dX5_look_135 rfl (lv_at hl 6 rfl) ?_
        refine lv_bipush (v := (100 : Int32)) hx hb dX5_look_136 (by decide) ?_
        refine lv_iload hx hb dX5_look_138 (lv_at hl 8 rfl) ?_
        refine lv_imul hx hb dX5_look_140 ?_
        refine lv_iload hx hb dX5_look_141 (lv_at hl 2 rfl) ?_
        refine lv_iadd hx hb dX5_look_143 ?_
        refine lv_aload hx hb dX5_look_144 (lv_at hl 7 rfl) ?_
        obtain ⟨Os_28, g29, h⟩ := zb1_s h
        have hFc := va_free (wc := (zwO (oo 4) (os_23 4) ++ zwO (oo 5) (os_23 5))) hD hS hA [11, 12] rfl
        refine zcall_v (w2 := (zwS cI So Sp Go Ss_25 Sa_26 ++ zwG cI Go Gp Gs Ga ++ zwR cO ra oo ++ zwO (oo 0) (os_23 0) ++ zwO (oo 1) (os_23 1) ++ zwO (oo 2) (os_23 2) ++ zwO (oo 3) (os_23 3) ++ zwO (oo 4) Os_28 ++ zwO (oo 5) (os_23 5) ++ zwO (oo 6) (os_23 6) ++ zwO (oo 7) (os_23 7) ++ zwO (oo 8) (os_23 8))) (va_runV (As := [.int (((100 : Int32) * x5_47h) + r9), .ref (oo 5)]) (rest := []) ⟨hx, hb, hml, hown, hts⟩ (c_X1_take l D cI cB cO (oo 4) (oo 5) (os_23 4) (os_23 5) (((100 : Int32) * x5_47h) + r9) _ _ g29) (cwV 2 hts gX5_look_X1_take rfl rfl rfl kV_X1_take ⟨Nat.le_trans (Nat.le_of_ble_eq_true rfl) hRf, Nat.le_trans (Nat.le_of_ble_eq_true rfl) hRl⟩) (zpreV hK hP hD hS hE hFc [11, 12] rfl rfl 11 (ci := 1) rfl rfl [.int (((100 : Int32) * x5_47h) + r9), .ref (oo 5)]) rfl rfl hl.1 rfl (lv_room (Nat.le_of_ble_eq_true rfl)) dX5_look_146 ⟨Nat.zero_le _, Nat.zero_le _⟩) hP hD hS hFc [11, 12] [0, 1, 2, 3, 4, 5, 6, 7, 8, 9, 10, 13, 14, 15] [0, 1, 2, 3, 4, 5, 6, 7, 8, 9, 10, 14, 15, 11, 12, 13] 16 rfl rfl rfl rfl (fun H locs hP hD hS => ?_)
        cases zend h
        exact K149 _ _ _ hP hD hS (lv_sub hl [3, 4, 5, 6, 7, 8, 9] rfl)
set_option maxHeartbeats 4000000 in
set_option maxRecDepth 100000 in
theorem c_X5_look_3 (l : Launch) (D : va_G) (cI cB cO : ClassId) (So : Nat) (Sp : Nat → Nat) (Go : Nat) (Gp : Nat → Nat) (ra : Nat) (oo : Nat → Nat) (Ss : Nat → Int32) (Sa : Nat → Nat → Int32) (Gs : Nat → Int32) (Ga : Nat → Nat → Int32) (os : Nat → Nat → Int32)  (Ss' : Nat → Int32) (Sa' : Nat → Nat → Int32) (os' : Nat → Nat → Int32) (sz : Nat) (h : fX5_look_3 Ss Sa Gs Ga os = some (Ss', Sa', os')) : Met l yX5_look wsX5_look ({ frames := 8, cells := 0, slots := 0, locals := 210 } : Room) (va_Pc [.ref So, .ref ra, .int (3 : Int32)] (zPre D (zTY cI cB cO) (zwS cI So Sp Go Ss Sa ++ zwG cI Go Gp Gs Ga ++ zwR cO ra oo ++ zwO (oo 0) (os 0) ++ zwO (oo 1) (os 1) ++ zwO (oo 2) (os 2) ++ zwO (oo 3) (os 3) ++ zwO (oo 4) (os 4) ++ zwO (oo 5) (os 5) ++ zwO (oo 6) (os 6) ++ zwO (oo 7) (os 7) ++ zwO (oo 8) (os 8)) sz)) (va_Qv (fun (_ : Unit) => True) (fun _ => zPost D (zTY cI cB cO) (zwS cI So Sp Go Ss' Sa' ++ zwG cI Go Gp Gs Ga ++ zwR cO ra oo ++ zwO (oo 0) (os' 0) ++ zwO (oo 1) (os' 1) ++ zwO (oo 2) (os' 2) ++ zwO (oo 3) (os' 3) ++ zwO (oo 4) (os' 4) ++ zwO (oo 5) (os' 5) ++ zwO (oo 6) (os' 6) ++ zwO (oo 7) (os' 7) ++ zwO (oo 8) (os' 8)) (va_A (zwS cI So Sp Go Ss Sa ++ zwG cI Go Gp Gs Ga ++ zwR cO ra oo ++ zwO (oo 0) (os 0) ++ zwO (oo 1) (os 1) ++ zwO (oo 2) (os 2) ++ zwO (oo 3) (os 3) ++ zwO (oo 4) (os 4) ++ zwO (oo 5) (os 5) ++ zwO (oo 6) (os 6) ++ zwO (oo 7) (os 7) ++ zwO (oo 8) (os 8)) sz)) (va_A (zwS cI So Sp Go Ss Sa ++ zwG cI Go Gp Gs Ga ++ zwR cO ra oo ++ zwO (oo 0) (os 0) ++ zwO (oo 1) (os 1) ++ zwO (oo 2) (os 2) ++ zwO (oo 3) (os 3) ++ zwO (oo 4) (os 4) ++ zwO (oo 5) (os 5) ++ zwO (oo 6) (os 6) ++ zwO (oo 7) (os 7) ++ zwO (oo 8) (os 8)) sz)) 0 0 (va_A (zwS cI So Sp Go Ss Sa ++ zwG cI Go Gp Gs Ga ++ zwR cO ra oo ++ zwO (oo 0) (os 0) ++ zwO (oo 1) (os 1) ++ zwO (oo 2) (os 2) ++ zwO (oo 3) (os 3) ++ zwO (oo 4) (os 4) ++ zwO (oo 5) (os 5) ++ zwO (oo 6) (os 6) ++ zwO (oo 7) (os 7) ++ zwO (oo 8) (os 8)) sz) := by
  unfold fX5_look_3 at h
  refine zmet_v (cc := cX5_look) (maxL := 10) (by decide) rfl (Nat.le_of_ble_eq_true rfl) rfl rfl ?_
  intro p e s m args below meth c R Q A ls hx hb hts hown hml hK hP hD hE hA hS hRf hRl hl hq
  have hown : s.vm.findClass RX5 = some m.cls := hown
  have hl : lv_has ls 10 [(0, .ref So), (1, .ref ra), (2, .int (3 : Int32))] := hl
  have inX4 : ∀ w ∈ u_ws RX4 TX4 8, w ∈ wsX5_look := by decide +kernel
  have lk98 : (Cond.fieldLinkNest RX5 98 "PegField$State" "pegs" "I" "PegField").before args s = true := hE.2.use (by decide +kernel)
  have lk150 : (Cond.fieldLinkNest RX5 150 "PegField$State" "onBoard" "I" "PegField").before args s = true := hE.2.use (by decide +kernel)
  refine lv_iload_n hx hb dX5_look_0 rfl (lv_at hl 2 rfl) ?_
  refine lv_if_lt (tgt := 16) hx hb dX5_look_1 (by decide) (fun q => absurd q (by decide)) (fun _ => ?_)
  refine lv_iload_n hx hb dX5_look_4 rfl (lv_at hl 2 rfl) ?_
  refine lv_aload_n hx hb dX5_look_5 rfl (lv_at hl 1 rfl) ?_
  refine va_alen hx hb hK hP 6 2 rfl rfl (v := (9 : Int32)) rfl dX5_look_6 ?_
  refine lv_icmp_ge (tgt := 16) hx hb dX5_look_7 (by decide) (fun q => absurd q (by decide)) (fun _ => ?_)
  refine lv_aload_n hx hb dX5_look_10 rfl (lv_at hl 1 rfl) ?_
  refine lv_iload_n hx hb dX5_look_11 rfl (lv_at hl 2 rfl) ?_
  refine va_aldq hx hb hK hP 6 2 rfl rfl (vp_in_iff.mpr (by decide)) dX5_look_12 ?_
  refine W.eq (g2 := F0 m 13 ls [.ref (oo 3)]) rfl ?_
  refine lv_ifnonnull (tgt := 17) hx hb dX5_look_13 (by decide) ?_
  refine lv_aload_n hx hb dX5_look_17 rfl (lv_at hl 1 rfl) ?_
  refine lv_iload_n hx hb dX5_look_18 rfl (lv_at hl 2 rfl) ?_
  refine va_aldq hx hb hK hP 6 2 rfl rfl (vp_in_iff.mpr (by decide)) dX5_look_19 ?_
  refine W.eq (g2 := F0 m 20 ls [.ref (oo 3)]) rfl ?_
  refine lv_astore_n (lv' := [(3, .ref (oo 3)), (0, .ref So), (1, .ref ra), (2, .int (3 : Int32))]) hx hb dX5_look_20 rfl hl (by decide) rfl (fun ls hl => ?_)
  refine lv_aload_n hx hb dX5_look_21 rfl (lv_at hl 0 rfl) ?_
  obtain ⟨Os_1, g2, h⟩ := zb1_s h
  have hFc := va_free (wc := (zwO (oo 3) (os 3))) hD hS hA [10] rfl
  refine zcall_v (w2 := (zwS cI So Sp Go Ss Sa ++ zwG cI Go Gp Gs Ga ++ zwR cO ra oo ++ zwO (oo 0) (os 0) ++ zwO (oo 1) (os 1) ++ zwO (oo 2) (os 2) ++ zwO (oo 3) Os_1 ++ zwO (oo 4) (os 4) ++ zwO (oo 5) (os 5) ++ zwO (oo 6) (os 6) ++ zwO (oo 7) (os 7) ++ zwO (oo 8) (os 8))) (va_runV (As := []) (rest := []) ⟨hx, hb, hml, hown, hts⟩ (c_X1_begin l D cI cB cO (oo 3) (os 3) _ _ g2) (cwV 0 hts gX5_look_X1_begin rfl rfl rfl kV_X1_begin ⟨Nat.le_trans (Nat.le_of_ble_eq_true rfl) hRf, Nat.le_trans (Nat.le_of_ble_eq_true rfl) hRl⟩) (zpreV hK hP hD hS hE hFc [10] rfl rfl 10 (ci := 1) rfl rfl []) rfl rfl hl.1 rfl (lv_room (Nat.le_of_ble_eq_true rfl)) dX5_look_22 ⟨Nat.zero_le _, Nat.zero_le _⟩) hP hD hS hFc [10] [0, 1, 2, 3, 4, 5, 6, 7, 8, 9, 11, 12, 13, 14, 15] [0, 1, 2, 3, 4, 5, 6, 7, 8, 9, 15, 10, 11, 12, 13, 14] 16 rfl rfl rfl rfl (fun H locs hP hD hS => ?_)
  refine lv_iload_n hx hb dX5_look_25 rfl (lv_at hl 3 rfl) ?_
  refine lv_iconst (v := (1 : Int32)) hx hb dX5_look_26 (by decide) ?_
  refine lv_iadd hx hb dX5_look_27 ?_
  refine lv_topi (fun k3 ek3 => ?_)
  obtain rfl : k3 = (4 : Int32) := ek3.trans (by decide)
  refine lv_aload_n hx hb dX5_look_28 rfl (lv_at hl 2 rfl) ?_
  refine va_alen hx hb hK hP 6 2 rfl rfl (v := (9 : Int32)) rfl dX5_look_29 ?_
  refine lv_icmp_ge (tgt := 41) hx hb dX5_look_30 (by decide) (fun q => absurd q (by decide)) (fun _ => ?_)
  refine lv_aload_n hx hb dX5_look_33 rfl (lv_at hl 2 rfl) ?_
  refine lv_iload_n hx hb dX5_look_34 rfl (lv_at hl 3 rfl) ?_
  refine lv_iconst (v := (1 : Int32)) hx hb dX5_look_35 (by decide) ?_
  refine lv_iadd hx hb dX5_look_36 ?_
  refine lv_topi (fun k4 ek4 => ?_)
  obtain rfl : k4 = (4 : Int32) := ek4.trans (by decide)
  refine va_aldq hx hb hK hP 6 2 rfl rfl (vp_in_iff.mpr (by decide)) dX5_look_37 ?_
  refine W.eq (g2 := F0 m 38 ls [.ref (oo 4)]) rfl ?_
  refine lv_goto (tgt := 42) hx hb dX5_look_38 (by decide) ?_
  refine lv_astore (lv' := [(4, .ref (oo 4)), (3, .ref (oo 3)), (0, .ref So), (1, .ref ra), (2, .int (3 : Int32))]) hx hb dX5_look_42 hl (by decide) rfl (fun ls hl => ?_)
  refine lv_iconst (v := (0 : Int32)) hx hb dX5_look_44 (by decide) ?_
  refine lv_istore (lv' := [(5, .int (0 : Int32)), (4, .ref (oo 4)), (3, .ref (oo 3)), (0, .ref So), (1, .ref ra), (2, .int (3 : Int32))]) hx hb dX5_look_45 hl (by decide) rfl (fun ls hl => ?_)
  obtain ⟨Ss_161x47, Sa_161x47, os_161x47, i35, h⟩ := zb3_s h
  have KX161 : ∀ (H : Heap) (locs : List Loc) (ls : Array Slot), va_P D vwCl (zwS cI So Sp Go Ss_161x47 Sa_161x47 ++ zwG cI Go Gp Gs Ga ++ zwR cO ra oo ++ zwO (oo 0) (os_161x47 0) ++ zwO (oo 1) (os_161x47 1) ++ zwO (oo 2) (os_161x47 2) ++ zwO (oo 3) (os_161x47 3) ++ zwO (oo 4) (os_161x47 4) ++ zwO (oo 5) (os_161x47 5) ++ zwO (oo 6) (os_161x47 6) ++ zwO (oo 7) (os_161x47 7) ++ zwO (oo 8) (os_161x47 8)) H → va_D A (zwS cI So Sp Go Ss_161x47 Sa_161x47 ++ zwG cI Go Gp Gs Ga ++ zwR cO ra oo ++ zwO (oo 0) (os_161x47 0) ++ zwO (oo 1) (os_161x47 1) ++ zwO (oo 2) (os_161x47 2) ++ zwO (oo 3) (os_161x47 3) ++ zwO (oo 4) (os_161x47 4) ++ zwO (oo 5) (os_161x47 5) ++ zwO (oo 6) (os_161x47 6) ++ zwO (oo 7) (os_161x47 7) ++ zwO (oo 8) (os_161x47 8)) → va_S A s.heap H locs → lv_has ls 10 [(0, .ref So), (3, .ref (oo 3))] → W p l e R s m args below meth c H locs 0 0 Q (F0 m 161 ls []) := by
    intro H locs ls hP hD hS hl
    refine lv_aload_n hx hb dX5_look_161 rfl (lv_at hl 1 rfl) ?_
    refine lv_aload_n hx hb dX5_look_162 rfl (lv_at hl 0 rfl) ?_
    refine va_getN (D := D) (ci := 4) (v := .int (Ss_161x47 3)) (C := RX4) (T := TX4) (N := 8) hx hb hts inX4 hown hK hP 0 rfl rfl 3 (by decide) lk150 (fun _ h9 => h9) rfl dX5_look_163 ?_
    refine lv_aload_n hx hb dX5_look_166 rfl (lv_at hl 0 rfl) ?_
    obtain ⟨r31, g32, h⟩ := zb1_s h
    have hFc := va_free (wc := (zwS cI So Sp Go Ss_161x47 Sa_161x47 ++ zwG cI Go Gp Gs Ga)) hD hS hA [0, 1, 2, 3, 4, 5] rfl
    refine zcall_i (w2 := (zwS cI So Sp Go Ss_161x47 Sa_161x47 ++ zwG cI Go Gp Gs Ga ++ zwR cO ra oo ++ zwO (oo 0) (os_161x47 0) ++ zwO (oo 1) (os_161x47 1) ++ zwO (oo 2) (os_161x47 2) ++ zwO (oo 3) (os_161x47 3) ++ zwO (oo 4) (os_161x47 4) ++ zwO (oo 5) (os_161x47 5) ++ zwO (oo 6) (os_161x47 6) ++ zwO (oo 7) (os_161x47 7) ++ zwO (oo 8) (os_161x47 8))) (va_runV (As := []) (rest := [.int (Ss_161x47 3), .ref (oo 3)]) ⟨hx, hb, hml, hown, hts⟩ (c_X4_aloneBit l D cI cB cO So Sp Go Gp Ss_161x47 Sa_161x47 Gs Ga _ _ g32) (cwV 0 hts gX5_look_X4_aloneBit rfl rfl rfl kV_X4_aloneBit ⟨Nat.le_trans (Nat.le_of_ble_eq_true rfl) hRf, Nat.le_trans (Nat.le_of_ble_eq_true rfl) hRl⟩) (zpreV hK hP hD hS hE hFc [0, 1, 2, 3, 4, 5] rfl rfl 0 (ci := 4) rfl rfl []) rfl rfl hl.1 rfl (lv_room (Nat.le_of_ble_eq_true rfl)) dX5_look_167 ⟨Nat.zero_le _, Nat.zero_le _⟩) hP hD hS hFc [0, 1, 2, 3, 4, 5] [6, 7, 8, 9, 10, 11, 12, 13, 14, 15] [10, 11, 12, 13, 14, 15, 0, 1, 2, 3, 4, 5, 6, 7, 8, 9] 16 rfl rfl rfl rfl (fun H locs hP hD hS => ?_)
    obtain ⟨Os_33, g34, h⟩ := zb1_s h
    have hFc := va_free (wc := (zwO (oo 3) (os_161x47 3))) hD hS hA [10] rfl
    refine zcall_v (w2 := (zwS cI So Sp Go Ss_161x47 Sa_161x47 ++ zwG cI Go Gp Gs Ga ++ zwR cO ra oo ++ zwO (oo 0) (os_161x47 0) ++ zwO (oo 1) (os_161x47 1) ++ zwO (oo 2) (os_161x47 2) ++ zwO (oo 3) Os_33 ++ zwO (oo 4) (os_161x47 4) ++ zwO (oo 5) (os_161x47 5) ++ zwO (oo 6) (os_161x47 6) ++ zwO (oo 7) (os_161x47 7) ++ zwO (oo 8) (os_161x47 8))) (va_runV (As := [.int (Ss_161x47 3), .int r31]) (rest := []) ⟨hx, hb, hml, hown, hts⟩ (c_X1_end l D cI cB cO (oo 3) (os_161x47 3) (Ss_161x47 3) r31 _ _ g34) (cwV 2 hts gX5_look_X1_end rfl rfl rfl kV_X1_end ⟨Nat.le_trans (Nat.le_of_ble_eq_true rfl) hRf, Nat.le_trans (Nat.le_of_ble_eq_true rfl) hRl⟩) (zpreV hK hP hD hS hE hFc [10] rfl rfl 10 (ci := 1) rfl rfl [.int (Ss_161x47 3), .int r31]) rfl rfl hl.1 rfl (lv_room (Nat.le_of_ble_eq_true rfl)) dX5_look_170 ⟨Nat.zero_le _, Nat.zero_le _⟩) hP hD hS hFc [10] [0, 1, 2, 3, 4, 5, 6, 7, 8, 9, 11, 12, 13, 14, 15] [0, 1, 2, 3, 4, 5, 6, 7, 8, 9, 15, 10, 11, 12, 13, 14] 16 rfl rfl rfl rfl (fun H locs hP hD hS => ?_)
    cases zend h
    exact hq hP hD hS dX5_look_173
  clear h
  refine zi4_ind (P := (fun (x5_47h : Int32) (Ss_47h : Nat → Int32) (Sa_47h : Nat → Nat → Int32) (os_47h : Nat → Nat → Int32) => ∀ (H : Heap) (locs : List Loc) (ls : Array Slot), va_P D vwCl (zwS cI So Sp Go Ss_47h Sa_47h ++ zwG cI Go Gp Gs Ga ++ zwR cO ra oo ++ zwO (oo 0) (os_47h 0) ++ zwO (oo 1) (os_47h 1) ++ zwO (oo 2) (os_47h 2) ++ zwO (oo 3) (os_47h 3) ++ zwO (oo 4) (os_47h 4) ++ zwO (oo 5) (os_47h 5) ++ zwO (oo 6) (os_47h 6) ++ zwO (oo 7) (os_47h 7) ++ zwO (oo 8) (os_47h 8)) H → va_D A (zwS cI So Sp Go Ss_47h Sa_47h ++ zwG cI Go Gp Gs Ga ++ zwR cO ra oo ++ zwO (oo 0) (os_47h 0) ++ zwO (oo 1) (os_47h 1) ++ zwO (oo 2) (os_47h 2) ++ zwO (oo 3) (os_47h 3) ++ zwO (oo 4) (os_47h 4) ++ zwO (oo 5) (os_47h 5) ++ zwO (oo 6) (os_47h 6) ++ zwO (oo 7) (os_47h 7) ++ zwO (oo 8) (os_47h 8)) → va_S A s.heap H locs → lv_has ls 10 [(0, .ref So), (1, .ref ra), (2, .int (3 : Int32)), (3, .ref (oo 3)), (4, .ref (oo 4)), (5, .int x5_47h)] → W p l e R s m args below meth c H locs 0 0 Q (F0 m 47 ls []))) ?_ i35 _ _ _ hP hD hS (lv_sub hl [3, 4, 5, 2, 1, 0] rfl)
  clear i35 hP hD hS hl
  intro x5_47h Ss_47h Sa_47h os_47h z47 h zl47 zr47 H locs ls hP hD hS hl
  refine lv_iload hx hb dX5_look_47 (lv_at hl 5 rfl) ?_
  refine lv_aload_n hx hb dX5_look_49 rfl (lv_at hl 0 rfl) ?_
  refine va_getN (D := D) (ci := 4) (v := .int (Ss_47h 2)) (C := RX4) (T := TX4) (N := 8) hx hb hts inX4 hown hK hP 0 rfl rfl 2 (by decide) lk98 (fun _ h9 => h9) rfl dX5_look_50 ?_
  refine lv_icmp_ge (tgt := 161) hx hb dX5_look_53 (by decide) (fun c6 => ?_) (fun c6 => ?_)
  · have h := zif_t c6 h
    cases zr47 _ (zend h).symm
    exact KX161 _ _ _ hP hD hS (lv_sub hl [0, 3] rfl)
  · have h := zif_f c6 h
    refine lv_aload hx hb dX5_look_56 (lv_at hl 4 rfl) ?_
    refine lv_ifnull hx hb dX5_look_58 ?_
    refine lv_iconst (v := (0 : Int32)) hx hb dX5_look_61 (by decide) ?_
    refine lv_istore (lv' := [(6, .int (0 : Int32)), (0, .ref So), (1, .ref ra), (2, .int (3 : Int32)), (3, .ref (oo 3)), (4, .ref (oo 4)), (5, .int x5_47h)]) hx hb dX5_look_62 hl (by decide) rfl (fun ls hl => ?_)
    obtain ⟨Ss_155x64, Sa_155x64, os_155x64, i30, h⟩ := zb3_s h
    have KX155 : ∀ (H : Heap) (locs : List Loc) (ls : Array Slot), va_P D vwCl (zwS cI So Sp Go Ss_155x64 Sa_155x64 ++ zwG cI Go Gp Gs Ga ++ zwR cO ra oo ++ zwO (oo 0) (os_155x64 0) ++ zwO (oo 1) (os_155x64 1) ++ zwO (oo 2) (os_155x64 2) ++ zwO (oo 3) (os_155x64 3) ++ zwO (oo 4) (os_155x64 4) ++ zwO (oo 5) (os_155x64 5) ++ zwO (oo 6) (os_155x64 6) ++ zwO (oo 7) (os_155x64 7) ++ zwO (oo 8) (os_155x64 8)) H → va_D A (zwS cI So Sp Go Ss_155x64 Sa_155x64 ++ zwG cI Go Gp Gs Ga ++ zwR cO ra oo ++ zwO (oo 0) (os_155x64 0) ++ zwO (oo 1) (os_155x64 1) ++ zwO (oo 2) (os_155x64 2) ++ zwO (oo 3) (os_155x64 3) ++ zwO (oo 4) (os_155x64 4) ++ zwO (oo 5) (os_155x64 5) ++ zwO (oo 6) (os_155x64 6) ++ zwO (oo 7) (os_155x64 7) ++ zwO (oo 8) (os_155x64 8)) → va_S A s.heap H locs → lv_has ls 10 [(0, .ref So), (1, .ref ra), (2, .int (3 : Int32)), (3, .ref (oo 3)), (4, .ref (oo 4)), (5, .int x5_47h)] → W p l e R s m args below meth c H locs 0 0 Q (F0 m 155 ls []) := by
      intro H locs ls hP hD hS hl
      refine lv_iinc (v := (x5_47h + (1 : Int32))) (lv' := [(5, .int (x5_47h + (1 : Int32))), (0, .ref So), (1, .ref ra), (2, .int (3 : Int32)), (3, .ref (oo 3)), (4, .ref (oo 4))]) hx hb dX5_look_155 hl (k := 5) rfl rfl (by decide) rfl (fun ls hl => ?_)
      refine lv_goto (tgt := 47) hx hb dX5_look_158 (by decide) ?_
      exact zl47 _ _ _ _ (zend h).symm _ _ _ hP hD hS (lv_sub hl [1, 2, 3, 4, 5, 0] rfl)
    clear h
    refine zi4_ind (P := (fun (x6_64h : Int32) (Ss_64h : Nat → Int32) (Sa_64h : Nat → Nat → Int32) (os_64h : Nat → Nat → Int32) => ∀ (H : Heap) (locs : List Loc) (ls : Array Slot), va_P D vwCl (zwS cI So Sp Go Ss_64h Sa_64h ++ zwG cI Go Gp Gs Ga ++ zwR cO ra oo ++ zwO (oo 0) (os_64h 0) ++ zwO (oo 1) (os_64h 1) ++ zwO (oo 2) (os_64h 2) ++ zwO (oo 3) (os_64h 3) ++ zwO (oo 4) (os_64h 4) ++ zwO (oo 5) (os_64h 5) ++ zwO (oo 6) (os_64h 6) ++ zwO (oo 7) (os_64h 7) ++ zwO (oo 8) (os_64h 8)) H → va_D A (zwS cI So Sp Go Ss_64h Sa_64h ++ zwG cI Go Gp Gs Ga ++ zwR cO ra oo ++ zwO (oo 0) (os_64h 0) ++ zwO (oo 1) (os_64h 1) ++ zwO (oo 2) (os_64h 2) ++ zwO (oo 3) (os_64h 3) ++ zwO (oo 4) (os_64h 4) ++ zwO (oo 5) (os_64h 5) ++ zwO (oo 6) (os_64h 6) ++ zwO (oo 7) (os_64h 7) ++ zwO (oo 8) (os_64h 8)) → va_S A s.heap H locs → lv_has ls 10 [(0, .ref So), (1, .ref ra), (2, .int (3 : Int32)), (3, .ref (oo 3)), (4, .ref (oo 4)), (5, .int x5_47h), (6, .int x6_64h)] → W p l e R s m args below meth c H locs 0 0 Q (F0 m 64 ls []))) ?_ i30 _ _ _ hP hD hS (lv_sub hl [1, 2, 3, 4, 5, 6, 0] rfl)
    clear i30 hP hD hS hl
    intro x6_64h Ss_64h Sa_64h os_64h z64 h zl64 zr64 H locs ls hP hD hS hl
    refine lv_iload hx hb dX5_look_64 (lv_at hl 6 rfl) ?_
    refine lv_bipush (v := (8 : Int32)) hx hb dX5_look_66 (by decide) ?_
    refine lv_icmp_ge (tgt := 155) hx hb dX5_look_68 (by decide) (fun c8 => ?_) (fun c8 => ?_)
    · have h := zif_t c8 h
      cases zr64 _ (zend h).symm
      exact KX155 _ _ _ hP hD hS (lv_sub hl [0, 1, 2, 3, 4, 5] rfl)
    · have h := zif_f c8 h
      refine lv_aload_n hx hb dX5_look_71 rfl (lv_at hl 0 rfl) ?_
      refine lv_iload hx hb dX5_look_72 (lv_at hl 5 rfl) ?_
      refine lv_iload hx hb dX5_look_74 (lv_at hl 6 rfl) ?_
      obtain ⟨r9, g10, h⟩ := zb1_s h
      have hFc := va_free (wc := (zwS cI So Sp Go Ss_64h Sa_64h ++ zwG cI Go Gp Gs Ga)) hD hS hA [0, 1, 2, 3, 4, 5] rfl
      refine zcall_i (w2 := (zwS cI So Sp Go Ss_64h Sa_64h ++ zwG cI Go Gp Gs Ga ++ zwR cO ra oo ++ zwO (oo 0) (os_64h 0) ++ zwO (oo 1) (os_64h 1) ++ zwO (oo 2) (os_64h 2) ++ zwO (oo 3) (os_64h 3) ++ zwO (oo 4) (os_64h 4) ++ zwO (oo 5) (os_64h 5) ++ zwO (oo 6) (os_64h 6) ++ zwO (oo 7) (os_64h 7) ++ zwO (oo 8) (os_64h 8))) (va_runV (As := [.int x5_47h, .int x6_64h]) (rest := []) ⟨hx, hb, hml, hown, hts⟩ (c_X4_targetOf l D cI cB cO So Sp Go Gp Ss_64h Sa_64h Gs Ga x5_47h x6_64h _ _ g10) (cwV 2 hts gX5_look_X4_targetOf rfl rfl rfl kV_X4_targetOf ⟨Nat.le_trans (Nat.le_of_ble_eq_true rfl) hRf, Nat.le_trans (Nat.le_of_ble_eq_true rfl) hRl⟩) (zpreV hK hP hD hS hE hFc [0, 1, 2, 3, 4, 5] rfl rfl 0 (ci := 4) rfl rfl [.int x5_47h, .int x6_64h]) rfl rfl hl.1 rfl (lv_room (Nat.le_of_ble_eq_true rfl)) dX5_look_76 ⟨Nat.zero_le _, Nat.zero_le _⟩) hP hD hS hFc [0, 1, 2, 3, 4, 5] [6, 7, 8, 9, 10, 11, 12, 13, 14, 15] [10, 11, 12, 13, 14, 15, 0, 1, 2, 3, 4, 5, 6, 7, 8, 9] 16 rfl rfl rfl rfl (fun H locs hP hD hS => ?_)
      refine lv_istore (lv' := [(7, .int r9), (0, .ref So), (1, .ref ra), (2, .int (3 : Int32)), (3, .ref (oo 3)), (4, .ref (oo 4)), (5, .int x5_47h), (6, .int x6_64h)]) hx hb dX5_look_79 hl (by decide) rfl (fun ls hl => ?_)
      refine lv_iload hx hb dX5_look_81 (lv_at hl 0 rfl) ?_
      refine lv_iconst (v := (-1 : Int32)) hx hb dX5_look_83 (by decide) ?_
      obtain ⟨Ss_149, Sa_149, os_149, j11, h⟩ := zb3_s h
      have K149 : ∀ (H : Heap) (locs : List Loc) (ls : Array Slot), va_P D vwCl (zwS cI So Sp Go Ss_149 Sa_149 ++ zwG cI Go Gp Gs Ga ++ zwR cO ra oo ++ zwO (oo 0) (os_149 0) ++ zwO (oo 1) (os_149 1) ++ zwO (oo 2) (os_149 2) ++ zwO (oo 3) (os_149 3) ++ zwO (oo 4) (os_149 4) ++ zwO (oo 5) (os_149 5) ++ zwO (oo 6) (os_149 6) ++ zwO (oo 7) (os_149 7) ++ zwO (oo 8) (os_149 8)) H → va_D A (zwS cI So Sp Go Ss_149 Sa_149 ++ zwG cI Go Gp Gs Ga ++ zwR cO ra oo ++ zwO (oo 0) (os_149 0) ++ zwO (oo 1) (os_149 1) ++ zwO (oo 2) (os_149 2) ++ zwO (oo 3) (os_149 3) ++ zwO (oo 4) (os_149 4) ++ zwO (oo 5) (os_149 5) ++ zwO (oo 6) (os_149 6) ++ zwO (oo 7) (os_149 7) ++ zwO (oo 8) (os_149 8)) → va_S A s.heap H locs → lv_has ls 10 [(0, .ref So), (1, .ref ra), (2, .int (3 : Int32)), (3, .ref (oo 3)), (4, .ref (oo 4)), (5, .int x5_47h), (6, .int x6_64h)] → W p l e R s m args below meth c H locs 0 0 Q (F0 m 149 ls []) := by
        intro H locs ls hP hD hS hl
        refine lv_iinc (v := (x6_64h + (1 : Int32))) (lv' := [(6, .int (x6_64h + (1 : Int32))), (0, .ref So), (1, .ref ra), (2, .int (3 : Int32)), (3, .ref (oo 3)), (4, .ref (oo 4)), (5, .int x5_47h)]) hx hb dX5_look_149 hl (k := 6) rfl rfl (by decide) rfl (fun ls hl => ?_)
        refine lv_goto (tgt := 64) hx hb dX5_look_152 (by decide) ?_
        exact zl64 _ _ _ _ (zend h).symm _ _ _ hP hD hS (lv_sub hl [1, 2, 3, 4, 5, 6, 0] rfl)
      clear h
      have h := j11
      clear j11
      refine lv_icmp_eq (tgt := 149) hx hb dX5_look_84 (by decide) (fun c12 => ?_) (fun c12 => ?_)
      · have h := zif_t c12 h
        cases zend h
        exact K149 _ _ _ hP hD hS (lv_sub hl [1, 2, 3, 4, 5, 6, 7] rfl)
      · have h := zif_f c12 h
        refine lv_aload_n hx hb dX5_look_87 rfl (lv_at hl 1 rfl) ?_
        refine lv_iload hx hb dX5_look_88 (lv_at hl 6 rfl) ?_
        obtain ⟨r13, g14, h⟩ := zb1_s h
        have hFc := va_free (wc := (zwS cI So Sp Go Ss_64h Sa_64h)) hD hS hA [0, 1, 2, 3] rfl
        refine zcall_i (w2 := (zwS cI So Sp Go Ss_64h Sa_64h ++ zwG cI Go Gp Gs Ga ++ zwR cO ra oo ++ zwO (oo 0) (os_64h 0) ++ zwO (oo 1) (os_64h 1) ++ zwO (oo 2) (os_64h 2) ++ zwO (oo 3) (os_64h 3) ++ zwO (oo 4) (os_64h 4) ++ zwO (oo 5) (os_64h 5) ++ zwO (oo 6) (os_64h 6) ++ zwO (oo 7) (os_64h 7) ++ zwO (oo 8) (os_64h 8))) (va_runV (As := [.int x5_47h]) (rest := []) ⟨hx, hb, hml, hown, hts⟩ (c_X4_homeOf l D cI cB cO So Sp Go Ss_64h Sa_64h x5_47h _ _ g14) (cwV 1 hts gX5_look_X4_homeOf rfl rfl rfl kV_X4_homeOf ⟨Nat.le_trans (Nat.le_of_ble_eq_true rfl) hRf, Nat.le_trans (Nat.le_of_ble_eq_true rfl) hRl⟩) (zpreV hK hP hD hS hE hFc [0, 1, 2, 3] rfl rfl 0 (ci := 4) rfl rfl [.int x5_47h]) rfl rfl hl.1 rfl (lv_room (Nat.le_of_ble_eq_true rfl)) dX5_look_90 ⟨Nat.zero_le _, Nat.zero_le _⟩) hP hD hS hFc [0, 1, 2, 3] [4, 5, 6, 7, 8, 9, 10, 11, 12, 13, 14, 15] [12, 13, 14, 15, 0, 1, 2, 3, 4, 5, 6, 7, 8, 9, 10, 11] 16 rfl rfl rfl rfl (fun H locs hP hD hS => ?_)
        refine lv_istore (lv' := [(8, .int r13), (7, .int r9), (0, .ref So), (1, .ref ra), (2, .int (3 : Int32)), (3, .ref (oo 3)), (4, .ref (oo 4)), (5, .int x5_47h), (6, .int x6_64h)]) hx hb dX5_look_93 hl (by decide) rfl (fun ls hl => ?_)
        refine lv_aload_n hx hb dX5_look_95 rfl (lv_at hl 2 rfl) ?_
        refine lv_iload hx hb dX5_look_96 (lv_at hl 7 rfl) ?_
        refine lv_iload hx hb dX5_look_98 (lv_at hl 8 rfl) ?_
        obtain ⟨r15, g16, h⟩ := zb1_s h
        have hFc := va_free (wc := (zwS cI So Sp Go Ss_64h Sa_64h ++ zwG cI Go Gp Gs Ga)) hD hS hA [0, 1, 2, 3, 4, 5] rfl
        refine zcall_i (w2 := (zwS cI So Sp Go Ss_64h Sa_64h ++ zwG cI Go Gp Gs Ga ++ zwR cO ra oo ++ zwO (oo 0) (os_64h 0) ++ zwO (oo 1) (os_64h 1) ++ zwO (oo 2) (os_64h 2) ++ zwO (oo 3) (os_64h 3) ++ zwO (oo 4) (os_64h 4) ++ zwO (oo 5) (os_64h 5) ++ zwO (oo 6) (os_64h 6) ++ zwO (oo 7) (os_64h 7) ++ zwO (oo 8) (os_64h 8))) (va_runV (As := [.int x5_47h, .int x6_64h]) (rest := []) ⟨hx, hb, hml, hown, hts⟩ (c_X4_neighbourOf l D cI cB cO So Sp Go Gp Ss_64h Sa_64h Gs Ga x5_47h x6_64h _ _ g16) (cwV 2 hts gX5_look_X4_neighbourOf rfl rfl rfl kV_X4_neighbourOf ⟨Nat.le_trans (Nat.le_of_ble_eq_true rfl) hRf, Nat.le_trans (Nat.le_of_ble_eq_true rfl) hRl⟩) (zpreV hK hP hD hS hE hFc [0, 1, 2, 3, 4, 5] rfl rfl 0 (ci := 4) rfl rfl [.int x5_47h, .int x6_64h]) rfl rfl hl.1 rfl (lv_room (Nat.le_of_ble_eq_true rfl)) dX5_look_100 ⟨Nat.zero_le _, Nat.zero_le _⟩) hP hD hS hFc [0, 1, 2, 3, 4, 5] [6, 7, 8, 9, 10, 11, 12, 13, 14, 15] [10, 11, 12, 13, 14, 15, 0, 1, 2, 3, 4, 5, 6, 7, 8, 9] 16 rfl rfl rfl rfl (fun H locs hP hD hS => ?_)
        refine lv_istore (lv' := [(9, .int r15), (8, .int r13), (7, .int r9), (0, .ref So), (1, .ref ra), (2, .int (3 : Int32)), (3, .ref (oo 3)), (4, .ref (oo 4)), (5, .int x5_47h), (6, .int x6_64h)]) hx hb dX5_look_103 hl (by decide) rfl (fun ls hl => ?_)
        refine lv_aload_n hx hb dX5_look_105 rfl (lv_at hl 3 rfl) ?_
        refine lv_iload hx hb dX5_look_106 (lv_at hl 8 rfl) ?_
        refine lv_iload hx hb dX5_look_108 (lv_at hl 0 rfl) ?_
        refine lv_iload hx hb dX5_look_110 (lv_at hl 2 rfl) ?_
        obtain ⟨Ss_17, Sa_18, g19, h⟩ := zb2_s h
        have hFc := va_free (wc := (zwS cI So Sp Go Ss_64h Sa_64h ++ zwG cI Go Gp Gs Ga)) hD hS hA [0, 1, 2, 3, 4, 5] rfl
        refine zcall_v (w2 := (zwS cI So Sp Go Ss_17 Sa_18 ++ zwG cI Go Gp Gs Ga ++ zwR cO ra oo ++ zwO (oo 0) (os_64h 0) ++ zwO (oo 1) (os_64h 1) ++ zwO (oo 2) (os_64h 2) ++ zwO (oo 3) (os_64h 3) ++ zwO (oo 4) (os_64h 4) ++ zwO (oo 5) (os_64h 5) ++ zwO (oo 6) (os_64h 6) ++ zwO (oo 7) (os_64h 7) ++ zwO (oo 8) (os_64h 8))) (va_runV (As := [.int x5_47h, .int r15, .int r9]) (rest := []) ⟨hx, hb, hml, hown, hts⟩ (c_X4_leap l D cI cB cO So Sp Go Gp Ss_64h Sa_64h Gs Ga x5_47h r15 r9 _ _ _ g19) (cwV 3 hts gX5_look_X4_leap rfl rfl rfl kV_X4_leap ⟨Nat.le_trans (Nat.le_of_ble_eq_true rfl) hRf, Nat.le_trans (Nat.le_of_ble_eq_true rfl) hRl⟩) (zpreV hK hP hD hS hE hFc [0, 1, 2, 3, 4, 5] rfl rfl 0 (ci := 4) rfl rfl [.int x5_47h, .int r15, .int r9]) rfl rfl hl.1 rfl (lv_room (Nat.le_of_ble_eq_true rfl)) dX5_look_112 ⟨Nat.zero_le _, Nat.zero_le _⟩) hP hD hS hFc [0, 1, 2, 3, 4, 5] [6, 7, 8, 9, 10, 11, 12, 13, 14, 15] [10, 11, 12, 13, 14, 15, 0, 1, 2, 3, 4, 5, 6, 7, 8, 9] 16 rfl rfl rfl rfl (fun H locs hP hD hS => ?_)
        refine lv_aload_n hx hb dX5_look_115 rfl (lv_at hl 3 rfl) ?_
        refine lv_aload_n hx hb dX5_look_116 rfl (lv_at hl 4 rfl) ?_
        refine lv_iload_n hx hb dX5_look_117 rfl (lv_at hl 5 rfl) ?_
        refine lv_iconst (v := (1 : Int32)) hx hb dX5_look_118 (by decide) ?_
        refine lv_iadd hx hb dX5_look_119 ?_
        refine lv_topi (fun k20 ek20 => ?_)
        obtain rfl : k20 = (4 : Int32) := ek20.trans (by decide)
        obtain ⟨Ss_21, Sa_22, os_23, g24, h⟩ := zb3_s h
        have hFc := va_free (wc := (zwS cI So Sp Go Ss_17 Sa_18 ++ zwG cI Go Gp Gs Ga ++ zwR cO ra oo ++ zwO (oo 0) (os_64h 0) ++ zwO (oo 1) (os_64h 1) ++ zwO (oo 2) (os_64h 2) ++ zwO (oo 3) (os_64h 3) ++ zwO (oo 4) (os_64h 4) ++ zwO (oo 5) (os_64h 5) ++ zwO (oo 6) (os_64h 6) ++ zwO (oo 7) (os_64h 7) ++ zwO (oo 8) (os_64h 8))) hD hS hA [0, 1, 2, 3, 4, 5, 6, 7, 8, 9, 10, 11, 12, 13, 14, 15] rfl
        refine zcall_v (w2 := (zwS cI So Sp Go Ss_21 Sa_22 ++ zwG cI Go Gp Gs Ga ++ zwR cO ra oo ++ zwO (oo 0) (os_23 0) ++ zwO (oo 1) (os_23 1) ++ zwO (oo 2) (os_23 2) ++ zwO (oo 3) (os_23 3) ++ zwO (oo 4) (os_23 4) ++ zwO (oo 5) (os_23 5) ++ zwO (oo 6) (os_23 6) ++ zwO (oo 7) (os_23 7) ++ zwO (oo 8) (os_23 8))) (va_runS (As := [.ref So, .ref ra, .int (4 : Int32)]) (rest := []) ⟨hx, hb, hml, hown, hts⟩ (c_X5_look_4 l D cI cB cO So Sp Go Gp ra oo Ss_17 Sa_18 Gs Ga os_64h _ _ _ _ g24) (va_cwS 3 hts gX5_look_X5_look rfl rfl rfl kS_X5_look ⟨Nat.le_trans (Nat.le_of_ble_eq_true rfl) hRf, Nat.le_trans (Nat.le_of_ble_eq_true rfl) hRl⟩) (zpreS hK hP hD hS hE hFc [0, 1, 2, 3, 4, 5, 6, 7, 8, 9, 10, 11, 12, 13, 14, 15] rfl rfl [.ref So, .ref ra, .int (4 : Int32)]) rfl rfl hl.1 rfl (lv_room (Nat.le_of_ble_eq_true rfl)) dX5_look_120 ⟨Nat.zero_le _, Nat.zero_le _⟩) hP hD hS hFc [0, 1, 2, 3, 4, 5, 6, 7, 8, 9, 10, 11, 12, 13, 14, 15] [] [0, 1, 2, 3, 4, 5, 6, 7, 8, 9, 10, 11, 12, 13, 14, 15] 16 rfl rfl rfl rfl (fun H locs hP hD hS => ?_)
        refine lv_aload_n hx hb dX5_look_123 rfl (lv_at hl 3 rfl) ?_
        refine lv_iload hx hb dX5_look_124 (lv_at hl 8 rfl) ?_
        refine lv_iload hx hb dX5_look_126 (lv_at hl 1 rfl) ?_
        refine lv_iload hx hb dX5_look_128 (lv_at hl 0 rfl) ?_
        refine lv_iload hx hb dX5_look_130 (lv_at hl 9 rfl) ?_
        obtain ⟨Ss_25, Sa_26, g27, h⟩ := zb2_s h
        have hFc := va_free (wc := (zwS cI So Sp Go Ss_21 Sa_22 ++ zwG cI Go Gp Gs Ga)) hD hS hA [0, 1, 2, 3, 4, 5] rfl
        refine zcall_v (w2 := (zwS cI So Sp Go Ss_25 Sa_26 ++ zwG cI Go Gp Gs Ga ++ zwR cO ra oo ++ zwO (oo 0) (os_23 0) ++ zwO (oo 1) (os_23 1) ++ zwO (oo 2) (os_23 2) ++ zwO (oo 3) (os_23 3) ++ zwO (oo 4) (os_23 4) ++ zwO (oo 5) (os_23 5) ++ zwO (oo 6) (os_23 6) ++ zwO (oo 7) (os_23 7) ++ zwO (oo 8) (os_23 8))) (va_runV (As := [.int x5_47h, .int r13, .int r15, .int x6_64h]) (rest := []) ⟨hx, hb, hml, hown, hts⟩ (c_X4_takeBack l D cI cB cO So Sp Go Gp Ss_21 Sa_22 Gs Ga x5_47h r13 r15 x6_64h _ _ _ g27) (cwV 4 hts gX5_look_X4_takeBack rfl rfl rfl kV_X4_takeBack ⟨Nat.le_trans (Nat.le_of_ble_eq_true rfl) hRf, Nat.le_trans (Nat.le_of_ble_eq_true rfl) hRl⟩) (zpreV hK hP hD hS hE hFc [0, 1, 2, 3, 4, 5] rfl rfl 0 (ci := 4) rfl rfl [.int x5_47h, .int r13, .int r15, .int x6_64h]) rfl rfl hl.1 rfl (lv_room (Nat.le_of_ble_eq_true rfl)) dX5_look_132 ⟨Nat.zero_le _, Nat.zero_le _⟩) hP hD hS hFc [0, 1, 2, 3, 4, 5] [6, 7, 8, 9, 10, 11, 12, 13, 14, 15] [10, 11, 12, 13, 14, 15, 0, 1, 2, 3, 4, 5, 6, 7, 8, 9] 16 rfl rfl rfl rfl (fun H locs hP hD hS => ?_)
        refine lv_aload_n hx hb dX5_look_135 rfl (lv_at hl 6 rfl) ?_
        refine lv_bipush (v := (100 : Int32)) hx hb dX5_look_136 (by decide) ?_
        refine lv_iload hx hb dX5_look_138 (lv_at hl 8 rfl) ?_
        refine lv_imul hx hb dX5_look_140 ?_
        refine lv_iload hx hb dX5_look_141 (lv_at hl 2 rfl) ?_
        refine lv_iadd hx hb dX5_look_143 ?_
        refine lv_aload hx hb dX5_look_144 (lv_at hl 7 rfl) ?_
        obtain ⟨Os_28, g29, h⟩ := zb1_s h
        have hFc := va_free (wc := (zwO (oo 3) (os_23 3) ++ zwO (oo 4) (os_23 4))) hD hS hA [10, 11] rfl
        refine zcall_v (w2 := (zwS cI So Sp Go Ss_25 Sa_26 ++ zwG cI Go Gp Gs Ga ++ zwR cO ra oo ++ zwO (oo 0) (os_23 0) ++ zwO (oo 1) (os_23 1) ++ zwO (oo 2) (os_23 2) ++ zwO (oo 3) Os_28 ++ zwO (oo 4) (os_23 4) ++ zwO (oo 5) (os_23 5) ++ zwO (oo 6) (os_23 6) ++ zwO (oo 7) (os_23 7) ++ zwO (oo 8) (os_23 8))) (va_runV (As := [.int (((100 : Int32) * x5_47h) + r9), .ref (oo 4)]) (rest := []) ⟨hx, hb, hml, hown, hts⟩ (c_X1_take l D cI cB cO (oo 3) (oo 4) (os_23 3) (os_23 4) (((100 : Int32) * x5_47h) + r9) _ _ g29) (cwV 2 hts gX5_look_X1_take rfl rfl rfl kV_X1_take ⟨Nat.le_trans (Nat.le_of_ble_eq_true rfl) hRf, Nat.le_trans (Nat.le_of_ble_eq_true rfl) hRl⟩) (zpreV hK hP hD hS hE hFc [10, 11] rfl rfl 10 (ci := 1) rfl rfl [.int (((100 : Int32) * x5_47h) + r9), .ref (oo 4)]) rfl rfl hl.1 rfl (lv_room (Nat.le_of_ble_eq_true rfl)) dX5_look_146 ⟨Nat.zero_le _, Nat.zero_le _⟩) hP hD hS hFc [10, 11] [0, 1, 2, 3, 4, 5, 6, 7, 8, 9, 12, 13, 14, 15] [0, 1, 2, 3, 4, 5, 6, 7, 8, 9, 14, 15, 10, 11, 12, 13] 16 rfl rfl rfl rfl (fun H locs hP hD hS => ?_)
        cases zend h
        exact K149 _ _ _ hP hD hS (lv_sub hl [3, 4, 5, 6, 7, 8, 9] rfl)
set_option maxHeartbeats 4000000 in
set_option maxRecDepth 100000 in
theorem c_X5_look_2 (l : Launch) (D : va_G) (cI cB cO : ClassId) (So : Nat) (Sp : Nat → Nat) (Go : Nat) (Gp : Nat → Nat) (ra : Nat) (oo : Nat → Nat) (Ss : Nat → Int32) (Sa : Nat → Nat → Int32) (Gs : Nat → Int32) (Ga : Nat → Nat → Int32) (os : Nat → Nat → Int32)  (Ss' : Nat → Int32) (Sa' : Nat → Nat → Int32) (os' : Nat → Nat → Int32) (sz : Nat) (h : fX5_look_2 Ss Sa Gs Ga os = some (Ss', Sa', os')) : Met l yX5_look wsX5_look ({ frames := 9, cells := 0, slots := 0, locals := 239 } : Room) (va_Pc [.ref So, .ref ra, .int (2 : Int32)] (zPre D (zTY cI cB cO) (zwS cI So Sp Go Ss Sa ++ zwG cI Go Gp Gs Ga ++ zwR cO ra oo ++ zwO (oo 0) (os 0) ++ zwO (oo 1) (os 1) ++ zwO (oo 2) (os 2) ++ zwO (oo 3) (os 3) ++ zwO (oo 4) (os 4) ++ zwO (oo 5) (os 5) ++ zwO (oo 6) (os 6) ++ zwO (oo 7) (os 7) ++ zwO (oo 8) (os 8)) sz)) (va_Qv (fun (_ : Unit) => True) (fun _ => zPost D (zTY cI cB cO) (zwS cI So Sp Go Ss' Sa' ++ zwG cI Go Gp Gs Ga ++ zwR cO ra oo ++ zwO (oo 0) (os' 0) ++ zwO (oo 1) (os' 1) ++ zwO (oo 2) (os' 2) ++ zwO (oo 3) (os' 3) ++ zwO (oo 4) (os' 4) ++ zwO (oo 5) (os' 5) ++ zwO (oo 6) (os' 6) ++ zwO (oo 7) (os' 7) ++ zwO (oo 8) (os' 8)) (va_A (zwS cI So Sp Go Ss Sa ++ zwG cI Go Gp Gs Ga ++ zwR cO ra oo ++ zwO (oo 0) (os 0) ++ zwO (oo 1) (os 1) ++ zwO (oo 2) (os 2) ++ zwO (oo 3) (os 3) ++ zwO (oo 4) (os 4) ++ zwO (oo 5) (os 5) ++ zwO (oo 6) (os 6) ++ zwO (oo 7) (os 7) ++ zwO (oo 8) (os 8)) sz)) (va_A (zwS cI So Sp Go Ss Sa ++ zwG cI Go Gp Gs Ga ++ zwR cO ra oo ++ zwO (oo 0) (os 0) ++ zwO (oo 1) (os 1) ++ zwO (oo 2) (os 2) ++ zwO (oo 3) (os 3) ++ zwO (oo 4) (os 4) ++ zwO (oo 5) (os 5) ++ zwO (oo 6) (os 6) ++ zwO (oo 7) (os 7) ++ zwO (oo 8) (os 8)) sz)) 0 0 (va_A (zwS cI So Sp Go Ss Sa ++ zwG cI Go Gp Gs Ga ++ zwR cO ra oo ++ zwO (oo 0) (os 0) ++ zwO (oo 1) (os 1) ++ zwO (oo 2) (os 2) ++ zwO (oo 3) (os 3) ++ zwO (oo 4) (os 4) ++ zwO (oo 5) (os 5) ++ zwO (oo 6) (os 6) ++ zwO (oo 7) (os 7) ++ zwO (oo 8) (os 8)) sz) := by
  unfold fX5_look_2 at h
  refine zmet_v (cc := cX5_look) (maxL := 10) (by decide) rfl (Nat.le_of_ble_eq_true rfl) rfl rfl ?_
  intro p e s m args below meth c R Q A ls hx hb hts hown hml hK hP hD hE hA hS hRf hRl hl hq
  have hown : s.vm.findClass RX5 = some m.cls := hown
  have hl : lv_has ls 10 [(0, .ref So), (1, .ref ra), (2, .int (2 : Int32))] := hl
  have inX4 : ∀ w ∈ u_ws RX4 TX4 8, w ∈ wsX5_look := by decide +kernel
  have lk98 : (Cond.fieldLinkNest RX5 98 "PegField$State" "pegs" "I" "PegField").before args s = true := hE.2.use (by decide +kernel)
  have lk150 : (Cond.fieldLinkNest RX5 150 "PegField$State" "onBoard" "I" "PegField").before args s = true := hE.2.use (by decide +kernel)
  refine lv_iload_n hx hb dX5_look_0 rfl (lv_at hl 2 rfl) ?_
  refine lv_if_lt (tgt := 16) hx hb dX5_look_1 (by decide) (fun q => absurd q (by decide)) (fun _ => ?_)
  refine lv_iload_n hx hb dX5_look_4 rfl (lv_at hl 2 rfl) ?_
  refine lv_aload_n hx hb dX5_look_5 rfl (lv_at hl 1 rfl) ?_
  refine va_alen hx hb hK hP 6 2 rfl rfl (v := (9 : Int32)) rfl dX5_look_6 ?_
  refine lv_icmp_ge (tgt := 16) hx hb dX5_look_7 (by decide) (fun q => absurd q (by decide)) (fun _ => ?_)
  refine lv_aload_n hx hb dX5_look_10 rfl (lv_at hl 1 rfl) ?_
  refine lv_iload_n hx hb dX5_look_11 rfl (lv_at hl 2 rfl) ?_
  refine va_aldq hx hb hK hP 6 2 rfl rfl (vp_in_iff.mpr (by decide)) dX5_look_12 ?_
  refine W.eq (g2 := F0 m 13 ls [.ref (oo 2)]) rfl ?_
  refine lv_ifnonnull (tgt := 17) hx hb dX5_look_13 (by decide) ?_
  refine lv_aload_n hx hb dX5_look_17 rfl (lv_at hl 1 rfl) ?_
  refine lv_iload_n hx hb dX5_look_18 rfl (lv_at hl 2 rfl) ?_
  refine va_aldq hx hb hK hP 6 2 rfl rfl (vp_in_iff.mpr (by decide)) dX5_look_19 ?_
  refine W.eq (g2 := F0 m 20 ls [.ref (oo 2)]) rfl ?_
  refine lv_astore_n (lv' := [(3, .ref (oo 2)), (0, .ref So), (1, .ref ra), (2, .int (2 : Int32))]) hx hb dX5_look_20 rfl hl (by decide) rfl (fun ls hl => ?_)
  refine lv_aload_n hx hb dX5_look_21 rfl (lv_at hl 0 rfl) ?_
  obtain ⟨Os_1, g2, h⟩ := zb1_s h
  have hFc := va_free (wc := (zwO (oo 2) (os 2))) hD hS hA [9] rfl
  refine zcall_v (w2 := (zwS cI So Sp Go Ss Sa ++ zwG cI Go Gp Gs Ga ++ zwR cO ra oo ++ zwO (oo 0) (os 0) ++ zwO (oo 1) (os 1) ++ zwO (oo 2) Os_1 ++ zwO (oo 3) (os 3) ++ zwO (oo 4) (os 4) ++ zwO (oo 5) (os 5) ++ zwO (oo 6) (os 6) ++ zwO (oo 7) (os 7) ++ zwO (oo 8) (os 8))) (va_runV (As := []) (rest := []) ⟨hx, hb, hml, hown, hts⟩ (c_X1_begin l D cI cB cO (oo 2) (os 2) _ _ g2) (cwV 0 hts gX5_look_X1_begin rfl rfl rfl kV_X1_begin ⟨Nat.le_trans (Nat.le_of_ble_eq_true rfl) hRf, Nat.le_trans (Nat.le_of_ble_eq_true rfl) hRl⟩) (zpreV hK hP hD hS hE hFc [9] rfl rfl 9 (ci := 1) rfl rfl []) rfl rfl hl.1 rfl (lv_room (Nat.le_of_ble_eq_true rfl)) dX5_look_22 ⟨Nat.zero_le _, Nat.zero_le _⟩) hP hD hS hFc [9] [0, 1, 2, 3, 4, 5, 6, 7, 8, 10, 11, 12, 13, 14, 15] [0, 1, 2, 3, 4, 5, 6, 7, 8, 15, 9, 10, 11, 12, 13, 14] 16 rfl rfl rfl rfl (fun H locs hP hD hS => ?_)
  refine lv_iload_n hx hb dX5_look_25 rfl (lv_at hl 3 rfl) ?_
  refine lv_iconst (v := (1 : Int32)) hx hb dX5_look_26 (by decide) ?_
  refine lv_iadd hx hb dX5_look_27 ?_
  refine lv_topi (fun k3 ek3 => ?_)
  obtain rfl : k3 = (3 : Int32) := ek3.trans (by decide)
  refine lv_aload_n hx hb dX5_look_28 rfl (lv_at hl 2 rfl) ?_
  refine va_alen hx hb hK hP 6 2 rfl rfl (v := (9 : Int32)) rfl dX5_look_29 ?_
  refine lv_icmp_ge (tgt := 41) hx hb dX5_look_30 (by decide) (fun q => absurd q (by decide)) (fun _ => ?_)
  refine lv_aload_n hx hb dX5_look_33 rfl (lv_at hl 2 rfl) ?_
  refine lv_iload_n hx hb dX5_look_34 rfl (lv_at hl 3 rfl) ?_
  refine lv_iconst (v := (1 : Int32)) hx hb dX5_look_35 (by decide) ?_
  refine lv_iadd hx hb dX5_look_36 ?_
  refine lv_topi (fun k4 ek4 => ?_)
  obtain rfl : k4 = (3 : Int32) := ek4.trans (by decide)
  refine va_aldq hx hb hK hP 6 2 rfl rfl (vp_in_iff.mpr (by decide)) dX5_look_37 ?_
  refine W.eq (g2 := F0 m 38 ls [.ref (oo 3)]) rfl ?_
  refine lv_goto (tgt := 42) hx hb dX5_look_38 (by decide) ?_
  refine lv_astore (lv' := [(4, .ref (oo 3)), (3, .ref (oo 2)), (0, .ref So), (1, .ref ra), (2, .int (2 : Int32))]) hx hb dX5_look_42 hl (by decide) rfl (fun ls hl => ?_)
  refine lv_iconst (v := (0 : Int32)) hx hb dX5_look_44 (by decide) ?_
  refine lv_istore (lv' := [(5, .int (0 : Int32)), (4, .ref (oo 3)), (3, .ref (oo 2)), (0, .ref So), (1, .ref ra), (2, .int (2 : Int32))]) hx hb dX5_look_45 hl (by decide) rfl (fun ls hl => ?_)
  obtain ⟨Ss_161x47, Sa_161x47, os_161x47, i35, h⟩ := zb3_s h
  have KX161 : ∀ (H : Heap) (locs : List Loc) (ls : Array Slot), va_P D vwCl (zwS cI So Sp Go Ss_161x47 Sa_161x47 ++ zwG cI Go Gp Gs Ga ++ zwR cO ra oo ++ zwO (oo 0) (os_161x47 0) ++ zwO (oo 1) (os_161x47 1) ++ zwO (oo 2) (os_161x47 2) ++ zwO (oo 3) (os_161x47 3) ++ zwO (oo 4) (os_161x47 4) ++ zwO (oo 5) (os_161x47 5) ++ zwO (oo 6) (os_161x47 6) ++ zwO (oo 7) (os_161x47 7) ++ zwO (oo 8) (os_161x47 8)) H → va_D A (zwS cI So Sp Go Ss_161x47 Sa_161x47 ++ zwG cI Go Gp Gs Ga ++ zwR cO ra oo ++ zwO (oo 0) (os_161x47 0) ++ zwO (oo 1) (os_161x47 1) ++ zwO (oo 2) (os_161x47 2) ++ zwO (oo 3) (os_161x47 3) ++ zwO (oo 4) (os_161x47 4) ++ zwO (oo 5) (os_161x47 5) ++ zwO (oo 6) (os_161x47 6) ++ zwO (oo 7) (os_161x47 7) ++ zwO (oo 8) (os_161x47 8)) → va_S A s.heap H locs → lv_has ls 10 [(0, .ref So), (3, .ref (oo 2))] → W p l e R s m args below meth c H locs 0 0 Q (F0 m 161 ls []) := by
    intro H locs ls hP hD hS hl
    refine lv_aload_n hx hb dX5_look_161 rfl (lv_at hl 1 rfl) ?_
    refine lv_aload_n hx hb dX5_look_162 rfl (lv_at hl 0 rfl) ?_
    refine va_getN (D := D) (ci := 4) (v := .int (Ss_161x47 3)) (C := RX4) (T := TX4) (N := 8) hx hb hts inX4 hown hK hP 0 rfl rfl 3 (by decide) lk150 (fun _ h9 => h9) rfl dX5_look_163 ?_
    refine lv_aload_n hx hb dX5_look_166 rfl (lv_at hl 0 rfl) ?_
    obtain ⟨r31, g32, h⟩ := zb1_s h
    have hFc := va_free (wc := (zwS cI So Sp Go Ss_161x47 Sa_161x47 ++ zwG cI Go Gp Gs Ga)) hD hS hA [0, 1, 2, 3, 4, 5] rfl
    refine zcall_i (w2 := (zwS cI So Sp Go Ss_161x47 Sa_161x47 ++ zwG cI Go Gp Gs Ga ++ zwR cO ra oo ++ zwO (oo 0) (os_161x47 0) ++ zwO (oo 1) (os_161x47 1) ++ zwO (oo 2) (os_161x47 2) ++ zwO (oo 3) (os_161x47 3) ++ zwO (oo 4) (os_161x47 4) ++ zwO (oo 5) (os_161x47 5) ++ zwO (oo 6) (os_161x47 6) ++ zwO (oo 7) (os_161x47 7) ++ zwO (oo 8) (os_161x47 8))) (va_runV (As := []) (rest := [.int (Ss_161x47 3), .ref (oo 2)]) ⟨hx, hb, hml, hown, hts⟩ (c_X4_aloneBit l D cI cB cO So Sp Go Gp Ss_161x47 Sa_161x47 Gs Ga _ _ g32) (cwV 0 hts gX5_look_X4_aloneBit rfl rfl rfl kV_X4_aloneBit ⟨Nat.le_trans (Nat.le_of_ble_eq_true rfl) hRf, Nat.le_trans (Nat.le_of_ble_eq_true rfl) hRl⟩) (zpreV hK hP hD hS hE hFc [0, 1, 2, 3, 4, 5] rfl rfl 0 (ci := 4) rfl rfl []) rfl rfl hl.1 rfl (lv_room (Nat.le_of_ble_eq_true rfl)) dX5_look_167 ⟨Nat.zero_le _, Nat.zero_le _⟩) hP hD hS hFc [0, 1, 2, 3, 4, 5] [6, 7, 8, 9, 10, 11, 12, 13, 14, 15] [10, 11, 12, 13, 14, 15, 0, 1, 2, 3, 4, 5, 6, 7, 8, 9] 16 rfl rfl rfl rfl (fun H locs hP hD hS => ?_)
    obtain ⟨Os_33, g34, h⟩ := zb1_s h
    have hFc := va_free (wc := (zwO (oo 2) (os_161x47 2))) hD hS hA [9] rfl
    refine zcall_v (w2 := (zwS cI So Sp Go Ss_161x47 Sa_161x47 ++ zwG cI Go Gp Gs Ga ++ zwR cO ra oo ++ zwO (oo 0) (os_161x47 0) ++ zwO (oo 1) (os_161x47 1) ++ zwO (oo 2) Os_33 ++ zwO (oo 3) (os_161x47 3) ++ zwO (oo 4) (os_161x47 4) ++ zwO (oo 5) (os_161x47 5) ++ zwO (oo 6) (os_161x47 6) ++ zwO (oo 7) (os_161x47 7) ++ zwO (oo 8) (os_161x47 8))) (va_runV (As := [.int (Ss_161x47 3), .int r31]) (rest := []) ⟨hx, hb, hml, hown, hts⟩ (c_X1_end l D cI cB cO (oo 2) (os_161x47 2) (Ss_161x47 3) r31 _ _ g34) (cwV 2 hts gX5_look_X1_end rfl rfl rfl kV_X1_end ⟨Nat.le_trans (Nat.le_of_ble_eq_true rfl) hRf, Nat.le_trans (Nat.le_of_ble_eq_true rfl) hRl⟩) (zpreV hK hP hD hS hE hFc [9] rfl rfl 9 (ci := 1) rfl rfl [.int (Ss_161x47 3), .int r31]) rfl rfl hl.1 rfl (lv_room (Nat.le_of_ble_eq_true rfl)) dX5_look_170 ⟨Nat.zero_le _, Nat.zero_le _⟩) hP hD hS hFc [9] [0, 1, 2, 3, 4, 5, 6, 7, 8, 10, 11, 12, 13, 14, 15] [0, 1, 2, 3, 4, 5, 6, 7, 8, 15, 9, 10, 11, 12, 13, 14] 16 rfl rfl rfl rfl (fun H locs hP hD hS => ?_)
    cases zend h
    exact hq hP hD hS dX5_look_173
  clear h
  refine zi4_ind (P := (fun (x5_47h : Int32) (Ss_47h : Nat → Int32) (Sa_47h : Nat → Nat → Int32) (os_47h : Nat → Nat → Int32) => ∀ (H : Heap) (locs : List Loc) (ls : Array Slot), va_P D vwCl (zwS cI So Sp Go Ss_47h Sa_47h ++ zwG cI Go Gp Gs Ga ++ zwR cO ra oo ++ zwO (oo 0) (os_47h 0) ++ zwO (oo 1) (os_47h 1) ++ zwO (oo 2) (os_47h 2) ++ zwO (oo 3) (os_47h 3) ++ zwO (oo 4) (os_47h 4) ++ zwO (oo 5) (os_47h 5) ++ zwO (oo 6) (os_47h 6) ++ zwO (oo 7) (os_47h 7) ++ zwO (oo 8) (os_47h 8)) H → va_D A (zwS cI So Sp Go Ss_47h Sa_47h ++ zwG cI Go Gp Gs Ga ++ zwR cO ra oo ++ zwO (oo 0) (os_47h 0) ++ zwO (oo 1) (os_47h 1) ++ zwO (oo 2) (os_47h 2) ++ zwO (oo 3) (os_47h 3) ++ zwO (oo 4) (os_47h 4) ++ zwO (oo 5) (os_47h 5) ++ zwO (oo 6) (os_47h 6) ++ zwO (oo 7) (os_47h 7) ++ zwO (oo 8) (os_47h 8)) → va_S A s.heap H locs → lv_has ls 10 [(0, .ref So), (1, .ref ra), (2, .int (2 : Int32)), (3, .ref (oo 2)), (4, .ref (oo 3)), (5, .int x5_47h)] → W p l e R s m args below meth c H locs 0 0 Q (F0 m 47 ls []))) ?_ i35 _ _ _ hP hD hS (lv_sub hl [3, 4, 5, 2, 1, 0] rfl)
  clear i35 hP hD hS hl
  intro x5_47h Ss_47h Sa_47h os_47h z47 h zl47 zr47 H locs ls hP hD hS hl
  refine lv_iload hx hb dX5_look_47 (lv_at hl 5 rfl) ?_
  refine lv_aload_n hx hb dX5_look_49 rfl (lv_at hl 0 rfl) ?_
  refine va_getN (D := D) (ci := 4) (v := .int (Ss_47h 2)) (C := RX4) (T := TX4) (N := 8) hx hb hts inX4 hown hK hP 0 rfl rfl 2 (by decide) lk98 (fun _ h9 => h9) rfl dX5_look_50 ?_
  refine lv_icmp_ge (tgt := 161) hx hb dX5_look_53 (by decide) (fun c6 => ?_) (fun c6 => ?_)
  · have h := zif_t c6 h
    cases zr47 _ (zend h).symm
    exact KX161 _ _ _ hP hD hS (lv_sub hl [0, 3] rfl)
  · have h := zif_f c6 h
    refine lv_aload hx hb dX5_look_56 (lv_at hl 4 rfl) ?_
    refine lv_ifnull hx hb dX5_look_58 ?_
    refine lv_iconst (v := (0 : Int32)) hx hb dX5_look_61 (by decide) ?_
    refine lv_istore (lv' := [(6, .int (0 : Int32)), (0, .ref So), (1, .ref ra), (2, .int (2 : Int32)), (3, .ref (oo 2)), (4, .ref (oo 3)), (5, .int x5_47h)]) hx hb dX5_look_62 hl (by decide) rfl (fun ls hl => ?_)
    obtain ⟨Ss_155x64, Sa_155x64, os_155x64, i30, h⟩ := zb3_s h
    have KX155 : ∀ (H : Heap) (locs : List Loc) (ls : Array Slot), va_P D vwCl (zwS cI So Sp Go Ss_155x64 Sa_155x64 ++ zwG cI Go Gp Gs Ga ++ zwR cO ra oo ++ zwO (oo 0) (os_155x64 0) ++ zwO (oo 1) (os_155x64 1) ++ zwO (oo 2) (os_155x64 2) ++ zwO (oo 3) (os_155x64 3) ++ zwO (oo 4) (os_155x64 4) ++ zwO (oo 5) (os_155x64 5) ++ zwO (oo 6) (os_155x64 6) ++ zwO (oo 7) (os_155x64 7) ++ zwO (oo 8) (os_155x64 8)) H → va_D A (zwS cI So Sp Go Ss_155x64 Sa_155x64 ++ zwG cI Go Gp Gs Ga ++ zwR cO ra oo ++ zwO (oo 0) (os_155x64 0) ++ zwO (oo 1) (os_155x64 1) ++ zwO (oo 2) (os_155x64 2) ++ zwO (oo 3) (os_155x64 3) ++ zwO (oo 4) (os_155x64 4) ++ zwO (oo 5) (os_155x64 5) ++ zwO (oo 6) (os_155x64 6) ++ zwO (oo 7) (os_155x64 7) ++ zwO (oo 8) (os_155x64 8)) → va_S A s.heap H locs → lv_has ls 10 [(0, .ref So), (1, .ref ra), (2, .int (2 : Int32)), (3, .ref (oo 2)), (4, .ref (oo 3)), (5, .int x5_47h)] → W p l e R s m args below meth c H locs 0 0 Q (F0 m 155 ls []) := by
      intro H locs ls hP hD hS hl
      refine lv_iinc (v := (x5_47h + (1 : Int32))) (lv' := [(5, .int (x5_47h + (1 : Int32))), (0, .ref So), (1, .ref ra), (2, .int (2 : Int32)), (3, .ref (oo 2)), (4, .ref (oo 3))]) hx hb dX5_look_155 hl (k := 5) rfl rfl (by decide) rfl (fun ls hl => ?_)
      refine lv_goto (tgt := 47) hx hb dX5_look_158 (by decide) ?_
      exact zl47 _ _ _ _ (zend h).symm _ _ _ hP hD hS (lv_sub hl [1, 2, 3, 4, 5, 0] rfl)
    clear h
    refine zi4_ind (P := (fun (x6_64h : Int32) (Ss_64h : Nat → Int32) (Sa_64h : Nat → Nat → Int32) (os_64h : Nat → Nat → Int32) => ∀ (H : Heap) (locs : List Loc) (ls : Array Slot), va_P D vwCl (zwS cI So Sp Go Ss_64h Sa_64h ++ zwG cI Go Gp Gs Ga ++ zwR cO ra oo ++ zwO (oo 0) (os_64h 0) ++ zwO (oo 1) (os_64h 1) ++ zwO (oo 2) (os_64h 2) ++ zwO (oo 3) (os_64h 3) ++ zwO (oo 4) (os_64h 4) ++ zwO (oo 5) (os_64h 5) ++ zwO (oo 6) (os_64h 6) ++ zwO (oo 7) (os_64h 7) ++ zwO (oo 8) (os_64h 8)) H → va_D A (zwS cI So Sp Go Ss_64h Sa_64h ++ zwG cI Go Gp Gs Ga ++ zwR cO ra oo ++ zwO (oo 0) (os_64h 0) ++ zwO (oo 1) (os_64h 1) ++ zwO (oo 2) (os_64h 2) ++ zwO (oo 3) (os_64h 3) ++ zwO (oo 4) (os_64h 4) ++ zwO (oo 5) (os_64h 5) ++ zwO (oo 6) (os_64h 6) ++ zwO (oo 7) (os_64h 7) ++ zwO (oo 8) (os_64h 8)) → va_S A s.heap H locs → lv_has ls 10 [(0, .ref So), (1, .ref ra), (2, .int (2 : Int32)), (3, .ref (oo 2)), (4, .ref (oo 3)), (5, .int x5_47h), (6, .int x6_64h)] → W p l e R s m args below meth c H locs 0 0 Q (F0 m 64 ls []))) ?_ i30 _ _ _ hP hD hS (lv_sub hl [1, 2, 3, 4, 5, 6, 0] rfl)
    clear i30 hP hD hS hl
    intro x6_64h Ss_64h Sa_64h os_64h z64 h zl64 zr64 H locs ls hP hD hS hl
    refine lv_iload hx hb dX5_look_64 (lv_at hl 6 rfl) ?_
    refine lv_bipush (v := (8 : Int32)) hx hb dX5_look_66 (by decide) ?_
    refine lv_icmp_ge (tgt := 155) hx hb dX5_look_68 (by decide) (fun c8 => ?_) (fun c8 => ?_)
    · have h := zif_t c8 h
      cases zr64 _ (zend h).symm
      exact KX155 _ _ _ hP hD hS (lv_sub hl [0, 1, 2, 3, 4, 5] rfl)
    · have h := zif_f c8 h
      refine lv_aload_n hx hb dX5_look_71 rfl (lv_at hl 0 rfl) ?_
      refine lv_iload hx hb dX5_look_72 (lv_at hl 5 rfl) ?_
      refine lv_iload hx hb dX5_look_74 (lv_at hl 6 rfl) ?_
      obtain ⟨r9, g10, h⟩ := zb1_s h
      have hFc := va_free (wc := (zwS cI So Sp Go Ss_64h Sa_64h ++ zwG cI Go Gp Gs Ga)) hD hS hA [0, 1, 2, 3, 4, 5] rfl
      refine zcall_i (w2 := (zwS cI So Sp Go Ss_64h Sa_64h ++ zwG cI Go Gp Gs Ga ++ zwR cO ra oo ++ zwO (oo 0) (os_64h 0) ++ zwO (oo 1) (os_64h 1) ++ zwO (oo 2) (os_64h 2) ++ zwO (oo 3) (os_64h 3) ++ zwO (oo 4) (os_64h 4) ++ zwO (oo 5) (os_64h 5) ++ zwO (oo 6) (os_64h 6) ++ zwO (oo 7) (os_64h 7) ++ zwO (oo 8) (os_64h 8))) (va_runV (As := [.int x5_47h, .int x6_64h]) (rest := []) ⟨hx, hb, hml, hown, hts⟩ (c_X4_targetOf l D cI cB cO So Sp Go Gp Ss_64h Sa_64h Gs Ga x5_47h x6_64h _ _ g10) (cwV 2 hts gX5_look_X4_targetOf rfl rfl rfl kV_X4_targetOf ⟨Nat.le_trans (Nat.le_of_ble_eq_true rfl) hRf, Nat.le_trans (Nat.le_of_ble_eq_true rfl) hRl⟩) (zpreV hK hP hD hS hE hFc [0, 1, 2, 3, 4, 5] rfl rfl 0 (ci := 4) rfl rfl [.int x5_47h, .int x6_64h]) rfl rfl hl.1 rfl (lv_room (Nat.le_of_ble_eq_true rfl)) dX5_look_76 ⟨Nat.zero_le _, Nat.zero_le _⟩) hP hD hS hFc [0, 1, 2, 3, 4, 5] [6, 7, 8, 9, 10, 11, 12, 13, 14, 15] [10, 11, 12, 13, 14, 15, 0, 1, 2, 3, 4, 5, 6, 7, 8, 9] 16 rfl rfl rfl rfl (fun H locs hP hD hS => ?_)
      refine lv_istore (lv' := [(7, .int r9), (0, .ref So), (1, .ref ra), (2, .int (2 : Int32)), (3, .ref (oo 2)), (4, .ref (oo 3)), (5, .int x5_47h), (6, .int x6_64h)]) hx hb dX5_look_79 hl (by decide) rfl (fun ls hl => ?_)
      refine lv_iload hx hb dX5_look_81 (lv_at hl 0 rfl) ?_
      refine lv_iconst (v := (-1 : Int32)) hx hb dX5_look_83 (by decide) ?_
      obtain ⟨Ss_149, Sa_149, os_149, j11, h⟩ := zb3_s h
      have K149 : ∀ (H : Heap) (locs : List Loc) (ls : Array Slot), va_P D vwCl (zwS cI So Sp Go Ss_149 Sa_149 ++ zwG cI Go Gp Gs Ga ++ zwR cO ra oo ++ zwO (oo 0) (os_149 0) ++ zwO (oo 1) (os_149 1) ++ zwO (oo 2) (os_149 2) ++ zwO (oo 3) (os_149 3) ++ zwO (oo 4) (os_149 4) ++ zwO (oo 5) (os_149 5) ++ zwO (oo 6) (os_149 6) ++ zwO (oo 7) (os_149 7) ++ zwO (oo 8) (os_149 8)) H → va_D A (zwS cI So Sp Go Ss_149 Sa_149 ++ zwG cI Go Gp Gs Ga ++ zwR cO ra oo ++ zwO (oo 0) (os_149 0) ++ zwO (oo 1) (os_149 1) ++ zwO (oo 2) (os_149 2) ++ zwO (oo 3) (os_149 3) ++ zwO (oo 4) (os_149 4) ++ zwO (oo 5) (os_149 5) ++ zwO (oo 6) (os_149 6) ++ zwO (oo 7) (os_149 7) ++ zwO (oo 8) (os_149 8)) → va_S A s.heap H locs → lv_has ls 10 [(0, .ref So), (1, .ref ra), (2, .int (2 : Int32)), (3, .ref (oo 2)), (4, .ref (oo 3)), (5, .int x5_47h), (6, .int x6_64h)] → W p l e R s m args below meth c H locs 0 0 Q (F0 m 149 ls []) := by
        intro H locs ls hP hD hS hl
        refine lv_iinc (v := (x6_64h + (1 : Int32))) (lv' := [(6, .int (x6_64h + (1 : Int32))), (0, .ref So), (1, .ref ra), (2, .int (2 : Int32)), (3, .ref (oo 2)), (4, .ref (oo 3)), (5, .int x5_47h)]) hx hb dX5_look_149 hl (k := 6) rfl rfl (by decide) rfl (fun ls hl => ?_)
        refine lv_goto (tgt := 64) hx hb dX5_look_152 (by decide) ?_
        exact zl64 _ _ _ _ (zend h).symm _ _ _ hP hD hS (lv_sub hl [1, 2, 3, 4, 5, 6, 0] rfl)
      clear h
      have h := j11
      clear j11
      refine lv_icmp_eq (tgt := 149) hx hb dX5_look_84 (by decide) (fun c12 => ?_) (fun c12 => ?_)
      · have h := zif_t c12 h
        cases zend h
        exact K149 _ _ _ hP hD hS (lv_sub hl [1, 2, 3, 4, 5, 6, 7] rfl)
      · have h := zif_f c12 h
        refine lv_aload_n hx hb dX5_look_87 rfl (lv_at hl 1 rfl) ?_
        refine lv_iload hx hb dX5_look_88 (lv_at hl 6 rfl) ?_
        obtain ⟨r13, g14, h⟩ := zb1_s h
        have hFc := va_free (wc := (zwS cI So Sp Go Ss_64h Sa_64h)) hD hS hA [0, 1, 2, 3] rfl
        refine zcall_i (w2 := (zwS cI So Sp Go Ss_64h Sa_64h ++ zwG cI Go Gp Gs Ga ++ zwR cO ra oo ++ zwO (oo 0) (os_64h 0) ++ zwO (oo 1) (os_64h 1) ++ zwO (oo 2) (os_64h 2) ++ zwO (oo 3) (os_64h 3) ++ zwO (oo 4) (os_64h 4) ++ zwO (oo 5) (os_64h 5) ++ zwO (oo 6) (os_64h 6) ++ zwO (oo 7) (os_64h 7) ++ zwO (oo 8) (os_64h 8))) (va_runV (As := [.int x5_47h]) (rest := []) ⟨hx, hb, hml, hown, hts⟩ (c_X4_homeOf l D cI cB cO So Sp Go Ss_64h Sa_64h x5_47h _ _ g14) (cwV 1 hts gX5_look_X4_homeOf rfl rfl rfl kV_X4_homeOf ⟨Nat.le_trans (Nat.le_of_ble_eq_true rfl) hRf, Nat.le_trans (Nat.le_of_ble_eq_true rfl) hRl⟩) (zpreV hK hP hD hS hE hFc [0, 1, 2, 3] rfl rfl 0 (ci := 4) rfl rfl [.int x5_47h]) rfl rfl hl.1 rfl (lv_room (Nat.le_of_ble_eq_true rfl)) dX5_look_90 ⟨Nat.zero_le _, Nat.zero_le _⟩) hP hD hS hFc [0, 1, 2, 3] [4, 5, 6, 7, 8, 9, 10, 11, 12, 13, 14, 15] [12, 13, 14, 15, 0, 1, 2, 3, 4, 5, 6, 7, 8, 9, 10, 11] 16 rfl rfl rfl rfl (fun H locs hP hD hS => ?_)
        refine lv_istore (lv' := [(8, .int r13), (7, .int r9), (0, .ref So), (1, .ref ra), (2, .int (2 : Int32)), (3, .ref (oo 2)), (4, .ref (oo 3)), (5, .int x5_47h), (6, .int x6_64h)]) hx hb dX5_look_93 hl (by decide) rfl (fun ls hl => ?_)
        refine lv_aload_n hx hb dX5_look_95 rfl (lv_at hl 2 rfl) ?_
        refine lv_iload hx hb dX5_look_96 (lv_at hl 7 rfl) ?_
        refine lv_iload hx hb dX5_look_98 (lv_at hl 8 rfl) ?_
        obtain ⟨r15, g16, h⟩ := zb1_s h
        have hFc := va_free (wc := (zwS cI So Sp Go Ss_64h Sa_64h ++ zwG cI Go Gp Gs Ga)) hD hS hA [0, 1, 2, 3, 4, 5] rfl
        refine zcall_i (w2 := (zwS cI So Sp Go Ss_64h Sa_64h ++ zwG cI Go Gp Gs Ga ++ zwR cO ra oo ++ zwO (oo 0) (os_64h 0) ++ zwO (oo 1) (os_64h 1) ++ zwO (oo 2) (os_64h 2) ++ zwO (oo 3) (os_64h 3) ++ zwO (oo 4) (os_64h 4) ++ zwO (oo 5) (os_64h 5) ++ zwO (oo 6) (os_64h 6) ++ zwO (oo 7) (os_64h 7) ++ zwO (oo 8) (os_64h 8))) (va_runV (As := [.int x5_47h, .int x6_64h]) (rest := []) ⟨hx, hb, hml, hown, hts⟩ (c_X4_neighbourOf l D cI cB cO So Sp Go Gp Ss_64h Sa_64h Gs Ga x5_47h x6_64h _ _ g16) (cwV 2 hts gX5_look_X4_neighbourOf rfl rfl rfl kV_X4_neighbourOf ⟨Nat.le_trans (Nat.le_of_ble_eq_true rfl) hRf, Nat.le_trans (Nat.le_of_ble_eq_true rfl) hRl⟩) (zpreV hK hP hD hS hE hFc [0, 1, 2, 3, 4, 5] rfl rfl 0 (ci := 4) rfl rfl [.int x5_47h, .int x6_64h]) rfl rfl hl.1 rfl (lv_room (Nat.le_of_ble_eq_true rfl)) dX5_look_100 ⟨Nat.zero_le _, Nat.zero_le _⟩) hP hD hS hFc [0, 1, 2, 3, 4, 5] [6, 7, 8, 9, 10, 11, 12, 13, 14, 15] [10, 11, 12, 13, 14, 15, 0, 1, 2, 3, 4, 5, 6, 7, 8, 9] 16 rfl rfl rfl rfl (fun H locs hP hD hS => ?_)
        refine lv_istore (lv' := [(9, .int r15), (8, .int r13), (7, .int r9), (0, .ref So), (1, .ref ra), (2, .int (2 : Int32)), (3, .ref (oo 2)), (4, .ref (oo 3)), (5, .int x5_47h), (6, .int x6_64h)]) hx hb dX5_look_103 hl (by decide) rfl (fun ls hl => ?_)
        refine lv_aload_n hx hb dX5_look_105 rfl (lv_at hl 3 rfl) ?_
        refine lv_iload hx hb dX5_look_106 (lv_at hl 8 rfl) ?_
        refine lv_iload hx hb dX5_look_108 (lv_at hl 0 rfl) ?_
        refine lv_iload hx hb dX5_look_110 (lv_at hl 2 rfl) ?_
        obtain ⟨Ss_17, Sa_18, g19, h⟩ := zb2_s h
        have hFc := va_free (wc := (zwS cI So Sp Go Ss_64h Sa_64h ++ zwG cI Go Gp Gs Ga)) hD hS hA [0, 1, 2, 3, 4, 5] rfl
        refine zcall_v (w2 := (zwS cI So Sp Go Ss_17 Sa_18 ++ zwG cI Go Gp Gs Ga ++ zwR cO ra oo ++ zwO (oo 0) (os_64h 0) ++ zwO (oo 1) (os_64h 1) ++ zwO (oo 2) (os_64h 2) ++ zwO (oo 3) (os_64h 3) ++ zwO (oo 4) (os_64h 4) ++ zwO (oo 5) (os_64h 5) ++ zwO (oo 6) (os_64h 6) ++ zwO (oo 7) (os_64h 7) ++ zwO (oo 8) (os_64h 8))) (va_runV (As := [.int x5_47h, .int r15, .int r9]) (rest := []) ⟨hx, hb, hml, hown, hts⟩ (c_X4_leap l D cI cB cO So Sp Go Gp Ss_64h Sa_64h Gs Ga x5_47h r15 r9 _ _ _ g19) (cwV 3 hts gX5_look_X4_leap rfl rfl rfl kV_X4_leap ⟨Nat.le_trans (Nat.le_of_ble_eq_true rfl) hRf, Nat.le_trans (Nat.le_of_ble_eq_true rfl) hRl⟩) (zpreV hK hP hD hS hE hFc [0, 1, 2, 3, 4, 5] rfl rfl 0 (ci := 4) rfl rfl [.int x5_47h, .int r15, .int r9]) rfl rfl hl.1 rfl (lv_room (Nat.le_of_ble_eq_true rfl)) dX5_look_112 ⟨Nat.zero_le _, Nat.zero_le _⟩) hP hD hS hFc [0, 1, 2, 3, 4, 5] [6, 7, 8, 9, 10, 11, 12, 13, 14, 15] [10, 11, 12, 13, 14, 15, 0, 1, 2, 3, 4, 5, 6, 7, 8, 9] 16 rfl rfl rfl rfl (fun H locs hP hD hS => ?_)
        refine lv_aload_n hx hb dX5_look_115 rfl (lv_at hl 3 rfl) ?_
        refine lv_aload_n hx hb dX5_look_116 rfl (lv_at hl 4 rfl) ?_
        refine lv_iload_n hx hb dX5_look_117 rfl (lv_at hl 5 rfl) ?_
        refine lv_iconst (v := (1 : Int32)) hx hb dX5_look_118 (by decide) ?_
        refine lv_iadd hx hb dX5_look_119 ?_
        refine lv_topi (fun k20 ek20 => ?_)
        obtain rfl : k20 = (3 : Int32) := ek20.trans (by decide)
        obtain ⟨Ss_21, Sa_22, os_23, g24, h⟩ := zb3_s h
        have hFc := va_free (wc := (zwS cI So Sp Go Ss_17 Sa_18 ++ zwG cI Go Gp Gs Ga ++ zwR cO ra oo ++ zwO (oo 0) (os_64h 0) ++ zwO (oo 1) (os_64h 1) ++ zwO (oo 2) (os_64h 2) ++ zwO (oo 3) (os_64h 3) ++ zwO (oo 4) (os_64h 4) ++ zwO (oo 5) (os_64h 5) ++ zwO (oo 6) (os_64h 6) ++ zwO (oo 7) (os_64h 7) ++ zwO (oo 8) (os_64h 8))) hD hS hA [0, 1, 2, 3, 4, 5, 6, 7, 8, 9, 10, 11, 12, 13, 14, 15] rfl
        refine zcall_v (w2 := (zwS cI So Sp Go Ss_21 Sa_22 ++ zwG cI Go Gp Gs Ga ++ zwR cO ra oo ++ zwO (oo 0) (os_23 0) ++ zwO (oo 1) (os_23 1) ++ zwO (oo 2) (os_23 2) ++ zwO (oo 3) (os_23 3) ++ zwO (oo 4) (os_23 4) ++ zwO (oo 5) (os_23 5) ++ zwO (oo 6) (os_23 6) ++ zwO (oo 7) (os_23 7) ++ zwO (oo 8) (os_23 8))) (va_runS (As := [.ref So, .ref ra, .int (3 : Int32)]) (rest := []) ⟨hx, hb, hml, hown, hts⟩ (c_X5_look_3 l D cI cB cO So Sp Go Gp ra oo Ss_17 Sa_18 Gs Ga os_64h _ _ _ _ g24) (va_cwS 3 hts gX5_look_X5_look rfl rfl rfl kS_X5_look ⟨Nat.le_trans (Nat.le_of_ble_eq_true rfl) hRf, Nat.le_trans (Nat.le_of_ble_eq_true rfl) hRl⟩) (zpreS hK hP hD hS hE hFc [0, 1, 2, 3, 4, 5, 6, 7, 8, 9, 10, 11, 12, 13, 14, 15] rfl rfl [.ref So, .ref ra, .int (3 : Int32)]) rfl rfl hl.1 rfl (lv_room (Nat.le_of_ble_eq_true rfl)) dX5_look_120 ⟨Nat.zero_le _, Nat.zero_le _⟩) hP hD hS hFc [0, 1, 2, 3, 4, 5, 6, 7, 8, 9, 10, 11, 12, 13, 14, 15] [] [0, 1, 2, 3, 4, 5, 6, 7, 8, 9, 10, 11, 12, 13, 14, 15] 16 rfl rfl rfl rfl (fun H locs hP hD hS => ?_)
        refine lv_aload_n hx hb dX5_look_123 rfl (lv_at hl 3 rfl) ?_
        refine lv_iload hx hb dX5_look_124 (lv_at hl 8 rfl) ?_
        refine lv_iload hx hb dX5_look_126 (lv_at hl 1 rfl) ?_
        refine lv_iload hx hb dX5_look_128 (lv_at hl 0 rfl) ?_
        refine lv_iload hx hb dX5_look_130 (lv_at hl 9 rfl) ?_
        obtain ⟨Ss_25, Sa_26, g27, h⟩ := zb2_s h
        have hFc := va_free (wc := (zwS cI So Sp Go Ss_21 Sa_22 ++ zwG cI Go Gp Gs Ga)) hD hS hA [0, 1, 2, 3, 4, 5] rfl
        refine zcall_v (w2 := (zwS cI So Sp Go Ss_25 Sa_26 ++ zwG cI Go Gp Gs Ga ++ zwR cO ra oo ++ zwO (oo 0) (os_23 0) ++ zwO (oo 1) (os_23 1) ++ zwO (oo 2) (os_23 2) ++ zwO (oo 3) (os_23 3) ++ zwO (oo 4) (os_23 4) ++ zwO (oo 5) (os_23 5) ++ zwO (oo 6) (os_23 6) ++ zwO (oo 7) (os_23 7) ++ zwO (oo 8) (os_23 8))) (va_runV (As := [.int x5_47h, .int r13, .int r15, .int x6_64h]) (rest := []) ⟨hx, hb, hml, hown, hts⟩ (c_X4_takeBack l D cI cB cO So Sp Go Gp Ss_21 Sa_22 Gs Ga x5_47h r13 r15 x6_64h _ _ _ g27) (cwV 4 hts gX5_look_X4_takeBack rfl rfl rfl kV_X4_takeBack ⟨Nat.le_trans (Nat.le_of_ble_eq_true rfl) hRf, Nat.le_trans (Nat.le_of_ble_eq_true rfl) hRl⟩) (zpreV hK hP hD hS hE hFc [0, 1, 2, 3, 4, 5] rfl rfl 0 (ci := 4) rfl rfl [.int x5_47h, .int r13, .int r15, .int x6_64h]) rfl rfl hl.1 rfl (lv_room (Nat.le_of_ble_eq_true rfl)) dX5_look_132 ⟨Nat.zero_le _, Nat.zero_le _⟩) hP hD hS hFc [0, 1, 2, 3, 4, 5] [6, 7, 8, 9, 10, 11, 12, 13, 14, 15] [10, 11, 12, 13, 14, 15, 0, 1, 2, 3, 4, 5, 6, 7, 8, 9] 16 rfl rfl rfl rfl (fun H locs hP hD hS => ?_)
        refine lv_aload_n hx hb dX5_look_135 rfl (lv_at hl 6 rfl) ?_
        refine lv_bipush (v := (100 : Int32)) hx hb dX5_look_136 (by decide) ?_
        refine lv_iload hx hb dX5_look_138 (lv_at hl 8 rfl) ?_
        refine lv_imul hx hb dX5_look_140 ?_
        refine lv_iload hx hb dX5_look_141 (lv_at hl 2 rfl) ?_
        refine lv_iadd hx hb dX5_look_143 ?_
        refine lv_aload hx hb dX5_look_144 (lv_at hl 7 rfl) ?_
        obtain ⟨Os_28, g29, h⟩ := zb1_s h
        have hFc := va_free (wc := (zwO (oo 2) (os_23 2) ++ zwO (oo 3) (os_23 3))) hD hS hA [9, 10] rfl
        refine zcall_v (w2 := (zwS cI So Sp Go Ss_25 Sa_26 ++ zwG cI Go Gp Gs Ga ++ zwR cO ra oo ++ zwO (oo 0) (os_23 0) ++ zwO (oo 1) (os_23 1) ++ zwO (oo 2) Os_28 ++ zwO (oo 3) (os_23 3) ++ zwO (oo 4) (os_23 4) ++ zwO (oo 5) (os_23 5) ++ zwO (oo 6) (os_23 6) ++ zwO (oo 7) (os_23 7) ++ zwO (oo 8) (os_23 8))) (va_runV (As := [.int (((100 : Int32) * x5_47h) + r9), .ref (oo 3)]) (rest := []) ⟨hx, hb, hml, hown, hts⟩ (c_X1_take l D cI cB cO (oo 2) (oo 3) (os_23 2) (os_23 3) (((100 : Int32) * x5_47h) + r9) _ _ g29) (cwV 2 hts gX5_look_X1_take rfl rfl rfl kV_X1_take ⟨Nat.le_trans (Nat.le_of_ble_eq_true rfl) hRf, Nat.le_trans (Nat.le_of_ble_eq_true rfl) hRl⟩) (zpreV hK hP hD hS hE hFc [9, 10] rfl rfl 9 (ci := 1) rfl rfl [.int (((100 : Int32) * x5_47h) + r9), .ref (oo 3)]) rfl rfl hl.1 rfl (lv_room (Nat.le_of_ble_eq_true rfl)) dX5_look_146 ⟨Nat.zero_le _, Nat.zero_le _⟩) hP hD hS hFc [9, 10] [0, 1, 2, 3, 4, 5, 6, 7, 8, 11, 12, 13, 14, 15] [0, 1, 2, 3, 4, 5, 6, 7, 8, 14, 15, 9, 10, 11, 12, 13] 16 rfl rfl rfl rfl (fun H locs hP hD hS => ?_)
        cases zend h
        exact K149 _ _ _ hP hD hS (lv_sub hl [3, 4, 5, 6, 7, 8, 9] rfl)
set_option maxHeartbeats 4000000 in
set_option maxRecDepth 100000 in
theorem c_X5_look_1 (l : Launch) (D : va_G) (cI cB cO : ClassId) (So : Nat) (Sp : Nat → Nat) (Go : Nat) (Gp : Nat → Nat) (ra : Nat) (oo : Nat → Nat) (Ss : Nat → Int32) (Sa : Nat → Nat → Int32) (Gs : Nat → Int32) (Ga : Nat → Nat → Int32) (os : Nat → Nat → Int32)  (Ss' : Nat → Int32) (Sa' : Nat → Nat → Int32) (os' : Nat → Nat → Int32) (sz : Nat) (h : fX5_look_1 Ss Sa Gs Ga os = some (Ss', Sa', os')) : Met l yX5_look wsX5_look ({ frames := 10, cells := 0, slots := 0, locals := 268 } : Room) (va_Pc [.ref So, .ref ra, .int (1 : Int32)] (zPre D (zTY cI cB cO) (zwS cI So Sp Go Ss Sa ++ zwG cI Go Gp Gs Ga ++ zwR cO ra oo ++ zwO (oo 0) (os 0) ++ zwO (oo 1) (os 1) ++ zwO (oo 2) (os 2) ++ zwO (oo 3) (os 3) ++ zwO (oo 4) (os 4) ++ zwO (oo 5) (os 5) ++ zwO (oo 6) (os 6) ++ zwO (oo 7) (os 7) ++ zwO (oo 8) (os 8)) sz)) (va_Qv (fun (_ : Unit) => True) (fun _ => zPost D (zTY cI cB cO) (zwS cI So Sp Go Ss' Sa' ++ zwG cI Go Gp Gs Ga ++ zwR cO ra oo ++ zwO (oo 0) (os' 0) ++ zwO (oo 1) (os' 1) ++ zwO (oo 2) (os' 2) ++ zwO (oo 3) (os' 3) ++ zwO (oo 4) (os' 4) ++ zwO (oo 5) (os' 5) ++ zwO (oo 6) (os' 6) ++ zwO (oo 7) (os' 7) ++ zwO (oo 8) (os' 8)) (va_A (zwS cI So Sp Go Ss Sa ++ zwG cI Go Gp Gs Ga ++ zwR cO ra oo ++ zwO (oo 0) (os 0) ++ zwO (oo 1) (os 1) ++ zwO (oo 2) (os 2) ++ zwO (oo 3) (os 3) ++ zwO (oo 4) (os 4) ++ zwO (oo 5) (os 5) ++ zwO (oo 6) (os 6) ++ zwO (oo 7) (os 7) ++ zwO (oo 8) (os 8)) sz)) (va_A (zwS cI So Sp Go Ss Sa ++ zwG cI Go Gp Gs Ga ++ zwR cO ra oo ++ zwO (oo 0) (os 0) ++ zwO (oo 1) (os 1) ++ zwO (oo 2) (os 2) ++ zwO (oo 3) (os 3) ++ zwO (oo 4) (os 4) ++ zwO (oo 5) (os 5) ++ zwO (oo 6) (os 6) ++ zwO (oo 7) (os 7) ++ zwO (oo 8) (os 8)) sz)) 0 0 (va_A (zwS cI So Sp Go Ss Sa ++ zwG cI Go Gp Gs Ga ++ zwR cO ra oo ++ zwO (oo 0) (os 0) ++ zwO (oo 1) (os 1) ++ zwO (oo 2) (os 2) ++ zwO (oo 3) (os 3) ++ zwO (oo 4) (os 4) ++ zwO (oo 5) (os 5) ++ zwO (oo 6) (os 6) ++ zwO (oo 7) (os 7) ++ zwO (oo 8) (os 8)) sz) := by
  unfold fX5_look_1 at h
  refine zmet_v (cc := cX5_look) (maxL := 10) (by decide) rfl (Nat.le_of_ble_eq_true rfl) rfl rfl ?_
  intro p e s m args below meth c R Q A ls hx hb hts hown hml hK hP hD hE hA hS hRf hRl hl hq
  have hown : s.vm.findClass RX5 = some m.cls := hown
  have hl : lv_has ls 10 [(0, .ref So), (1, .ref ra), (2, .int (1 : Int32))] := hl
  have inX4 : ∀ w ∈ u_ws RX4 TX4 8, w ∈ wsX5_look := by decide +kernel
  have lk98 : (Cond.fieldLinkNest RX5 98 "PegField$State" "pegs" "I" "PegField").before args s = true := hE.2.use (by decide +kernel)
  have lk150 : (Cond.fieldLinkNest RX5 150 "PegField$State" "onBoard" "I" "PegField").before args s = true := hE.2.use (by decide +kernel)
  refine lv_iload_n hx hb dX5_look_0 rfl (lv_at hl 2 rfl) ?_
  refine lv_if_lt (tgt := 16) hx hb dX5_look_1 (by decide) (fun q => absurd q (by decide)) (fun _ => ?_)
  refine lv_iload_n hx hb dX5_look_4 rfl (lv_at hl 2 rfl) ?_
  refine lv_aload_n hx hb dX5_look_5 rfl (lv_at hl 1 rfl) ?_
  refine va_alen hx hb hK hP 6 2 rfl rfl (v := (9 : Int32)) rfl dX5_look_6 ?_
  refine lv_icmp_ge (tgt := 16) hx hb dX5_look_7 (by decide) (fun q => absurd q (by decide)) (fun _ => ?_)
  refine lv_aload_n hx hb dX5_look_10 rfl (lv_at hl 1 rfl) ?_
  refine lv_iload_n hx hb dX5_look_11 rfl (lv_at hl 2 rfl) ?_
  refine va_aldq hx hb hK hP 6 2 rfl rfl (vp_in_iff.mpr (by decide)) dX5_look_12 ?_
  refine W.eq (g2 := F0 m 13 ls [.ref (oo 1)]) rfl ?_
  refine lv_ifnonnull (tgt := 17) hx hb dX5_look_13 (by decide) ?_
  refine lv_aload_n hx hb dX5_look_17 rfl (lv_at hl 1 rfl) ?_
  refine lv_iload_n hx hb dX5_look_18 rfl (lv_at hl 2 rfl) ?_
  refine va_aldq hx hb hK hP 6 2 rfl rfl (vp_in_iff.mpr (by decide)) dX5_look_19 ?_
  refine W.eq (g2 := F0 m 20 ls [.ref (oo 1)]) rfl ?_
  refine lv_astore_n (lv' := [(3, .ref (oo 1)), (0, .ref So), (1, .ref ra), (2, .int (1 : Int32))]) hx hb dX5_look_20 rfl hl (by decide) rfl (fun ls hl => ?_)
  refine lv_aload_n hx hb dX5_look_21 rfl (lv_at hl 0 rfl) ?_
  obtain ⟨Os_1, g2, h⟩ := zb1_s h
  have hFc := va_free (wc := (zwO (oo 1) (os 1))) hD hS hA [8] rfl
  refine zcall_v (w2 := (zwS cI So Sp Go Ss Sa ++ zwG cI Go Gp Gs Ga ++ zwR cO ra oo ++ zwO (oo 0) (os 0) ++ zwO (oo 1) Os_1 ++ zwO (oo 2) (os 2) ++ zwO (oo 3) (os 3) ++ zwO (oo 4) (os 4) ++ zwO (oo 5) (os 5) ++ zwO (oo 6) (os 6) ++ zwO (oo 7) (os 7) ++ zwO (oo 8) (os 8))) (va_runV (As := []) (rest := []) ⟨hx, hb, hml, hown, hts⟩ (c_X1_begin l D cI cB cO (oo 1) (os 1) _ _ g2) (cwV 0 hts gX5_look_X1_begin rfl rfl rfl kV_X1_begin ⟨Nat.le_trans (Nat.le_of_ble_eq_true rfl) hRf, Nat.le_trans (Nat.le_of_ble_eq_true rfl) hRl⟩) (zpreV hK hP hD hS hE hFc [8] rfl rfl 8 (ci := 1) rfl rfl []) rfl rfl hl.1 rfl (lv_room (Nat.le_of_ble_eq_true rfl)) dX5_look_22 ⟨Nat.zero_le _, Nat.zero_le _⟩) hP hD hS hFc [8] [0, 1, 2, 3, 4, 5, 6, 7, 9, 10, 11, 12, 13, 14, 15] [0, 1, 2, 3, 4, 5, 6, 7, 15, 8, 9, 10, 11, 12, 13, 14] 16 rfl rfl rfl rfl (fun H locs hP hD hS => ?_)
  refine lv_iload_n hx hb dX5_look_25 rfl (lv_at hl 3 rfl) ?_
  refine lv_iconst (v := (1 : Int32)) hx hb dX5_look_26 (by decide) ?_
  refine lv_iadd hx hb dX5_look_27 ?_
  refine lv_topi (fun k3 ek3 => ?_)
  obtain rfl : k3 = (2 : Int32) := ek3.trans (by decide)
  refine lv_aload_n hx hb dX5_look_28 rfl (lv_at hl 2 rfl) ?_
  refine va_alen hx hb hK hP 6 2 rfl rfl (v := (9 : Int32)) rfl dX5_look_29 ?_
  refine lv_icmp_ge (tgt := 41) hx hb dX5_look_30 (by decide) (fun q => absurd q (by decide)) (fun _ => ?_)
  refine lv_aload_n hx hb dX5_look_33 rfl (lv_at hl 2 rfl) ?_
  refine lv_iload_n hx hb dX5_look_34 rfl (lv_at hl 3 rfl) ?_
  refine lv_iconst (v := (1 : Int32)) hx hb dX5_look_35 (by decide) ?_
  refine lv_iadd hx hb dX5_look_36 ?_
  refine lv_topi (fun k4 ek4 => ?_)
  obtain rfl : k4 = (2 : Int32) := ek4.trans (by decide)
  refine va_aldq hx hb hK hP 6 2 rfl rfl (vp_in_iff.mpr (by decide)) dX5_look_37 ?_
  refine W.eq (g2 := F0 m 38 ls [.ref (oo 2)]) rfl ?_
  refine lv_goto (tgt := 42) hx hb dX5_look_38 (by decide) ?_
  refine lv_astore (lv' := [(4, .ref (oo 2)), (3, .ref (oo 1)), (0, .ref So), (1, .ref ra), (2, .int (1 : Int32))]) hx hb dX5_look_42 hl (by decide) rfl (fun ls hl => ?_)
  refine lv_iconst (v := (0 : Int32)) hx hb dX5_look_44 (by decide) ?_
  refine lv_istore (lv' := [(5, .int (0 : Int32)), (4, .ref (oo 2)), (3, .ref (oo 1)), (0, .ref So), (1, .ref ra), (2, .int (1 : Int32))]) hx hb dX5_look_45 hl (by decide) rfl (fun ls hl => ?_)
  obtain ⟨Ss_161x47, Sa_161x47, os_161x47, i35, h⟩ := zb3_s h
  have KX161 : ∀ (H : Heap) (locs : List Loc) (ls : Array Slot), va_P D vwCl (zwS cI So Sp Go Ss_161x47 Sa_161x47 ++ zwG cI Go Gp Gs Ga ++ zwR cO ra oo ++ zwO (oo 0) (os_161x47 0) ++ zwO (oo 1) (os_161x47 1) ++ zwO (oo 2) (os_161x47 2) ++ zwO (oo 3) (os_161x47 3) ++ zwO (oo 4) (os_161x47 4) ++ zwO (oo 5) (os_161x47 5) ++ zwO (oo 6) (os_161x47 6) ++ zwO (oo 7) (os_161x47 7) ++ zwO (oo 8) (os_161x47 8)) H → va_D A (zwS cI So Sp Go Ss_161x47 Sa_161x47 ++ zwG cI Go Gp Gs Ga ++ zwR cO ra oo ++ zwO (oo 0) (os_161x47 0) ++ zwO (oo 1) (os_161x47 1) ++ zwO (oo 2) (os_161x47 2) ++ zwO (oo 3) (os_161x47 3) ++ zwO (oo 4) (os_161x47 4) ++ zwO (oo 5) (os_161x47 5) ++ zwO (oo 6) (os_161x47 6) ++ zwO (oo 7) (os_161x47 7) ++ zwO (oo 8) (os_161x47 8)) → va_S A s.heap H locs → lv_has ls 10 [(0, .ref So), (3, .ref (oo 1))] → W p l e R s m args below meth c H locs 0 0 Q (F0 m 161 ls []) := by
    intro H locs ls hP hD hS hl
    refine lv_aload_n hx hb dX5_look_161 rfl (lv_at hl 1 rfl) ?_
    refine lv_aload_n hx hb dX5_look_162 rfl (lv_at hl 0 rfl) ?_
    refine va_getN (D := D) (ci := 4) (v := .int (Ss_161x47 3)) (C := RX4) (T := TX4) (N := 8) hx hb hts inX4 hown hK hP 0 rfl rfl 3 (by decide) lk150 (fun _ h9 => h9) rfl dX5_look_163 ?_
    refine lv_aload_n hx hb dX5_look_166 rfl (lv_at hl 0 rfl) ?_
    obtain ⟨r31, g32, h⟩ := zb1_s h
    have hFc := va_free (wc := (zwS cI So Sp Go Ss_161x47 Sa_161x47 ++ zwG cI Go Gp Gs Ga)) hD hS hA [0, 1, 2, 3, 4, 5] rfl
    refine zcall_i (w2 := (zwS cI So Sp Go Ss_161x47 Sa_161x47 ++ zwG cI Go Gp Gs Ga ++ zwR cO ra oo ++ zwO (oo 0) (os_161x47 0) ++ zwO (oo 1) (os_161x47 1) ++ zwO (oo 2) (os_161x47 2) ++ zwO (oo 3) (os_161x47 3) ++ zwO (oo 4) (os_161x47 4) ++ zwO (oo 5) (os_161x47 5) ++ zwO (oo 6) (os_161x47 6) ++ zwO (oo 7) (os_161x47 7) ++ zwO (oo 8) (os_161x47 8))) (va_runV (As := []) (rest := [.int (Ss_161x47 3), .ref (oo 1)]) ⟨hx, hb, hml, hown, hts⟩ (c_X4_aloneBit l D cI cB cO So Sp Go Gp Ss_161x47 Sa_161x47 Gs Ga _ _ g32) (cwV 0 hts gX5_look_X4_aloneBit rfl rfl rfl kV_X4_aloneBit ⟨Nat.le_trans (Nat.le_of_ble_eq_true rfl) hRf, Nat.le_trans (Nat.le_of_ble_eq_true rfl) hRl⟩) (zpreV hK hP hD hS hE hFc [0, 1, 2, 3, 4, 5] rfl rfl 0 (ci := 4) rfl rfl []) rfl rfl hl.1 rfl (lv_room (Nat.le_of_ble_eq_true rfl)) dX5_look_167 ⟨Nat.zero_le _, Nat.zero_le _⟩) hP hD hS hFc [0, 1, 2, 3, 4, 5] [6, 7, 8, 9, 10, 11, 12, 13, 14, 15] [10, 11, 12, 13, 14, 15, 0, 1, 2, 3, 4, 5, 6, 7, 8, 9] 16 rfl rfl rfl rfl (fun H locs hP hD hS => ?_)
    obtain ⟨Os_33, g34, h⟩ := zb1_s h
    have hFc := va_free (wc := (zwO (oo 1) (os_161x47 1))) hD hS hA [8] rfl
    refine zcall_v (w2 := (zwS cI So Sp Go Ss_161x47 Sa_161x47 ++ zwG cI Go Gp Gs Ga ++ zwR cO ra oo ++ zwO (oo 0) (os_161x47 0) ++ zwO (oo 1) Os_33 ++ zwO (oo 2) (os_161x47 2) ++ zwO (oo 3) (os_161x47 3) ++ zwO (oo 4) (os_161x47 4) ++ zwO (oo 5) (os_161x47 5) ++ zwO (oo 6) (os_161x47 6) ++ zwO (oo 7) (os_161x47 7) ++ zwO (oo 8) (os_161x47 8))) (va_runV (As := [.int (Ss_161x47 3), .int r31]) (rest := []) ⟨hx, hb, hml, hown, hts⟩ (c_X1_end l D cI cB cO (oo 1) (os_161x47 1) (Ss_161x47 3) r31 _ _ g34) (cwV 2 hts gX5_look_X1_end rfl rfl rfl kV_X1_end ⟨Nat.le_trans (Nat.le_of_ble_eq_true rfl) hRf, Nat.le_trans (Nat.le_of_ble_eq_true rfl) hRl⟩) (zpreV hK hP hD hS hE hFc [8] rfl rfl 8 (ci := 1) rfl rfl [.int (Ss_161x47 3), .int r31]) rfl rfl hl.1 rfl (lv_room (Nat.le_of_ble_eq_true rfl)) dX5_look_170 ⟨Nat.zero_le _, Nat.zero_le _⟩) hP hD hS hFc [8] [0, 1, 2, 3, 4, 5, 6, 7, 9, 10, 11, 12, 13, 14, 15] [0, 1, 2, 3, 4, 5, 6, 7, 15, 8, 9, 10, 11, 12, 13, 14] 16 rfl rfl rfl rfl (fun H locs hP hD hS => ?_)
    cases zend h
    exact hq hP hD hS dX5_look_173
  clear h
  refine zi4_ind (P := (fun (x5_47h : Int32) (Ss_47h : Nat → Int32) (Sa_47h : Nat → Nat → Int32) (os_47h : Nat → Nat → Int32) => ∀ (H : Heap) (locs : List Loc) (ls : Array Slot), va_P D vwCl (zwS cI So Sp Go Ss_47h Sa_47h ++ zwG cI Go Gp Gs Ga ++ zwR cO ra oo ++ zwO (oo 0) (os_47h 0) ++ zwO (oo 1) (os_47h 1) ++ zwO (oo 2) (os_47h 2) ++ zwO (oo 3) (os_47h 3) ++ zwO (oo 4) (os_47h 4) ++ zwO (oo 5) (os_47h 5) ++ zwO (oo 6) (os_47h 6) ++ zwO (oo 7) (os_47h 7) ++ zwO (oo 8) (os_47h 8)) H → va_D A (zwS cI So Sp Go Ss_47h Sa_47h ++ zwG cI Go Gp Gs Ga ++ zwR cO ra oo ++ zwO (oo 0) (os_47h 0) ++ zwO (oo 1) (os_47h 1) ++ zwO (oo 2) (os_47h 2) ++ zwO (oo 3) (os_47h 3) ++ zwO (oo 4) (os_47h 4) ++ zwO (oo 5) (os_47h 5) ++ zwO (oo 6) (os_47h 6) ++ zwO (oo 7) (os_47h 7) ++ zwO (oo 8) (os_47h 8)) → va_S A s.heap H locs → lv_has ls 10 [(0, .ref So), (1, .ref ra), (2, .int (1 : Int32)), (3, .ref (oo 1)), (4, .ref (oo 2)), (5, .int x5_47h)] → W p l e R s m args below meth c H locs 0 0 Q (F0 m 47 ls []))) ?_ i35 _ _ _ hP hD hS (lv_sub hl [3, 4, 5, 2, 1, 0] rfl)
  clear i35 hP hD hS hl
  intro x5_47h Ss_47h Sa_47h os_47h z47 h zl47 zr47 H locs ls hP hD hS hl
  refine lv_iload hx hb dX5_look_47 (lv_at hl 5 rfl) ?_
  refine lv_aload_n hx hb dX5_look_49 rfl (lv_at hl 0 rfl) ?_
  refine va_getN (D := D) (ci := 4) (v := .int (Ss_47h 2)) (C := RX4) (T := TX4) (N := 8) hx hb hts inX4 hown hK hP 0 rfl rfl 2 (by decide) lk98 (fun _ h9 => h9) rfl dX5_look_50 ?_
  refine lv_icmp_ge (tgt := 161) hx hb dX5_look_53 (by decide) (fun c6 => ?_) (fun c6 => ?_)
  · have h := zif_t c6 h
    cases zr47 _ (zend h).symm
    exact KX161 _ _ _ hP hD hS (lv_sub hl [0, 3] rfl)
  · have h := zif_f c6 h
    refine lv_aload hx hb dX5_look_56 (lv_at hl 4 rfl) ?_
    refine lv_ifnull hx hb dX5_look_58 ?_
    refine lv_iconst (v := (0 : Int32)) hx hb dX5_look_61 (by decide) ?_
    refine lv_istore (lv' := [(6, .int (0 : Int32)), (0, .ref So), (1, .ref ra), (2, .int (1 : Int32)), (3, .ref (oo 1)), (4, .ref (oo 2)), (5, .int x5_47h)]) hx hb dX5_look_62 hl (by decide) rfl (fun ls hl => ?_)
    obtain ⟨Ss_155x64, Sa_155x64, os_155x64, i30, h⟩ := zb3_s h
    have KX155 : ∀ (H : Heap) (locs : List Loc) (ls : Array Slot), va_P D vwCl (zwS cI So Sp Go Ss_155x64 Sa_155x64 ++ zwG cI Go Gp Gs Ga ++ zwR cO ra oo ++ zwO (oo 0) (os_155x64 0) ++ zwO (oo 1) (os_155x64 1) ++ zwO (oo 2) (os_155x64 2) ++ zwO (oo 3) (os_155x64 3) ++ zwO (oo 4) (os_155x64 4) ++ zwO (oo 5) (os_155x64 5) ++ zwO (oo 6) (os_155x64 6) ++ zwO (oo 7) (os_155x64 7) ++ zwO (oo 8) (os_155x64 8)) H → va_D A (zwS cI So Sp Go Ss_155x64 Sa_155x64 ++ zwG cI Go Gp Gs Ga ++ zwR cO ra oo ++ zwO (oo 0) (os_155x64 0) ++ zwO (oo 1) (os_155x64 1) ++ zwO (oo 2) (os_155x64 2) ++ zwO (oo 3) (os_155x64 3) ++ zwO (oo 4) (os_155x64 4) ++ zwO (oo 5) (os_155x64 5) ++ zwO (oo 6) (os_155x64 6) ++ zwO (oo 7) (os_155x64 7) ++ zwO (oo 8) (os_155x64 8)) → va_S A s.heap H locs → lv_has ls 10 [(0, .ref So), (1, .ref ra), (2, .int (1 : Int32)), (3, .ref (oo 1)), (4, .ref (oo 2)), (5, .int x5_47h)] → W p l e R s m args below meth c H locs 0 0 Q (F0 m 155 ls []) := by
      intro H locs ls hP hD hS hl
      refine lv_iinc (v := (x5_47h + (1 : Int32))) (lv' := [(5, .int (x5_47h + (1 : Int32))), (0, .ref So), (1, .ref ra), (2, .int (1 : Int32)), (3, .ref (oo 1)), (4, .ref (oo 2))]) hx hb dX5_look_155 hl (k := 5) rfl rfl (by decide) rfl (fun ls hl => ?_)
      refine lv_goto (tgt := 47) hx hb dX5_look_158 (by decide) ?_
      exact zl47 _ _ _ _ (zend h).symm _ _ _ hP hD hS (lv_sub hl [1, 2, 3, 4, 5, 0] rfl)
    clear h
    refine zi4_ind (P := (fun (x6_64h : Int32) (Ss_64h : Nat → Int32) (Sa_64h : Nat → Nat → Int32) (os_64h : Nat → Nat → Int32) => ∀ (H : Heap) (locs : List Loc) (ls : Array Slot), va_P D vwCl (zwS cI So Sp Go Ss_64h Sa_64h ++ zwG cI Go Gp Gs Ga ++ zwR cO ra oo ++ zwO (oo 0) (os_64h 0) ++ zwO (oo 1) (os_64h 1) ++ zwO (oo 2) (os_64h 2) ++ zwO (oo 3) (os_64h 3) ++ zwO (oo 4) (os_64h 4) ++ zwO (oo 5) (os_64h 5) ++ zwO (oo 6) (os_64h 6) ++ zwO (oo 7) (os_64h 7) ++ zwO (oo 8) (os_64h 8)) H → va_D A (zwS cI So Sp Go Ss_64h Sa_64h ++ zwG cI Go Gp Gs Ga ++ zwR cO ra oo ++ zwO (oo 0) (os_64h 0) ++ zwO (oo 1) (os_64h 1) ++ zwO (oo 2) (os_64h 2) ++ zwO (oo 3) (os_64h 3) ++ zwO (oo 4) (os_64h 4) ++ zwO (oo 5) (os_64h 5) ++ zwO (oo 6) (os_64h 6) ++ zwO (oo 7) (os_64h 7) ++ zwO (oo 8) (os_64h 8)) → va_S A s.heap H locs → lv_has ls 10 [(0, .ref So), (1, .ref ra), (2, .int (1 : Int32)), (3, .ref (oo 1)), (4, .ref (oo 2)), (5, .int x5_47h), (6, .int x6_64h)] → W p l e R s m args below meth c H locs 0 0 Q (F0 m 64 ls []))) ?_ i30 _ _ _ hP hD hS (lv_sub hl [1, 2, 3, 4, 5, 6, 0] rfl)
    clear i30 hP hD hS hl
    intro x6_64h Ss_64h Sa_64h os_64h z64 h zl64 zr64 H locs ls hP hD hS hl
    refine lv_iload hx hb dX5_look_64 (lv_at hl 6 rfl) ?_
    refine lv_bipush (v := (8 : Int32)) hx hb dX5_look_66 (by decide) ?_
    refine lv_icmp_ge (tgt := 155) hx hb dX5_look_68 (by decide) (fun c8 => ?_) (fun c8 => ?_)
    · have h := zif_t c8 h
      cases zr64 _ (zend h).symm
      exact KX155 _ _ _ hP hD hS (lv_sub hl [0, 1, 2, 3, 4, 5] rfl)
    · have h := zif_f c8 h
      refine lv_aload_n hx hb dX5_look_71 rfl (lv_at hl 0 rfl) ?_
      refine lv_iload hx hb dX5_look_72 (lv_at hl 5 rfl) ?_
      refine lv_iload hx hb dX5_look_74 (lv_at hl 6 rfl) ?_
      obtain ⟨r9, g10, h⟩ := zb1_s h
      have hFc := va_free (wc := (zwS cI So Sp Go Ss_64h Sa_64h ++ zwG cI Go Gp Gs Ga)) hD hS hA [0, 1, 2, 3, 4, 5] rfl
      refine zcall_i (w2 := (zwS cI So Sp Go Ss_64h Sa_64h ++ zwG cI Go Gp Gs Ga ++ zwR cO ra oo ++ zwO (oo 0) (os_64h 0) ++ zwO (oo 1) (os_64h 1) ++ zwO (oo 2) (os_64h 2) ++ zwO (oo 3) (os_64h 3) ++ zwO (oo 4) (os_64h 4) ++ zwO (oo 5) (os_64h 5) ++ zwO (oo 6) (os_64h 6) ++ zwO (oo 7) (os_64h 7) ++ zwO (oo 8) (os_64h 8))) (va_runV (As := [.int x5_47h, .int x6_64h]) (rest := []) ⟨hx, hb, hml, hown, hts⟩ (c_X4_targetOf l D cI cB cO So Sp Go Gp Ss_64h Sa_64h Gs Ga x5_47h x6_64h _ _ g10) (cwV 2 hts gX5_look_X4_targetOf rfl rfl rfl kV_X4_targetOf ⟨Nat.le_trans (Nat.le_of_ble_eq_true rfl) hRf, Nat.le_trans (Nat.le_of_ble_eq_true rfl) hRl⟩) (zpreV hK hP hD hS hE hFc [0, 1, 2, 3, 4, 5] rfl rfl 0 (ci := 4) rfl rfl [.int x5_47h, .int x6_64h]) rfl rfl hl.1 rfl (lv_room (Nat.le_of_ble_eq_true rfl)) dX5_look_76 ⟨Nat.zero_le _, Nat.zero_le _⟩) hP hD hS hFc [0, 1, 2, 3, 4, 5] [6, 7, 8, 9, 10, 11, 12, 13, 14, 15] [10, 11, 12, 13, 14, 15, 0, 1, 2, 3, 4, 5, 6, 7, 8, 9] 16 rfl rfl rfl rfl (fun H locs hP hD hS => ?_)
      refine lv_istore (lv' := [(7, .int r9), (0, .ref So), (1, .ref ra), (2, .int (1 : Int32)), (3, .ref (oo 1)), (4, .ref (oo 2)), (5, .int x5_47h), (6, .int x6_64h)]) hx hb dX5_look_79 hl (by decide) rfl (fun ls hl => ?_)
      refine lv_iload hx hb dX5_look_81 (lv_at hl 0 rfl) ?_
      refine lv_iconst (v := (-1 : Int32)) hx hb dX5_look_83 (by decide) ?_
      obtain ⟨Ss_149, Sa_149, os_149, j11, h⟩ := zb3_s h
      have K149 : ∀ (H : Heap) (locs : List Loc) (ls : Array Slot), va_P D vwCl (zwS cI So Sp Go Ss_149 Sa_149 ++ zwG cI Go Gp Gs Ga ++ zwR cO ra oo ++ zwO (oo 0) (os_149 0) ++ zwO (oo 1) (os_149 1) ++ zwO (oo 2) (os_149 2) ++ zwO (oo 3) (os_149 3) ++ zwO (oo 4) (os_149 4) ++ zwO (oo 5) (os_149 5) ++ zwO (oo 6) (os_149 6) ++ zwO (oo 7) (os_149 7) ++ zwO (oo 8) (os_149 8)) H → va_D A (zwS cI So Sp Go Ss_149 Sa_149 ++ zwG cI Go Gp Gs Ga ++ zwR cO ra oo ++ zwO (oo 0) (os_149 0) ++ zwO (oo 1) (os_149 1) ++ zwO (oo 2) (os_149 2) ++ zwO (oo 3) (os_149 3) ++ zwO (oo 4) (os_149 4) ++ zwO (oo 5) (os_149 5) ++ zwO (oo 6) (os_149 6) ++ zwO (oo 7) (os_149 7) ++ zwO (oo 8) (os_149 8)) → va_S A s.heap H locs → lv_has ls 10 [(0, .ref So), (1, .ref ra), (2, .int (1 : Int32)), (3, .ref (oo 1)), (4, .ref (oo 2)), (5, .int x5_47h), (6, .int x6_64h)] → W p l e R s m args below meth c H locs 0 0 Q (F0 m 149 ls []) := by
        intro H locs ls hP hD hS hl
        refine lv_iinc (v := (x6_64h + (1 : Int32))) (lv' := [(6, .int (x6_64h + (1 : Int32))), (0, .ref So), (1, .ref ra), (2, .int (1 : Int32)), (3, .ref (oo 1)), (4, .ref (oo 2)), (5, .int x5_47h)]) hx hb dX5_look_149 hl (k := 6) rfl rfl (by decide) rfl (fun ls hl => ?_)
        refine lv_goto (tgt := 64) hx hb dX5_look_152 (by decide) ?_
        exact zl64 _ _ _ _ (zend h).symm _ _ _ hP hD hS (lv_sub hl [1, 2, 3, 4, 5, 6, 0] rfl)
      clear h
      have h := j11
      clear j11
      refine lv_icmp_eq (tgt := 149) hx hb dX5_look_84 (by decide) (fun c12 => ?_) (fun c12 => ?_)
      · have h := zif_t c12 h
        cases zend h
        exact K149 _ _ _ hP hD hS (lv_sub hl [1, 2, 3, 4, 5, 6, 7] rfl)
      · have h := zif_f c12 h
        refine lv_aload_n hx hb dX5_look_87 rfl (lv_at hl 1 rfl) ?_
        refine lv_iload hx hb dX5_look_88 (lv_at hl 6 rfl) ?_
        obtain ⟨r13, g14, h⟩ := zb1_s h
        have hFc := va_free (wc := (zwS cI So Sp Go Ss_64h Sa_64h)) hD hS hA [0, 1, 2, 3] rfl
        refine zcall_i (w2 := (zwS cI So Sp Go Ss_64h Sa_64h ++ zwG cI Go Gp Gs Ga ++ zwR cO ra oo ++ zwO (oo 0) (os_64h 0) ++ zwO (oo 1) (os_64h 1) ++ zwO (oo 2) (os_64h 2) ++ zwO (oo 3) (os_64h 3) ++ zwO (oo 4) (os_64h 4) ++ zwO (oo 5) (os_64h 5) ++ zwO (oo 6) (os_64h 6) ++ zwO (oo 7) (os_64h 7) ++ zwO (oo 8) (os_64h 8))) (va_runV (As := [.int x5_47h]) (rest := []) ⟨hx, hb, hml, hown, hts⟩ (c_X4_homeOf l D cI cB cO So Sp Go Ss_64h Sa_64h x5_47h _ _ g14) (cwV 1 hts gX5_look_X4_homeOf rfl rfl rfl kV_X4_homeOf ⟨Nat.le_trans (Nat.le_of_ble_eq_true rfl) hRf, Nat.le_trans (Nat.le_of_ble_eq_true rfl) hRl⟩) (zpreV hK hP hD hS hE hFc [0, 1, 2, 3] rfl rfl 0 (ci := 4) rfl rfl [.int x5_47h]) rfl rfl hl.1 rfl (lv_room (Nat.le_of_ble_eq_true rfl)) dX5_look_90 ⟨Nat.zero_le _, Nat.zero_le _⟩) hP hD hS hFc [0, 1, 2, 3] [4, 5, 6, 7, 8, 9, 10, 11, 12, 13, 14, 15] [12, 13, 14, 15, 0, 1, 2, 3, 4, 5, 6, 7, 8, 9, 10, 11] 16 rfl rfl rfl rfl (fun H locs hP hD hS => ?_)
        refine lv_istore (lv' := [(8, .int r13), (7, .int r9), (0, .ref So), (1, .ref ra), (2, .int (1 : Int32)), (3, .ref (oo 1)), (4, .ref (oo 2)), (5, .int x5_47h), (6, .int x6_64h)]) hx hb dX5_look_93 hl (by decide) rfl (fun ls hl => ?_)
        refine lv_aload_n hx hb dX5_look_95 rfl (lv_at hl 2 rfl) ?_
        refine lv_iload hx hb dX5_look_96 (lv_at hl 7 rfl) ?_
        refine lv_iload hx hb dX5_look_98 (lv_at hl 8 rfl) ?_
        obtain ⟨r15, g16, h⟩ := zb1_s h
        have hFc := va_free (wc := (zwS cI So Sp Go Ss_64h Sa_64h ++ zwG cI Go Gp Gs Ga)) hD hS hA [0, 1, 2, 3, 4, 5] rfl
        refine zcall_i (w2 := (zwS cI So Sp Go Ss_64h Sa_64h ++ zwG cI Go Gp Gs Ga ++ zwR cO ra oo ++ zwO (oo 0) (os_64h 0) ++ zwO (oo 1) (os_64h 1) ++ zwO (oo 2) (os_64h 2) ++ zwO (oo 3) (os_64h 3) ++ zwO (oo 4) (os_64h 4) ++ zwO (oo 5) (os_64h 5) ++ zwO (oo 6) (os_64h 6) ++ zwO (oo 7) (os_64h 7) ++ zwO (oo 8) (os_64h 8))) (va_runV (As := [.int x5_47h, .int x6_64h]) (rest := []) ⟨hx, hb, hml, hown, hts⟩ (c_X4_neighbourOf l D cI cB cO So Sp Go Gp Ss_64h Sa_64h Gs Ga x5_47h x6_64h _ _ g16) (cwV 2 hts gX5_look_X4_neighbourOf rfl rfl rfl kV_X4_neighbourOf ⟨Nat.le_trans (Nat.le_of_ble_eq_true rfl) hRf, Nat.le_trans (Nat.le_of_ble_eq_true rfl) hRl⟩) (zpreV hK hP hD hS hE hFc [0, 1, 2, 3, 4, 5] rfl rfl 0 (ci := 4) rfl rfl [.int x5_47h, .int x6_64h]) rfl rfl hl.1 rfl (lv_room (Nat.le_of_ble_eq_true rfl)) dX5_look_100 ⟨Nat.zero_le _, Nat.zero_le _⟩) hP hD hS hFc [0, 1, 2, 3, 4, 5] [6, 7, 8, 9, 10, 11, 12, 13, 14, 15] [10, 11, 12, 13, 14, 15, 0, 1, 2, 3, 4, 5, 6, 7, 8, 9] 16 rfl rfl rfl rfl (fun H locs hP hD hS => ?_)
        refine lv_istore (lv' := [(9, .int r15), (8, .int r13), (7, .int r9), (0, .ref So), (1, .ref ra), (2, .int (1 : Int32)), (3, .ref (oo 1)), (4, .ref (oo 2)), (5, .int x5_47h), (6, .int x6_64h)]) hx hb dX5_look_103 hl (by decide) rfl (fun ls hl => ?_)
        refine lv_aload_n hx hb dX5_look_105 rfl (lv_at hl 3 rfl) ?_
        refine lv_iload hx hb dX5_look_106 (lv_at hl 8 rfl) ?_
        refine lv_iload hx hb dX5_look_108 (lv_at hl 0 rfl) ?_
        refine lv_iload hx hb dX5_look_110 (lv_at hl 2 rfl) ?_
        obtain ⟨Ss_17, Sa_18, g19, h⟩ := zb2_s h
        have hFc := va_free (wc := (zwS cI So Sp Go Ss_64h Sa_64h ++ zwG cI Go Gp Gs Ga)) hD hS hA [0, 1, 2, 3, 4, 5] rfl
        refine zcall_v (w2 := (zwS cI So Sp Go Ss_17 Sa_18 ++ zwG cI Go Gp Gs Ga ++ zwR cO ra oo ++ zwO (oo 0) (os_64h 0) ++ zwO (oo 1) (os_64h 1) ++ zwO (oo 2) (os_64h 2) ++ zwO (oo 3) (os_64h 3) ++ zwO (oo 4) (os_64h 4) ++ zwO (oo 5) (os_64h 5) ++ zwO (oo 6) (os_64h 6) ++ zwO (oo 7) (os_64h 7) ++ zwO (oo 8) (os_64h 8))) (va_runV (As := [.int x5_47h, .int r15, .int r9]) (rest := []) ⟨hx, hb, hml, hown, hts⟩ (c_X4_leap l D cI cB cO So Sp Go Gp Ss_64h Sa_64h Gs Ga x5_47h r15 r9 _ _ _ g19) (cwV 3 hts gX5_look_X4_leap rfl rfl rfl kV_X4_leap ⟨Nat.le_trans (Nat.le_of_ble_eq_true rfl) hRf, Nat.le_trans (Nat.le_of_ble_eq_true rfl) hRl⟩) (zpreV hK hP hD hS hE hFc [0, 1, 2, 3, 4, 5] rfl rfl 0 (ci := 4) rfl rfl [.int x5_47h, .int r15, .int r9]) rfl rfl hl.1 rfl (lv_room (Nat.le_of_ble_eq_true rfl)) dX5_look_112 ⟨Nat.zero_le _, Nat.zero_le _⟩) hP hD hS hFc [0, 1, 2, 3, 4, 5] [6, 7, 8, 9, 10, 11, 12, 13, 14, 15] [10, 11, 12, 13, 14, 15, 0, 1, 2, 3, 4, 5, 6, 7, 8, 9] 16 rfl rfl rfl rfl (fun H locs hP hD hS => ?_)
        refine lv_aload_n hx hb dX5_look_115 rfl (lv_at hl 3 rfl) ?_
        refine lv_aload_n hx hb dX5_look_116 rfl (lv_at hl 4 rfl) ?_
        refine lv_iload_n hx hb dX5_look_117 rfl (lv_at hl 5 rfl) ?_
        refine lv_iconst (v := (1 : Int32)) hx hb dX5_look_118 (by decide) ?_
        refine lv_iadd hx hb dX5_look_119 ?_
        refine lv_topi (fun k20 ek20 => ?_)
        obtain rfl : k20 = (2 : Int32) := ek20.trans (by decide)
        obtain ⟨Ss_21, Sa_22, os_23, g24, h⟩ := zb3_s h
        have hFc := va_free (wc := (zwS cI So Sp Go Ss_17 Sa_18 ++ zwG cI Go Gp Gs Ga ++ zwR cO ra oo ++ zwO (oo 0) (os_64h 0) ++ zwO (oo 1) (os_64h 1) ++ zwO (oo 2) (os_64h 2) ++ zwO (oo 3) (os_64h 3) ++ zwO (oo 4) (os_64h 4) ++ zwO (oo 5) (os_64h 5) ++ zwO (oo 6) (os_64h 6) ++ zwO (oo 7) (os_64h 7) ++ zwO (oo 8) (os_64h 8))) hD hS hA [0, 1, 2, 3, 4, 5, 6, 7, 8, 9, 10, 11, 12, 13, 14, 15] rfl
        refine zcall_v (w2 := (zwS cI So Sp Go Ss_21 Sa_22 ++ zwG cI Go Gp Gs Ga ++ zwR cO ra oo ++ zwO (oo 0) (os_23 0) ++ zwO (oo 1) (os_23 1) ++ zwO (oo 2) (os_23 2) ++ zwO (oo 3) (os_23 3) ++ zwO (oo 4) (os_23 4) ++ zwO (oo 5) (os_23 5) ++ zwO (oo 6) (os_23 6) ++ zwO (oo 7) (os_23 7) ++ zwO (oo 8) (os_23 8))) (va_runS (As := [.ref So, .ref ra, .int (2 : Int32)]) (rest := []) ⟨hx, hb, hml, hown, hts⟩ (c_X5_look_2 l D cI cB cO So Sp Go Gp ra oo Ss_17 Sa_18 Gs Ga os_64h _ _ _ _ g24) (va_cwS 3 hts gX5_look_X5_look rfl rfl rfl kS_X5_look ⟨Nat.le_trans (Nat.le_of_ble_eq_true rfl) hRf, Nat.le_trans (Nat.le_of_ble_eq_true rfl) hRl⟩) (zpreS hK hP hD hS hE hFc [0, 1, 2, 3, 4, 5, 6, 7, 8, 9, 10, 11, 12, 13, 14, 15] rfl rfl [.ref So, .ref ra, .int (2 : Int32)]) rfl rfl hl.1 rfl (lv_room (Nat.le_of_ble_eq_true rfl)) dX5_look_120 ⟨Nat.zero_le _, Nat.zero_le _⟩) hP hD hS hFc [0, 1, 2, 3, 4, 5, 6, 7, 8, 9, 10, 11, 12, 13, 14, 15] [] [0, 1, 2, 3, 4, 5, 6, 7, 8, 9, 10, 11, 12, 13, 14, 15] 16 rfl rfl rfl rfl (fun H locs hP hD hS => ?_)
        refine lv_aload_n hx hb dX5_look_123 rfl (lv_at hl 3 rfl) ?_
        refine lv_iload hx hb dX5_look_124 (lv_at hl 8 rfl) ?_
        refine lv_iload hx hb dX5_look_126 (lv_at hl 1 rfl) ?_
        refine lv_iload hx hb dX5_look_128 (lv_at hl 0 rfl) ?_
        refine lv_iload hx hb dX5_look_130 (lv_at hl 9 rfl) ?_
        obtain ⟨Ss_25, Sa_26, g27, h⟩ := zb2_s h
        have hFc := va_free (wc := (zwS cI So Sp Go Ss_21 Sa_22 ++ zwG cI Go Gp Gs Ga)) hD hS hA [0, 1, 2, 3, 4, 5] rfl
        refine zcall_v (w2 := (zwS cI So Sp Go Ss_25 Sa_26 ++ zwG cI Go Gp Gs Ga ++ zwR cO ra oo ++ zwO (oo 0) (os_23 0) ++ zwO (oo 1) (os_23 1) ++ zwO (oo 2) (os_23 2) ++ zwO (oo 3) (os_23 3) ++ zwO (oo 4) (os_23 4) ++ zwO (oo 5) (os_23 5) ++ zwO (oo 6) (os_23 6) ++ zwO (oo 7) (os_23 7) ++ zwO (oo 8) (os_23 8))) (va_runV (As := [.int x5_47h, .int r13, .int r15, .int x6_64h]) (rest := []) ⟨hx, hb, hml, hown, hts⟩ (c_X4_takeBack l D cI cB cO So Sp Go Gp Ss_21 Sa_22 Gs Ga x5_47h r13 r15 x6_64h _ _ _ g27) (cwV 4 hts gX5_look_X4_takeBack rfl rfl rfl kV_X4_takeBack ⟨Nat.le_trans (Nat.le_of_ble_eq_true rfl) hRf, Nat.le_trans (Nat.le_of_ble_eq_true rfl) hRl⟩) (zpreV hK hP hD hS hE hFc [0, 1, 2, 3, 4, 5] rfl rfl 0 (ci := 4) rfl rfl [.int x5_47h, .int r13, .int r15, .int x6_64h]) rfl rfl hl.1 rfl (lv_room (Nat.le_of_ble_eq_true rfl)) dX5_look_132 ⟨Nat.zero_le _, Nat.zero_le _⟩) hP hD hS hFc [0, 1, 2, 3, 4, 5] [6, 7, 8, 9, 10, 11, 12, 13, 14, 15] [10, 11, 12, 13, 14, 15, 0, 1, 2, 3, 4, 5, 6, 7, 8, 9] 16 rfl rfl rfl rfl (fun H locs hP hD hS => ?_)
        refine lv_aload_n hx hb dX5_look_135 rfl (lv_at hl 6 rfl) ?_
        refine lv_bipush (v := (100 : Int32)) hx hb dX5_look_136 (by decide) ?_
        refine lv_iload hx hb dX5_look_138 (lv_at hl 8 rfl) ?_
        refine lv_imul hx hb dX5_look_140 ?_
        refine lv_iload hx hb dX5_look_141 (lv_at hl 2 rfl) ?_
        refine lv_iadd hx hb dX5_look_143 ?_
        refine lv_aload hx hb dX5_look_144 (lv_at hl 7 rfl) ?_
        obtain ⟨Os_28, g29, h⟩ := zb1_s h
        have hFc := va_free (wc := (zwO (oo 1) (os_23 1) ++ zwO (oo 2) (os_23 2))) hD hS hA [8, 9] rfl
        refine zcall_v (w2 := (zwS cI So Sp Go Ss_25 Sa_26 ++ zwG cI Go Gp Gs Ga ++ zwR cO ra oo ++ zwO (oo 0) (os_23 0) ++ zwO (oo 1) Os_28 ++ zwO (oo 2) (os_23 2) ++ zwO (oo 3) (os_23 3) ++ zwO (oo 4) (os_23 4) ++ zwO (oo 5) (os_23 5) ++ zwO (oo 6) (os_23 6) ++ zwO (oo 7) (os_23 7) ++ zwO (oo 8) (os_23 8))) (va_runV (As := [.int (((100 : Int32) * x5_47h) + r9), .ref (oo 2)]) (rest := []) ⟨hx, hb, hml, hown, hts⟩ (c_X1_take l D cI cB cO (oo 1) (oo 2) (os_23 1) (os_23 2) (((100 : Int32) * x5_47h) + r9) _ _ g29) (cwV 2 hts gX5_look_X1_take rfl rfl rfl kV_X1_take ⟨Nat.le_trans (Nat.le_of_ble_eq_true rfl) hRf, Nat.le_trans (Nat.le_of_ble_eq_true rfl) hRl⟩) (zpreV hK hP hD hS hE hFc [8, 9] rfl rfl 8 (ci := 1) rfl rfl [.int (((100 : Int32) * x5_47h) + r9), .ref (oo 2)]) rfl rfl hl.1 rfl (lv_room (Nat.le_of_ble_eq_true rfl)) dX5_look_146 ⟨Nat.zero_le _, Nat.zero_le _⟩) hP hD hS hFc [8, 9] [0, 1, 2, 3, 4, 5, 6, 7, 10, 11, 12, 13, 14, 15] [0, 1, 2, 3, 4, 5, 6, 7, 14, 15, 8, 9, 10, 11, 12, 13] 16 rfl rfl rfl rfl (fun H locs hP hD hS => ?_)
        cases zend h
        exact K149 _ _ _ hP hD hS (lv_sub hl [3, 4, 5, 6, 7, 8, 9] rfl)
set_option maxHeartbeats 4000000 in
set_option maxRecDepth 100000 in
theorem c_X5_look_0 (l : Launch) (D : va_G) (cI cB cO : ClassId) (So : Nat) (Sp : Nat → Nat) (Go : Nat) (Gp : Nat → Nat) (ra : Nat) (oo : Nat → Nat) (Ss : Nat → Int32) (Sa : Nat → Nat → Int32) (Gs : Nat → Int32) (Ga : Nat → Nat → Int32) (os : Nat → Nat → Int32)  (Ss' : Nat → Int32) (Sa' : Nat → Nat → Int32) (os' : Nat → Nat → Int32) (sz : Nat) (h : fX5_look_0 Ss Sa Gs Ga os = some (Ss', Sa', os')) : Met l yX5_look wsX5_look ({ frames := 11, cells := 0, slots := 0, locals := 297 } : Room) (va_Pc [.ref So, .ref ra, .int (0 : Int32)] (zPre D (zTY cI cB cO) (zwS cI So Sp Go Ss Sa ++ zwG cI Go Gp Gs Ga ++ zwR cO ra oo ++ zwO (oo 0) (os 0) ++ zwO (oo 1) (os 1) ++ zwO (oo 2) (os 2) ++ zwO (oo 3) (os 3) ++ zwO (oo 4) (os 4) ++ zwO (oo 5) (os 5) ++ zwO (oo 6) (os 6) ++ zwO (oo 7) (os 7) ++ zwO (oo 8) (os 8)) sz)) (va_Qv (fun (_ : Unit) => True) (fun _ => zPost D (zTY cI cB cO) (zwS cI So Sp Go Ss' Sa' ++ zwG cI Go Gp Gs Ga ++ zwR cO ra oo ++ zwO (oo 0) (os' 0) ++ zwO (oo 1) (os' 1) ++ zwO (oo 2) (os' 2) ++ zwO (oo 3) (os' 3) ++ zwO (oo 4) (os' 4) ++ zwO (oo 5) (os' 5) ++ zwO (oo 6) (os' 6) ++ zwO (oo 7) (os' 7) ++ zwO (oo 8) (os' 8)) (va_A (zwS cI So Sp Go Ss Sa ++ zwG cI Go Gp Gs Ga ++ zwR cO ra oo ++ zwO (oo 0) (os 0) ++ zwO (oo 1) (os 1) ++ zwO (oo 2) (os 2) ++ zwO (oo 3) (os 3) ++ zwO (oo 4) (os 4) ++ zwO (oo 5) (os 5) ++ zwO (oo 6) (os 6) ++ zwO (oo 7) (os 7) ++ zwO (oo 8) (os 8)) sz)) (va_A (zwS cI So Sp Go Ss Sa ++ zwG cI Go Gp Gs Ga ++ zwR cO ra oo ++ zwO (oo 0) (os 0) ++ zwO (oo 1) (os 1) ++ zwO (oo 2) (os 2) ++ zwO (oo 3) (os 3) ++ zwO (oo 4) (os 4) ++ zwO (oo 5) (os 5) ++ zwO (oo 6) (os 6) ++ zwO (oo 7) (os 7) ++ zwO (oo 8) (os 8)) sz)) 0 0 (va_A (zwS cI So Sp Go Ss Sa ++ zwG cI Go Gp Gs Ga ++ zwR cO ra oo ++ zwO (oo 0) (os 0) ++ zwO (oo 1) (os 1) ++ zwO (oo 2) (os 2) ++ zwO (oo 3) (os 3) ++ zwO (oo 4) (os 4) ++ zwO (oo 5) (os 5) ++ zwO (oo 6) (os 6) ++ zwO (oo 7) (os 7) ++ zwO (oo 8) (os 8)) sz) := by
  unfold fX5_look_0 at h
  refine zmet_v (cc := cX5_look) (maxL := 10) (by decide) rfl (Nat.le_of_ble_eq_true rfl) rfl rfl ?_
  intro p e s m args below meth c R Q A ls hx hb hts hown hml hK hP hD hE hA hS hRf hRl hl hq
  have hown : s.vm.findClass RX5 = some m.cls := hown
  have hl : lv_has ls 10 [(0, .ref So), (1, .ref ra), (2, .int (0 : Int32))] := hl
  have inX4 : ∀ w ∈ u_ws RX4 TX4 8, w ∈ wsX5_look := by decide +kernel
  have lk98 : (Cond.fieldLinkNest RX5 98 "PegField$State" "pegs" "I" "PegField").before args s = true := hE.2.use (by decide +kernel)
  have lk150 : (Cond.fieldLinkNest RX5 150 "PegField$State" "onBoard" "I" "PegField").before args s = true := hE.2.use (by decide +kernel)
  refine lv_iload_n hx hb dX5_look_0 rfl (lv_at hl 2 rfl) ?_
  refine lv_if_lt (tgt := 16) hx hb dX5_look_1 (by decide) (fun q => absurd q (by decide)) (fun _ => ?_)
  refine lv_iload_n hx hb dX5_look_4 rfl (lv_at hl 2 rfl) ?_
  refine lv_aload_n hx hb dX5_look_5 rfl (lv_at hl 1 rfl) ?_
  refine va_alen hx hb hK hP 6 2 rfl rfl (v := (9 : Int32)) rfl dX5_look_6 ?_
  refine lv_icmp_ge (tgt := 16) hx hb dX5_look_7 (by decide) (fun q => absurd q (by decide)) (fun _ => ?_)
  refine lv_aload_n hx hb dX5_look_10 rfl (lv_at hl 1 rfl) ?_
  refine lv_iload_n hx hb dX5_look_11 rfl (lv_at hl 2 rfl) ?_
  refine va_aldq hx hb hK hP 6 2 rfl rfl (vp_in_iff.mpr (by decide)) dX5_look_12 ?_
  refine W.eq (g2 := F0 m 13 ls [.ref (oo 0)]) rfl ?_
  refine lv_ifnonnull (tgt := 17) hx hb dX5_look_13 (by decide) ?_
  refine lv_aload_n hx hb dX5_look_17 rfl (lv_at hl 1 rfl) ?_
  refine lv_iload_n hx hb dX5_look_18 rfl (lv_at hl 2 rfl) ?_
  refine va_aldq hx hb hK hP 6 2 rfl rfl (vp_in_iff.mpr (by decide)) dX5_look_19 ?_
  refine W.eq (g2 := F0 m 20 ls [.ref (oo 0)]) rfl ?_
  refine lv_astore_n (lv' := [(3, .ref (oo 0)), (0, .ref So), (1, .ref ra), (2, .int (0 : Int32))]) hx hb dX5_look_20 rfl hl (by decide) rfl (fun ls hl => ?_)
  refine lv_aload_n hx hb dX5_look_21 rfl (lv_at hl 0 rfl) ?_
  obtain ⟨Os_1, g2, h⟩ := zb1_s h
  have hFc := va_free (wc := (zwO (oo 0) (os 0))) hD hS hA [7] rfl
  refine zcall_v (w2 := (zwS cI So Sp Go Ss Sa ++ zwG cI Go Gp Gs Ga ++ zwR cO ra oo ++ zwO (oo 0) Os_1 ++ zwO (oo 1) (os 1) ++ zwO (oo 2) (os 2) ++ zwO (oo 3) (os 3) ++ zwO (oo 4) (os 4) ++ zwO (oo 5) (os 5) ++ zwO (oo 6) (os 6) ++ zwO (oo 7) (os 7) ++ zwO (oo 8) (os 8))) (va_runV (As := []) (rest := []) ⟨hx, hb, hml, hown, hts⟩ (c_X1_begin l D cI cB cO (oo 0) (os 0) _ _ g2) (cwV 0 hts gX5_look_X1_begin rfl rfl rfl kV_X1_begin ⟨Nat.le_trans (Nat.le_of_ble_eq_true rfl) hRf, Nat.le_trans (Nat.le_of_ble_eq_true rfl) hRl⟩) (zpreV hK hP hD hS hE hFc [7] rfl rfl 7 (ci := 1) rfl rfl []) rfl rfl hl.1 rfl (lv_room (Nat.le_of_ble_eq_true rfl)) dX5_look_22 ⟨Nat.zero_le _, Nat.zero_le _⟩) hP hD hS hFc [7] [0, 1, 2, 3, 4, 5, 6, 8, 9, 10, 11, 12, 13, 14, 15] [0, 1, 2, 3, 4, 5, 6, 15, 7, 8, 9, 10, 11, 12, 13, 14] 16 rfl rfl rfl rfl (fun H locs hP hD hS => ?_)
  refine lv_iload_n hx hb dX5_look_25 rfl (lv_at hl 3 rfl) ?_
  refine lv_iconst (v := (1 : Int32)) hx hb dX5_look_26 (by decide) ?_
  refine lv_iadd hx hb dX5_look_27 ?_
  refine lv_topi (fun k3 ek3 => ?_)
  obtain rfl : k3 = (1 : Int32) := ek3.trans (by decide)
  refine lv_aload_n hx hb dX5_look_28 rfl (lv_at hl 2 rfl) ?_
  refine va_alen hx hb hK hP 6 2 rfl rfl (v := (9 : Int32)) rfl dX5_look_29 ?_
  refine lv_icmp_ge (tgt := 41) hx hb dX5_look_30 (by decide) (fun q => absurd q (by decide)) (fun _ => ?_)
  refine lv_aload_n hx hb dX5_look_33 rfl (lv_at hl 2 rfl) ?_
  refine lv_iload_n hx hb dX5_look_34 rfl (lv_at hl 3 rfl) ?_
  refine lv_iconst (v := (1 : Int32)) hx hb dX5_look_35 (by decide) ?_
  refine lv_iadd hx hb dX5_look_36 ?_
  refine lv_topi (fun k4 ek4 => ?_)
  obtain rfl : k4 = (1 : Int32) := ek4.trans (by decide)
  refine va_aldq hx hb hK hP 6 2 rfl rfl (vp_in_iff.mpr (by decide)) dX5_look_37 ?_
  refine W.eq (g2 := F0 m 38 ls [.ref (oo 1)]) rfl ?_
  refine lv_goto (tgt := 42) hx hb dX5_look_38 (by decide) ?_
  refine lv_astore (lv' := [(4, .ref (oo 1)), (3, .ref (oo 0)), (0, .ref So), (1, .ref ra), (2, .int (0 : Int32))]) hx hb dX5_look_42 hl (by decide) rfl (fun ls hl => ?_)
  refine lv_iconst (v := (0 : Int32)) hx hb dX5_look_44 (by decide) ?_
  refine lv_istore (lv' := [(5, .int (0 : Int32)), (4, .ref (oo 1)), (3, .ref (oo 0)), (0, .ref So), (1, .ref ra), (2, .int (0 : Int32))]) hx hb dX5_look_45 hl (by decide) rfl (fun ls hl => ?_)
  obtain ⟨Ss_161x47, Sa_161x47, os_161x47, i35, h⟩ := zb3_s h
  have KX161 : ∀ (H : Heap) (locs : List Loc) (ls : Array Slot), va_P D vwCl (zwS cI So Sp Go Ss_161x47 Sa_161x47 ++ zwG cI Go Gp Gs Ga ++ zwR cO ra oo ++ zwO (oo 0) (os_161x47 0) ++ zwO (oo 1) (os_161x47 1) ++ zwO (oo 2) (os_161x47 2) ++ zwO (oo 3) (os_161x47 3) ++ zwO (oo 4) (os_161x47 4) ++ zwO (oo 5) (os_161x47 5) ++ zwO (oo 6) (os_161x47 6) ++ zwO (oo 7) (os_161x47 7) ++ zwO (oo 8) (os_161x47 8)) H → va_D A (zwS cI So Sp Go Ss_161x47 Sa_161x47 ++ zwG cI Go Gp Gs Ga ++ zwR cO ra oo ++ zwO (oo 0) (os_161x47 0) ++ zwO (oo 1) (os_161x47 1) ++ zwO (oo 2) (os_161x47 2) ++ zwO (oo 3) (os_161x47 3) ++ zwO (oo 4) (os_161x47 4) ++ zwO (oo 5) (os_161x47 5) ++ zwO (oo 6) (os_161x47 6) ++ zwO (oo 7) (os_161x47 7) ++ zwO (oo 8) (os_161x47 8)) → va_S A s.heap H locs → lv_has ls 10 [(0, .ref So), (3, .ref (oo 0))] → W p l e R s m args below meth c H locs 0 0 Q (F0 m 161 ls []) := by
    intro H locs ls hP hD hS hl
    refine lv_aload_n hx hb dX5_look_161 rfl (lv_at hl 1 rfl) ?_
    refine lv_aload_n hx hb dX5_look_162 rfl (lv_at hl 0 rfl) ?_
    refine va_getN (D := D) (ci := 4) (v := .int (Ss_161x47 3)) (C := RX4) (T := TX4) (N := 8) hx hb hts inX4 hown hK hP 0 rfl rfl 3 (by decide) lk150 (fun _ h9 => h9) rfl dX5_look_163 ?_
    refine lv_aload_n hx hb dX5_look_166 rfl (lv_at hl 0 rfl) ?_
    obtain ⟨r31, g32, h⟩ := zb1_s h
    have hFc := va_free (wc := (zwS cI So Sp Go Ss_161x47 Sa_161x47 ++ zwG cI Go Gp Gs Ga)) hD hS hA [0, 1, 2, 3, 4, 5] rfl
    refine zcall_i (w2 := (zwS cI So Sp Go Ss_161x47 Sa_161x47 ++ zwG cI Go Gp Gs Ga ++ zwR cO ra oo ++ zwO (oo 0) (os_161x47 0) ++ zwO (oo 1) (os_161x47 1) ++ zwO (oo 2) (os_161x47 2) ++ zwO (oo 3) (os_161x47 3) ++ zwO (oo 4) (os_161x47 4) ++ zwO (oo 5) (os_161x47 5) ++ zwO (oo 6) (os_161x47 6) ++ zwO (oo 7) (os_161x47 7) ++ zwO (oo 8) (os_161x47 8))) (va_runV (As := []) (rest := [.int (Ss_161x47 3), .ref (oo 0)]) ⟨hx, hb, hml, hown, hts⟩ (c_X4_aloneBit l D cI cB cO So Sp Go Gp Ss_161x47 Sa_161x47 Gs Ga _ _ g32) (cwV 0 hts gX5_look_X4_aloneBit rfl rfl rfl kV_X4_aloneBit ⟨Nat.le_trans (Nat.le_of_ble_eq_true rfl) hRf, Nat.le_trans (Nat.le_of_ble_eq_true rfl) hRl⟩) (zpreV hK hP hD hS hE hFc [0, 1, 2, 3, 4, 5] rfl rfl 0 (ci := 4) rfl rfl []) rfl rfl hl.1 rfl (lv_room (Nat.le_of_ble_eq_true rfl)) dX5_look_167 ⟨Nat.zero_le _, Nat.zero_le _⟩) hP hD hS hFc [0, 1, 2, 3, 4, 5] [6, 7, 8, 9, 10, 11, 12, 13, 14, 15] [10, 11, 12, 13, 14, 15, 0, 1, 2, 3, 4, 5, 6, 7, 8, 9] 16 rfl rfl rfl rfl (fun H locs hP hD hS => ?_)
    obtain ⟨Os_33, g34, h⟩ := zb1_s h
    have hFc := va_free (wc := (zwO (oo 0) (os_161x47 0))) hD hS hA [7] rfl
    refine zcall_v (w2 := (zwS cI So Sp Go Ss_161x47 Sa_161x47 ++ zwG cI Go Gp Gs Ga ++ zwR cO ra oo ++ zwO (oo 0) Os_33 ++ zwO (oo 1) (os_161x47 1) ++ zwO (oo 2) (os_161x47 2) ++ zwO (oo 3) (os_161x47 3) ++ zwO (oo 4) (os_161x47 4) ++ zwO (oo 5) (os_161x47 5) ++ zwO (oo 6) (os_161x47 6) ++ zwO (oo 7) (os_161x47 7) ++ zwO (oo 8) (os_161x47 8))) (va_runV (As := [.int (Ss_161x47 3), .int r31]) (rest := []) ⟨hx, hb, hml, hown, hts⟩ (c_X1_end l D cI cB cO (oo 0) (os_161x47 0) (Ss_161x47 3) r31 _ _ g34) (cwV 2 hts gX5_look_X1_end rfl rfl rfl kV_X1_end ⟨Nat.le_trans (Nat.le_of_ble_eq_true rfl) hRf, Nat.le_trans (Nat.le_of_ble_eq_true rfl) hRl⟩) (zpreV hK hP hD hS hE hFc [7] rfl rfl 7 (ci := 1) rfl rfl [.int (Ss_161x47 3), .int r31]) rfl rfl hl.1 rfl (lv_room (Nat.le_of_ble_eq_true rfl)) dX5_look_170 ⟨Nat.zero_le _, Nat.zero_le _⟩) hP hD hS hFc [7] [0, 1, 2, 3, 4, 5, 6, 8, 9, 10, 11, 12, 13, 14, 15] [0, 1, 2, 3, 4, 5, 6, 15, 7, 8, 9, 10, 11, 12, 13, 14] 16 rfl rfl rfl rfl (fun H locs hP hD hS => ?_)
    cases zend h
    exact hq hP hD hS dX5_look_173
  clear h
  refine zi4_ind (P := (fun (x5_47h : Int32) (Ss_47h : Nat → Int32) (Sa_47h : Nat → Nat → Int32) (os_47h : Nat → Nat → Int32) => ∀ (H : Heap) (locs : List Loc) (ls : Array Slot), va_P D vwCl (zwS cI So Sp Go Ss_47h Sa_47h ++ zwG cI Go Gp Gs Ga ++ zwR cO ra oo ++ zwO (oo 0) (os_47h 0) ++ zwO (oo 1) (os_47h 1) ++ zwO (oo 2) (os_47h 2) ++ zwO (oo 3) (os_47h 3) ++ zwO (oo 4) (os_47h 4) ++ zwO (oo 5) (os_47h 5) ++ zwO (oo 6) (os_47h 6) ++ zwO (oo 7) (os_47h 7) ++ zwO (oo 8) (os_47h 8)) H → va_D A (zwS cI So Sp Go Ss_47h Sa_47h ++ zwG cI Go Gp Gs Ga ++ zwR cO ra oo ++ zwO (oo 0) (os_47h 0) ++ zwO (oo 1) (os_47h 1) ++ zwO (oo 2) (os_47h 2) ++ zwO (oo 3) (os_47h 3) ++ zwO (oo 4) (os_47h 4) ++ zwO (oo 5) (os_47h 5) ++ zwO (oo 6) (os_47h 6) ++ zwO (oo 7) (os_47h 7) ++ zwO (oo 8) (os_47h 8)) → va_S A s.heap H locs → lv_has ls 10 [(0, .ref So), (1, .ref ra), (2, .int (0 : Int32)), (3, .ref (oo 0)), (4, .ref (oo 1)), (5, .int x5_47h)] → W p l e R s m args below meth c H locs 0 0 Q (F0 m 47 ls []))) ?_ i35 _ _ _ hP hD hS (lv_sub hl [3, 4, 5, 2, 1, 0] rfl)
  clear i35 hP hD hS hl
  intro x5_47h Ss_47h Sa_47h os_47h z47 h zl47 zr47 H locs ls hP hD hS hl
  refine lv_iload hx hb dX5_look_47 (lv_at hl 5 rfl) ?_
  refine lv_aload_n hx hb dX5_look_49 rfl (lv_at hl 0 rfl) ?_
  refine va_getN (D := D) (ci := 4) (v := .int (Ss_47h 2)) (C := RX4) (T := TX4) (N := 8) hx hb hts inX4 hown hK hP 0 rfl rfl 2 (by decide) lk98 (fun _ h9 => h9) rfl dX5_look_50 ?_
  refine lv_icmp_ge (tgt := 161) hx hb dX5_look_53 (by decide) (fun c6 => ?_) (fun c6 => ?_)
  · have h := zif_t c6 h
    cases zr47 _ (zend h).symm
    exact KX161 _ _ _ hP hD hS (lv_sub hl [0, 3] rfl)
  · have h := zif_f c6 h
    refine lv_aload hx hb dX5_look_56 (lv_at hl 4 rfl) ?_
    refine lv_ifnull hx hb dX5_look_58 ?_
    refine lv_iconst (v := (0 : Int32)) hx hb dX5_look_61 (by decide) ?_
    refine lv_istore (lv' := [(6, .int (0 : Int32)), (0, .ref So), (1, .ref ra), (2, .int (0 : Int32)), (3, .ref (oo 0)), (4, .ref (oo 1)), (5, .int x5_47h)]) hx hb dX5_look_62 hl (by decide) rfl (fun ls hl => ?_)
    obtain ⟨Ss_155x64, Sa_155x64, os_155x64, i30, h⟩ := zb3_s h
    have KX155 : ∀ (H : Heap) (locs : List Loc) (ls : Array Slot), va_P D vwCl (zwS cI So Sp Go Ss_155x64 Sa_155x64 ++ zwG cI Go Gp Gs Ga ++ zwR cO ra oo ++ zwO (oo 0) (os_155x64 0) ++ zwO (oo 1) (os_155x64 1) ++ zwO (oo 2) (os_155x64 2) ++ zwO (oo 3) (os_155x64 3) ++ zwO (oo 4) (os_155x64 4) ++ zwO (oo 5) (os_155x64 5) ++ zwO (oo 6) (os_155x64 6) ++ zwO (oo 7) (os_155x64 7) ++ zwO (oo 8) (os_155x64 8)) H → va_D A (zwS cI So Sp Go Ss_155x64 Sa_155x64 ++ zwG cI Go Gp Gs Ga ++ zwR cO ra oo ++ zwO (oo 0) (os_155x64 0) ++ zwO (oo 1) (os_155x64 1) ++ zwO (oo 2) (os_155x64 2) ++ zwO (oo 3) (os_155x64 3) ++ zwO (oo 4) (os_155x64 4) ++ zwO (oo 5) (os_155x64 5) ++ zwO (oo 6) (os_155x64 6) ++ zwO (oo 7) (os_155x64 7) ++ zwO (oo 8) (os_155x64 8)) → va_S A s.heap H locs → lv_has ls 10 [(0, .ref So), (1, .ref ra), (2, .int (0 : Int32)), (3, .ref (oo 0)), (4, .ref (oo 1)), (5, .int x5_47h)] → W p l e R s m args below meth c H locs 0 0 Q (F0 m 155 ls []) := by
      intro H locs ls hP hD hS hl
      refine lv_iinc (v := (x5_47h + (1 : Int32))) (lv' := [(5, .int (x5_47h + (1 : Int32))), (0, .ref So), (1, .ref ra), (2, .int (0 : Int32)), (3, .ref (oo 0)), (4, .ref (oo 1))]) hx hb dX5_look_155 hl (k := 5) rfl rfl (by decide) rfl (fun ls hl => ?_)
      refine lv_goto (tgt := 47) hx hb dX5_look_158 (by decide) ?_
      exact zl47 _ _ _ _ (zend h).symm _ _ _ hP hD hS (lv_sub hl [1, 2, 3, 4, 5, 0] rfl)
    clear h
    refine zi4_ind (P := (fun (x6_64h : Int32) (Ss_64h : Nat → Int32) (Sa_64h : Nat → Nat → Int32) (os_64h : Nat → Nat → Int32) => ∀ (H : Heap) (locs : List Loc) (ls : Array Slot), va_P D vwCl (zwS cI So Sp Go Ss_64h Sa_64h ++ zwG cI Go Gp Gs Ga ++ zwR cO ra oo ++ zwO (oo 0) (os_64h 0) ++ zwO (oo 1) (os_64h 1) ++ zwO (oo 2) (os_64h 2) ++ zwO (oo 3) (os_64h 3) ++ zwO (oo 4) (os_64h 4) ++ zwO (oo 5) (os_64h 5) ++ zwO (oo 6) (os_64h 6) ++ zwO (oo 7) (os_64h 7) ++ zwO (oo 8) (os_64h 8)) H → va_D A (zwS cI So Sp Go Ss_64h Sa_64h ++ zwG cI Go Gp Gs Ga ++ zwR cO ra oo ++ zwO (oo 0) (os_64h 0) ++ zwO (oo 1) (os_64h 1) ++ zwO (oo 2) (os_64h 2) ++ zwO (oo 3) (os_64h 3) ++ zwO (oo 4) (os_64h 4) ++ zwO (oo 5) (os_64h 5) ++ zwO (oo 6) (os_64h 6) ++ zwO (oo 7) (os_64h 7) ++ zwO (oo 8) (os_64h 8)) → va_S A s.heap H locs → lv_has ls 10 [(0, .ref So), (1, .ref ra), (2, .int (0 : Int32)), (3, .ref (oo 0)), (4, .ref (oo 1)), (5, .int x5_47h), (6, .int x6_64h)] → W p l e R s m args below meth c H locs 0 0 Q (F0 m 64 ls []))) ?_ i30 _ _ _ hP hD hS (lv_sub hl [1, 2, 3, 4, 5, 6, 0] rfl)
    clear i30 hP hD hS hl
    intro x6_64h Ss_64h Sa_64h os_64h z64 h zl64 zr64 H locs ls hP hD hS hl
    refine lv_iload hx hb dX5_look_64 (lv_at hl 6 rfl) ?_
    refine lv_bipush (v := (8 : Int32)) hx hb dX5_look_66 (by decide) ?_
    refine lv_icmp_ge (tgt := 155) hx hb dX5_look_68 (by decide) (fun c8 => ?_) (fun c8 => ?_)
    · have h := zif_t c8 h
      cases zr64 _ (zend h).symm
      exact KX155 _ _ _ hP hD hS (lv_sub hl [0, 1, 2, 3, 4, 5] rfl)
    · have h := zif_f c8 h
      refine lv_aload_n hx hb dX5_look_71 rfl (lv_at hl 0 rfl) ?_
      refine lv_iload hx hb dX5_look_72 (lv_at hl 5 rfl) ?_
      refine lv_iload hx hb dX5_look_74 (lv_at hl 6 rfl) ?_
      obtain ⟨r9, g10, h⟩ := zb1_s h
      have hFc := va_free (wc := (zwS cI So Sp Go Ss_64h Sa_64h ++ zwG cI Go Gp Gs Ga)) hD hS hA [0, 1, 2, 3, 4, 5] rfl
      refine zcall_i (w2 := (zwS cI So Sp Go Ss_64h Sa_64h ++ zwG cI Go Gp Gs Ga ++ zwR cO ra oo ++ zwO (oo 0) (os_64h 0) ++ zwO (oo 1) (os_64h 1) ++ zwO (oo 2) (os_64h 2) ++ zwO (oo 3) (os_64h 3) ++ zwO (oo 4) (os_64h 4) ++ zwO (oo 5) (os_64h 5) ++ zwO (oo 6) (os_64h 6) ++ zwO (oo 7) (os_64h 7) ++ zwO (oo 8) (os_64h 8))) (va_runV (As := [.int x5_47h, .int x6_64h]) (rest := []) ⟨hx, hb, hml, hown, hts⟩ (c_X4_targetOf l D cI cB cO So Sp Go Gp Ss_64h Sa_64h Gs Ga x5_47h x6_64h _ _ g10) (cwV 2 hts gX5_look_X4_targetOf rfl rfl rfl kV_X4_targetOf ⟨Nat.le_trans (Nat.le_of_ble_eq_true rfl) hRf, Nat.le_trans (Nat.le_of_ble_eq_true rfl) hRl⟩) (zpreV hK hP hD hS hE hFc [0, 1, 2, 3, 4, 5] rfl rfl 0 (ci := 4) rfl rfl [.int x5_47h, .int x6_64h]) rfl rfl hl.1 rfl (lv_room (Nat.le_of_ble_eq_true rfl)) dX5_look_76 ⟨Nat.zero_le _, Nat.zero_le _⟩) hP hD hS hFc [0, 1, 2, 3, 4, 5] [6, 7, 8, 9, 10, 11, 12, 13, 14, 15] [10, 11, 12, 13, 14, 15, 0, 1, 2, 3, 4, 5, 6, 7, 8, 9] 16 rfl rfl rfl rfl (fun H locs hP hD hS => ?_)
      refine lv_istore (lv' := [(7, .int r9), (0, .ref So), (1, .ref ra), (2, .int (0 : Int32)), (3, .ref (oo 0)), (4, .ref (oo 1)), (5, .int x5_47h), (6, .int x6_64h)]) hx hb dX5_look_79 hl (by decide) rfl (fun ls hl => ?_)
      refine lv_iload hx hb dX5_look_81 (lv_at hl 0 rfl) ?_
      refine lv_iconst (v := (-1 : Int32)) hx hb dX5_look_83 (by decide) ?_
      obtain ⟨Ss_149, Sa_149, os_149, j11, h⟩ := zb3_s h
      have K149 : ∀ (H : Heap) (locs : List Loc) (ls : Array Slot), va_P D vwCl (zwS cI So Sp Go Ss_149 Sa_149 ++ zwG cI Go Gp Gs Ga ++ zwR cO ra oo ++ zwO (oo 0) (os_149 0) ++ zwO (oo 1) (os_149 1) ++ zwO (oo 2) (os_149 2) ++ zwO (oo 3) (os_149 3) ++ zwO (oo 4) (os_149 4) ++ zwO (oo 5) (os_149 5) ++ zwO (oo 6) (os_149 6) ++ zwO (oo 7) (os_149 7) ++ zwO (oo 8) (os_149 8)) H → va_D A (zwS cI So Sp Go Ss_149 Sa_149 ++ zwG cI Go Gp Gs Ga ++ zwR cO ra oo ++ zwO (oo 0) (os_149 0) ++ zwO (oo 1) (os_149 1) ++ zwO (oo 2) (os_149 2) ++ zwO (oo 3) (os_149 3) ++ zwO (oo 4) (os_149 4) ++ zwO (oo 5) (os_149 5) ++ zwO (oo 6) (os_149 6) ++ zwO (oo 7) (os_149 7) ++ zwO (oo 8) (os_149 8)) → va_S A s.heap H locs → lv_has ls 10 [(0, .ref So), (1, .ref ra), (2, .int (0 : Int32)), (3, .ref (oo 0)), (4, .ref (oo 1)), (5, .int x5_47h), (6, .int x6_64h)] → W p l e R s m args below meth c H locs 0 0 Q (F0 m 149 ls []) := by
        intro H locs ls hP hD hS hl
        refine lv_iinc (v := (x6_64h + (1 : Int32))) (lv' := [(6, .int (x6_64h + (1 : Int32))), (0, .ref So), (1, .ref ra), (2, .int (0 : Int32)), (3, .ref (oo 0)), (4, .ref (oo 1)), (5, .int x5_47h)]) hx hb dX5_look_149 hl (k := 6) rfl rfl (by decide) rfl (fun ls hl => ?_)
        refine lv_goto (tgt := 64) hx hb dX5_look_152 (by decide) ?_
        exact zl64 _ _ _ _ (zend h).symm _ _ _ hP hD hS (lv_sub hl [1, 2, 3, 4, 5, 6, 0] rfl)
      clear h
      have h := j11
      clear j11
      refine lv_icmp_eq (tgt := 149) hx hb dX5_look_84 (by decide) (fun c12 => ?_) (fun c12 => ?_)
      · have h := zif_t c12 h
        cases zend h
        exact K149 _ _ _ hP hD hS (lv_sub hl [1, 2, 3, 4, 5, 6, 7] rfl)
      · have h := zif_f c12 h
        refine lv_aload_n hx hb dX5_look_87 rfl (lv_at hl 1 rfl) ?_
        refine lv_iload hx hb dX5_look_88 (lv_at hl 6 rfl) ?_
        obtain ⟨r13, g14, h⟩ := zb1_s h
        have hFc := va_free (wc := (zwS cI So Sp Go Ss_64h Sa_64h)) hD hS hA [0, 1, 2, 3] rfl
        refine zcall_i (w2 := (zwS cI So Sp Go Ss_64h Sa_64h ++ zwG cI Go Gp Gs Ga ++ zwR cO ra oo ++ zwO (oo 0) (os_64h 0) ++ zwO (oo 1) (os_64h 1) ++ zwO (oo 2) (os_64h 2) ++ zwO (oo 3) (os_64h 3) ++ zwO (oo 4) (os_64h 4) ++ zwO (oo 5) (os_64h 5) ++ zwO (oo 6) (os_64h 6) ++ zwO (oo 7) (os_64h 7) ++ zwO (oo 8) (os_64h 8))) (va_runV (As := [.int x5_47h]) (rest := []) ⟨hx, hb, hml, hown, hts⟩ (c_X4_homeOf l D cI cB cO So Sp Go Ss_64h Sa_64h x5_47h _ _ g14) (cwV 1 hts gX5_look_X4_homeOf rfl rfl rfl kV_X4_homeOf ⟨Nat.le_trans (Nat.le_of_ble_eq_true rfl) hRf, Nat.le_trans (Nat.le_of_ble_eq_true rfl) hRl⟩) (zpreV hK hP hD hS hE hFc [0, 1, 2, 3] rfl rfl 0 (ci := 4) rfl rfl [.int x5_47h]) rfl rfl hl.1 rfl (lv_room (Nat.le_of_ble_eq_true rfl)) dX5_look_90 ⟨Nat.zero_le _, Nat.zero_le _⟩) hP hD hS hFc [0, 1, 2, 3] [4, 5, 6, 7, 8, 9, 10, 11, 12, 13, 14, 15] [12, 13, 14, 15, 0, 1, 2, 3, 4, 5, 6, 7, 8, 9, 10, 11] 16 rfl rfl rfl rfl (fun H locs hP hD hS => ?_)
        refine lv_istore (lv' := [(8, .int r13), (7, .int r9), (0, .ref So), (1, .ref ra), (2, .int (0 : Int32)), (3, .ref (oo 0)), (4, .ref (oo 1)), (5, .int x5_47h), (6, .int x6_64h)]) hx hb dX5_look_93 hl (by decide) rfl (fun ls hl => ?_)
        refine lv_aload_n hx hb dX5_look_95 rfl (lv_at hl 2 rfl) ?_
        refine lv_iload hx hb dX5_look_96 (lv_at hl 7 rfl) ?_
        refine lv_iload hx hb dX5_look_98 (lv_at hl 8 rfl) ?_
        obtain ⟨r15, g16, h⟩ := zb1_s h
        have hFc := va_free (wc := (zwS cI So Sp Go Ss_64h Sa_64h ++ zwG cI Go Gp Gs Ga)) hD hS hA [0, 1, 2, 3, 4, 5] rfl
        refine zcall_i (w2 := (zwS cI So Sp Go Ss_64h Sa_64h ++ zwG cI Go Gp Gs Ga ++ zwR cO ra oo ++ zwO (oo 0) (os_64h 0) ++ zwO (oo 1) (os_64h 1) ++ zwO (oo 2) (os_64h 2) ++ zwO (oo 3) (os_64h 3) ++ zwO (oo 4) (os_64h 4) ++ zwO (oo 5) (os_64h 5) ++ zwO (oo 6) (os_64h 6) ++ zwO (oo 7) (os_64h 7) ++ zwO (oo 8) (os_64h 8))) (va_runV (As := [.int x5_47h, .int x6_64h]) (rest := []) ⟨hx, hb, hml, hown, hts⟩ (c_X4_neighbourOf l D cI cB cO So Sp Go Gp Ss_64h Sa_64h Gs Ga x5_47h x6_64h _ _ g16) (cwV 2 hts gX5_look_X4_neighbourOf rfl rfl rfl kV_X4_neighbourOf ⟨Nat.le_trans (Nat.le_of_ble_eq_true rfl) hRf, Nat.le_trans (Nat.le_of_ble_eq_true rfl) hRl⟩) (zpreV hK hP hD hS hE hFc [0, 1, 2, 3, 4, 5] rfl rfl 0 (ci := 4) rfl rfl [.int x5_47h, .int x6_64h]) rfl rfl hl.1 rfl (lv_room (Nat.le_of_ble_eq_true rfl)) dX5_look_100 ⟨Nat.zero_le _, Nat.zero_le _⟩) hP hD hS hFc [0, 1, 2, 3, 4, 5] [6, 7, 8, 9, 10, 11, 12, 13, 14, 15] [10, 11, 12, 13, 14, 15, 0, 1, 2, 3, 4, 5, 6, 7, 8, 9] 16 rfl rfl rfl rfl (fun H locs hP hD hS => ?_)
        refine lv_istore (lv' := [(9, .int r15), (8, .int r13), (7, .int r9), (0, .ref So), (1, .ref ra), (2, .int (0 : Int32)), (3, .ref (oo 0)), (4, .ref (oo 1)), (5, .int x5_47h), (6, .int x6_64h)]) hx hb dX5_look_103 hl (by decide) rfl (fun ls hl => ?_)
        refine lv_aload_n hx hb dX5_look_105 rfl (lv_at hl 3 rfl) ?_
        refine lv_iload hx hb dX5_look_106 (lv_at hl 8 rfl) ?_
        refine lv_iload hx hb dX5_look_108 (lv_at hl 0 rfl) ?_
        refine lv_iload hx hb dX5_look_110 (lv_at hl 2 rfl) ?_
        obtain ⟨Ss_17, Sa_18, g19, h⟩ := zb2_s h
        have hFc := va_free (wc := (zwS cI So Sp Go Ss_64h Sa_64h ++ zwG cI Go Gp Gs Ga)) hD hS hA [0, 1, 2, 3, 4, 5] rfl
        refine zcall_v (w2 := (zwS cI So Sp Go Ss_17 Sa_18 ++ zwG cI Go Gp Gs Ga ++ zwR cO ra oo ++ zwO (oo 0) (os_64h 0) ++ zwO (oo 1) (os_64h 1) ++ zwO (oo 2) (os_64h 2) ++ zwO (oo 3) (os_64h 3) ++ zwO (oo 4) (os_64h 4) ++ zwO (oo 5) (os_64h 5) ++ zwO (oo 6) (os_64h 6) ++ zwO (oo 7) (os_64h 7) ++ zwO (oo 8) (os_64h 8))) (va_runV (As := [.int x5_47h, .int r15, .int r9]) (rest := []) ⟨hx, hb, hml, hown, hts⟩ (c_X4_leap l D cI cB cO So Sp Go Gp Ss_64h Sa_64h Gs Ga x5_47h r15 r9 _ _ _ g19) (cwV 3 hts gX5_look_X4_leap rfl rfl rfl kV_X4_leap ⟨Nat.le_trans (Nat.le_of_ble_eq_true rfl) hRf, Nat.le_trans (Nat.le_of_ble_eq_true rfl) hRl⟩) (zpreV hK hP hD hS hE hFc [0, 1, 2, 3, 4, 5] rfl rfl 0 (ci := 4) rfl rfl [.int x5_47h, .int r15, .int r9]) rfl rfl hl.1 rfl (lv_room (Nat.le_of_ble_eq_true rfl)) dX5_look_112 ⟨Nat.zero_le _, Nat.zero_le _⟩) hP hD hS hFc [0, 1, 2, 3, 4, 5] [6, 7, 8, 9, 10, 11, 12, 13, 14, 15] [10, 11, 12, 13, 14, 15, 0, 1, 2, 3, 4, 5, 6, 7, 8, 9] 16 rfl rfl rfl rfl (fun H locs hP hD hS => ?_)
        refine lv_aload_n hx hb dX5_look_115 rfl (lv_at hl 3 rfl) ?_
        refine lv_aload_n hx hb dX5_look_116 rfl (lv_at hl 4 rfl) ?_
        refine lv_iload_n hx hb dX5_look_117 rfl (lv_at hl 5 rfl) ?_
        refine lv_iconst (v := (1 : Int32)) hx hb dX5_look_118 (by decide) ?_
        refine lv_iadd hx hb dX5_look_119 ?_
        refine lv_topi (fun k20 ek20 => ?_)
        obtain rfl : k20 = (1 : Int32) := ek20.trans (by decide)
        obtain ⟨Ss_21, Sa_22, os_23, g24, h⟩ := zb3_s h
        have hFc := va_free (wc := (zwS cI So Sp Go Ss_17 Sa_18 ++ zwG cI Go Gp Gs Ga ++ zwR cO ra oo ++ zwO (oo 0) (os_64h 0) ++ zwO (oo 1) (os_64h 1) ++ zwO (oo 2) (os_64h 2) ++ zwO (oo 3) (os_64h 3) ++ zwO (oo 4) (os_64h 4) ++ zwO (oo 5) (os_64h 5) ++ zwO (oo 6) (os_64h 6) ++ zwO (oo 7) (os_64h 7) ++ zwO (oo 8) (os_64h 8))) hD hS hA [0, 1, 2, 3, 4, 5, 6, 7, 8, 9, 10, 11, 12, 13, 14, 15] rfl
        refine zcall_v (w2 := (zwS cI So Sp Go Ss_21 Sa_22 ++ zwG cI Go Gp Gs Ga ++ zwR cO ra oo ++ zwO (oo 0) (os_23 0) ++ zwO (oo 1) (os_23 1) ++ zwO (oo 2) (os_23 2) ++ zwO (oo 3) (os_23 3) ++ zwO (oo 4) (os_23 4) ++ zwO (oo 5) (os_23 5) ++ zwO (oo 6) (os_23 6) ++ zwO (oo 7) (os_23 7) ++ zwO (oo 8) (os_23 8))) (va_runS (As := [.ref So, .ref ra, .int (1 : Int32)]) (rest := []) ⟨hx, hb, hml, hown, hts⟩ (c_X5_look_1 l D cI cB cO So Sp Go Gp ra oo Ss_17 Sa_18 Gs Ga os_64h _ _ _ _ g24) (va_cwS 3 hts gX5_look_X5_look rfl rfl rfl kS_X5_look ⟨Nat.le_trans (Nat.le_of_ble_eq_true rfl) hRf, Nat.le_trans (Nat.le_of_ble_eq_true rfl) hRl⟩) (zpreS hK hP hD hS hE hFc [0, 1, 2, 3, 4, 5, 6, 7, 8, 9, 10, 11, 12, 13, 14, 15] rfl rfl [.ref So, .ref ra, .int (1 : Int32)]) rfl rfl hl.1 rfl (lv_room (Nat.le_of_ble_eq_true rfl)) dX5_look_120 ⟨Nat.zero_le _, Nat.zero_le _⟩) hP hD hS hFc [0, 1, 2, 3, 4, 5, 6, 7, 8, 9, 10, 11, 12, 13, 14, 15] [] [0, 1, 2, 3, 4, 5, 6, 7, 8, 9, 10, 11, 12, 13, 14, 15] 16 rfl rfl rfl rfl (fun H locs hP hD hS => ?_)
        refine lv_aload_n hx hb dX5_look_123 rfl (lv_at hl 3 rfl) ?_
        refine lv_iload hx hb dX5_look_124 (lv_at hl 8 rfl) ?_
        refine lv_iload hx hb dX5_look_126 (lv_at hl 1 rfl) ?_
        refine lv_iload hx hb dX5_look_128 (lv_at hl 0 rfl) ?_
        refine lv_iload hx hb dX5_look_130 (lv_at hl 9 rfl) ?_
        obtain ⟨Ss_25, Sa_26, g27, h⟩ := zb2_s h
        have hFc := va_free (wc := (zwS cI So Sp Go Ss_21 Sa_22 ++ zwG cI Go Gp Gs Ga)) hD hS hA [0, 1, 2, 3, 4, 5] rfl
        refine zcall_v (w2 := (zwS cI So Sp Go Ss_25 Sa_26 ++ zwG cI Go Gp Gs Ga ++ zwR cO ra oo ++ zwO (oo 0) (os_23 0) ++ zwO (oo 1) (os_23 1) ++ zwO (oo 2) (os_23 2) ++ zwO (oo 3) (os_23 3) ++ zwO (oo 4) (os_23 4) ++ zwO (oo 5) (os_23 5) ++ zwO (oo 6) (os_23 6) ++ zwO (oo 7) (os_23 7) ++ zwO (oo 8) (os_23 8))) (va_runV (As := [.int x5_47h, .int r13, .int r15, .int x6_64h]) (rest := []) ⟨hx, hb, hml, hown, hts⟩ (c_X4_takeBack l D cI cB cO So Sp Go Gp Ss_21 Sa_22 Gs Ga x5_47h r13 r15 x6_64h _ _ _ g27) (cwV 4 hts gX5_look_X4_takeBack rfl rfl rfl kV_X4_takeBack ⟨Nat.le_trans (Nat.le_of_ble_eq_true rfl) hRf, Nat.le_trans (Nat.le_of_ble_eq_true rfl) hRl⟩) (zpreV hK hP hD hS hE hFc [0, 1, 2, 3, 4, 5] rfl rfl 0 (ci := 4) rfl rfl [.int x5_47h, .int r13, .int r15, .int x6_64h]) rfl rfl hl.1 rfl (lv_room (Nat.le_of_ble_eq_true rfl)) dX5_look_132 ⟨Nat.zero_le _, Nat.zero_le _⟩) hP hD hS hFc [0, 1, 2, 3, 4, 5] [6, 7, 8, 9, 10, 11, 12, 13, 14, 15] [10, 11, 12, 13, 14, 15, 0, 1, 2, 3, 4, 5, 6, 7, 8, 9] 16 rfl rfl rfl rfl (fun H locs hP hD hS => ?_)
        refine lv_aload_n hx hb dX5_look_135 rfl (lv_at hl 6 rfl) ?_
        refine lv_bipush (v := (100 : Int32)) hx hb dX5_look_136 (by decide) ?_
        refine lv_iload hx hb dX5_look_138 (lv_at hl 8 rfl) ?_
        refine lv_imul hx hb dX5_look_140 ?_
        refine lv_iload hx hb dX5_look_141 (lv_at hl 2 rfl) ?_
        refine lv_iadd hx hb dX5_look_143 ?_
        refine lv_aload hx hb dX5_look_144 (lv_at hl 7 rfl) ?_
        obtain ⟨Os_28, g29, h⟩ := zb1_s h
        have hFc := va_free (wc := (zwO (oo 0) (os_23 0) ++ zwO (oo 1) (os_23 1))) hD hS hA [7, 8] rfl
        refine zcall_v (w2 := (zwS cI So Sp Go Ss_25 Sa_26 ++ zwG cI Go Gp Gs Ga ++ zwR cO ra oo ++ zwO (oo 0) Os_28 ++ zwO (oo 1) (os_23 1) ++ zwO (oo 2) (os_23 2) ++ zwO (oo 3) (os_23 3) ++ zwO (oo 4) (os_23 4) ++ zwO (oo 5) (os_23 5) ++ zwO (oo 6) (os_23 6) ++ zwO (oo 7) (os_23 7) ++ zwO (oo 8) (os_23 8))) (va_runV (As := [.int (((100 : Int32) * x5_47h) + r9), .ref (oo 1)]) (rest := []) ⟨hx, hb, hml, hown, hts⟩ (c_X1_take l D cI cB cO (oo 0) (oo 1) (os_23 0) (os_23 1) (((100 : Int32) * x5_47h) + r9) _ _ g29) (cwV 2 hts gX5_look_X1_take rfl rfl rfl kV_X1_take ⟨Nat.le_trans (Nat.le_of_ble_eq_true rfl) hRf, Nat.le_trans (Nat.le_of_ble_eq_true rfl) hRl⟩) (zpreV hK hP hD hS hE hFc [7, 8] rfl rfl 7 (ci := 1) rfl rfl [.int (((100 : Int32) * x5_47h) + r9), .ref (oo 1)]) rfl rfl hl.1 rfl (lv_room (Nat.le_of_ble_eq_true rfl)) dX5_look_146 ⟨Nat.zero_le _, Nat.zero_le _⟩) hP hD hS hFc [7, 8] [0, 1, 2, 3, 4, 5, 6, 9, 10, 11, 12, 13, 14, 15] [0, 1, 2, 3, 4, 5, 6, 14, 15, 7, 8, 9, 10, 11, 12, 13] 16 rfl rfl rfl rfl (fun H locs hP hD hS => ?_)
        cases zend h
        exact K149 _ _ _ hP hD hS (lv_sub hl [3, 4, 5, 6, 7, 8, 9] rfl)
set_option maxHeartbeats 4000000 in
set_option maxRecDepth 100000 in
theorem c_X5_lookAhead (l : Launch) (D : va_G) (cI cB cO : ClassId) (Xo : Nat) (Po : Nat) (Pp : Nat → Nat) (Go : Nat) (Gp : Nat → Nat) (No : Nat) (Np : Nat → Nat) (Qo : Nat) (Qp : Nat → Nat) (Ko : Nat) (Kp : Nat → Nat) (Lo : Nat) (Lp : Nat → Nat) (To : Nat) (Tp : Nat → Nat) (ra : Nat) (oo : Nat → Nat) (Xs : Nat → Int32) (Ps : Nat → Int32) (Pa : Nat → Nat → Int32) (Gs : Nat → Int32) (Ga : Nat → Nat → Int32) (Ns : Nat → Int32) (Na : Nat → Nat → Int32) (Qs : Nat → Int32) (Qa : Nat → Nat → Int32) (Ks : Nat → Int32) (Ka : Nat → Nat → Int32) (Ls : Nat → Int32) (La : Nat → Nat → Int32) (Ts : Nat → Int32) (Ta : Nat → Nat → Int32) (os : Nat → Nat → Int32)  (Xs' : Nat → Int32) (Ts' : Nat → Int32) (Ta' : Nat → Nat → Int32) (os' : Nat → Nat → Int32) (sz : Nat) (h : fX5_lookAhead Xs Gs Ga Ns Na Ts Ta os = some (Xs', Ts', Ta', os')) : Met l yX5_lookAhead wsX5_lookAhead ({ frames := 12, cells := 0, slots := 0, locals := 326 } : Room) (va_Pc [.ref Xo] (zPre D (zTY cI cB cO) (zwX Xo Po Go No Qo Ko Lo To oo ra Xs ++ zwP cI Po Pp Ps Pa ++ zwG cI Go Gp Gs Ga ++ zwS cI No Np Go Ns Na ++ zwQ cI Qo Qp Qs Qa ++ zwS cI Ko Kp Go Ks Ka ++ zwQ cI Lo Lp Ls La ++ zwS cI To Tp Go Ts Ta ++ zwR cO ra oo ++ zwO (oo 0) (os 0) ++ zwO (oo 1) (os 1) ++ zwO (oo 2) (os 2) ++ zwO (oo 3) (os 3) ++ zwO (oo 4) (os 4) ++ zwO (oo 5) (os 5) ++ zwO (oo 6) (os 6) ++ zwO (oo 7) (os 7) ++ zwO (oo 8) (os 8)) sz)) (va_Qv (fun (_ : Unit) => True) (fun _ => zPost D (zTY cI cB cO) (zwX Xo Po Go No Qo Ko Lo To oo ra Xs' ++ zwP cI Po Pp Ps Pa ++ zwG cI Go Gp Gs Ga ++ zwS cI No Np Go Ns Na ++ zwQ cI Qo Qp Qs Qa ++ zwS cI Ko Kp Go Ks Ka ++ zwQ cI Lo Lp Ls La ++ zwS cI To Tp Go Ts' Ta' ++ zwR cO ra oo ++ zwO (oo 0) (os' 0) ++ zwO (oo 1) (os' 1) ++ zwO (oo 2) (os' 2) ++ zwO (oo 3) (os' 3) ++ zwO (oo 4) (os' 4) ++ zwO (oo 5) (os' 5) ++ zwO (oo 6) (os' 6) ++ zwO (oo 7) (os' 7) ++ zwO (oo 8) (os' 8)) (va_A (zwX Xo Po Go No Qo Ko Lo To oo ra Xs ++ zwP cI Po Pp Ps Pa ++ zwG cI Go Gp Gs Ga ++ zwS cI No Np Go Ns Na ++ zwQ cI Qo Qp Qs Qa ++ zwS cI Ko Kp Go Ks Ka ++ zwQ cI Lo Lp Ls La ++ zwS cI To Tp Go Ts Ta ++ zwR cO ra oo ++ zwO (oo 0) (os 0) ++ zwO (oo 1) (os 1) ++ zwO (oo 2) (os 2) ++ zwO (oo 3) (os 3) ++ zwO (oo 4) (os 4) ++ zwO (oo 5) (os 5) ++ zwO (oo 6) (os 6) ++ zwO (oo 7) (os 7) ++ zwO (oo 8) (os 8)) sz)) (va_A (zwX Xo Po Go No Qo Ko Lo To oo ra Xs ++ zwP cI Po Pp Ps Pa ++ zwG cI Go Gp Gs Ga ++ zwS cI No Np Go Ns Na ++ zwQ cI Qo Qp Qs Qa ++ zwS cI Ko Kp Go Ks Ka ++ zwQ cI Lo Lp Ls La ++ zwS cI To Tp Go Ts Ta ++ zwR cO ra oo ++ zwO (oo 0) (os 0) ++ zwO (oo 1) (os 1) ++ zwO (oo 2) (os 2) ++ zwO (oo 3) (os 3) ++ zwO (oo 4) (os 4) ++ zwO (oo 5) (os 5) ++ zwO (oo 6) (os 6) ++ zwO (oo 7) (os 7) ++ zwO (oo 8) (os 8)) sz)) 0 0 (va_A (zwX Xo Po Go No Qo Ko Lo To oo ra Xs ++ zwP cI Po Pp Ps Pa ++ zwG cI Go Gp Gs Ga ++ zwS cI No Np Go Ns Na ++ zwQ cI Qo Qp Qs Qa ++ zwS cI Ko Kp Go Ks Ka ++ zwQ cI Lo Lp Ls La ++ zwS cI To Tp Go Ts Ta ++ zwR cO ra oo ++ zwO (oo 0) (os 0) ++ zwO (oo 1) (os 1) ++ zwO (oo 2) (os 2) ++ zwO (oo 3) (os 3) ++ zwO (oo 4) (os 4) ++ zwO (oo 5) (os 5) ++ zwO (oo 6) (os 6) ++ zwO (oo 7) (os 7) ++ zwO (oo 8) (os 8)) sz) := by
  unfold fX5_lookAhead at h
  refine zmet_v (cc := cX5_lookAhead) (maxL := 1) (by decide) rfl (Nat.le_of_ble_eq_true rfl) rfl rfl ?_
  intro p e s m args below meth c R Q A ls hx hb hts hown hml hK hP hD hE hA hS hRf hRl hl hq
  have hown : s.vm.findClass RX5 = some m.cls := hown
  have hl : lv_has ls 1 [(0, .ref Xo)] := hl
  have inX5 : ∀ w ∈ u_ws RX5 TX5 13, w ∈ wsX5_lookAhead := by decide +kernel
  have lk92 : (Cond.fieldLink RX5 92 "PegField" "isLooked" "Z").before args s = true := hts _ (by decide +kernel)
  have lk45 : (Cond.fieldLink RX5 45 "PegField" "thought" "LPegField$State;").before args s = true := hts _ (by decide +kernel)
  have lk28 : (Cond.fieldLink RX5 28 "PegField" "now" "LPegField$State;").before args s = true := hts _ (by decide +kernel)
  have lk55 : (Cond.fieldLink RX5 55 "PegField" "outcomes" "[LPegField$Outcome;").before args s = true := hts _ (by decide +kernel)
  refine lv_aload_n hx hb dX5_lookAhead_0 rfl (lv_at hl 0 rfl) ?_
  refine va_get (D := D) (ci := 5) (v := .int (Xs 10)) (C := RX5) (T := TX5) (N := 13) hx hb hts inX5 hown hK hP 0 rfl rfl 10 (by decide) lk92 (fun _ h9 => h9) rfl dX5_lookAhead_1 ?_
  refine lv_if_ne (tgt := 35) hx hb dX5_lookAhead_4 (by decide) (fun c1 => ?_) (fun c1 => ?_)
  · have h := zif_f c1 h
    cases zend h
    exact hq hP hD hS dX5_lookAhead_35
  · have h := zif_t c1 h
    refine lv_aload_n hx hb dX5_lookAhead_7 rfl (lv_at hl 0 rfl) ?_
    refine va_get (D := D) (ci := 5) (v := .ref To) (C := RX5) (T := TX5) (N := 13) hx hb hts inX5 hown hK hP 0 rfl rfl 7 (by decide) lk45 (fun _ h9 => h9) rfl dX5_lookAhead_8 ?_
    refine lv_aload_n hx hb dX5_lookAhead_11 rfl (lv_at hl 0 rfl) ?_
    refine va_get (D := D) (ci := 5) (v := .ref No) (C := RX5) (T := TX5) (N := 13) hx hb hts inX5 hown hK hP 0 rfl rfl 2 (by decide) lk28 (fun _ h9 => h9) rfl dX5_lookAhead_12 ?_
    obtain ⟨Ss_2, Sa_3, g4, h⟩ := zb2_s h
    have hFc := va_free (wc := (zwS cI To Tp Go Ts Ta ++ zwS cI No Np Go Ns Na)) hD hS hA [19, 20, 21, 22, 5, 6, 7, 8] rfl
    refine zcall_v (w2 := (zwX Xo Po Go No Qo Ko Lo To oo ra Xs ++ zwP cI Po Pp Ps Pa ++ zwG cI Go Gp Gs Ga ++ zwS cI No Np Go Ns Na ++ zwQ cI Qo Qp Qs Qa ++ zwS cI Ko Kp Go Ks Ka ++ zwQ cI Lo Lp Ls La ++ zwS cI To Tp Go Ss_2 Sa_3 ++ zwR cO ra oo ++ zwO (oo 0) (os 0) ++ zwO (oo 1) (os 1) ++ zwO (oo 2) (os 2) ++ zwO (oo 3) (os 3) ++ zwO (oo 4) (os 4) ++ zwO (oo 5) (os 5) ++ zwO (oo 6) (os 6) ++ zwO (oo 7) (os 7) ++ zwO (oo 8) (os 8))) (va_runV (As := [.ref No]) (rest := []) ⟨hx, hb, hml, hown, hts⟩ (c_X4_copyFrom l D cI cB cO To Tp Go No Np Ts Ta Ns Na _ _ _ g4) (cwV 1 hts gX5_lookAhead_X4_copyFrom rfl rfl rfl kV_X4_copyFrom ⟨Nat.le_trans (Nat.le_of_ble_eq_true rfl) hRf, Nat.le_trans (Nat.le_of_ble_eq_true rfl) hRl⟩) (zpreV hK hP hD hS hE hFc [19, 20, 21, 22, 5, 6, 7, 8] rfl rfl 19 (ci := 4) rfl rfl [.ref No]) rfl rfl hl.1 rfl (lv_room (Nat.le_of_ble_eq_true rfl)) dX5_lookAhead_15 ⟨Nat.zero_le _, Nat.zero_le _⟩) hP hD hS hFc [19, 20, 21, 22, 5, 6, 7, 8] [0, 1, 2, 3, 4, 9, 10, 11, 12, 13, 14, 15, 16, 17, 18, 23, 24, 25, 26, 27, 28, 29, 30, 31, 32] [0, 1, 2, 3, 4, 29, 30, 31, 32, 5, 6, 7, 8, 9, 10, 11, 12, 13, 14, 25, 26, 27, 28, 15, 16, 17, 18, 19, 20, 21, 22, 23, 24] 33 rfl rfl rfl rfl (fun H locs hP hD hS => ?_)
    refine lv_aload_n hx hb dX5_lookAhead_18 rfl (lv_at hl 0 rfl) ?_
    refine va_get (D := D) (ci := 5) (v := .ref To) (C := RX5) (T := TX5) (N := 13) hx hb hts inX5 hown hK hP 0 rfl rfl 7 (by decide) lk45 (fun _ h9 => h9) rfl dX5_lookAhead_19 ?_
    refine lv_aload_n hx hb dX5_lookAhead_22 rfl (lv_at hl 0 rfl) ?_
    refine va_get (D := D) (ci := 5) (v := .ref ra) (C := RX5) (T := TX5) (N := 13) hx hb hts inX5 hown hK hP 0 rfl rfl 9 (by decide) lk55 (fun _ h9 => h9) rfl dX5_lookAhead_23 ?_
    refine lv_iconst (v := (0 : Int32)) hx hb dX5_lookAhead_26 (by decide) ?_
    obtain ⟨Ss_5, Sa_6, os_7, g8, h⟩ := zb3_s h
    have hFc := va_free (wc := (zwS cI To Tp Go Ss_2 Sa_3 ++ zwG cI Go Gp Gs Ga ++ zwR cO ra oo ++ zwO (oo 0) (os 0) ++ zwO (oo 1) (os 1) ++ zwO (oo 2) (os 2) ++ zwO (oo 3) (os 3) ++ zwO (oo 4) (os 4) ++ zwO (oo 5) (os 5) ++ zwO (oo 6) (os 6) ++ zwO (oo 7) (os 7) ++ zwO (oo 8) (os 8))) hD hS hA [19, 20, 21, 22, 3, 4, 23, 24, 25, 26, 27, 28, 29, 30, 31, 32] rfl
    refine zcall_v (w2 := (zwX Xo Po Go No Qo Ko Lo To oo ra Xs ++ zwP cI Po Pp Ps Pa ++ zwG cI Go Gp Gs Ga ++ zwS cI No Np Go Ns Na ++ zwQ cI Qo Qp Qs Qa ++ zwS cI Ko Kp Go Ks Ka ++ zwQ cI Lo Lp Ls La ++ zwS cI To Tp Go Ss_5 Sa_6 ++ zwR cO ra oo ++ zwO (oo 0) (os_7 0) ++ zwO (oo 1) (os_7 1) ++ zwO (oo 2) (os_7 2) ++ zwO (oo 3) (os_7 3) ++ zwO (oo 4) (os_7 4) ++ zwO (oo 5) (os_7 5) ++ zwO (oo 6) (os_7 6) ++ zwO (oo 7) (os_7 7) ++ zwO (oo 8) (os_7 8))) (va_runS (As := [.ref To, .ref ra, .int (0 : Int32)]) (rest := []) ⟨hx, hb, hml, hown, hts⟩ (c_X5_look_0 l D cI cB cO To Tp Go Gp ra oo Ss_2 Sa_3 Gs Ga os _ _ _ _ g8) (va_cwS 3 hts gX5_lookAhead_X5_look rfl rfl rfl kS_X5_look ⟨Nat.le_trans (Nat.le_of_ble_eq_true rfl) hRf, Nat.le_trans (Nat.le_of_ble_eq_true rfl) hRl⟩) (zpreS hK hP hD hS hE hFc [19, 20, 21, 22, 3, 4, 23, 24, 25, 26, 27, 28, 29, 30, 31, 32] rfl rfl [.ref To, .ref ra, .int (0 : Int32)]) rfl rfl hl.1 rfl (lv_room (Nat.le_of_ble_eq_true rfl)) dX5_lookAhead_27 ⟨Nat.zero_le _, Nat.zero_le _⟩) hP hD hS hFc [19, 20, 21, 22, 3, 4, 23, 24, 25, 26, 27, 28, 29, 30, 31, 32] [0, 1, 2, 5, 6, 7, 8, 9, 10, 11, 12, 13, 14, 15, 16, 17, 18] [0, 1, 2, 21, 22, 3, 4, 5, 6, 7, 8, 9, 10, 11, 12, 13, 14, 15, 16, 17, 18, 19, 20, 23, 24, 25, 26, 27, 28, 29, 30, 31, 32] 33 rfl rfl rfl rfl (fun H locs hP hD hS => ?_)
    refine lv_aload_n hx hb dX5_lookAhead_30 rfl (lv_at hl 0 rfl) ?_
    refine lv_iconst (v := (1 : Int32)) hx hb dX5_lookAhead_31 (by decide) ?_
    refine va_put (D := D) (ci := 5) (v := .int (1 : Int32)) (ty := .boolean) (C := RX5) (T := TX5) (N := 13) hx hb hts inX5 tyX5 tyX5_ok nmX5 hown hK hP hD hS 0 rfl rfl 10 (by decide) lk92 (fun _ h9 => h9) rfl (by decide +kernel) (by decide) (by decide) (Nat.le_of_ble_eq_true rfl) dX5_lookAhead_32 (fun H locs hP hD hS => ?_)
    have hP : va_P D vwCl (zwX Xo Po Go No Qo Ko Lo To oo ra (upd Xs 10 (1 : Int32)) ++ zwP cI Po Pp Ps Pa ++ zwG cI Go Gp Gs Ga ++ zwS cI No Np Go Ns Na ++ zwQ cI Qo Qp Qs Qa ++ zwS cI Ko Kp Go Ks Ka ++ zwQ cI Lo Lp Ls La ++ zwS cI To Tp Go Ss_5 Sa_6 ++ zwR cO ra oo ++ zwO (oo 0) (os_7 0) ++ zwO (oo 1) (os_7 1) ++ zwO (oo 2) (os_7 2) ++ zwO (oo 3) (os_7 3) ++ zwO (oo 4) (os_7 4) ++ zwO (oo 5) (os_7 5) ++ zwO (oo 6) (os_7 6) ++ zwO (oo 7) (os_7 7) ++ zwO (oo 8) (os_7 8)) H := hP
    have hD : va_D A (zwX Xo Po Go No Qo Ko Lo To oo ra (upd Xs 10 (1 : Int32)) ++ zwP cI Po Pp Ps Pa ++ zwG cI Go Gp Gs Ga ++ zwS cI No Np Go Ns Na ++ zwQ cI Qo Qp Qs Qa ++ zwS cI Ko Kp Go Ks Ka ++ zwQ cI Lo Lp Ls La ++ zwS cI To Tp Go Ss_5 Sa_6 ++ zwR cO ra oo ++ zwO (oo 0) (os_7 0) ++ zwO (oo 1) (os_7 1) ++ zwO (oo 2) (os_7 2) ++ zwO (oo 3) (os_7 3) ++ zwO (oo 4) (os_7 4) ++ zwO (oo 5) (os_7 5) ++ zwO (oo 6) (os_7 6) ++ zwO (oo 7) (os_7 7) ++ zwO (oo 8) (os_7 8)) := hD
    cases zend h
    exact hq hP hD hS dX5_lookAhead_35
set_option maxHeartbeats 4000000 in
set_option maxRecDepth 100000 in
theorem c_X5_courses (l : Launch) (D : va_G) (cI cB cO : ClassId) (Xo : Nat) (Po : Nat) (Pp : Nat → Nat) (Go : Nat) (Gp : Nat → Nat) (No : Nat) (Np : Nat → Nat) (Qo : Nat) (Qp : Nat → Nat) (Ko : Nat) (Kp : Nat → Nat) (Lo : Nat) (Lp : Nat → Nat) (To : Nat) (Tp : Nat → Nat) (ra : Nat) (oo : Nat → Nat) (Xs : Nat → Int32) (Ps : Nat → Int32) (Pa : Nat → Nat → Int32) (Gs : Nat → Int32) (Ga : Nat → Nat → Int32) (Ns : Nat → Int32) (Na : Nat → Nat → Int32) (Qs : Nat → Int32) (Qa : Nat → Nat → Int32) (Ks : Nat → Int32) (Ka : Nat → Nat → Int32) (Ls : Nat → Int32) (La : Nat → Nat → Int32) (Ts : Nat → Int32) (Ta : Nat → Nat → Int32) (os : Nat → Nat → Int32) (a0 : Int32) (rv : Int32) (Xs' : Nat → Int32) (Ts' : Nat → Int32) (Ta' : Nat → Nat → Int32) (os' : Nat → Nat → Int32) (sz : Nat) (h : fX5_courses Xs Gs Ga Ns Na Ts Ta os a0 = some (rv, Xs', Ts', Ta', os')) : Met l yX5_courses wsX5_courses ({ frames := 13, cells := 0, slots := 0, locals := 346 } : Room) (va_Pc [.ref Xo, .int a0] (zPre D (zTY cI cB cO) (zwX Xo Po Go No Qo Ko Lo To oo ra Xs ++ zwP cI Po Pp Ps Pa ++ zwG cI Go Gp Gs Ga ++ zwS cI No Np Go Ns Na ++ zwQ cI Qo Qp Qs Qa ++ zwS cI Ko Kp Go Ks Ka ++ zwQ cI Lo Lp Ls La ++ zwS cI To Tp Go Ts Ta ++ zwR cO ra oo ++ zwO (oo 0) (os 0) ++ zwO (oo 1) (os 1) ++ zwO (oo 2) (os 2) ++ zwO (oo 3) (os 3) ++ zwO (oo 4) (os 4) ++ zwO (oo 5) (os 5) ++ zwO (oo 6) (os 6) ++ zwO (oo 7) (os 7) ++ zwO (oo 8) (os 8)) sz)) (va_Qi (fun r (_ : Unit) => r = rv) (fun _ => zPost D (zTY cI cB cO) (zwX Xo Po Go No Qo Ko Lo To oo ra Xs' ++ zwP cI Po Pp Ps Pa ++ zwG cI Go Gp Gs Ga ++ zwS cI No Np Go Ns Na ++ zwQ cI Qo Qp Qs Qa ++ zwS cI Ko Kp Go Ks Ka ++ zwQ cI Lo Lp Ls La ++ zwS cI To Tp Go Ts' Ta' ++ zwR cO ra oo ++ zwO (oo 0) (os' 0) ++ zwO (oo 1) (os' 1) ++ zwO (oo 2) (os' 2) ++ zwO (oo 3) (os' 3) ++ zwO (oo 4) (os' 4) ++ zwO (oo 5) (os' 5) ++ zwO (oo 6) (os' 6) ++ zwO (oo 7) (os' 7) ++ zwO (oo 8) (os' 8)) (va_A (zwX Xo Po Go No Qo Ko Lo To oo ra Xs ++ zwP cI Po Pp Ps Pa ++ zwG cI Go Gp Gs Ga ++ zwS cI No Np Go Ns Na ++ zwQ cI Qo Qp Qs Qa ++ zwS cI Ko Kp Go Ks Ka ++ zwQ cI Lo Lp Ls La ++ zwS cI To Tp Go Ts Ta ++ zwR cO ra oo ++ zwO (oo 0) (os 0) ++ zwO (oo 1) (os 1) ++ zwO (oo 2) (os 2) ++ zwO (oo 3) (os 3) ++ zwO (oo 4) (os 4) ++ zwO (oo 5) (os 5) ++ zwO (oo 6) (os 6) ++ zwO (oo 7) (os 7) ++ zwO (oo 8) (os 8)) sz)) (va_A (zwX Xo Po Go No Qo Ko Lo To oo ra Xs ++ zwP cI Po Pp Ps Pa ++ zwG cI Go Gp Gs Ga ++ zwS cI No Np Go Ns Na ++ zwQ cI Qo Qp Qs Qa ++ zwS cI Ko Kp Go Ks Ka ++ zwQ cI Lo Lp Ls La ++ zwS cI To Tp Go Ts Ta ++ zwR cO ra oo ++ zwO (oo 0) (os 0) ++ zwO (oo 1) (os 1) ++ zwO (oo 2) (os 2) ++ zwO (oo 3) (os 3) ++ zwO (oo 4) (os 4) ++ zwO (oo 5) (os 5) ++ zwO (oo 6) (os 6) ++ zwO (oo 7) (os 7) ++ zwO (oo 8) (os 8)) sz)) 0 0 (va_A (zwX Xo Po Go No Qo Ko Lo To oo ra Xs ++ zwP cI Po Pp Ps Pa ++ zwG cI Go Gp Gs Ga ++ zwS cI No Np Go Ns Na ++ zwQ cI Qo Qp Qs Qa ++ zwS cI Ko Kp Go Ks Ka ++ zwQ cI Lo Lp Ls La ++ zwS cI To Tp Go Ts Ta ++ zwR cO ra oo ++ zwO (oo 0) (os 0) ++ zwO (oo 1) (os 1) ++ zwO (oo 2) (os 2) ++ zwO (oo 3) (os 3) ++ zwO (oo 4) (os 4) ++ zwO (oo 5) (os 5) ++ zwO (oo 6) (os 6) ++ zwO (oo 7) (os 7) ++ zwO (oo 8) (os 8)) sz) := by
  unfold fX5_courses at h
  refine zmet_i (cc := cX5_courses) (maxL := 2) (by decide) rfl (Nat.le_of_ble_eq_true rfl) rfl rfl ?_
  intro p e s m args below meth c R Q A ls hx hb hts hown hml hK hP hD hE hA hS hRf hRl hl hq
  have hown : s.vm.findClass RX5 = some m.cls := hown
  have hl : lv_has ls 2 [(0, .ref Xo), (1, .int a0)] := hl
  have inX5 : ∀ w ∈ u_ws RX5 TX5 13, w ∈ wsX5_courses := by decide +kernel
  have lk95 : (Cond.fieldLink RX5 95 "PegField" "reads" "I").before args s = true := hts _ (by decide +kernel)
  have lk51 : (Cond.fieldLink RX5 51 "PegField" "outlook" "LPegField$Outcome;").before args s = true := hts _ (by decide +kernel)
  have inX1 : ∀ w ∈ u_ws RX1 TX1 9, w ∈ wsX5_courses := by decide +kernel
  have lk173 : (Cond.fieldLinkNest RX5 173 "PegField$Outcome" "fewest" "I" "PegField").before args s = true := hE.2.use (by decide +kernel)
  have lk176 : (Cond.fieldLinkNest RX5 176 "PegField$Outcome" "first" "I" "PegField").before args s = true := hE.2.use (by decide +kernel)
  have lk179 : (Cond.fieldLinkNest RX5 179 "PegField$Outcome" "ways" "I" "PegField").before args s = true := hE.2.use (by decide +kernel)
  have lk182 : (Cond.fieldLinkNest RX5 182 "PegField$Outcome" "longest" "I" "PegField").before args s = true := hE.2.use (by decide +kernel)
  have lk185 : (Cond.fieldLinkNest RX5 185 "PegField$Outcome" "shortest" "I" "PegField").before args s = true := hE.2.use (by decide +kernel)
  have lk188 : (Cond.fieldLinkNest RX5 188 "PegField$Outcome" "alone" "I" "PegField").before args s = true := hE.2.use (by decide +kernel)
  refine lv_iload_n hx hb dX5_courses_0 rfl (lv_at hl 1 rfl) ?_
  refine lv_if_lt (tgt := 9) hx hb dX5_courses_1 (by decide) (fun c1 => ?_) (fun c1 => ?_)
  · have h := zif_t c1 h
    refine lv_bipush (v := (-102 : Int32)) hx hb dX5_courses_9 (by decide) ?_
    cases zend h
    exact hq hP hD hS dX5_courses_11
  · have h := zif_f c1 h
    refine lv_iload_n hx hb dX5_courses_4 rfl (lv_at hl 1 rfl) ?_
    refine lv_iconst (v := (5 : Int32)) hx hb dX5_courses_5 (by decide) ?_
    refine lv_icmp_le (tgt := 12) hx hb dX5_courses_6 (by decide) (fun c2 => ?_) (fun c2 => ?_)
    · have h := zif_t c2 h
      refine lv_aload_n hx hb dX5_courses_12 rfl (lv_at hl 0 rfl) ?_
      refine va_get (D := D) (ci := 5) (v := .int (Xs 11)) (C := RX5) (T := TX5) (N := 13) hx hb hts inX5 hown hK hP 0 rfl rfl 11 (by decide) lk95 (fun _ h9 => h9) rfl dX5_courses_13 ?_
      refine lv_if_ne (tgt := 22) hx hb dX5_courses_16 (by decide) (fun c3 => ?_) (fun c3 => ?_)
      · have h := zif_f c3 h
        refine lv_aload_n hx hb dX5_courses_22 rfl (lv_at hl 0 rfl) ?_
        obtain ⟨Xs_4, Ts_5, Ta_6, os_7, g8, h⟩ := zb4_s h
        have hFc := va_free (wc := (zwX Xo Po Go No Qo Ko Lo To oo ra Xs ++ zwP cI Po Pp Ps Pa ++ zwG cI Go Gp Gs Ga ++ zwS cI No Np Go Ns Na ++ zwQ cI Qo Qp Qs Qa ++ zwS cI Ko Kp Go Ks Ka ++ zwQ cI Lo Lp Ls La ++ zwS cI To Tp Go Ts Ta ++ zwR cO ra oo ++ zwO (oo 0) (os 0) ++ zwO (oo 1) (os 1) ++ zwO (oo 2) (os 2) ++ zwO (oo 3) (os 3) ++ zwO (oo 4) (os 4) ++ zwO (oo 5) (os 5) ++ zwO (oo 6) (os 6) ++ zwO (oo 7) (os 7) ++ zwO (oo 8) (os 8))) hD hS hA [0, 1, 2, 3, 4, 5, 6, 7, 8, 9, 10, 11, 12, 13, 14, 15, 16, 17, 18, 19, 20, 21, 22, 23, 24, 25, 26, 27, 28, 29, 30, 31, 32] rfl
        refine zcall_v (w2 := (zwX Xo Po Go No Qo Ko Lo To oo ra Xs_4 ++ zwP cI Po Pp Ps Pa ++ zwG cI Go Gp Gs Ga ++ zwS cI No Np Go Ns Na ++ zwQ cI Qo Qp Qs Qa ++ zwS cI Ko Kp Go Ks Ka ++ zwQ cI Lo Lp Ls La ++ zwS cI To Tp Go Ts_5 Ta_6 ++ zwR cO ra oo ++ zwO (oo 0) (os_7 0) ++ zwO (oo 1) (os_7 1) ++ zwO (oo 2) (os_7 2) ++ zwO (oo 3) (os_7 3) ++ zwO (oo 4) (os_7 4) ++ zwO (oo 5) (os_7 5) ++ zwO (oo 6) (os_7 6) ++ zwO (oo 7) (os_7 7) ++ zwO (oo 8) (os_7 8))) (va_runV (As := []) (rest := []) ⟨hx, hb, hml, hown, hts⟩ (c_X5_lookAhead l D cI cB cO Xo Po Pp Go Gp No Np Qo Qp Ko Kp Lo Lp To Tp ra oo Xs Ps Pa Gs Ga Ns Na Qs Qa Ks Ka Ls La Ts Ta os _ _ _ _ _ g8) (cwV 0 hts gX5_courses_X5_lookAhead rfl rfl rfl kV_X5_lookAhead ⟨Nat.le_trans (Nat.le_of_ble_eq_true rfl) hRf, Nat.le_trans (Nat.le_of_ble_eq_true rfl) hRl⟩) (zpreV hK hP hD hS hE hFc [0, 1, 2, 3, 4, 5, 6, 7, 8, 9, 10, 11, 12, 13, 14, 15, 16, 17, 18, 19, 20, 21, 22, 23, 24, 25, 26, 27, 28, 29, 30, 31, 32] rfl rfl 0 (ci := 5) rfl rfl []) rfl rfl hl.1 rfl (lv_room (Nat.le_of_ble_eq_true rfl)) dX5_courses_23 ⟨Nat.zero_le _, Nat.zero_le _⟩) hP hD hS hFc [0, 1, 2, 3, 4, 5, 6, 7, 8, 9, 10, 11, 12, 13, 14, 15, 16, 17, 18, 19, 20, 21, 22, 23, 24, 25, 26, 27, 28, 29, 30, 31, 32] [] [0, 1, 2, 3, 4, 5, 6, 7, 8, 9, 10, 11, 12, 13, 14, 15, 16, 17, 18, 19, 20, 21, 22, 23, 24, 25, 26, 27, 28, 29, 30, 31, 32] 33 rfl rfl rfl rfl (fun H locs hP hD hS => ?_)
        refine lv_iload_n hx hb dX5_courses_26 rfl (lv_at hl 1 rfl) ?_
        by_cases c9 : a0 = (0 : Int32)
        · have h := zif_t c9 h
          refine lv_tableIn (tgt := 60) (off := 33) hx hb dX5_courses_27 (by rw [c9]; decide) (by rw [c9]; decide) (by rw [c9]; rfl) (by decide) ?_
          refine lv_aload_n hx hb dX5_courses_60 rfl (lv_at hl 0 rfl) ?_
          refine va_get (D := D) (ci := 5) (v := .ref (oo 0)) (C := RX5) (T := TX5) (N := 13) hx hb hts inX5 hown hK hP 0 rfl rfl 8 (by decide) lk51 (fun _ h9 => h9) rfl dX5_courses_61 ?_
          refine va_getN (D := D) (ci := 1) (v := .int ((os_7 0) 1)) (C := RX1) (T := TX1) (N := 9) hx hb hts inX1 hown hK hP 24 rfl rfl 1 (by decide) lk173 (fun _ h9 => h9) rfl dX5_courses_64 ?_
          cases zend h
          exact hq hP hD hS dX5_courses_67
        · have h := zif_f c9 h
          by_cases c10 : a0 = (1 : Int32)
          · have h := zif_t c10 h
            refine lv_tableIn (tgt := 68) (off := 41) hx hb dX5_courses_27 (by rw [c10]; decide) (by rw [c10]; decide) (by rw [c10]; rfl) (by decide) ?_
            refine lv_aload_n hx hb dX5_courses_68 rfl (lv_at hl 0 rfl) ?_
            refine va_get (D := D) (ci := 5) (v := .ref (oo 0)) (C := RX5) (T := TX5) (N := 13) hx hb hts inX5 hown hK hP 0 rfl rfl 8 (by decide) lk51 (fun _ h9 => h9) rfl dX5_courses_69 ?_
            refine va_getN (D := D) (ci := 1) (v := .int ((os_7 0) 2)) (C := RX1) (T := TX1) (N := 9) hx hb hts inX1 hown hK hP 24 rfl rfl 2 (by decide) lk176 (fun _ h9 => h9) rfl dX5_courses_72 ?_
            cases zend h
            exact hq hP hD hS dX5_courses_75
          · have h := zif_f c10 h
            by_cases c11 : a0 = (2 : Int32)
            · have h := zif_t c11 h
              refine lv_tableIn (tgt := 76) (off := 49) hx hb dX5_courses_27 (by rw [c11]; decide) (by rw [c11]; decide) (by rw [c11]; rfl) (by decide) ?_
              refine lv_aload_n hx hb dX5_courses_76 rfl (lv_at hl 0 rfl) ?_
              refine va_get (D := D) (ci := 5) (v := .ref (oo 0)) (C := RX5) (T := TX5) (N := 13) hx hb hts inX5 hown hK hP 0 rfl rfl 8 (by decide) lk51 (fun _ h9 => h9) rfl dX5_courses_77 ?_
              refine va_getN (D := D) (ci := 1) (v := .int ((os_7 0) 3)) (C := RX1) (T := TX1) (N := 9) hx hb hts inX1 hown hK hP 24 rfl rfl 3 (by decide) lk179 (fun _ h9 => h9) rfl dX5_courses_80 ?_
              cases zend h
              exact hq hP hD hS dX5_courses_83
            · have h := zif_f c11 h
              by_cases c12 : a0 = (3 : Int32)
              · have h := zif_t c12 h
                refine lv_tableIn (tgt := 84) (off := 57) hx hb dX5_courses_27 (by rw [c12]; decide) (by rw [c12]; decide) (by rw [c12]; rfl) (by decide) ?_
                refine lv_aload_n hx hb dX5_courses_84 rfl (lv_at hl 0 rfl) ?_
                refine va_get (D := D) (ci := 5) (v := .ref (oo 0)) (C := RX5) (T := TX5) (N := 13) hx hb hts inX5 hown hK hP 0 rfl rfl 8 (by decide) lk51 (fun _ h9 => h9) rfl dX5_courses_85 ?_
                refine va_getN (D := D) (ci := 1) (v := .int ((os_7 0) 4)) (C := RX1) (T := TX1) (N := 9) hx hb hts inX1 hown hK hP 24 rfl rfl 4 (by decide) lk182 (fun _ h9 => h9) rfl dX5_courses_88 ?_
                cases zend h
                exact hq hP hD hS dX5_courses_91
              · have h := zif_f c12 h
                by_cases c13 : a0 = (4 : Int32)
                · have h := zif_t c13 h
                  refine lv_tableIn (tgt := 92) (off := 65) hx hb dX5_courses_27 (by rw [c13]; decide) (by rw [c13]; decide) (by rw [c13]; rfl) (by decide) ?_
                  refine lv_aload_n hx hb dX5_courses_92 rfl (lv_at hl 0 rfl) ?_
                  refine va_get (D := D) (ci := 5) (v := .ref (oo 0)) (C := RX5) (T := TX5) (N := 13) hx hb hts inX5 hown hK hP 0 rfl rfl 8 (by decide) lk51 (fun _ h9 => h9) rfl dX5_courses_93 ?_
                  refine va_getN (D := D) (ci := 1) (v := .int ((os_7 0) 5)) (C := RX1) (T := TX1) (N := 9) hx hb hts inX1 hown hK hP 24 rfl rfl 5 (by decide) lk185 (fun _ h9 => h9) rfl dX5_courses_96 ?_
                  cases zend h
                  exact hq hP hD hS dX5_courses_99
                · have h := zif_f c13 h
                  have nc9 := zne_i (k := 0) (0 : Int32) (by decide) c9
                  have nc10 := zne_i (k := 1) (1 : Int32) (by decide) c10
                  have nc11 := zne_i (k := 2) (2 : Int32) (by decide) c11
                  have nc12 := zne_i (k := 3) (3 : Int32) (by decide) c12
                  have nc13 := zne_i (k := 4) (4 : Int32) (by decide) c13
                  refine lv_tableOut (tgt := 100) hx hb dX5_courses_27 (by omega) (by decide) ?_
                  refine lv_aload_n hx hb dX5_courses_100 rfl (lv_at hl 0 rfl) ?_
                  refine va_get (D := D) (ci := 5) (v := .ref (oo 0)) (C := RX5) (T := TX5) (N := 13) hx hb hts inX5 hown hK hP 0 rfl rfl 8 (by decide) lk51 (fun _ h9 => h9) rfl dX5_courses_101 ?_
                  refine va_getN (D := D) (ci := 1) (v := .int ((os_7 0) 6)) (C := RX1) (T := TX1) (N := 9) hx hb hts inX1 hown hK hP 24 rfl rfl 6 (by decide) lk188 (fun _ h9 => h9) rfl dX5_courses_104 ?_
                  cases zend h
                  exact hq hP hD hS dX5_courses_107
      · have h := zif_t c3 h
        refine lv_bipush (v := (-103 : Int32)) hx hb dX5_courses_19 (by decide) ?_
        cases zend h
        exact hq hP hD hS dX5_courses_21
    · have h := zif_f c2 h
      refine lv_bipush (v := (-102 : Int32)) hx hb dX5_courses_9 (by decide) ?_
      cases zend h
      exact hq hP hD hS dX5_courses_11
set_option maxHeartbeats 4000000 in
set_option maxRecDepth 100000 in
theorem c_X5_wins (l : Launch) (D : va_G) (cI cB cO : ClassId) (Xo : Nat) (Po : Nat) (Pp : Nat → Nat) (Go : Nat) (Gp : Nat → Nat) (No : Nat) (Np : Nat → Nat) (Qo : Nat) (Qp : Nat → Nat) (Ko : Nat) (Kp : Nat → Nat) (Lo : Nat) (Lp : Nat → Nat) (To : Nat) (Tp : Nat → Nat) (ra : Nat) (oo : Nat → Nat) (Xs : Nat → Int32) (Ps : Nat → Int32) (Pa : Nat → Nat → Int32) (Gs : Nat → Int32) (Ga : Nat → Nat → Int32) (Ns : Nat → Int32) (Na : Nat → Nat → Int32) (Qs : Nat → Int32) (Qa : Nat → Nat → Int32) (Ks : Nat → Int32) (Ka : Nat → Nat → Int32) (Ls : Nat → Int32) (La : Nat → Nat → Int32) (Ts : Nat → Int32) (Ta : Nat → Nat → Int32) (os : Nat → Nat → Int32) (a0 : Int32) (rv : Int32) (Xs' : Nat → Int32) (Ts' : Nat → Int32) (Ta' : Nat → Nat → Int32) (os' : Nat → Nat → Int32) (sz : Nat) (h : fX5_wins Xs Gs Ga Ns Na Ts Ta os a0 = some (rv, Xs', Ts', Ta', os')) : Met l yX5_wins wsX5_wins ({ frames := 13, cells := 0, slots := 0, locals := 346 } : Room) (va_Pc [.ref Xo, .int a0] (zPre D (zTY cI cB cO) (zwX Xo Po Go No Qo Ko Lo To oo ra Xs ++ zwP cI Po Pp Ps Pa ++ zwG cI Go Gp Gs Ga ++ zwS cI No Np Go Ns Na ++ zwQ cI Qo Qp Qs Qa ++ zwS cI Ko Kp Go Ks Ka ++ zwQ cI Lo Lp Ls La ++ zwS cI To Tp Go Ts Ta ++ zwR cO ra oo ++ zwO (oo 0) (os 0) ++ zwO (oo 1) (os 1) ++ zwO (oo 2) (os 2) ++ zwO (oo 3) (os 3) ++ zwO (oo 4) (os 4) ++ zwO (oo 5) (os 5) ++ zwO (oo 6) (os 6) ++ zwO (oo 7) (os 7) ++ zwO (oo 8) (os 8)) sz)) (va_Qi (fun r (_ : Unit) => r = rv) (fun _ => zPost D (zTY cI cB cO) (zwX Xo Po Go No Qo Ko Lo To oo ra Xs' ++ zwP cI Po Pp Ps Pa ++ zwG cI Go Gp Gs Ga ++ zwS cI No Np Go Ns Na ++ zwQ cI Qo Qp Qs Qa ++ zwS cI Ko Kp Go Ks Ka ++ zwQ cI Lo Lp Ls La ++ zwS cI To Tp Go Ts' Ta' ++ zwR cO ra oo ++ zwO (oo 0) (os' 0) ++ zwO (oo 1) (os' 1) ++ zwO (oo 2) (os' 2) ++ zwO (oo 3) (os' 3) ++ zwO (oo 4) (os' 4) ++ zwO (oo 5) (os' 5) ++ zwO (oo 6) (os' 6) ++ zwO (oo 7) (os' 7) ++ zwO (oo 8) (os' 8)) (va_A (zwX Xo Po Go No Qo Ko Lo To oo ra Xs ++ zwP cI Po Pp Ps Pa ++ zwG cI Go Gp Gs Ga ++ zwS cI No Np Go Ns Na ++ zwQ cI Qo Qp Qs Qa ++ zwS cI Ko Kp Go Ks Ka ++ zwQ cI Lo Lp Ls La ++ zwS cI To Tp Go Ts Ta ++ zwR cO ra oo ++ zwO (oo 0) (os 0) ++ zwO (oo 1) (os 1) ++ zwO (oo 2) (os 2) ++ zwO (oo 3) (os 3) ++ zwO (oo 4) (os 4) ++ zwO (oo 5) (os 5) ++ zwO (oo 6) (os 6) ++ zwO (oo 7) (os 7) ++ zwO (oo 8) (os 8)) sz)) (va_A (zwX Xo Po Go No Qo Ko Lo To oo ra Xs ++ zwP cI Po Pp Ps Pa ++ zwG cI Go Gp Gs Ga ++ zwS cI No Np Go Ns Na ++ zwQ cI Qo Qp Qs Qa ++ zwS cI Ko Kp Go Ks Ka ++ zwQ cI Lo Lp Ls La ++ zwS cI To Tp Go Ts Ta ++ zwR cO ra oo ++ zwO (oo 0) (os 0) ++ zwO (oo 1) (os 1) ++ zwO (oo 2) (os 2) ++ zwO (oo 3) (os 3) ++ zwO (oo 4) (os 4) ++ zwO (oo 5) (os 5) ++ zwO (oo 6) (os 6) ++ zwO (oo 7) (os 7) ++ zwO (oo 8) (os 8)) sz)) 0 0 (va_A (zwX Xo Po Go No Qo Ko Lo To oo ra Xs ++ zwP cI Po Pp Ps Pa ++ zwG cI Go Gp Gs Ga ++ zwS cI No Np Go Ns Na ++ zwQ cI Qo Qp Qs Qa ++ zwS cI Ko Kp Go Ks Ka ++ zwQ cI Lo Lp Ls La ++ zwS cI To Tp Go Ts Ta ++ zwR cO ra oo ++ zwO (oo 0) (os 0) ++ zwO (oo 1) (os 1) ++ zwO (oo 2) (os 2) ++ zwO (oo 3) (os 3) ++ zwO (oo 4) (os 4) ++ zwO (oo 5) (os 5) ++ zwO (oo 6) (os 6) ++ zwO (oo 7) (os 7) ++ zwO (oo 8) (os 8)) sz) := by
  unfold fX5_wins at h
  refine zmet_i (cc := cX5_wins) (maxL := 2) (by decide) rfl (Nat.le_of_ble_eq_true rfl) rfl rfl ?_
  intro p e s m args below meth c R Q A ls hx hb hts hown hml hK hP hD hE hA hS hRf hRl hl hq
  have hown : s.vm.findClass RX5 = some m.cls := hown
  have hl : lv_has ls 2 [(0, .ref Xo), (1, .int a0)] := hl
  have inX5 : ∀ w ∈ u_ws RX5 TX5 13, w ∈ wsX5_wins := by decide +kernel
  have lk95 : (Cond.fieldLink RX5 95 "PegField" "reads" "I").before args s = true := hts _ (by decide +kernel)
  have lk51 : (Cond.fieldLink RX5 51 "PegField" "outlook" "LPegField$Outcome;").before args s = true := hts _ (by decide +kernel)
  have inX1 : ∀ w ∈ u_ws RX1 TX1 9, w ∈ wsX5_wins := by decide +kernel
  have lk191 : (Cond.fieldLinkNest RX5 191 "PegField$Outcome" "winning" "I" "PegField").before args s = true := hE.2.use (by decide +kernel)
  refine lv_iload_n hx hb dX5_wins_0 rfl (lv_at hl 1 rfl) ?_
  refine lv_if_lt (tgt := 9) hx hb dX5_wins_1 (by decide) (fun c1 => ?_) (fun c1 => ?_)
  · have h := zif_t c1 h
    refine lv_bipush (v := (-102 : Int32)) hx hb dX5_wins_9 (by decide) ?_
    cases zend h
    exact hq hP hD hS dX5_wins_11
  · have h := zif_f c1 h
    refine lv_iload_n hx hb dX5_wins_4 rfl (lv_at hl 1 rfl) ?_
    refine lv_iconst (v := (1 : Int32)) hx hb dX5_wins_5 (by decide) ?_
    refine lv_icmp_le (tgt := 12) hx hb dX5_wins_6 (by decide) (fun c2 => ?_) (fun c2 => ?_)
    · have h := zif_t c2 h
      refine lv_aload_n hx hb dX5_wins_12 rfl (lv_at hl 0 rfl) ?_
      refine va_get (D := D) (ci := 5) (v := .int (Xs 11)) (C := RX5) (T := TX5) (N := 13) hx hb hts inX5 hown hK hP 0 rfl rfl 11 (by decide) lk95 (fun _ h9 => h9) rfl dX5_wins_13 ?_
      refine lv_if_ne (tgt := 22) hx hb dX5_wins_16 (by decide) (fun c3 => ?_) (fun c3 => ?_)
      · have h := zif_f c3 h
        refine lv_aload_n hx hb dX5_wins_22 rfl (lv_at hl 0 rfl) ?_
        obtain ⟨Xs_4, Ts_5, Ta_6, os_7, g8, h⟩ := zb4_s h
        have hFc := va_free (wc := (zwX Xo Po Go No Qo Ko Lo To oo ra Xs ++ zwP cI Po Pp Ps Pa ++ zwG cI Go Gp Gs Ga ++ zwS cI No Np Go Ns Na ++ zwQ cI Qo Qp Qs Qa ++ zwS cI Ko Kp Go Ks Ka ++ zwQ cI Lo Lp Ls La ++ zwS cI To Tp Go Ts Ta ++ zwR cO ra oo ++ zwO (oo 0) (os 0) ++ zwO (oo 1) (os 1) ++ zwO (oo 2) (os 2) ++ zwO (oo 3) (os 3) ++ zwO (oo 4) (os 4) ++ zwO (oo 5) (os 5) ++ zwO (oo 6) (os 6) ++ zwO (oo 7) (os 7) ++ zwO (oo 8) (os 8))) hD hS hA [0, 1, 2, 3, 4, 5, 6, 7, 8, 9, 10, 11, 12, 13, 14, 15, 16, 17, 18, 19, 20, 21, 22, 23, 24, 25, 26, 27, 28, 29, 30, 31, 32] rfl
        refine zcall_v (w2 := (zwX Xo Po Go No Qo Ko Lo To oo ra Xs_4 ++ zwP cI Po Pp Ps Pa ++ zwG cI Go Gp Gs Ga ++ zwS cI No Np Go Ns Na ++ zwQ cI Qo Qp Qs Qa ++ zwS cI Ko Kp Go Ks Ka ++ zwQ cI Lo Lp Ls La ++ zwS cI To Tp Go Ts_5 Ta_6 ++ zwR cO ra oo ++ zwO (oo 0) (os_7 0) ++ zwO (oo 1) (os_7 1) ++ zwO (oo 2) (os_7 2) ++ zwO (oo 3) (os_7 3) ++ zwO (oo 4) (os_7 4) ++ zwO (oo 5) (os_7 5) ++ zwO (oo 6) (os_7 6) ++ zwO (oo 7) (os_7 7) ++ zwO (oo 8) (os_7 8))) (va_runV (As := []) (rest := []) ⟨hx, hb, hml, hown, hts⟩ (c_X5_lookAhead l D cI cB cO Xo Po Pp Go Gp No Np Qo Qp Ko Kp Lo Lp To Tp ra oo Xs Ps Pa Gs Ga Ns Na Qs Qa Ks Ka Ls La Ts Ta os _ _ _ _ _ g8) (cwV 0 hts gX5_wins_X5_lookAhead rfl rfl rfl kV_X5_lookAhead ⟨Nat.le_trans (Nat.le_of_ble_eq_true rfl) hRf, Nat.le_trans (Nat.le_of_ble_eq_true rfl) hRl⟩) (zpreV hK hP hD hS hE hFc [0, 1, 2, 3, 4, 5, 6, 7, 8, 9, 10, 11, 12, 13, 14, 15, 16, 17, 18, 19, 20, 21, 22, 23, 24, 25, 26, 27, 28, 29, 30, 31, 32] rfl rfl 0 (ci := 5) rfl rfl []) rfl rfl hl.1 rfl (lv_room (Nat.le_of_ble_eq_true rfl)) dX5_wins_23 ⟨Nat.zero_le _, Nat.zero_le _⟩) hP hD hS hFc [0, 1, 2, 3, 4, 5, 6, 7, 8, 9, 10, 11, 12, 13, 14, 15, 16, 17, 18, 19, 20, 21, 22, 23, 24, 25, 26, 27, 28, 29, 30, 31, 32] [] [0, 1, 2, 3, 4, 5, 6, 7, 8, 9, 10, 11, 12, 13, 14, 15, 16, 17, 18, 19, 20, 21, 22, 23, 24, 25, 26, 27, 28, 29, 30, 31, 32] 33 rfl rfl rfl rfl (fun H locs hP hD hS => ?_)
        refine lv_iload_n hx hb dX5_wins_26 rfl (lv_at hl 1 rfl) ?_
        refine lv_iconst (v := (1 : Int32)) hx hb dX5_wins_27 (by decide) ?_
        refine lv_icmp_ne (tgt := 39) hx hb dX5_wins_28 (by decide) (fun c9 => ?_) (fun c9 => ?_)
        · have h := zif_f c9 h
          refine lv_aload_n hx hb dX5_wins_39 rfl (lv_at hl 0 rfl) ?_
          refine va_get (D := D) (ci := 5) (v := .ref (oo 0)) (C := RX5) (T := TX5) (N := 13) hx hb hts inX5 hown hK hP 0 rfl rfl 8 (by decide) lk51 (fun _ h9 => h9) rfl dX5_wins_40 ?_
          refine va_getN (D := D) (ci := 1) (v := .int ((os_7 0) 7)) (C := RX1) (T := TX1) (N := 9) hx hb hts inX1 hown hK hP 24 rfl rfl 7 (by decide) lk191 (fun _ h9 => h9) rfl dX5_wins_43 ?_
          refine lv_iconst (v := (-1 : Int32)) hx hb dX5_wins_46 (by decide) ?_
          refine lv_icmp_ne (tgt := 54) hx hb dX5_wins_47 (by decide) (fun c10 => ?_) (fun c10 => ?_)
          · have h := zif_f c10 h
            refine lv_iconst (v := (1 : Int32)) hx hb dX5_wins_54 (by decide) ?_
            cases zend h
            exact hq hP hD hS dX5_wins_55
          · have h := zif_t c10 h
            refine lv_iconst (v := (0 : Int32)) hx hb dX5_wins_50 (by decide) ?_
            refine lv_goto (tgt := 55) hx hb dX5_wins_51 (by decide) ?_
            cases zend h
            exact hq hP hD hS dX5_wins_55
        · have h := zif_t c9 h
          refine lv_aload_n hx hb dX5_wins_31 rfl (lv_at hl 0 rfl) ?_
          refine va_get (D := D) (ci := 5) (v := .ref (oo 0)) (C := RX5) (T := TX5) (N := 13) hx hb hts inX5 hown hK hP 0 rfl rfl 8 (by decide) lk51 (fun _ h9 => h9) rfl dX5_wins_32 ?_
          refine va_getN (D := D) (ci := 1) (v := .int ((os_7 0) 7)) (C := RX1) (T := TX1) (N := 9) hx hb hts inX1 hown hK hP 24 rfl rfl 7 (by decide) lk191 (fun _ h9 => h9) rfl dX5_wins_35 ?_
          cases zend h
          exact hq hP hD hS dX5_wins_38
      · have h := zif_t c3 h
        refine lv_bipush (v := (-103 : Int32)) hx hb dX5_wins_19 (by decide) ?_
        cases zend h
        exact hq hP hD hS dX5_wins_21
    · have h := zif_f c2 h
      refine lv_bipush (v := (-102 : Int32)) hx hb dX5_wins_9 (by decide) ?_
      cases zend h
      exact hq hP hD hS dX5_wins_11
set_option maxHeartbeats 4000000 in
set_option maxRecDepth 100000 in
theorem c_X5_fewestWithOneMore (l : Launch) (D : va_G) (cI cB cO : ClassId) (Xo : Nat) (Po : Nat) (Pp : Nat → Nat) (Go : Nat) (Gp : Nat → Nat) (No : Nat) (Np : Nat → Nat) (Qo : Nat) (Qp : Nat → Nat) (Ko : Nat) (Kp : Nat → Nat) (Lo : Nat) (Lp : Nat → Nat) (To : Nat) (Tp : Nat → Nat) (ra : Nat) (oo : Nat → Nat) (Xs : Nat → Int32) (Ps : Nat → Int32) (Pa : Nat → Nat → Int32) (Gs : Nat → Int32) (Ga : Nat → Nat → Int32) (Ns : Nat → Int32) (Na : Nat → Nat → Int32) (Qs : Nat → Int32) (Qa : Nat → Nat → Int32) (Ks : Nat → Int32) (Ka : Nat → Nat → Int32) (Ls : Nat → Int32) (La : Nat → Nat → Int32) (Ts : Nat → Int32) (Ta : Nat → Nat → Int32) (os : Nat → Nat → Int32) (a0 : Int32) (rv : Int32) (Ts' : Nat → Int32) (Ta' : Nat → Nat → Int32) (os' : Nat → Nat → Int32) (sz : Nat) (h : fX5_fewestWithOneMore Gs Ga Ns Na Ts Ta os a0 = some (rv, Ts', Ta', os')) : Met l yX5_fewestWithOneMore wsX5_fewestWithOneMore ({ frames := 12, cells := 0, slots := 0, locals := 326 } : Room) (va_Pc [.ref Xo, .int a0] (zPre D (zTY cI cB cO) (zwX Xo Po Go No Qo Ko Lo To oo ra Xs ++ zwP cI Po Pp Ps Pa ++ zwG cI Go Gp Gs Ga ++ zwS cI No Np Go Ns Na ++ zwQ cI Qo Qp Qs Qa ++ zwS cI Ko Kp Go Ks Ka ++ zwQ cI Lo Lp Ls La ++ zwS cI To Tp Go Ts Ta ++ zwR cO ra oo ++ zwO (oo 0) (os 0) ++ zwO (oo 1) (os 1) ++ zwO (oo 2) (os 2) ++ zwO (oo 3) (os 3) ++ zwO (oo 4) (os 4) ++ zwO (oo 5) (os 5) ++ zwO (oo 6) (os 6) ++ zwO (oo 7) (os 7) ++ zwO (oo 8) (os 8)) sz)) (va_Qi (fun r (_ : Unit) => r = rv) (fun _ => zPost D (zTY cI cB cO) (zwX Xo Po Go No Qo Ko Lo To oo ra Xs ++ zwP cI Po Pp Ps Pa ++ zwG cI Go Gp Gs Ga ++ zwS cI No Np Go Ns Na ++ zwQ cI Qo Qp Qs Qa ++ zwS cI Ko Kp Go Ks Ka ++ zwQ cI Lo Lp Ls La ++ zwS cI To Tp Go Ts' Ta' ++ zwR cO ra oo ++ zwO (oo 0) (os' 0) ++ zwO (oo 1) (os' 1) ++ zwO (oo 2) (os' 2) ++ zwO (oo 3) (os' 3) ++ zwO (oo 4) (os' 4) ++ zwO (oo 5) (os' 5) ++ zwO (oo 6) (os' 6) ++ zwO (oo 7) (os' 7) ++ zwO (oo 8) (os' 8)) (va_A (zwX Xo Po Go No Qo Ko Lo To oo ra Xs ++ zwP cI Po Pp Ps Pa ++ zwG cI Go Gp Gs Ga ++ zwS cI No Np Go Ns Na ++ zwQ cI Qo Qp Qs Qa ++ zwS cI Ko Kp Go Ks Ka ++ zwQ cI Lo Lp Ls La ++ zwS cI To Tp Go Ts Ta ++ zwR cO ra oo ++ zwO (oo 0) (os 0) ++ zwO (oo 1) (os 1) ++ zwO (oo 2) (os 2) ++ zwO (oo 3) (os 3) ++ zwO (oo 4) (os 4) ++ zwO (oo 5) (os 5) ++ zwO (oo 6) (os 6) ++ zwO (oo 7) (os 7) ++ zwO (oo 8) (os 8)) sz)) (va_A (zwX Xo Po Go No Qo Ko Lo To oo ra Xs ++ zwP cI Po Pp Ps Pa ++ zwG cI Go Gp Gs Ga ++ zwS cI No Np Go Ns Na ++ zwQ cI Qo Qp Qs Qa ++ zwS cI Ko Kp Go Ks Ka ++ zwQ cI Lo Lp Ls La ++ zwS cI To Tp Go Ts Ta ++ zwR cO ra oo ++ zwO (oo 0) (os 0) ++ zwO (oo 1) (os 1) ++ zwO (oo 2) (os 2) ++ zwO (oo 3) (os 3) ++ zwO (oo 4) (os 4) ++ zwO (oo 5) (os 5) ++ zwO (oo 6) (os 6) ++ zwO (oo 7) (os 7) ++ zwO (oo 8) (os 8)) sz)) 0 0 (va_A (zwX Xo Po Go No Qo Ko Lo To oo ra Xs ++ zwP cI Po Pp Ps Pa ++ zwG cI Go Gp Gs Ga ++ zwS cI No Np Go Ns Na ++ zwQ cI Qo Qp Qs Qa ++ zwS cI Ko Kp Go Ks Ka ++ zwQ cI Lo Lp Ls La ++ zwS cI To Tp Go Ts Ta ++ zwR cO ra oo ++ zwO (oo 0) (os 0) ++ zwO (oo 1) (os 1) ++ zwO (oo 2) (os 2) ++ zwO (oo 3) (os 3) ++ zwO (oo 4) (os 4) ++ zwO (oo 5) (os 5) ++ zwO (oo 6) (os 6) ++ zwO (oo 7) (os 7) ++ zwO (oo 8) (os 8)) sz) := by
  unfold fX5_fewestWithOneMore at h
  refine zmet_i (cc := cX5_fewestWithOneMore) (maxL := 2) (by decide) rfl (Nat.le_of_ble_eq_true rfl) rfl rfl ?_
  intro p e s m args below meth c R Q A ls hx hb hts hown hml hK hP hD hE hA hS hRf hRl hl hq
  have hown : s.vm.findClass RX5 = some m.cls := hown
  have hl : lv_has ls 2 [(0, .ref Xo), (1, .int a0)] := hl
  have inX5 : ∀ w ∈ u_ws RX5 TX5 13, w ∈ wsX5_fewestWithOneMore := by decide +kernel
  have lk45 : (Cond.fieldLink RX5 45 "PegField" "thought" "LPegField$State;").before args s = true := hts _ (by decide +kernel)
  have lk28 : (Cond.fieldLink RX5 28 "PegField" "now" "LPegField$State;").before args s = true := hts _ (by decide +kernel)
  have lk55 : (Cond.fieldLink RX5 55 "PegField" "outcomes" "[LPegField$Outcome;").before args s = true := hts _ (by decide +kernel)
  have lk51 : (Cond.fieldLink RX5 51 "PegField" "outlook" "LPegField$Outcome;").before args s = true := hts _ (by decide +kernel)
  have inX1 : ∀ w ∈ u_ws RX1 TX1 9, w ∈ wsX5_fewestWithOneMore := by decide +kernel
  have lk173 : (Cond.fieldLinkNest RX5 173 "PegField$Outcome" "fewest" "I" "PegField").before args s = true := hE.2.use (by decide +kernel)
  refine lv_aload_n hx hb dX5_fewestWithOneMore_0 rfl (lv_at hl 0 rfl) ?_
  refine va_get (D := D) (ci := 5) (v := .ref To) (C := RX5) (T := TX5) (N := 13) hx hb hts inX5 hown hK hP 0 rfl rfl 7 (by decide) lk45 (fun _ h9 => h9) rfl dX5_fewestWithOneMore_1 ?_
  refine lv_aload_n hx hb dX5_fewestWithOneMore_4 rfl (lv_at hl 0 rfl) ?_
  refine va_get (D := D) (ci := 5) (v := .ref No) (C := RX5) (T := TX5) (N := 13) hx hb hts inX5 hown hK hP 0 rfl rfl 2 (by decide) lk28 (fun _ h9 => h9) rfl dX5_fewestWithOneMore_5 ?_
  obtain ⟨Ss_1, Sa_2, g3, h⟩ := zb2_s h
  have hFc := va_free (wc := (zwS cI To Tp Go Ts Ta ++ zwS cI No Np Go Ns Na)) hD hS hA [19, 20, 21, 22, 5, 6, 7, 8] rfl
  refine zcall_v (w2 := (zwX Xo Po Go No Qo Ko Lo To oo ra Xs ++ zwP cI Po Pp Ps Pa ++ zwG cI Go Gp Gs Ga ++ zwS cI No Np Go Ns Na ++ zwQ cI Qo Qp Qs Qa ++ zwS cI Ko Kp Go Ks Ka ++ zwQ cI Lo Lp Ls La ++ zwS cI To Tp Go Ss_1 Sa_2 ++ zwR cO ra oo ++ zwO (oo 0) (os 0) ++ zwO (oo 1) (os 1) ++ zwO (oo 2) (os 2) ++ zwO (oo 3) (os 3) ++ zwO (oo 4) (os 4) ++ zwO (oo 5) (os 5) ++ zwO (oo 6) (os 6) ++ zwO (oo 7) (os 7) ++ zwO (oo 8) (os 8))) (va_runV (As := [.ref No]) (rest := []) ⟨hx, hb, hml, hown, hts⟩ (c_X4_copyFrom l D cI cB cO To Tp Go No Np Ts Ta Ns Na _ _ _ g3) (cwV 1 hts gX5_fewestWithOneMore_X4_copyFrom rfl rfl rfl kV_X4_copyFrom ⟨Nat.le_trans (Nat.le_of_ble_eq_true rfl) hRf, Nat.le_trans (Nat.le_of_ble_eq_true rfl) hRl⟩) (zpreV hK hP hD hS hE hFc [19, 20, 21, 22, 5, 6, 7, 8] rfl rfl 19 (ci := 4) rfl rfl [.ref No]) rfl rfl hl.1 rfl (lv_room (Nat.le_of_ble_eq_true rfl)) dX5_fewestWithOneMore_8 ⟨Nat.zero_le _, Nat.zero_le _⟩) hP hD hS hFc [19, 20, 21, 22, 5, 6, 7, 8] [0, 1, 2, 3, 4, 9, 10, 11, 12, 13, 14, 15, 16, 17, 18, 23, 24, 25, 26, 27, 28, 29, 30, 31, 32] [0, 1, 2, 3, 4, 29, 30, 31, 32, 5, 6, 7, 8, 9, 10, 11, 12, 13, 14, 25, 26, 27, 28, 15, 16, 17, 18, 19, 20, 21, 22, 23, 24] 33 rfl rfl rfl rfl (fun H locs hP hD hS => ?_)
  refine lv_aload_n hx hb dX5_fewestWithOneMore_11 rfl (lv_at hl 0 rfl) ?_
  refine va_get (D := D) (ci := 5) (v := .ref To) (C := RX5) (T := TX5) (N := 13) hx hb hts inX5 hown hK hP 0 rfl rfl 7 (by decide) lk45 (fun _ h9 => h9) rfl dX5_fewestWithOneMore_12 ?_
  refine lv_iload_n hx hb dX5_fewestWithOneMore_15 rfl (lv_at hl 1 rfl) ?_
  obtain ⟨Ss_4, Sa_5, g6, h⟩ := zb2_s h
  have hFc := va_free (wc := (zwS cI To Tp Go Ss_1 Sa_2 ++ zwG cI Go Gp Gs Ga)) hD hS hA [19, 20, 21, 22, 3, 4] rfl
  refine zcall_v (w2 := (zwX Xo Po Go No Qo Ko Lo To oo ra Xs ++ zwP cI Po Pp Ps Pa ++ zwG cI Go Gp Gs Ga ++ zwS cI No Np Go Ns Na ++ zwQ cI Qo Qp Qs Qa ++ zwS cI Ko Kp Go Ks Ka ++ zwQ cI Lo Lp Ls La ++ zwS cI To Tp Go Ss_4 Sa_5 ++ zwR cO ra oo ++ zwO (oo 0) (os 0) ++ zwO (oo 1) (os 1) ++ zwO (oo 2) (os 2) ++ zwO (oo 3) (os 3) ++ zwO (oo 4) (os 4) ++ zwO (oo 5) (os 5) ++ zwO (oo 6) (os 6) ++ zwO (oo 7) (os 7) ++ zwO (oo 8) (os 8))) (va_runV (As := [.int a0]) (rest := []) ⟨hx, hb, hml, hown, hts⟩ (c_X4_addPlain l D cI cB cO To Tp Go Gp Ss_1 Sa_2 Gs Ga a0 _ _ _ g6) (cwV 1 hts gX5_fewestWithOneMore_X4_addPlain rfl rfl rfl kV_X4_addPlain ⟨Nat.le_trans (Nat.le_of_ble_eq_true rfl) hRf, Nat.le_trans (Nat.le_of_ble_eq_true rfl) hRl⟩) (zpreV hK hP hD hS hE hFc [19, 20, 21, 22, 3, 4] rfl rfl 19 (ci := 4) rfl rfl [.int a0]) rfl rfl hl.1 rfl (lv_room (Nat.le_of_ble_eq_true rfl)) dX5_fewestWithOneMore_16 ⟨Nat.zero_le _, Nat.zero_le _⟩) hP hD hS hFc [19, 20, 21, 22, 3, 4] [0, 1, 2, 5, 6, 7, 8, 9, 10, 11, 12, 13, 14, 15, 16, 17, 18, 23, 24, 25, 26, 27, 28, 29, 30, 31, 32] [0, 1, 2, 31, 32, 3, 4, 5, 6, 7, 8, 9, 10, 11, 12, 13, 14, 15, 16, 27, 28, 29, 30, 17, 18, 19, 20, 21, 22, 23, 24, 25, 26] 33 rfl rfl rfl rfl (fun H locs hP hD hS => ?_)
  refine lv_aload_n hx hb dX5_fewestWithOneMore_19 rfl (lv_at hl 0 rfl) ?_
  refine va_get (D := D) (ci := 5) (v := .ref To) (C := RX5) (T := TX5) (N := 13) hx hb hts inX5 hown hK hP 0 rfl rfl 7 (by decide) lk45 (fun _ h9 => h9) rfl dX5_fewestWithOneMore_20 ?_
  refine lv_aload_n hx hb dX5_fewestWithOneMore_23 rfl (lv_at hl 0 rfl) ?_
  refine va_get (D := D) (ci := 5) (v := .ref ra) (C := RX5) (T := TX5) (N := 13) hx hb hts inX5 hown hK hP 0 rfl rfl 9 (by decide) lk55 (fun _ h9 => h9) rfl dX5_fewestWithOneMore_24 ?_
  refine lv_iconst (v := (0 : Int32)) hx hb dX5_fewestWithOneMore_27 (by decide) ?_
  obtain ⟨Ss_7, Sa_8, os_9, g10, h⟩ := zb3_s h
  have hFc := va_free (wc := (zwS cI To Tp Go Ss_4 Sa_5 ++ zwG cI Go Gp Gs Ga ++ zwR cO ra oo ++ zwO (oo 0) (os 0) ++ zwO (oo 1) (os 1) ++ zwO (oo 2) (os 2) ++ zwO (oo 3) (os 3) ++ zwO (oo 4) (os 4) ++ zwO (oo 5) (os 5) ++ zwO (oo 6) (os 6) ++ zwO (oo 7) (os 7) ++ zwO (oo 8) (os 8))) hD hS hA [19, 20, 21, 22, 3, 4, 23, 24, 25, 26, 27, 28, 29, 30, 31, 32] rfl
  refine zcall_v (w2 := (zwX Xo Po Go No Qo Ko Lo To oo ra Xs ++ zwP cI Po Pp Ps Pa ++ zwG cI Go Gp Gs Ga ++ zwS cI No Np Go Ns Na ++ zwQ cI Qo Qp Qs Qa ++ zwS cI Ko Kp Go Ks Ka ++ zwQ cI Lo Lp Ls La ++ zwS cI To Tp Go Ss_7 Sa_8 ++ zwR cO ra oo ++ zwO (oo 0) (os_9 0) ++ zwO (oo 1) (os_9 1) ++ zwO (oo 2) (os_9 2) ++ zwO (oo 3) (os_9 3) ++ zwO (oo 4) (os_9 4) ++ zwO (oo 5) (os_9 5) ++ zwO (oo 6) (os_9 6) ++ zwO (oo 7) (os_9 7) ++ zwO (oo 8) (os_9 8))) (va_runS (As := [.ref To, .ref ra, .int (0 : Int32)]) (rest := []) ⟨hx, hb, hml, hown, hts⟩ (c_X5_look_0 l D cI cB cO To Tp Go Gp ra oo Ss_4 Sa_5 Gs Ga os _ _ _ _ g10) (va_cwS 3 hts gX5_fewestWithOneMore_X5_look rfl rfl rfl kS_X5_look ⟨Nat.le_trans (Nat.le_of_ble_eq_true rfl) hRf, Nat.le_trans (Nat.le_of_ble_eq_true rfl) hRl⟩) (zpreS hK hP hD hS hE hFc [19, 20, 21, 22, 3, 4, 23, 24, 25, 26, 27, 28, 29, 30, 31, 32] rfl rfl [.ref To, .ref ra, .int (0 : Int32)]) rfl rfl hl.1 rfl (lv_room (Nat.le_of_ble_eq_true rfl)) dX5_fewestWithOneMore_28 ⟨Nat.zero_le _, Nat.zero_le _⟩) hP hD hS hFc [19, 20, 21, 22, 3, 4, 23, 24, 25, 26, 27, 28, 29, 30, 31, 32] [0, 1, 2, 5, 6, 7, 8, 9, 10, 11, 12, 13, 14, 15, 16, 17, 18] [0, 1, 2, 21, 22, 3, 4, 5, 6, 7, 8, 9, 10, 11, 12, 13, 14, 15, 16, 17, 18, 19, 20, 23, 24, 25, 26, 27, 28, 29, 30, 31, 32] 33 rfl rfl rfl rfl (fun H locs hP hD hS => ?_)
  refine lv_aload_n hx hb dX5_fewestWithOneMore_31 rfl (lv_at hl 0 rfl) ?_
  refine va_get (D := D) (ci := 5) (v := .ref (oo 0)) (C := RX5) (T := TX5) (N := 13) hx hb hts inX5 hown hK hP 0 rfl rfl 8 (by decide) lk51 (fun _ h9 => h9) rfl dX5_fewestWithOneMore_32 ?_
  refine va_getN (D := D) (ci := 1) (v := .int ((os_9 0) 1)) (C := RX1) (T := TX1) (N := 9) hx hb hts inX1 hown hK hP 24 rfl rfl 1 (by decide) lk173 (fun _ h9 => h9) rfl dX5_fewestWithOneMore_35 ?_
  cases zend h
  exact hq hP hD hS dX5_fewestWithOneMore_38
set_option maxHeartbeats 4000000 in
set_option maxRecDepth 100000 in
theorem c_X5_add (l : Launch) (D : va_G) (cI cB cO : ClassId) (Xo : Nat) (Po : Nat) (Pp : Nat → Nat) (Go : Nat) (Gp : Nat → Nat) (No : Nat) (Np : Nat → Nat) (Qo : Nat) (Qp : Nat → Nat) (Ko : Nat) (Kp : Nat → Nat) (Lo : Nat) (Lp : Nat → Nat) (To : Nat) (Tp : Nat → Nat) (ra : Nat) (oo : Nat → Nat) (Xs : Nat → Int32) (Ps : Nat → Int32) (Pa : Nat → Nat → Int32) (Gs : Nat → Int32) (Ga : Nat → Nat → Int32) (Ns : Nat → Int32) (Na : Nat → Nat → Int32) (Qs : Nat → Int32) (Qa : Nat → Nat → Int32) (Ks : Nat → Int32) (Ka : Nat → Nat → Int32) (Ls : Nat → Int32) (La : Nat → Nat → Int32) (Ts : Nat → Int32) (Ta : Nat → Nat → Int32) (os : Nat → Nat → Int32)  (rv : Int32) (Xs' : Nat → Int32) (Ts' : Nat → Int32) (Ta' : Nat → Nat → Int32) (os' : Nat → Nat → Int32) (sz : Nat) (h : fX5_add Xs Gs Ga Ns Na Ts Ta os = some (rv, Xs', Ts', Ta', os')) : Met l yX5_add wsX5_add ({ frames := 13, cells := 0, slots := 0, locals := 347 } : Room) (va_Pc [.ref Xo] (zPre D (zTY cI cB cO) (zwX Xo Po Go No Qo Ko Lo To oo ra Xs ++ zwP cI Po Pp Ps Pa ++ zwG cI Go Gp Gs Ga ++ zwS cI No Np Go Ns Na ++ zwQ cI Qo Qp Qs Qa ++ zwS cI Ko Kp Go Ks Ka ++ zwQ cI Lo Lp Ls La ++ zwS cI To Tp Go Ts Ta ++ zwR cO ra oo ++ zwO (oo 0) (os 0) ++ zwO (oo 1) (os 1) ++ zwO (oo 2) (os 2) ++ zwO (oo 3) (os 3) ++ zwO (oo 4) (os 4) ++ zwO (oo 5) (os 5) ++ zwO (oo 6) (os 6) ++ zwO (oo 7) (os 7) ++ zwO (oo 8) (os 8)) sz)) (va_Qi (fun r (_ : Unit) => r = rv) (fun _ => zPost D (zTY cI cB cO) (zwX Xo Po Go No Qo Ko Lo To oo ra Xs' ++ zwP cI Po Pp Ps Pa ++ zwG cI Go Gp Gs Ga ++ zwS cI No Np Go Ns Na ++ zwQ cI Qo Qp Qs Qa ++ zwS cI Ko Kp Go Ks Ka ++ zwQ cI Lo Lp Ls La ++ zwS cI To Tp Go Ts' Ta' ++ zwR cO ra oo ++ zwO (oo 0) (os' 0) ++ zwO (oo 1) (os' 1) ++ zwO (oo 2) (os' 2) ++ zwO (oo 3) (os' 3) ++ zwO (oo 4) (os' 4) ++ zwO (oo 5) (os' 5) ++ zwO (oo 6) (os' 6) ++ zwO (oo 7) (os' 7) ++ zwO (oo 8) (os' 8)) (va_A (zwX Xo Po Go No Qo Ko Lo To oo ra Xs ++ zwP cI Po Pp Ps Pa ++ zwG cI Go Gp Gs Ga ++ zwS cI No Np Go Ns Na ++ zwQ cI Qo Qp Qs Qa ++ zwS cI Ko Kp Go Ks Ka ++ zwQ cI Lo Lp Ls La ++ zwS cI To Tp Go Ts Ta ++ zwR cO ra oo ++ zwO (oo 0) (os 0) ++ zwO (oo 1) (os 1) ++ zwO (oo 2) (os 2) ++ zwO (oo 3) (os 3) ++ zwO (oo 4) (os 4) ++ zwO (oo 5) (os 5) ++ zwO (oo 6) (os 6) ++ zwO (oo 7) (os 7) ++ zwO (oo 8) (os 8)) sz)) (va_A (zwX Xo Po Go No Qo Ko Lo To oo ra Xs ++ zwP cI Po Pp Ps Pa ++ zwG cI Go Gp Gs Ga ++ zwS cI No Np Go Ns Na ++ zwQ cI Qo Qp Qs Qa ++ zwS cI Ko Kp Go Ks Ka ++ zwQ cI Lo Lp Ls La ++ zwS cI To Tp Go Ts Ta ++ zwR cO ra oo ++ zwO (oo 0) (os 0) ++ zwO (oo 1) (os 1) ++ zwO (oo 2) (os 2) ++ zwO (oo 3) (os 3) ++ zwO (oo 4) (os 4) ++ zwO (oo 5) (os 5) ++ zwO (oo 6) (os 6) ++ zwO (oo 7) (os 7) ++ zwO (oo 8) (os 8)) sz)) 0 0 (va_A (zwX Xo Po Go No Qo Ko Lo To oo ra Xs ++ zwP cI Po Pp Ps Pa ++ zwG cI Go Gp Gs Ga ++ zwS cI No Np Go Ns Na ++ zwQ cI Qo Qp Qs Qa ++ zwS cI Ko Kp Go Ks Ka ++ zwQ cI Lo Lp Ls La ++ zwS cI To Tp Go Ts Ta ++ zwR cO ra oo ++ zwO (oo 0) (os 0) ++ zwO (oo 1) (os 1) ++ zwO (oo 2) (os 2) ++ zwO (oo 3) (os 3) ++ zwO (oo 4) (os 4) ++ zwO (oo 5) (os 5) ++ zwO (oo 6) (os 6) ++ zwO (oo 7) (os 7) ++ zwO (oo 8) (os 8)) sz) := by
  unfold fX5_add at h
  refine zmet_i (cc := cX5_add) (maxL := 2) (by decide) rfl (Nat.le_of_ble_eq_true rfl) rfl rfl ?_
  intro p e s m args below meth c R Q A ls hx hb hts hown hml hK hP hD hE hA hS hRf hRl hl hq
  have hown : s.vm.findClass RX5 = some m.cls := hown
  have hl : lv_has ls 2 [(0, .ref Xo)] := hl
  have inX5 : ∀ w ∈ u_ws RX5 TX5 13, w ∈ wsX5_add := by decide +kernel
  have lk95 : (Cond.fieldLink RX5 95 "PegField" "reads" "I").before args s = true := hts _ (by decide +kernel)
  have lk194 : (Cond.fieldLink RX5 194 "PegField" "adds" "I").before args s = true := hts _ (by decide +kernel)
  have lk92 : (Cond.fieldLink RX5 92 "PegField" "isLooked" "Z").before args s = true := hts _ (by decide +kernel)
  have lk28 : (Cond.fieldLink RX5 28 "PegField" "now" "LPegField$State;").before args s = true := hts _ (by decide +kernel)
  refine lv_aload_n hx hb dX5_add_0 rfl (lv_at hl 0 rfl) ?_
  refine va_get (D := D) (ci := 5) (v := .int (Xs 11)) (C := RX5) (T := TX5) (N := 13) hx hb hts inX5 hown hK hP 0 rfl rfl 11 (by decide) lk95 (fun _ h9 => h9) rfl dX5_add_1 ?_
  refine lv_if_eq (tgt := 16) hx hb dX5_add_4 (by decide) (fun c1 => ?_) (fun c1 => ?_)
  · have h := zif_t c1 h
    refine lv_bipush (v := (-103 : Int32)) hx hb dX5_add_16 (by decide) ?_
    cases zend h
    exact hq hP hD hS dX5_add_18
  · have h := zif_f c1 h
    refine lv_aload_n hx hb dX5_add_7 rfl (lv_at hl 0 rfl) ?_
    refine va_get (D := D) (ci := 5) (v := .int (Xs 12)) (C := RX5) (T := TX5) (N := 13) hx hb hts inX5 hown hK hP 0 rfl rfl 12 (by decide) lk194 (fun _ h9 => h9) rfl dX5_add_8 ?_
    refine lv_bipush (v := (12 : Int32)) hx hb dX5_add_11 (by decide) ?_
    refine lv_icmp_lt (tgt := 19) hx hb dX5_add_13 (by decide) (fun c2 => ?_) (fun c2 => ?_)
    · have h := zif_t c2 h
      refine lv_aload_n hx hb dX5_add_19 rfl (lv_at hl 0 rfl) ?_
      refine lv_dup hx hb dX5_add_20 rfl ?_
      refine va_get (D := D) (ci := 5) (v := .int (Xs 12)) (C := RX5) (T := TX5) (N := 13) hx hb hts inX5 hown hK hP 0 rfl rfl 12 (by decide) lk194 (fun _ h9 => h9) rfl dX5_add_21 ?_
      refine lv_iconst (v := (1 : Int32)) hx hb dX5_add_24 (by decide) ?_
      refine lv_iadd hx hb dX5_add_25 ?_
      refine va_put (D := D) (ci := 5) (v := .int ((Xs 12) + (1 : Int32))) (ty := .int) (C := RX5) (T := TX5) (N := 13) hx hb hts inX5 tyX5 tyX5_ok nmX5 hown hK hP hD hS 0 rfl rfl 12 (by decide) lk194 (fun _ h9 => h9) rfl (by decide +kernel) rfl rfl (Nat.le_of_ble_eq_true rfl) dX5_add_26 (fun H locs hP hD hS => ?_)
      have hP : va_P D vwCl (zwX Xo Po Go No Qo Ko Lo To oo ra (upd Xs 12 ((Xs 12) + (1 : Int32))) ++ zwP cI Po Pp Ps Pa ++ zwG cI Go Gp Gs Ga ++ zwS cI No Np Go Ns Na ++ zwQ cI Qo Qp Qs Qa ++ zwS cI Ko Kp Go Ks Ka ++ zwQ cI Lo Lp Ls La ++ zwS cI To Tp Go Ts Ta ++ zwR cO ra oo ++ zwO (oo 0) (os 0) ++ zwO (oo 1) (os 1) ++ zwO (oo 2) (os 2) ++ zwO (oo 3) (os 3) ++ zwO (oo 4) (os 4) ++ zwO (oo 5) (os 5) ++ zwO (oo 6) (os 6) ++ zwO (oo 7) (os 7) ++ zwO (oo 8) (os 8)) H := hP
      have hD : va_D A (zwX Xo Po Go No Qo Ko Lo To oo ra (upd Xs 12 ((Xs 12) + (1 : Int32))) ++ zwP cI Po Pp Ps Pa ++ zwG cI Go Gp Gs Ga ++ zwS cI No Np Go Ns Na ++ zwQ cI Qo Qp Qs Qa ++ zwS cI Ko Kp Go Ks Ka ++ zwQ cI Lo Lp Ls La ++ zwS cI To Tp Go Ts Ta ++ zwR cO ra oo ++ zwO (oo 0) (os 0) ++ zwO (oo 1) (os 1) ++ zwO (oo 2) (os 2) ++ zwO (oo 3) (os 3) ++ zwO (oo 4) (os 4) ++ zwO (oo 5) (os 5) ++ zwO (oo 6) (os 6) ++ zwO (oo 7) (os 7) ++ zwO (oo 8) (os 8)) := hD
      refine lv_aload_n hx hb dX5_add_29 rfl (lv_at hl 0 rfl) ?_
      refine lv_iconst (v := (0 : Int32)) hx hb dX5_add_30 (by decide) ?_
      refine va_put (D := D) (ci := 5) (v := .int (0 : Int32)) (ty := .boolean) (C := RX5) (T := TX5) (N := 13) hx hb hts inX5 tyX5 tyX5_ok nmX5 hown hK hP hD hS 0 rfl rfl 10 (by decide) lk92 (fun _ h9 => h9) rfl (by decide +kernel) (by decide) (by decide) (Nat.le_of_ble_eq_true rfl) dX5_add_31 (fun H locs hP hD hS => ?_)
      have hP : va_P D vwCl (zwX Xo Po Go No Qo Ko Lo To oo ra (upd (upd Xs 12 ((Xs 12) + (1 : Int32))) 10 (0 : Int32)) ++ zwP cI Po Pp Ps Pa ++ zwG cI Go Gp Gs Ga ++ zwS cI No Np Go Ns Na ++ zwQ cI Qo Qp Qs Qa ++ zwS cI Ko Kp Go Ks Ka ++ zwQ cI Lo Lp Ls La ++ zwS cI To Tp Go Ts Ta ++ zwR cO ra oo ++ zwO (oo 0) (os 0) ++ zwO (oo 1) (os 1) ++ zwO (oo 2) (os 2) ++ zwO (oo 3) (os 3) ++ zwO (oo 4) (os 4) ++ zwO (oo 5) (os 5) ++ zwO (oo 6) (os 6) ++ zwO (oo 7) (os 7) ++ zwO (oo 8) (os 8)) H := hP
      have hD : va_D A (zwX Xo Po Go No Qo Ko Lo To oo ra (upd (upd Xs 12 ((Xs 12) + (1 : Int32))) 10 (0 : Int32)) ++ zwP cI Po Pp Ps Pa ++ zwG cI Go Gp Gs Ga ++ zwS cI No Np Go Ns Na ++ zwQ cI Qo Qp Qs Qa ++ zwS cI Ko Kp Go Ks Ka ++ zwQ cI Lo Lp Ls La ++ zwS cI To Tp Go Ts Ta ++ zwR cO ra oo ++ zwO (oo 0) (os 0) ++ zwO (oo 1) (os 1) ++ zwO (oo 2) (os 2) ++ zwO (oo 3) (os 3) ++ zwO (oo 4) (os 4) ++ zwO (oo 5) (os 5) ++ zwO (oo 6) (os 6) ++ zwO (oo 7) (os 7) ++ zwO (oo 8) (os 8)) := hD
      refine lv_iconst (v := (0 : Int32)) hx hb dX5_add_34 (by decide) ?_
      refine lv_istore_n (lv' := [(1, .int (0 : Int32)), (0, .ref Xo)]) hx hb dX5_add_35 rfl hl (by decide) rfl (fun ls hl => ?_)
      obtain ⟨y3, i14, h1y3, h2y3⟩ := zbs_s h
      clear h
      have KX62 : ∀ (x1_62x36 : Int32) (Ts_62x36 : Nat → Int32) (Ta_62x36 : Nat → Nat → Int32) (os_62x36 : Nat → Nat → Int32), y3 = (.inl (x1_62x36, Ts_62x36, Ta_62x36, os_62x36)) → ∀ (H : Heap) (locs : List Loc) (ls : Array Slot), va_P D vwCl (zwX Xo Po Go No Qo Ko Lo To oo ra (upd (upd Xs 12 ((Xs 12) + (1 : Int32))) 10 (0 : Int32)) ++ zwP cI Po Pp Ps Pa ++ zwG cI Go Gp Gs Ga ++ zwS cI No Np Go Ns Na ++ zwQ cI Qo Qp Qs Qa ++ zwS cI Ko Kp Go Ks Ka ++ zwQ cI Lo Lp Ls La ++ zwS cI To Tp Go Ts_62x36 Ta_62x36 ++ zwR cO ra oo ++ zwO (oo 0) (os_62x36 0) ++ zwO (oo 1) (os_62x36 1) ++ zwO (oo 2) (os_62x36 2) ++ zwO (oo 3) (os_62x36 3) ++ zwO (oo 4) (os_62x36 4) ++ zwO (oo 5) (os_62x36 5) ++ zwO (oo 6) (os_62x36 6) ++ zwO (oo 7) (os_62x36 7) ++ zwO (oo 8) (os_62x36 8)) H → va_D A (zwX Xo Po Go No Qo Ko Lo To oo ra (upd (upd Xs 12 ((Xs 12) + (1 : Int32))) 10 (0 : Int32)) ++ zwP cI Po Pp Ps Pa ++ zwG cI Go Gp Gs Ga ++ zwS cI No Np Go Ns Na ++ zwQ cI Qo Qp Qs Qa ++ zwS cI Ko Kp Go Ks Ka ++ zwQ cI Lo Lp Ls La ++ zwS cI To Tp Go Ts_62x36 Ta_62x36 ++ zwR cO ra oo ++ zwO (oo 0) (os_62x36 0) ++ zwO (oo 1) (os_62x36 1) ++ zwO (oo 2) (os_62x36 2) ++ zwO (oo 3) (os_62x36 3) ++ zwO (oo 4) (os_62x36 4) ++ zwO (oo 5) (os_62x36 5) ++ zwO (oo 6) (os_62x36 6) ++ zwO (oo 7) (os_62x36 7) ++ zwO (oo 8) (os_62x36 8)) → va_S A s.heap H locs → lv_has ls 2 [(1, .int x1_62x36)] → W p l e R s m args below meth c H locs 0 0 Q (F0 m 62 ls []) := by
        intro x1_62x36 Ts_62x36 Ta_62x36 os_62x36 ey3 H locs ls hP hD hS hl
        have h := h1y3 _ ey3
        simp only [zu4] at h
        refine lv_iload_n hx hb dX5_add_62 rfl (lv_at hl 0 rfl) ?_
        cases zend h
        exact hq hP hD hS dX5_add_63
      have KX70 : ∀ (Ts_70x36 : Nat → Int32) (Ta_70x36 : Nat → Nat → Int32) (os_70x36 : Nat → Nat → Int32), y3 = (.inr (Ts_70x36, Ta_70x36, os_70x36)) → ∀ (H : Heap) (locs : List Loc) (ls : Array Slot), va_P D vwCl (zwX Xo Po Go No Qo Ko Lo To oo ra (upd (upd Xs 12 ((Xs 12) + (1 : Int32))) 10 (0 : Int32)) ++ zwP cI Po Pp Ps Pa ++ zwG cI Go Gp Gs Ga ++ zwS cI No Np Go Ns Na ++ zwQ cI Qo Qp Qs Qa ++ zwS cI Ko Kp Go Ks Ka ++ zwQ cI Lo Lp Ls La ++ zwS cI To Tp Go Ts_70x36 Ta_70x36 ++ zwR cO ra oo ++ zwO (oo 0) (os_70x36 0) ++ zwO (oo 1) (os_70x36 1) ++ zwO (oo 2) (os_70x36 2) ++ zwO (oo 3) (os_70x36 3) ++ zwO (oo 4) (os_70x36 4) ++ zwO (oo 5) (os_70x36 5) ++ zwO (oo 6) (os_70x36 6) ++ zwO (oo 7) (os_70x36 7) ++ zwO (oo 8) (os_70x36 8)) H → va_D A (zwX Xo Po Go No Qo Ko Lo To oo ra (upd (upd Xs 12 ((Xs 12) + (1 : Int32))) 10 (0 : Int32)) ++ zwP cI Po Pp Ps Pa ++ zwG cI Go Gp Gs Ga ++ zwS cI No Np Go Ns Na ++ zwQ cI Qo Qp Qs Qa ++ zwS cI Ko Kp Go Ks Ka ++ zwQ cI Lo Lp Ls La ++ zwS cI To Tp Go Ts_70x36 Ta_70x36 ++ zwR cO ra oo ++ zwO (oo 0) (os_70x36 0) ++ zwO (oo 1) (os_70x36 1) ++ zwO (oo 2) (os_70x36 2) ++ zwO (oo 3) (os_70x36 3) ++ zwO (oo 4) (os_70x36 4) ++ zwO (oo 5) (os_70x36 5) ++ zwO (oo 6) (os_70x36 6) ++ zwO (oo 7) (os_70x36 7) ++ zwO (oo 8) (os_70x36 8)) → va_S A s.heap H locs → lv_has ls 2 [] → W p l e R s m args below meth c H locs 0 0 Q (F0 m 70 ls []) := by
        intro Ts_70x36 Ta_70x36 os_70x36 ey3 H locs ls hP hD hS hl
        have h := h2y3 _ ey3
        simp only [zu3] at h
        refine lv_iconst (v := (-1 : Int32)) hx hb dX5_add_70 (by decide) ?_
        cases zend h
        exact hq hP hD hS dX5_add_71
      refine zi4_ind (P := (fun (x1_36h : Int32) (Ts_36h : Nat → Int32) (Ta_36h : Nat → Nat → Int32) (os_36h : Nat → Nat → Int32) => ∀ (H : Heap) (locs : List Loc) (ls : Array Slot), va_P D vwCl (zwX Xo Po Go No Qo Ko Lo To oo ra (upd (upd Xs 12 ((Xs 12) + (1 : Int32))) 10 (0 : Int32)) ++ zwP cI Po Pp Ps Pa ++ zwG cI Go Gp Gs Ga ++ zwS cI No Np Go Ns Na ++ zwQ cI Qo Qp Qs Qa ++ zwS cI Ko Kp Go Ks Ka ++ zwQ cI Lo Lp Ls La ++ zwS cI To Tp Go Ts_36h Ta_36h ++ zwR cO ra oo ++ zwO (oo 0) (os_36h 0) ++ zwO (oo 1) (os_36h 1) ++ zwO (oo 2) (os_36h 2) ++ zwO (oo 3) (os_36h 3) ++ zwO (oo 4) (os_36h 4) ++ zwO (oo 5) (os_36h 5) ++ zwO (oo 6) (os_36h 6) ++ zwO (oo 7) (os_36h 7) ++ zwO (oo 8) (os_36h 8)) H → va_D A (zwX Xo Po Go No Qo Ko Lo To oo ra (upd (upd Xs 12 ((Xs 12) + (1 : Int32))) 10 (0 : Int32)) ++ zwP cI Po Pp Ps Pa ++ zwG cI Go Gp Gs Ga ++ zwS cI No Np Go Ns Na ++ zwQ cI Qo Qp Qs Qa ++ zwS cI Ko Kp Go Ks Ka ++ zwQ cI Lo Lp Ls La ++ zwS cI To Tp Go Ts_36h Ta_36h ++ zwR cO ra oo ++ zwO (oo 0) (os_36h 0) ++ zwO (oo 1) (os_36h 1) ++ zwO (oo 2) (os_36h 2) ++ zwO (oo 3) (os_36h 3) ++ zwO (oo 4) (os_36h 4) ++ zwO (oo 5) (os_36h 5) ++ zwO (oo 6) (os_36h 6) ++ zwO (oo 7) (os_36h 7) ++ zwO (oo 8) (os_36h 8)) → va_S A s.heap H locs → lv_has ls 2 [(0, .ref Xo), (1, .int x1_36h)] → W p l e R s m args below meth c H locs 0 0 Q (F0 m 36 ls []))) ?_ i14 _ _ _ hP hD hS (lv_sub hl [1, 0] rfl)
      clear i14 hP hD hS hl
      intro x1_36h Ts_36h Ta_36h os_36h z36 h zl36 zr36 H locs ls hP hD hS hl
      refine lv_iload_n hx hb dX5_add_36 rfl (lv_at hl 1 rfl) ?_
      refine lv_bipush (v := (12 : Int32)) hx hb dX5_add_37 (by decide) ?_
      refine lv_icmp_ge (tgt := 70) hx hb dX5_add_39 (by decide) (fun c4 => ?_) (fun c4 => ?_)
      · have h := zif_t c4 h
        exact KX70 _ _ _ (zr36 _ (zend h).symm).symm _ _ _ hP hD hS (lv_sub hl [] rfl)
      · have h := zif_f c4 h
        refine lv_aload_n hx hb dX5_add_42 rfl (lv_at hl 0 rfl) ?_
        refine va_get (D := D) (ci := 5) (v := .ref No) (C := RX5) (T := TX5) (N := 13) hx hb hts inX5 hown hK hP 0 rfl rfl 2 (by decide) lk28 (fun _ h9 => h9) rfl dX5_add_43 ?_
        refine lv_iload_n hx hb dX5_add_46 rfl (lv_at hl 1 rfl) ?_
        obtain ⟨r5, g6, h⟩ := zb1_s h
        have hFc := va_free (wc := (zwS cI No Np Go Ns Na ++ zwG cI Go Gp Gs Ga)) hD hS hA [5, 6, 7, 8, 3, 4] rfl
        refine zcall_i (w2 := (zwX Xo Po Go No Qo Ko Lo To oo ra (upd (upd Xs 12 ((Xs 12) + (1 : Int32))) 10 (0 : Int32)) ++ zwP cI Po Pp Ps Pa ++ zwG cI Go Gp Gs Ga ++ zwS cI No Np Go Ns Na ++ zwQ cI Qo Qp Qs Qa ++ zwS cI Ko Kp Go Ks Ka ++ zwQ cI Lo Lp Ls La ++ zwS cI To Tp Go Ts_36h Ta_36h ++ zwR cO ra oo ++ zwO (oo 0) (os_36h 0) ++ zwO (oo 1) (os_36h 1) ++ zwO (oo 2) (os_36h 2) ++ zwO (oo 3) (os_36h 3) ++ zwO (oo 4) (os_36h 4) ++ zwO (oo 5) (os_36h 5) ++ zwO (oo 6) (os_36h 6) ++ zwO (oo 7) (os_36h 7) ++ zwO (oo 8) (os_36h 8))) (va_runV (As := [.int x1_36h]) (rest := []) ⟨hx, hb, hml, hown, hts⟩ (c_X4_isEmptyHole l D cI cB cO No Np Go Gp Ns Na Gs Ga x1_36h _ _ g6) (cwV 1 hts gX5_add_X4_isEmptyHole rfl rfl rfl kV_X4_isEmptyHole ⟨Nat.le_trans (Nat.le_of_ble_eq_true rfl) hRf, Nat.le_trans (Nat.le_of_ble_eq_true rfl) hRl⟩) (zpreV hK hP hD hS hE hFc [5, 6, 7, 8, 3, 4] rfl rfl 5 (ci := 4) rfl rfl [.int x1_36h]) rfl rfl hl.1 rfl (lv_room (Nat.le_of_ble_eq_true rfl)) dX5_add_47 ⟨Nat.zero_le _, Nat.zero_le _⟩) hP hD hS hFc [5, 6, 7, 8, 3, 4] [0, 1, 2, 9, 10, 11, 12, 13, 14, 15, 16, 17, 18, 19, 20, 21, 22, 23, 24, 25, 26, 27, 28, 29, 30, 31, 32] [0, 1, 2, 31, 32, 27, 28, 29, 30, 3, 4, 5, 6, 7, 8, 9, 10, 11, 12, 13, 14, 15, 16, 17, 18, 19, 20, 21, 22, 23, 24, 25, 26] 33 rfl rfl rfl rfl (fun H locs hP hD hS => ?_)
        obtain ⟨J64, eJ64, h⟩ := zjn_s h
        have K64 : ∀ (Ts_64 : Nat → Int32) (Ta_64 : Nat → Nat → Int32) (os_64 : Nat → Nat → Int32), J64 Ts_64 Ta_64 os_64 = some z36 → ∀ (H : Heap) (locs : List Loc) (ls : Array Slot), va_P D vwCl (zwX Xo Po Go No Qo Ko Lo To oo ra (upd (upd Xs 12 ((Xs 12) + (1 : Int32))) 10 (0 : Int32)) ++ zwP cI Po Pp Ps Pa ++ zwG cI Go Gp Gs Ga ++ zwS cI No Np Go Ns Na ++ zwQ cI Qo Qp Qs Qa ++ zwS cI Ko Kp Go Ks Ka ++ zwQ cI Lo Lp Ls La ++ zwS cI To Tp Go Ts_64 Ta_64 ++ zwR cO ra oo ++ zwO (oo 0) (os_64 0) ++ zwO (oo 1) (os_64 1) ++ zwO (oo 2) (os_64 2) ++ zwO (oo 3) (os_64 3) ++ zwO (oo 4) (os_64 4) ++ zwO (oo 5) (os_64 5) ++ zwO (oo 6) (os_64 6) ++ zwO (oo 7) (os_64 7) ++ zwO (oo 8) (os_64 8)) H → va_D A (zwX Xo Po Go No Qo Ko Lo To oo ra (upd (upd Xs 12 ((Xs 12) + (1 : Int32))) 10 (0 : Int32)) ++ zwP cI Po Pp Ps Pa ++ zwG cI Go Gp Gs Ga ++ zwS cI No Np Go Ns Na ++ zwQ cI Qo Qp Qs Qa ++ zwS cI Ko Kp Go Ks Ka ++ zwQ cI Lo Lp Ls La ++ zwS cI To Tp Go Ts_64 Ta_64 ++ zwR cO ra oo ++ zwO (oo 0) (os_64 0) ++ zwO (oo 1) (os_64 1) ++ zwO (oo 2) (os_64 2) ++ zwO (oo 3) (os_64 3) ++ zwO (oo 4) (os_64 4) ++ zwO (oo 5) (os_64 5) ++ zwO (oo 6) (os_64 6) ++ zwO (oo 7) (os_64 7) ++ zwO (oo 8) (os_64 8)) → va_S A s.heap H locs → lv_has ls 2 [(0, .ref Xo), (1, .int x1_36h)] → W p l e R s m args below meth c H locs 0 0 Q (F0 m 64 ls []) := by
          subst eJ64
          intro Ts_64 Ta_64 os_64 h H locs ls hP hD hS hl
          refine lv_iinc (v := (x1_36h + (1 : Int32))) (lv' := [(1, .int (x1_36h + (1 : Int32))), (0, .ref Xo)]) hx hb dX5_add_64 hl (k := 1) rfl rfl (by decide) rfl (fun ls hl => ?_)
          refine lv_goto (tgt := 36) hx hb dX5_add_67 (by decide) ?_
          exact zl36 _ _ _ _ (zend h).symm _ _ _ hP hD hS (lv_sub hl [1, 0] rfl)
        clear eJ64
        refine lv_if_eq (tgt := 64) hx hb dX5_add_50 (by decide) (fun c7 => ?_) (fun c7 => ?_)
        · have h := zif_t c7 h
          exact K64 _ _ _ h _ _ _ hP hD hS (lv_sub hl [0, 1] rfl)
        · have h := zif_f c7 h
          refine lv_aload_n hx hb dX5_add_53 rfl (lv_at hl 0 rfl) ?_
          refine lv_iload_n hx hb dX5_add_54 rfl (lv_at hl 1 rfl) ?_
          obtain ⟨r8, Ts_9, Ta_10, os_11, g12, h⟩ := zb4_s h
          have hFc := va_free (wc := (zwX Xo Po Go No Qo Ko Lo To oo ra (upd (upd Xs 12 ((Xs 12) + (1 : Int32))) 10 (0 : Int32)) ++ zwP cI Po Pp Ps Pa ++ zwG cI Go Gp Gs Ga ++ zwS cI No Np Go Ns Na ++ zwQ cI Qo Qp Qs Qa ++ zwS cI Ko Kp Go Ks Ka ++ zwQ cI Lo Lp Ls La ++ zwS cI To Tp Go Ts_36h Ta_36h ++ zwR cO ra oo ++ zwO (oo 0) (os_36h 0) ++ zwO (oo 1) (os_36h 1) ++ zwO (oo 2) (os_36h 2) ++ zwO (oo 3) (os_36h 3) ++ zwO (oo 4) (os_36h 4) ++ zwO (oo 5) (os_36h 5) ++ zwO (oo 6) (os_36h 6) ++ zwO (oo 7) (os_36h 7) ++ zwO (oo 8) (os_36h 8))) hD hS hA [0, 1, 2, 3, 4, 5, 6, 7, 8, 9, 10, 11, 12, 13, 14, 15, 16, 17, 18, 19, 20, 21, 22, 23, 24, 25, 26, 27, 28, 29, 30, 31, 32] rfl
          refine zcall_i (w2 := (zwX Xo Po Go No Qo Ko Lo To oo ra (upd (upd Xs 12 ((Xs 12) + (1 : Int32))) 10 (0 : Int32)) ++ zwP cI Po Pp Ps Pa ++ zwG cI Go Gp Gs Ga ++ zwS cI No Np Go Ns Na ++ zwQ cI Qo Qp Qs Qa ++ zwS cI Ko Kp Go Ks Ka ++ zwQ cI Lo Lp Ls La ++ zwS cI To Tp Go Ts_9 Ta_10 ++ zwR cO ra oo ++ zwO (oo 0) (os_11 0) ++ zwO (oo 1) (os_11 1) ++ zwO (oo 2) (os_11 2) ++ zwO (oo 3) (os_11 3) ++ zwO (oo 4) (os_11 4) ++ zwO (oo 5) (os_11 5) ++ zwO (oo 6) (os_11 6) ++ zwO (oo 7) (os_11 7) ++ zwO (oo 8) (os_11 8))) (va_runV (As := [.int x1_36h]) (rest := []) ⟨hx, hb, hml, hown, hts⟩ (c_X5_fewestWithOneMore l D cI cB cO Xo Po Pp Go Gp No Np Qo Qp Ko Kp Lo Lp To Tp ra oo (upd (upd Xs 12 ((Xs 12) + (1 : Int32))) 10 (0 : Int32)) Ps Pa Gs Ga Ns Na Qs Qa Ks Ka Ls La Ts_36h Ta_36h os_36h x1_36h _ _ _ _ _ g12) (cwV 1 hts gX5_add_X5_fewestWithOneMore rfl rfl rfl kV_X5_fewestWithOneMore ⟨Nat.le_trans (Nat.le_of_ble_eq_true rfl) hRf, Nat.le_trans (Nat.le_of_ble_eq_true rfl) hRl⟩) (zpreV hK hP hD hS hE hFc [0, 1, 2, 3, 4, 5, 6, 7, 8, 9, 10, 11, 12, 13, 14, 15, 16, 17, 18, 19, 20, 21, 22, 23, 24, 25, 26, 27, 28, 29, 30, 31, 32] rfl rfl 0 (ci := 5) rfl rfl [.int x1_36h]) rfl rfl hl.1 rfl (lv_room (Nat.le_of_ble_eq_true rfl)) dX5_add_55 ⟨Nat.zero_le _, Nat.zero_le _⟩) hP hD hS hFc [0, 1, 2, 3, 4, 5, 6, 7, 8, 9, 10, 11, 12, 13, 14, 15, 16, 17, 18, 19, 20, 21, 22, 23, 24, 25, 26, 27, 28, 29, 30, 31, 32] [] [0, 1, 2, 3, 4, 5, 6, 7, 8, 9, 10, 11, 12, 13, 14, 15, 16, 17, 18, 19, 20, 21, 22, 23, 24, 25, 26, 27, 28, 29, 30, 31, 32] 33 rfl rfl rfl rfl (fun H locs hP hD hS => ?_)
          refine lv_iconst (v := (1 : Int32)) hx hb dX5_add_58 (by decide) ?_
          refine lv_icmp_ne (tgt := 64) hx hb dX5_add_59 (by decide) (fun c13 => ?_) (fun c13 => ?_)
          · have h := zif_f c13 h
            exact K64 _ _ _ h _ _ _ hP hD hS (lv_sub hl [0, 1] rfl)
          · have h := zif_t c13 h
            exact KX62 _ _ _ _ (zr36 _ (zend h).symm).symm _ _ _ hP hD hS (lv_sub hl [1] rfl)
    · have h := zif_f c2 h
      refine lv_bipush (v := (-103 : Int32)) hx hb dX5_add_16 (by decide) ?_
      cases zend h
      exact hq hP hD hS dX5_add_18
set_option maxHeartbeats 4000000 in
set_option maxRecDepth 100000 in
theorem c_X5_mean (l : Launch) (D : va_G) (cI cB cO : ClassId) (Xo : Nat) (Po : Nat) (Pp : Nat → Nat) (Go : Nat) (Gp : Nat → Nat) (No : Nat) (Np : Nat → Nat) (Qo : Nat) (Qp : Nat → Nat) (Ko : Nat) (Kp : Nat → Nat) (Lo : Nat) (Lp : Nat → Nat) (To : Nat) (Tp : Nat → Nat) (ra : Nat) (oo : Nat → Nat) (Xs : Nat → Int32) (Ps : Nat → Int32) (Pa : Nat → Nat → Int32) (Gs : Nat → Int32) (Ga : Nat → Nat → Int32) (Ns : Nat → Int32) (Na : Nat → Nat → Int32) (Qs : Nat → Int32) (Qa : Nat → Nat → Int32) (Ks : Nat → Int32) (Ka : Nat → Nat → Int32) (Ls : Nat → Int32) (La : Nat → Nat → Int32) (Ts : Nat → Int32) (Ta : Nat → Nat → Int32) (os : Nat → Nat → Int32)  (rv : Int32) (Xs' : Nat → Int32) (Ts' : Nat → Int32) (Ta' : Nat → Nat → Int32) (os' : Nat → Nat → Int32) (sz : Nat) (h : fX5_mean Xs Gs Ga Ns Na Ts Ta os = some (rv, Xs', Ts', Ta', os')) : Met l yX5_mean wsX5_mean ({ frames := 13, cells := 0, slots := 0, locals := 346 } : Room) (va_Pc [.ref Xo] (zPre D (zTY cI cB cO) (zwX Xo Po Go No Qo Ko Lo To oo ra Xs ++ zwP cI Po Pp Ps Pa ++ zwG cI Go Gp Gs Ga ++ zwS cI No Np Go Ns Na ++ zwQ cI Qo Qp Qs Qa ++ zwS cI Ko Kp Go Ks Ka ++ zwQ cI Lo Lp Ls La ++ zwS cI To Tp Go Ts Ta ++ zwR cO ra oo ++ zwO (oo 0) (os 0) ++ zwO (oo 1) (os 1) ++ zwO (oo 2) (os 2) ++ zwO (oo 3) (os 3) ++ zwO (oo 4) (os 4) ++ zwO (oo 5) (os 5) ++ zwO (oo 6) (os 6) ++ zwO (oo 7) (os 7) ++ zwO (oo 8) (os 8)) sz)) (va_Qi (fun r (_ : Unit) => r = rv) (fun _ => zPost D (zTY cI cB cO) (zwX Xo Po Go No Qo Ko Lo To oo ra Xs' ++ zwP cI Po Pp Ps Pa ++ zwG cI Go Gp Gs Ga ++ zwS cI No Np Go Ns Na ++ zwQ cI Qo Qp Qs Qa ++ zwS cI Ko Kp Go Ks Ka ++ zwQ cI Lo Lp Ls La ++ zwS cI To Tp Go Ts' Ta' ++ zwR cO ra oo ++ zwO (oo 0) (os' 0) ++ zwO (oo 1) (os' 1) ++ zwO (oo 2) (os' 2) ++ zwO (oo 3) (os' 3) ++ zwO (oo 4) (os' 4) ++ zwO (oo 5) (os' 5) ++ zwO (oo 6) (os' 6) ++ zwO (oo 7) (os' 7) ++ zwO (oo 8) (os' 8)) (va_A (zwX Xo Po Go No Qo Ko Lo To oo ra Xs ++ zwP cI Po Pp Ps Pa ++ zwG cI Go Gp Gs Ga ++ zwS cI No Np Go Ns Na ++ zwQ cI Qo Qp Qs Qa ++ zwS cI Ko Kp Go Ks Ka ++ zwQ cI Lo Lp Ls La ++ zwS cI To Tp Go Ts Ta ++ zwR cO ra oo ++ zwO (oo 0) (os 0) ++ zwO (oo 1) (os 1) ++ zwO (oo 2) (os 2) ++ zwO (oo 3) (os 3) ++ zwO (oo 4) (os 4) ++ zwO (oo 5) (os 5) ++ zwO (oo 6) (os 6) ++ zwO (oo 7) (os 7) ++ zwO (oo 8) (os 8)) sz)) (va_A (zwX Xo Po Go No Qo Ko Lo To oo ra Xs ++ zwP cI Po Pp Ps Pa ++ zwG cI Go Gp Gs Ga ++ zwS cI No Np Go Ns Na ++ zwQ cI Qo Qp Qs Qa ++ zwS cI Ko Kp Go Ks Ka ++ zwQ cI Lo Lp Ls La ++ zwS cI To Tp Go Ts Ta ++ zwR cO ra oo ++ zwO (oo 0) (os 0) ++ zwO (oo 1) (os 1) ++ zwO (oo 2) (os 2) ++ zwO (oo 3) (os 3) ++ zwO (oo 4) (os 4) ++ zwO (oo 5) (os 5) ++ zwO (oo 6) (os 6) ++ zwO (oo 7) (os 7) ++ zwO (oo 8) (os 8)) sz)) 0 0 (va_A (zwX Xo Po Go No Qo Ko Lo To oo ra Xs ++ zwP cI Po Pp Ps Pa ++ zwG cI Go Gp Gs Ga ++ zwS cI No Np Go Ns Na ++ zwQ cI Qo Qp Qs Qa ++ zwS cI Ko Kp Go Ks Ka ++ zwQ cI Lo Lp Ls La ++ zwS cI To Tp Go Ts Ta ++ zwR cO ra oo ++ zwO (oo 0) (os 0) ++ zwO (oo 1) (os 1) ++ zwO (oo 2) (os 2) ++ zwO (oo 3) (os 3) ++ zwO (oo 4) (os 4) ++ zwO (oo 5) (os 5) ++ zwO (oo 6) (os 6) ++ zwO (oo 7) (os 7) ++ zwO (oo 8) (os 8)) sz) := by
  unfold fX5_mean at h
  refine zmet_i (cc := cX5_mean) (maxL := 1) (by decide) rfl (Nat.le_of_ble_eq_true rfl) rfl rfl ?_
  intro p e s m args below meth c R Q A ls hx hb hts hown hml hK hP hD hE hA hS hRf hRl hl hq
  have hown : s.vm.findClass RX5 = some m.cls := hown
  have hl : lv_has ls 1 [(0, .ref Xo)] := hl
  have inX5 : ∀ w ∈ u_ws RX5 TX5 13, w ∈ wsX5_mean := by decide +kernel
  have lk95 : (Cond.fieldLink RX5 95 "PegField" "reads" "I").before args s = true := hts _ (by decide +kernel)
  have lk51 : (Cond.fieldLink RX5 51 "PegField" "outlook" "LPegField$Outcome;").before args s = true := hts _ (by decide +kernel)
  have inX1 : ∀ w ∈ u_ws RX1 TX1 9, w ∈ wsX5_mean := by decide +kernel
  have lk200 : (Cond.fieldLinkNest RX5 200 "PegField$Outcome" "mean" "I" "PegField").before args s = true := hE.2.use (by decide +kernel)
  refine lv_aload_n hx hb dX5_mean_0 rfl (lv_at hl 0 rfl) ?_
  refine va_get (D := D) (ci := 5) (v := .int (Xs 11)) (C := RX5) (T := TX5) (N := 13) hx hb hts inX5 hown hK hP 0 rfl rfl 11 (by decide) lk95 (fun _ h9 => h9) rfl dX5_mean_1 ?_
  refine lv_if_ne (tgt := 10) hx hb dX5_mean_4 (by decide) (fun c1 => ?_) (fun c1 => ?_)
  · have h := zif_f c1 h
    refine lv_aload_n hx hb dX5_mean_10 rfl (lv_at hl 0 rfl) ?_
    obtain ⟨Xs_2, Ts_3, Ta_4, os_5, g6, h⟩ := zb4_s h
    have hFc := va_free (wc := (zwX Xo Po Go No Qo Ko Lo To oo ra Xs ++ zwP cI Po Pp Ps Pa ++ zwG cI Go Gp Gs Ga ++ zwS cI No Np Go Ns Na ++ zwQ cI Qo Qp Qs Qa ++ zwS cI Ko Kp Go Ks Ka ++ zwQ cI Lo Lp Ls La ++ zwS cI To Tp Go Ts Ta ++ zwR cO ra oo ++ zwO (oo 0) (os 0) ++ zwO (oo 1) (os 1) ++ zwO (oo 2) (os 2) ++ zwO (oo 3) (os 3) ++ zwO (oo 4) (os 4) ++ zwO (oo 5) (os 5) ++ zwO (oo 6) (os 6) ++ zwO (oo 7) (os 7) ++ zwO (oo 8) (os 8))) hD hS hA [0, 1, 2, 3, 4, 5, 6, 7, 8, 9, 10, 11, 12, 13, 14, 15, 16, 17, 18, 19, 20, 21, 22, 23, 24, 25, 26, 27, 28, 29, 30, 31, 32] rfl
    refine zcall_v (w2 := (zwX Xo Po Go No Qo Ko Lo To oo ra Xs_2 ++ zwP cI Po Pp Ps Pa ++ zwG cI Go Gp Gs Ga ++ zwS cI No Np Go Ns Na ++ zwQ cI Qo Qp Qs Qa ++ zwS cI Ko Kp Go Ks Ka ++ zwQ cI Lo Lp Ls La ++ zwS cI To Tp Go Ts_3 Ta_4 ++ zwR cO ra oo ++ zwO (oo 0) (os_5 0) ++ zwO (oo 1) (os_5 1) ++ zwO (oo 2) (os_5 2) ++ zwO (oo 3) (os_5 3) ++ zwO (oo 4) (os_5 4) ++ zwO (oo 5) (os_5 5) ++ zwO (oo 6) (os_5 6) ++ zwO (oo 7) (os_5 7) ++ zwO (oo 8) (os_5 8))) (va_runV (As := []) (rest := []) ⟨hx, hb, hml, hown, hts⟩ (c_X5_lookAhead l D cI cB cO Xo Po Pp Go Gp No Np Qo Qp Ko Kp Lo Lp To Tp ra oo Xs Ps Pa Gs Ga Ns Na Qs Qa Ks Ka Ls La Ts Ta os _ _ _ _ _ g6) (cwV 0 hts gX5_mean_X5_lookAhead rfl rfl rfl kV_X5_lookAhead ⟨Nat.le_trans (Nat.le_of_ble_eq_true rfl) hRf, Nat.le_trans (Nat.le_of_ble_eq_true rfl) hRl⟩) (zpreV hK hP hD hS hE hFc [0, 1, 2, 3, 4, 5, 6, 7, 8, 9, 10, 11, 12, 13, 14, 15, 16, 17, 18, 19, 20, 21, 22, 23, 24, 25, 26, 27, 28, 29, 30, 31, 32] rfl rfl 0 (ci := 5) rfl rfl []) rfl rfl hl.1 rfl (lv_room (Nat.le_of_ble_eq_true rfl)) dX5_mean_11 ⟨Nat.zero_le _, Nat.zero_le _⟩) hP hD hS hFc [0, 1, 2, 3, 4, 5, 6, 7, 8, 9, 10, 11, 12, 13, 14, 15, 16, 17, 18, 19, 20, 21, 22, 23, 24, 25, 26, 27, 28, 29, 30, 31, 32] [] [0, 1, 2, 3, 4, 5, 6, 7, 8, 9, 10, 11, 12, 13, 14, 15, 16, 17, 18, 19, 20, 21, 22, 23, 24, 25, 26, 27, 28, 29, 30, 31, 32] 33 rfl rfl rfl rfl (fun H locs hP hD hS => ?_)
    refine lv_aload_n hx hb dX5_mean_14 rfl (lv_at hl 0 rfl) ?_
    refine va_get (D := D) (ci := 5) (v := .ref (oo 0)) (C := RX5) (T := TX5) (N := 13) hx hb hts inX5 hown hK hP 0 rfl rfl 8 (by decide) lk51 (fun _ h9 => h9) rfl dX5_mean_15 ?_
    refine va_getN (D := D) (ci := 1) (v := .int ((os_5 0) 8)) (C := RX1) (T := TX1) (N := 9) hx hb hts inX1 hown hK hP 24 rfl rfl 8 (by decide) lk200 (fun _ h9 => h9) rfl dX5_mean_18 ?_
    cases zend h
    exact hq hP hD hS dX5_mean_21
  · have h := zif_t c1 h
    refine lv_bipush (v := (-103 : Int32)) hx hb dX5_mean_7 (by decide) ?_
    cases zend h
    exact hq hP hD hS dX5_mean_9
set_option maxHeartbeats 4000000 in
set_option maxRecDepth 100000 in
theorem c_X5_see (l : Launch) (D : va_G) (cI cB cO : ClassId) (Xo : Nat) (Po : Nat) (Pp : Nat → Nat) (Go : Nat) (Gp : Nat → Nat) (No : Nat) (Np : Nat → Nat) (Qo : Nat) (Qp : Nat → Nat) (Ko : Nat) (Kp : Nat → Nat) (Lo : Nat) (Lp : Nat → Nat) (To : Nat) (Tp : Nat → Nat) (ra : Nat) (oo : Nat → Nat) (Xs : Nat → Int32) (Ps : Nat → Int32) (Pa : Nat → Nat → Int32) (Gs : Nat → Int32) (Ga : Nat → Nat → Int32) (Ns : Nat → Int32) (Na : Nat → Nat → Int32) (Qs : Nat → Int32) (Qa : Nat → Nat → Int32) (Ks : Nat → Int32) (Ka : Nat → Nat → Int32) (Ls : Nat → Int32) (La : Nat → Nat → Int32) (Ts : Nat → Int32) (Ta : Nat → Nat → Int32) (os : Nat → Nat → Int32) (a0 : Int32) (a1 : Int32) (a2 : Int32) (rv : Int32) (Qs' : Nat → Int32) (Qa' : Nat → Nat → Int32) (sz : Nat) (h : fX5_see Ns Qs Qa a0 a1 a2 = some (rv, Qs', Qa')) : Met l yX5_see wsX5_see ({ frames := 1, cells := 0, slots := 0, locals := 22 } : Room) (va_Pc [.ref Xo, .int a0, .int a1, .int a2] (zPre D (zTY cI cB cO) (zwX Xo Po Go No Qo Ko Lo To oo ra Xs ++ zwP cI Po Pp Ps Pa ++ zwG cI Go Gp Gs Ga ++ zwS cI No Np Go Ns Na ++ zwQ cI Qo Qp Qs Qa ++ zwS cI Ko Kp Go Ks Ka ++ zwQ cI Lo Lp Ls La ++ zwS cI To Tp Go Ts Ta ++ zwR cO ra oo ++ zwO (oo 0) (os 0) ++ zwO (oo 1) (os 1) ++ zwO (oo 2) (os 2) ++ zwO (oo 3) (os 3) ++ zwO (oo 4) (os 4) ++ zwO (oo 5) (os 5) ++ zwO (oo 6) (os 6) ++ zwO (oo 7) (os 7) ++ zwO (oo 8) (os 8)) sz)) (va_Qi (fun r (_ : Unit) => r = rv) (fun _ => zPost D (zTY cI cB cO) (zwX Xo Po Go No Qo Ko Lo To oo ra Xs ++ zwP cI Po Pp Ps Pa ++ zwG cI Go Gp Gs Ga ++ zwS cI No Np Go Ns Na ++ zwQ cI Qo Qp Qs' Qa' ++ zwS cI Ko Kp Go Ks Ka ++ zwQ cI Lo Lp Ls La ++ zwS cI To Tp Go Ts Ta ++ zwR cO ra oo ++ zwO (oo 0) (os 0) ++ zwO (oo 1) (os 1) ++ zwO (oo 2) (os 2) ++ zwO (oo 3) (os 3) ++ zwO (oo 4) (os 4) ++ zwO (oo 5) (os 5) ++ zwO (oo 6) (os 6) ++ zwO (oo 7) (os 7) ++ zwO (oo 8) (os 8)) (va_A (zwX Xo Po Go No Qo Ko Lo To oo ra Xs ++ zwP cI Po Pp Ps Pa ++ zwG cI Go Gp Gs Ga ++ zwS cI No Np Go Ns Na ++ zwQ cI Qo Qp Qs Qa ++ zwS cI Ko Kp Go Ks Ka ++ zwQ cI Lo Lp Ls La ++ zwS cI To Tp Go Ts Ta ++ zwR cO ra oo ++ zwO (oo 0) (os 0) ++ zwO (oo 1) (os 1) ++ zwO (oo 2) (os 2) ++ zwO (oo 3) (os 3) ++ zwO (oo 4) (os 4) ++ zwO (oo 5) (os 5) ++ zwO (oo 6) (os 6) ++ zwO (oo 7) (os 7) ++ zwO (oo 8) (os 8)) sz)) (va_A (zwX Xo Po Go No Qo Ko Lo To oo ra Xs ++ zwP cI Po Pp Ps Pa ++ zwG cI Go Gp Gs Ga ++ zwS cI No Np Go Ns Na ++ zwQ cI Qo Qp Qs Qa ++ zwS cI Ko Kp Go Ks Ka ++ zwQ cI Lo Lp Ls La ++ zwS cI To Tp Go Ts Ta ++ zwR cO ra oo ++ zwO (oo 0) (os 0) ++ zwO (oo 1) (os 1) ++ zwO (oo 2) (os 2) ++ zwO (oo 3) (os 3) ++ zwO (oo 4) (os 4) ++ zwO (oo 5) (os 5) ++ zwO (oo 6) (os 6) ++ zwO (oo 7) (os 7) ++ zwO (oo 8) (os 8)) sz)) 0 0 (va_A (zwX Xo Po Go No Qo Ko Lo To oo ra Xs ++ zwP cI Po Pp Ps Pa ++ zwG cI Go Gp Gs Ga ++ zwS cI No Np Go Ns Na ++ zwQ cI Qo Qp Qs Qa ++ zwS cI Ko Kp Go Ks Ka ++ zwQ cI Lo Lp Ls La ++ zwS cI To Tp Go Ts Ta ++ zwR cO ra oo ++ zwO (oo 0) (os 0) ++ zwO (oo 1) (os 1) ++ zwO (oo 2) (os 2) ++ zwO (oo 3) (os 3) ++ zwO (oo 4) (os 4) ++ zwO (oo 5) (os 5) ++ zwO (oo 6) (os 6) ++ zwO (oo 7) (os 7) ++ zwO (oo 8) (os 8)) sz) := by
  unfold fX5_see at h
  refine zmet_i (cc := cX5_see) (maxL := 5) (by decide) rfl (Nat.le_of_ble_eq_true rfl) rfl rfl ?_
  intro p e s m args below meth c R Q A ls hx hb hts hown hml hK hP hD hE hA hS hRf hRl hl hq
  have hown : s.vm.findClass RX5 = some m.cls := hown
  have hl : lv_has ls 5 [(0, .ref Xo), (1, .int a0), (2, .int a1), (3, .int a2)] := hl
  obtain ⟨tWHO_COULD, zzWHO_COULD, ztWHO_COULD⟩ := hE.1.2.2.1
  have inX5 : ∀ w ∈ u_ws RX5 TX5 13, w ∈ wsX5_see := by decide +kernel
  have lk28 : (Cond.fieldLink RX5 28 "PegField" "now" "LPegField$State;").before args s = true := hts _ (by decide +kernel)
  have lk203 : (Cond.fieldLink RX5 203 "PegField" "WHO_COULD" "[I").before args s = true := hts _ (by decide +kernel)
  have lk35 : (Cond.fieldLink RX5 35 "PegField" "seen" "LPegField$Seen;").before args s = true := hts _ (by decide +kernel)
  have inX3 : ∀ w ∈ u_ws RX3 TX3 3, w ∈ wsX5_see := by decide +kernel
  have lk87 : (Cond.fieldLinkNest RX5 87 "PegField$Seen" "size" "I" "PegField").before args s = true := hE.2.use (by decide +kernel)
  refine lv_aload_n hx hb dX5_see_0 rfl (lv_at hl 0 rfl) ?_
  refine va_get (D := D) (ci := 5) (v := .ref No) (C := RX5) (T := TX5) (N := 13) hx hb hts inX5 hown hK hP 0 rfl rfl 2 (by decide) lk28 (fun _ h9 => h9) rfl dX5_see_1 ?_
  refine lv_iload_n hx hb dX5_see_4 rfl (lv_at hl 1 rfl) ?_
  obtain ⟨r1, g2, h⟩ := zb1_s h
  have hFc := va_free (wc := (zwS cI No Np Go Ns Na)) hD hS hA [5, 6, 7, 8] rfl
  refine zcall_i (w2 := (zwX Xo Po Go No Qo Ko Lo To oo ra Xs ++ zwP cI Po Pp Ps Pa ++ zwG cI Go Gp Gs Ga ++ zwS cI No Np Go Ns Na ++ zwQ cI Qo Qp Qs Qa ++ zwS cI Ko Kp Go Ks Ka ++ zwQ cI Lo Lp Ls La ++ zwS cI To Tp Go Ts Ta ++ zwR cO ra oo ++ zwO (oo 0) (os 0) ++ zwO (oo 1) (os 1) ++ zwO (oo 2) (os 2) ++ zwO (oo 3) (os 3) ++ zwO (oo 4) (os 4) ++ zwO (oo 5) (os 5) ++ zwO (oo 6) (os 6) ++ zwO (oo 7) (os 7) ++ zwO (oo 8) (os 8))) (va_runV (As := [.int a0]) (rest := []) ⟨hx, hb, hml, hown, hts⟩ (c_X4_isPeg l D cI cB cO No Np Go Ns Na a0 _ _ g2) (cwV 1 hts gX5_see_X4_isPeg rfl rfl rfl kV_X4_isPeg ⟨Nat.le_trans (Nat.le_of_ble_eq_true rfl) hRf, Nat.le_trans (Nat.le_of_ble_eq_true rfl) hRl⟩) (zpreV hK hP hD hS hE hFc [5, 6, 7, 8] rfl rfl 5 (ci := 4) rfl rfl [.int a0]) rfl rfl hl.1 rfl (lv_room (Nat.le_of_ble_eq_true rfl)) dX5_see_5 ⟨Nat.zero_le _, Nat.zero_le _⟩) hP hD hS hFc [5, 6, 7, 8] [0, 1, 2, 3, 4, 9, 10, 11, 12, 13, 14, 15, 16, 17, 18, 19, 20, 21, 22, 23, 24, 25, 26, 27, 28, 29, 30, 31, 32] [0, 1, 2, 3, 4, 29, 30, 31, 32, 5, 6, 7, 8, 9, 10, 11, 12, 13, 14, 15, 16, 17, 18, 19, 20, 21, 22, 23, 24, 25, 26, 27, 28] 33 rfl rfl rfl rfl (fun H locs hP hD hS => ?_)
  refine lv_if_ne (tgt := 14) hx hb dX5_see_8 (by decide) (fun c3 => ?_) (fun c3 => ?_)
  · have h := zif_f c3 h
    refine lv_iload_n hx hb dX5_see_14 rfl (lv_at hl 2 rfl) ?_
    refine lv_if_lt (tgt := 23) hx hb dX5_see_15 (by decide) (fun c4 => ?_) (fun c4 => ?_)
    · have h := zif_t c4 h
      refine lv_bipush (v := (-102 : Int32)) hx hb dX5_see_23 (by decide) ?_
      cases zend h
      exact hq hP hD hS dX5_see_25
    · have h := zif_f c4 h
      refine lv_iload_n hx hb dX5_see_18 rfl (lv_at hl 2 rfl) ?_
      refine lv_iconst (v := (4 : Int32)) hx hb dX5_see_19 (by decide) ?_
      refine lv_icmp_lt (tgt := 26) hx hb dX5_see_20 (by decide) (fun c5 => ?_) (fun c5 => ?_)
      · have h := zif_t c5 h
        refine lv_iload_n hx hb dX5_see_26 rfl (lv_at hl 3 rfl) ?_
        obtain ⟨v48, j11, h⟩ := zb1_s h
        have K48 : ∀ (H : Heap) (locs : List Loc) (ls : Array Slot), va_P D vwCl (zwX Xo Po Go No Qo Ko Lo To oo ra Xs ++ zwP cI Po Pp Ps Pa ++ zwG cI Go Gp Gs Ga ++ zwS cI No Np Go Ns Na ++ zwQ cI Qo Qp Qs Qa ++ zwS cI Ko Kp Go Ks Ka ++ zwQ cI Lo Lp Ls La ++ zwS cI To Tp Go Ts Ta ++ zwR cO ra oo ++ zwO (oo 0) (os 0) ++ zwO (oo 1) (os 1) ++ zwO (oo 2) (os 2) ++ zwO (oo 3) (os 3) ++ zwO (oo 4) (os 4) ++ zwO (oo 5) (os 5) ++ zwO (oo 6) (os 6) ++ zwO (oo 7) (os 7) ++ zwO (oo 8) (os 8)) H → va_D A (zwX Xo Po Go No Qo Ko Lo To oo ra Xs ++ zwP cI Po Pp Ps Pa ++ zwG cI Go Gp Gs Ga ++ zwS cI No Np Go Ns Na ++ zwQ cI Qo Qp Qs Qa ++ zwS cI Ko Kp Go Ks Ka ++ zwQ cI Lo Lp Ls La ++ zwS cI To Tp Go Ts Ta ++ zwR cO ra oo ++ zwO (oo 0) (os 0) ++ zwO (oo 1) (os 1) ++ zwO (oo 2) (os 2) ++ zwO (oo 3) (os 3) ++ zwO (oo 4) (os 4) ++ zwO (oo 5) (os 5) ++ zwO (oo 6) (os 6) ++ zwO (oo 7) (os 7) ++ zwO (oo 8) (os 8)) → va_S A s.heap H locs → lv_has ls 5 [(0, .ref Xo), (1, .int a0)] → W p l e R s m args below meth c H locs 0 0 Q (F0 m 48 ls [.int v48]) := by
          intro H locs ls hP hD hS hl
          refine lv_istore (lv' := [(4, .int v48), (0, .ref Xo), (1, .int a0)]) hx hb dX5_see_48 hl (by decide) rfl (fun ls hl => ?_)
          refine lv_aload_n hx hb dX5_see_50 rfl (lv_at hl 1 rfl) ?_
          refine va_get (D := D) (ci := 5) (v := .ref Qo) (C := RX5) (T := TX5) (N := 13) hx hb hts inX5 hown hK hP 0 rfl rfl 3 (by decide) lk35 (fun _ h9 => h9) rfl dX5_see_51 ?_
          refine lv_iload_n hx hb dX5_see_54 rfl (lv_at hl 2 rfl) ?_
          refine lv_iload hx hb dX5_see_55 (lv_at hl 0 rfl) ?_
          obtain ⟨r6, Qs_7, Qa_8, g9, h⟩ := zb3_s h
          have hFc := va_free (wc := (zwQ cI Qo Qp Qs Qa)) hD hS hA [9, 10, 11] rfl
          refine zcall_i (w2 := (zwX Xo Po Go No Qo Ko Lo To oo ra Xs ++ zwP cI Po Pp Ps Pa ++ zwG cI Go Gp Gs Ga ++ zwS cI No Np Go Ns Na ++ zwQ cI Qo Qp Qs_7 Qa_8 ++ zwS cI Ko Kp Go Ks Ka ++ zwQ cI Lo Lp Ls La ++ zwS cI To Tp Go Ts Ta ++ zwR cO ra oo ++ zwO (oo 0) (os 0) ++ zwO (oo 1) (os 1) ++ zwO (oo 2) (os 2) ++ zwO (oo 3) (os 3) ++ zwO (oo 4) (os 4) ++ zwO (oo 5) (os 5) ++ zwO (oo 6) (os 6) ++ zwO (oo 7) (os 7) ++ zwO (oo 8) (os 8))) (va_runV (As := [.int a0, .int v48]) (rest := []) ⟨hx, hb, hml, hown, hts⟩ (c_X3_append l D cI cB cO Qo Qp Qs Qa a0 v48 _ _ _ _ g9) (cwV 2 hts gX5_see_X3_append rfl rfl rfl kV_X3_append ⟨Nat.le_trans (Nat.le_of_ble_eq_true rfl) hRf, Nat.le_trans (Nat.le_of_ble_eq_true rfl) hRl⟩) (zpreV hK hP hD hS hE hFc [9, 10, 11] rfl rfl 9 (ci := 3) rfl rfl [.int a0, .int v48]) rfl rfl hl.1 rfl (lv_room (Nat.le_of_ble_eq_true rfl)) dX5_see_57 ⟨Nat.zero_le _, Nat.zero_le _⟩) hP hD hS hFc [9, 10, 11] [0, 1, 2, 3, 4, 5, 6, 7, 8, 12, 13, 14, 15, 16, 17, 18, 19, 20, 21, 22, 23, 24, 25, 26, 27, 28, 29, 30, 31, 32] [0, 1, 2, 3, 4, 5, 6, 7, 8, 30, 31, 32, 9, 10, 11, 12, 13, 14, 15, 16, 17, 18, 19, 20, 21, 22, 23, 24, 25, 26, 27, 28, 29] 33 rfl rfl rfl rfl (fun H locs hP hD hS => ?_)
          refine lv_if_eq (tgt := 73) hx hb dX5_see_60 (by decide) (fun c10 => ?_) (fun c10 => ?_)
          · have h := zif_t c10 h
            refine lv_bipush (v := (-104 : Int32)) hx hb dX5_see_73 (by decide) ?_
            cases zend h
            exact hq hP hD hS dX5_see_75
          · have h := zif_f c10 h
            refine lv_aload_n hx hb dX5_see_63 rfl (lv_at hl 1 rfl) ?_
            refine va_get (D := D) (ci := 5) (v := .ref Qo) (C := RX5) (T := TX5) (N := 13) hx hb hts inX5 hown hK hP 0 rfl rfl 3 (by decide) lk35 (fun _ h9 => h9) rfl dX5_see_64 ?_
            refine va_getN (D := D) (ci := 3) (v := .int (Qs_7 2)) (C := RX3) (T := TX3) (N := 3) hx hb hts inX3 hown hK hP 9 rfl rfl 2 (by decide) lk87 (fun _ h9 => h9) rfl dX5_see_67 ?_
            refine lv_goto (tgt := 75) hx hb dX5_see_70 (by decide) ?_
            cases zend h
            exact hq hP hD hS dX5_see_75
        clear h
        have h := j11
        clear j11
        refine lv_if_eq (tgt := 38) hx hb dX5_see_27 (by decide) (fun c12 => ?_) (fun c12 => ?_)
        · have h := zif_t c12 h
          refine lv_bipush (v := (31 : Int32)) hx hb dX5_see_38 (by decide) ?_
          refine va_gets hx hb zzWHO_COULD hS hown lk203 (fun _ h9 => h9) dX5_see_40 ?_
          refine lv_iload_n hx hb dX5_see_43 rfl (lv_at hl 2 rfl) ?_
          obtain ⟨z13, h⟩ := zck_s h
          refine va_ti (v := .int (zWC (a1).toNatClampNeg)) hx hb ztWHO_COULD hS (zin_s z13) rfl dX5_see_44 ?_
          refine lv_iconst (v := (-1 : Int32)) hx hb dX5_see_45 (by decide) ?_
          refine lv_ixor hx hb dX5_see_46 ?_
          refine lv_iand hx hb dX5_see_47 ?_
          cases zend h
          exact K48 _ _ _ hP hD hS (lv_sub hl [0, 1] rfl)
        · have h := zif_f c12 h
          refine va_gets hx hb zzWHO_COULD hS hown lk203 (fun _ h9 => h9) dX5_see_30 ?_
          refine lv_iload_n hx hb dX5_see_33 rfl (lv_at hl 2 rfl) ?_
          obtain ⟨z14, h⟩ := zck_s h
          refine va_ti (v := .int (zWC (a1).toNatClampNeg)) hx hb ztWHO_COULD hS (zin_s z14) rfl dX5_see_34 ?_
          refine lv_goto (tgt := 48) hx hb dX5_see_35 (by decide) ?_
          cases zend h
          exact K48 _ _ _ hP hD hS (lv_sub hl [0, 1] rfl)
      · have h := zif_f c5 h
        refine lv_bipush (v := (-102 : Int32)) hx hb dX5_see_23 (by decide) ?_
        cases zend h
        exact hq hP hD hS dX5_see_25
  · have h := zif_t c3 h
    refine lv_bipush (v := (-101 : Int32)) hx hb dX5_see_11 (by decide) ?_
    cases zend h
    exact hq hP hD hS dX5_see_13
set_option maxHeartbeats 4000000 in
set_option maxRecDepth 100000 in
theorem c_X5_forget (l : Launch) (D : va_G) (cI cB cO : ClassId) (Xo : Nat) (Po : Nat) (Pp : Nat → Nat) (Go : Nat) (Gp : Nat → Nat) (No : Nat) (Np : Nat → Nat) (Qo : Nat) (Qp : Nat → Nat) (Ko : Nat) (Kp : Nat → Nat) (Lo : Nat) (Lp : Nat → Nat) (To : Nat) (Tp : Nat → Nat) (ra : Nat) (oo : Nat → Nat) (Xs : Nat → Int32) (Ps : Nat → Int32) (Pa : Nat → Nat → Int32) (Gs : Nat → Int32) (Ga : Nat → Nat → Int32) (Ns : Nat → Int32) (Na : Nat → Nat → Int32) (Qs : Nat → Int32) (Qa : Nat → Nat → Int32) (Ks : Nat → Int32) (Ka : Nat → Nat → Int32) (Ls : Nat → Int32) (La : Nat → Nat → Int32) (Ts : Nat → Int32) (Ta : Nat → Nat → Int32) (os : Nat → Nat → Int32)  (rv : Int32) (Qs' : Nat → Int32) (sz : Nat) (h : fX5_forget Qs = some (rv, Qs')) : Met l yX5_forget wsX5_forget ({ frames := 0, cells := 0, slots := 0, locals := 0 } : Room) (va_Pc [.ref Xo] (zPre D (zTY cI cB cO) (zwX Xo Po Go No Qo Ko Lo To oo ra Xs ++ zwP cI Po Pp Ps Pa ++ zwG cI Go Gp Gs Ga ++ zwS cI No Np Go Ns Na ++ zwQ cI Qo Qp Qs Qa ++ zwS cI Ko Kp Go Ks Ka ++ zwQ cI Lo Lp Ls La ++ zwS cI To Tp Go Ts Ta ++ zwR cO ra oo ++ zwO (oo 0) (os 0) ++ zwO (oo 1) (os 1) ++ zwO (oo 2) (os 2) ++ zwO (oo 3) (os 3) ++ zwO (oo 4) (os 4) ++ zwO (oo 5) (os 5) ++ zwO (oo 6) (os 6) ++ zwO (oo 7) (os 7) ++ zwO (oo 8) (os 8)) sz)) (va_Qi (fun r (_ : Unit) => r = rv) (fun _ => zPost D (zTY cI cB cO) (zwX Xo Po Go No Qo Ko Lo To oo ra Xs ++ zwP cI Po Pp Ps Pa ++ zwG cI Go Gp Gs Ga ++ zwS cI No Np Go Ns Na ++ zwQ cI Qo Qp Qs' Qa ++ zwS cI Ko Kp Go Ks Ka ++ zwQ cI Lo Lp Ls La ++ zwS cI To Tp Go Ts Ta ++ zwR cO ra oo ++ zwO (oo 0) (os 0) ++ zwO (oo 1) (os 1) ++ zwO (oo 2) (os 2) ++ zwO (oo 3) (os 3) ++ zwO (oo 4) (os 4) ++ zwO (oo 5) (os 5) ++ zwO (oo 6) (os 6) ++ zwO (oo 7) (os 7) ++ zwO (oo 8) (os 8)) (va_A (zwX Xo Po Go No Qo Ko Lo To oo ra Xs ++ zwP cI Po Pp Ps Pa ++ zwG cI Go Gp Gs Ga ++ zwS cI No Np Go Ns Na ++ zwQ cI Qo Qp Qs Qa ++ zwS cI Ko Kp Go Ks Ka ++ zwQ cI Lo Lp Ls La ++ zwS cI To Tp Go Ts Ta ++ zwR cO ra oo ++ zwO (oo 0) (os 0) ++ zwO (oo 1) (os 1) ++ zwO (oo 2) (os 2) ++ zwO (oo 3) (os 3) ++ zwO (oo 4) (os 4) ++ zwO (oo 5) (os 5) ++ zwO (oo 6) (os 6) ++ zwO (oo 7) (os 7) ++ zwO (oo 8) (os 8)) sz)) (va_A (zwX Xo Po Go No Qo Ko Lo To oo ra Xs ++ zwP cI Po Pp Ps Pa ++ zwG cI Go Gp Gs Ga ++ zwS cI No Np Go Ns Na ++ zwQ cI Qo Qp Qs Qa ++ zwS cI Ko Kp Go Ks Ka ++ zwQ cI Lo Lp Ls La ++ zwS cI To Tp Go Ts Ta ++ zwR cO ra oo ++ zwO (oo 0) (os 0) ++ zwO (oo 1) (os 1) ++ zwO (oo 2) (os 2) ++ zwO (oo 3) (os 3) ++ zwO (oo 4) (os 4) ++ zwO (oo 5) (os 5) ++ zwO (oo 6) (os 6) ++ zwO (oo 7) (os 7) ++ zwO (oo 8) (os 8)) sz)) 0 0 (va_A (zwX Xo Po Go No Qo Ko Lo To oo ra Xs ++ zwP cI Po Pp Ps Pa ++ zwG cI Go Gp Gs Ga ++ zwS cI No Np Go Ns Na ++ zwQ cI Qo Qp Qs Qa ++ zwS cI Ko Kp Go Ks Ka ++ zwQ cI Lo Lp Ls La ++ zwS cI To Tp Go Ts Ta ++ zwR cO ra oo ++ zwO (oo 0) (os 0) ++ zwO (oo 1) (os 1) ++ zwO (oo 2) (os 2) ++ zwO (oo 3) (os 3) ++ zwO (oo 4) (os 4) ++ zwO (oo 5) (os 5) ++ zwO (oo 6) (os 6) ++ zwO (oo 7) (os 7) ++ zwO (oo 8) (os 8)) sz) := by
  unfold fX5_forget at h
  refine zmet_i (cc := cX5_forget) (maxL := 2) (by decide) rfl (Nat.le_of_ble_eq_true rfl) rfl rfl ?_
  intro p e s m args below meth c R Q A ls hx hb hts hown hml hK hP hD hE hA hS hRf hRl hl hq
  have hown : s.vm.findClass RX5 = some m.cls := hown
  have hl : lv_has ls 2 [(0, .ref Xo)] := hl
  have inX5 : ∀ w ∈ u_ws RX5 TX5 13, w ∈ wsX5_forget := by decide +kernel
  have lk35 : (Cond.fieldLink RX5 35 "PegField" "seen" "LPegField$Seen;").before args s = true := hts _ (by decide +kernel)
  have inX3 : ∀ w ∈ u_ws RX3 TX3 3, w ∈ wsX5_forget := by decide +kernel
  have lk87 : (Cond.fieldLinkNest RX5 87 "PegField$Seen" "size" "I" "PegField").before args s = true := hE.2.use (by decide +kernel)
  refine lv_aload_n hx hb dX5_forget_0 rfl (lv_at hl 0 rfl) ?_
  refine va_get (D := D) (ci := 5) (v := .ref Qo) (C := RX5) (T := TX5) (N := 13) hx hb hts inX5 hown hK hP 0 rfl rfl 3 (by decide) lk35 (fun _ h9 => h9) rfl dX5_forget_1 ?_
  refine va_getN (D := D) (ci := 3) (v := .int (Qs 2)) (C := RX3) (T := TX3) (N := 3) hx hb hts inX3 hown hK hP 9 rfl rfl 2 (by decide) lk87 (fun _ h9 => h9) rfl dX5_forget_4 ?_
  refine lv_topi (fun x1_1 ex1_1 => ?_)
  have h := zlt_s h ex1_1
  refine lv_istore_n (lv' := [(1, .int x1_1), (0, .ref Xo)]) hx hb dX5_forget_7 rfl hl (by decide) rfl (fun ls hl => ?_)
  refine lv_aload_n hx hb dX5_forget_8 rfl (lv_at hl 1 rfl) ?_
  refine va_get (D := D) (ci := 5) (v := .ref Qo) (C := RX5) (T := TX5) (N := 13) hx hb hts inX5 hown hK hP 0 rfl rfl 3 (by decide) lk35 (fun _ h9 => h9) rfl dX5_forget_9 ?_
  refine lv_iconst (v := (0 : Int32)) hx hb dX5_forget_12 (by decide) ?_
  refine va_putN (D := D) (ci := 3) (v := .int (0 : Int32)) (ty := .int) (C := RX3) (T := TX3) (N := 3) hx hb hts inX3 tyX3 tyX3_ok nmX3 hown hK hP hD hS 9 rfl rfl 2 (by decide) lk87 (fun _ h9 => h9) rfl (by decide +kernel) rfl rfl (Nat.le_of_ble_eq_true rfl) dX5_forget_13 (fun H locs hP hD hS => ?_)
  have hP : va_P D vwCl (zwX Xo Po Go No Qo Ko Lo To oo ra Xs ++ zwP cI Po Pp Ps Pa ++ zwG cI Go Gp Gs Ga ++ zwS cI No Np Go Ns Na ++ zwQ cI Qo Qp (upd Qs 2 (0 : Int32)) Qa ++ zwS cI Ko Kp Go Ks Ka ++ zwQ cI Lo Lp Ls La ++ zwS cI To Tp Go Ts Ta ++ zwR cO ra oo ++ zwO (oo 0) (os 0) ++ zwO (oo 1) (os 1) ++ zwO (oo 2) (os 2) ++ zwO (oo 3) (os 3) ++ zwO (oo 4) (os 4) ++ zwO (oo 5) (os 5) ++ zwO (oo 6) (os 6) ++ zwO (oo 7) (os 7) ++ zwO (oo 8) (os 8)) H := hP
  have hD : va_D A (zwX Xo Po Go No Qo Ko Lo To oo ra Xs ++ zwP cI Po Pp Ps Pa ++ zwG cI Go Gp Gs Ga ++ zwS cI No Np Go Ns Na ++ zwQ cI Qo Qp (upd Qs 2 (0 : Int32)) Qa ++ zwS cI Ko Kp Go Ks Ka ++ zwQ cI Lo Lp Ls La ++ zwS cI To Tp Go Ts Ta ++ zwR cO ra oo ++ zwO (oo 0) (os 0) ++ zwO (oo 1) (os 1) ++ zwO (oo 2) (os 2) ++ zwO (oo 3) (os 3) ++ zwO (oo 4) (os 4) ++ zwO (oo 5) (os 5) ++ zwO (oo 6) (os 6) ++ zwO (oo 7) (os 7) ++ zwO (oo 8) (os 8)) := hD
  refine lv_iload_n hx hb dX5_forget_16 rfl (lv_at hl 0 rfl) ?_
  cases zend h
  exact hq hP hD hS dX5_forget_17
set_option maxHeartbeats 4000000 in
set_option maxRecDepth 100000 in
theorem c_X5_nextSeed (l : Launch) (D : va_G) (cI cB cO : ClassId)   (a0 : Int64) (rv : Int64) (sz : Nat) (h : fX5_nextSeed a0 = some rv) : Met l yX5_nextSeed wsX5_nextSeed ({ frames := 0, cells := 0, slots := 0, locals := 0 } : Room) (va_Pc [.long a0] (zPre D (zTY cI cB cO) ([] : va_W) sz)) (va_Ql (fun r (_ : Unit) => r = rv) (fun _ => zPost D (zTY cI cB cO) ([] : va_W) (va_A ([] : va_W) sz)) (va_A ([] : va_W) sz)) 0 0 (va_A ([] : va_W) sz) := by
  unfold fX5_nextSeed at h
  refine zmet_l (cc := cX5_nextSeed) (maxL := 2) (by decide) rfl (Nat.le_of_ble_eq_true rfl) rfl rfl ?_
  intro p e s m args below meth c R Q A ls hx hb hts hown hml hK hP hD hE hA hS hRf hRl hl hq
  have hown : s.vm.findClass RX5 = some m.cls := hown
  have hl : lv_has ls 2 [(0, .long a0)] := hl
  refine lv_ldc2 (v := (1103515245 : Int64)) hx hb hown (hts (.constantLong RX5 288 (1103515245)) (by decide +kernel)) dX5_nextSeed_0 ?_
  refine lv_lload_n hx hb dX5_nextSeed_3 rfl (lv_at hl 0 rfl) ?_
  refine lv_lmul hx hb dX5_nextSeed_4 ?_
  refine lv_ldc2 (v := (12345 : Int64)) hx hb hown (hts (.constantLong RX5 290 (12345)) (by decide +kernel)) dX5_nextSeed_5 ?_
  refine lv_ladd hx hb dX5_nextSeed_8 ?_
  refine lv_ldc2 (v := (2147483648 : Int64)) hx hb hown (hts (.constantLong RX5 292 (2147483648)) (by decide +kernel)) dX5_nextSeed_9 ?_
  refine lv_lrem hx hb dX5_nextSeed_12 (by decide) ?_
  cases zend h
  exact hq hP hD hS dX5_nextSeed_13
set_option maxHeartbeats 4000000 in
set_option maxRecDepth 100000 in
theorem c_X5_runs (l : Launch) (D : va_G) (cI cB cO : ClassId) (Xo : Nat) (Po : Nat) (Pp : Nat → Nat) (Go : Nat) (Gp : Nat → Nat) (No : Nat) (Np : Nat → Nat) (Qo : Nat) (Qp : Nat → Nat) (Ko : Nat) (Kp : Nat → Nat) (Lo : Nat) (Lp : Nat → Nat) (To : Nat) (Tp : Nat → Nat) (ra : Nat) (oo : Nat → Nat) (Xs : Nat → Int32) (Ps : Nat → Int32) (Pa : Nat → Nat → Int32) (Gs : Nat → Int32) (Ga : Nat → Nat → Int32) (Ns : Nat → Int32) (Na : Nat → Nat → Int32) (Qs : Nat → Int32) (Qa : Nat → Nat → Int32) (Ks : Nat → Int32) (Ka : Nat → Nat → Int32) (Ls : Nat → Int32) (La : Nat → Nat → Int32) (Ts : Nat → Int32) (Ta : Nat → Nat → Int32) (os : Nat → Nat → Int32) (a0 : Int32) (a1 : Int32) (a2 : Int32) (rv : Int32) (Ts' : Nat → Int32) (Ta' : Nat → Nat → Int32) (sz : Nat) (h : fX5_runs Xs Gs Ga Ns Na Ts Ta a0 a1 a2 = some (rv, Ts', Ta')) : Met l yX5_runs wsX5_runs ({ frames := 5, cells := 0, slots := 0, locals := 115 } : Room) (va_Pc [.ref Xo, .int a0, .int a1, .int a2] (zPre D (zTY cI cB cO) (zwX Xo Po Go No Qo Ko Lo To oo ra Xs ++ zwP cI Po Pp Ps Pa ++ zwG cI Go Gp Gs Ga ++ zwS cI No Np Go Ns Na ++ zwQ cI Qo Qp Qs Qa ++ zwS cI Ko Kp Go Ks Ka ++ zwQ cI Lo Lp Ls La ++ zwS cI To Tp Go Ts Ta ++ zwR cO ra oo ++ zwO (oo 0) (os 0) ++ zwO (oo 1) (os 1) ++ zwO (oo 2) (os 2) ++ zwO (oo 3) (os 3) ++ zwO (oo 4) (os 4) ++ zwO (oo 5) (os 5) ++ zwO (oo 6) (os 6) ++ zwO (oo 7) (os 7) ++ zwO (oo 8) (os 8)) sz)) (va_Qi (fun r (_ : Unit) => r = rv) (fun _ => zPost D (zTY cI cB cO) (zwX Xo Po Go No Qo Ko Lo To oo ra Xs ++ zwP cI Po Pp Ps Pa ++ zwG cI Go Gp Gs Ga ++ zwS cI No Np Go Ns Na ++ zwQ cI Qo Qp Qs Qa ++ zwS cI Ko Kp Go Ks Ka ++ zwQ cI Lo Lp Ls La ++ zwS cI To Tp Go Ts' Ta' ++ zwR cO ra oo ++ zwO (oo 0) (os 0) ++ zwO (oo 1) (os 1) ++ zwO (oo 2) (os 2) ++ zwO (oo 3) (os 3) ++ zwO (oo 4) (os 4) ++ zwO (oo 5) (os 5) ++ zwO (oo 6) (os 6) ++ zwO (oo 7) (os 7) ++ zwO (oo 8) (os 8)) (va_A (zwX Xo Po Go No Qo Ko Lo To oo ra Xs ++ zwP cI Po Pp Ps Pa ++ zwG cI Go Gp Gs Ga ++ zwS cI No Np Go Ns Na ++ zwQ cI Qo Qp Qs Qa ++ zwS cI Ko Kp Go Ks Ka ++ zwQ cI Lo Lp Ls La ++ zwS cI To Tp Go Ts Ta ++ zwR cO ra oo ++ zwO (oo 0) (os 0) ++ zwO (oo 1) (os 1) ++ zwO (oo 2) (os 2) ++ zwO (oo 3) (os 3) ++ zwO (oo 4) (os 4) ++ zwO (oo 5) (os 5) ++ zwO (oo 6) (os 6) ++ zwO (oo 7) (os 7) ++ zwO (oo 8) (os 8)) sz)) (va_A (zwX Xo Po Go No Qo Ko Lo To oo ra Xs ++ zwP cI Po Pp Ps Pa ++ zwG cI Go Gp Gs Ga ++ zwS cI No Np Go Ns Na ++ zwQ cI Qo Qp Qs Qa ++ zwS cI Ko Kp Go Ks Ka ++ zwQ cI Lo Lp Ls La ++ zwS cI To Tp Go Ts Ta ++ zwR cO ra oo ++ zwO (oo 0) (os 0) ++ zwO (oo 1) (os 1) ++ zwO (oo 2) (os 2) ++ zwO (oo 3) (os 3) ++ zwO (oo 4) (os 4) ++ zwO (oo 5) (os 5) ++ zwO (oo 6) (os 6) ++ zwO (oo 7) (os 7) ++ zwO (oo 8) (os 8)) sz)) 0 0 (va_A (zwX Xo Po Go No Qo Ko Lo To oo ra Xs ++ zwP cI Po Pp Ps Pa ++ zwG cI Go Gp Gs Ga ++ zwS cI No Np Go Ns Na ++ zwQ cI Qo Qp Qs Qa ++ zwS cI Ko Kp Go Ks Ka ++ zwQ cI Lo Lp Ls La ++ zwS cI To Tp Go Ts Ta ++ zwR cO ra oo ++ zwO (oo 0) (os 0) ++ zwO (oo 1) (os 1) ++ zwO (oo 2) (os 2) ++ zwO (oo 3) (os 3) ++ zwO (oo 4) (os 4) ++ zwO (oo 5) (os 5) ++ zwO (oo 6) (os 6) ++ zwO (oo 7) (os 7) ++ zwO (oo 8) (os 8)) sz) := by
  unfold fX5_runs at h
  refine zmet_i (cc := cX5_runs) (maxL := 11) (by decide) rfl (Nat.le_of_ble_eq_true rfl) rfl rfl ?_
  intro p e s m args below meth c R Q A ls hx hb hts hown hml hK hP hD hE hA hS hRf hRl hl hq
  have hown : s.vm.findClass RX5 = some m.cls := hown
  have hl : lv_has ls 11 [(0, .ref Xo), (1, .int a0), (2, .int a1), (3, .int a2)] := hl
  have inX5 : ∀ w ∈ u_ws RX5 TX5 13, w ∈ wsX5_runs := by decide +kernel
  have lk95 : (Cond.fieldLink RX5 95 "PegField" "reads" "I").before args s = true := hts _ (by decide +kernel)
  have lk45 : (Cond.fieldLink RX5 45 "PegField" "thought" "LPegField$State;").before args s = true := hts _ (by decide +kernel)
  have lk28 : (Cond.fieldLink RX5 28 "PegField" "now" "LPegField$State;").before args s = true := hts _ (by decide +kernel)
  have inX4 : ∀ w ∈ u_ws RX4 TX4 8, w ∈ wsX5_runs := by decide +kernel
  have lk150 : (Cond.fieldLinkNest RX5 150 "PegField$State" "onBoard" "I" "PegField").before args s = true := hE.2.use (by decide +kernel)
  refine lv_iload_n hx hb dX5_runs_0 rfl (lv_at hl 1 rfl) ?_
  refine lv_iconst (v := (1 : Int32)) hx hb dX5_runs_1 (by decide) ?_
  refine lv_icmp_lt (tgt := 24) hx hb dX5_runs_2 (by decide) (fun c1 => ?_) (fun c1 => ?_)
  · have h := zif_t c1 h
    refine lv_bipush (v := (-102 : Int32)) hx hb dX5_runs_24 (by decide) ?_
    cases zend h
    exact hq hP hD hS dX5_runs_26
  · have h := zif_f c1 h
    refine lv_iload_n hx hb dX5_runs_5 rfl (lv_at hl 1 rfl) ?_
    refine lv_bipush (v := (40 : Int32)) hx hb dX5_runs_6 (by decide) ?_
    refine lv_icmp_gt (tgt := 24) hx hb dX5_runs_8 (by decide) (fun c2 => ?_) (fun c2 => ?_)
    · have h := zif_t c2 h
      refine lv_bipush (v := (-102 : Int32)) hx hb dX5_runs_24 (by decide) ?_
      cases zend h
      exact hq hP hD hS dX5_runs_26
    · have h := zif_f c2 h
      refine lv_iload_n hx hb dX5_runs_11 rfl (lv_at hl 2 rfl) ?_
      refine lv_if_lt (tgt := 24) hx hb dX5_runs_12 (by decide) (fun c3 => ?_) (fun c3 => ?_)
      · have h := zif_t c3 h
        refine lv_bipush (v := (-102 : Int32)) hx hb dX5_runs_24 (by decide) ?_
        cases zend h
        exact hq hP hD hS dX5_runs_26
      · have h := zif_f c3 h
        refine lv_iload_n hx hb dX5_runs_15 rfl (lv_at hl 3 rfl) ?_
        refine lv_if_lt (tgt := 24) hx hb dX5_runs_16 (by decide) (fun c4 => ?_) (fun c4 => ?_)
        · have h := zif_t c4 h
          refine lv_bipush (v := (-102 : Int32)) hx hb dX5_runs_24 (by decide) ?_
          cases zend h
          exact hq hP hD hS dX5_runs_26
        · have h := zif_f c4 h
          refine lv_iload_n hx hb dX5_runs_19 rfl (lv_at hl 3 rfl) ?_
          refine lv_iconst (v := (2 : Int32)) hx hb dX5_runs_20 (by decide) ?_
          refine lv_icmp_le (tgt := 27) hx hb dX5_runs_21 (by decide) (fun c5 => ?_) (fun c5 => ?_)
          · have h := zif_t c5 h
            refine lv_aload_n hx hb dX5_runs_27 rfl (lv_at hl 0 rfl) ?_
            refine va_get (D := D) (ci := 5) (v := .int (Xs 11)) (C := RX5) (T := TX5) (N := 13) hx hb hts inX5 hown hK hP 0 rfl rfl 11 (by decide) lk95 (fun _ h9 => h9) rfl dX5_runs_28 ?_
            refine lv_if_ne (tgt := 37) hx hb dX5_runs_31 (by decide) (fun c6 => ?_) (fun c6 => ?_)
            · have h := zif_f c6 h
              refine lv_iload_n hx hb dX5_runs_37 rfl (lv_at hl 2 rfl) ?_
              refine lv_i2l (v := (a1).toInt64) hx hb dX5_runs_38 rfl ?_
              refine lv_topl (fun x4_7 ex4_7 => ?_)
              have h := zlt_s h ex4_7
              refine lv_lstore (lv' := [(4, .long x4_7), (0, .ref Xo), (1, .int a0), (2, .int a1), (3, .int a2)]) hx hb dX5_runs_39 hl (by decide) rfl (fun ls hl => ?_)
              refine lv_iconst (v := (0 : Int32)) hx hb dX5_runs_41 (by decide) ?_
              refine lv_istore (lv' := [(6, .int (0 : Int32)), (4, .long x4_7), (0, .ref Xo), (1, .int a0), (2, .int a1), (3, .int a2)]) hx hb dX5_runs_42 hl (by decide) rfl (fun ls hl => ?_)
              refine lv_iconst (v := (0 : Int32)) hx hb dX5_runs_44 (by decide) ?_
              refine lv_istore (lv' := [(7, .int (0 : Int32)), (6, .int (0 : Int32)), (4, .long x4_7), (0, .ref Xo), (1, .int a0), (2, .int a1), (3, .int a2)]) hx hb dX5_runs_45 hl (by decide) rfl (fun ls hl => ?_)
              refine lv_iconst (v := (0 : Int32)) hx hb dX5_runs_47 (by decide) ?_
              refine lv_istore (lv' := [(8, .int (0 : Int32)), (7, .int (0 : Int32)), (6, .int (0 : Int32)), (4, .long x4_7), (0, .ref Xo), (1, .int a0), (2, .int a1), (3, .int a2)]) hx hb dX5_runs_48 hl (by decide) rfl (fun ls hl => ?_)
              obtain ⟨x4_154x50, x6_154x50, x7_154x50, Ts_154x50, Ta_154x50, i31, h⟩ := zb5_s h
              have KX154 : ∀ (H : Heap) (locs : List Loc) (ls : Array Slot), va_P D vwCl (zwX Xo Po Go No Qo Ko Lo To oo ra Xs ++ zwP cI Po Pp Ps Pa ++ zwG cI Go Gp Gs Ga ++ zwS cI No Np Go Ns Na ++ zwQ cI Qo Qp Qs Qa ++ zwS cI Ko Kp Go Ks Ka ++ zwQ cI Lo Lp Ls La ++ zwS cI To Tp Go Ts_154x50 Ta_154x50 ++ zwR cO ra oo ++ zwO (oo 0) (os 0) ++ zwO (oo 1) (os 1) ++ zwO (oo 2) (os 2) ++ zwO (oo 3) (os 3) ++ zwO (oo 4) (os 4) ++ zwO (oo 5) (os 5) ++ zwO (oo 6) (os 6) ++ zwO (oo 7) (os 7) ++ zwO (oo 8) (os 8)) H → va_D A (zwX Xo Po Go No Qo Ko Lo To oo ra Xs ++ zwP cI Po Pp Ps Pa ++ zwG cI Go Gp Gs Ga ++ zwS cI No Np Go Ns Na ++ zwQ cI Qo Qp Qs Qa ++ zwS cI Ko Kp Go Ks Ka ++ zwQ cI Lo Lp Ls La ++ zwS cI To Tp Go Ts_154x50 Ta_154x50 ++ zwR cO ra oo ++ zwO (oo 0) (os 0) ++ zwO (oo 1) (os 1) ++ zwO (oo 2) (os 2) ++ zwO (oo 3) (os 3) ++ zwO (oo 4) (os 4) ++ zwO (oo 5) (os 5) ++ zwO (oo 6) (os 6) ++ zwO (oo 7) (os 7) ++ zwO (oo 8) (os 8)) → va_S A s.heap H locs → lv_has ls 11 [(3, .int a2), (4, .long x4_154x50), (6, .int x6_154x50), (7, .int x7_154x50)] → W p l e R s m args below meth c H locs 0 0 Q (F0 m 154 ls []) := by
                intro H locs ls hP hD hS hl
                refine lv_iload_n hx hb dX5_runs_154 rfl (lv_at hl 0 rfl) ?_
                refine lv_if_ne (tgt := 163) hx hb dX5_runs_155 (by decide) (fun c29 => ?_) (fun c29 => ?_)
                · have h := zif_f c29 h
                  refine lv_iload_n hx hb dX5_runs_163 rfl (lv_at hl 0 rfl) ?_
                  refine lv_iconst (v := (1 : Int32)) hx hb dX5_runs_164 (by decide) ?_
                  refine lv_icmp_ne (tgt := 173) hx hb dX5_runs_165 (by decide) (fun c30 => ?_) (fun c30 => ?_)
                  · have h := zif_f c30 h
                    refine lv_lload hx hb dX5_runs_173 (lv_at hl 1 rfl) ?_
                    refine lv_l2i (v := (x4_154x50).toInt32) hx hb dX5_runs_175 rfl ?_
                    cases zend h
                    exact hq hP hD hS dX5_runs_176
                  · have h := zif_t c30 h
                    refine lv_iload hx hb dX5_runs_168 (lv_at hl 3 rfl) ?_
                    refine lv_goto (tgt := 176) hx hb dX5_runs_170 (by decide) ?_
                    cases zend h
                    exact hq hP hD hS dX5_runs_176
                · have h := zif_t c29 h
                  refine lv_iload hx hb dX5_runs_158 (lv_at hl 2 rfl) ?_
                  refine lv_goto (tgt := 176) hx hb dX5_runs_160 (by decide) ?_
                  cases zend h
                  exact hq hP hD hS dX5_runs_176
              clear h
              refine zi6_ind (P := (fun (x4_50h : Int64) (x6_50h : Int32) (x7_50h : Int32) (x8_50h : Int32) (Ts_50h : Nat → Int32) (Ta_50h : Nat → Nat → Int32) => ∀ (H : Heap) (locs : List Loc) (ls : Array Slot), va_P D vwCl (zwX Xo Po Go No Qo Ko Lo To oo ra Xs ++ zwP cI Po Pp Ps Pa ++ zwG cI Go Gp Gs Ga ++ zwS cI No Np Go Ns Na ++ zwQ cI Qo Qp Qs Qa ++ zwS cI Ko Kp Go Ks Ka ++ zwQ cI Lo Lp Ls La ++ zwS cI To Tp Go Ts_50h Ta_50h ++ zwR cO ra oo ++ zwO (oo 0) (os 0) ++ zwO (oo 1) (os 1) ++ zwO (oo 2) (os 2) ++ zwO (oo 3) (os 3) ++ zwO (oo 4) (os 4) ++ zwO (oo 5) (os 5) ++ zwO (oo 6) (os 6) ++ zwO (oo 7) (os 7) ++ zwO (oo 8) (os 8)) H → va_D A (zwX Xo Po Go No Qo Ko Lo To oo ra Xs ++ zwP cI Po Pp Ps Pa ++ zwG cI Go Gp Gs Ga ++ zwS cI No Np Go Ns Na ++ zwQ cI Qo Qp Qs Qa ++ zwS cI Ko Kp Go Ks Ka ++ zwQ cI Lo Lp Ls La ++ zwS cI To Tp Go Ts_50h Ta_50h ++ zwR cO ra oo ++ zwO (oo 0) (os 0) ++ zwO (oo 1) (os 1) ++ zwO (oo 2) (os 2) ++ zwO (oo 3) (os 3) ++ zwO (oo 4) (os 4) ++ zwO (oo 5) (os 5) ++ zwO (oo 6) (os 6) ++ zwO (oo 7) (os 7) ++ zwO (oo 8) (os 8)) → va_S A s.heap H locs → lv_has ls 11 [(0, .ref Xo), (1, .int a0), (3, .int a2), (4, .long x4_50h), (6, .int x6_50h), (7, .int x7_50h), (8, .int x8_50h)] → W p l e R s m args below meth c H locs 0 0 Q (F0 m 50 ls []))) ?_ i31 _ _ _ hP hD hS (lv_sub hl [4, 5, 7, 3, 2, 1, 0] rfl)
              clear i31 hP hD hS hl
              intro x4_50h x6_50h x7_50h x8_50h Ts_50h Ta_50h z50 h zl50 zr50 H locs ls hP hD hS hl
              refine lv_iload hx hb dX5_runs_50 (lv_at hl 6 rfl) ?_
              refine lv_iload_n hx hb dX5_runs_52 rfl (lv_at hl 1 rfl) ?_
              refine lv_icmp_ge (tgt := 154) hx hb dX5_runs_53 (by decide) (fun c9 => ?_) (fun c9 => ?_)
              · have h := zif_t c9 h
                cases zr50 _ (zend h).symm
                exact KX154 _ _ _ hP hD hS (lv_sub hl [2, 3, 4, 5] rfl)
              · have h := zif_f c9 h
                refine lv_aload_n hx hb dX5_runs_56 rfl (lv_at hl 0 rfl) ?_
                refine va_get (D := D) (ci := 5) (v := .ref To) (C := RX5) (T := TX5) (N := 13) hx hb hts inX5 hown hK hP 0 rfl rfl 7 (by decide) lk45 (fun _ h9 => h9) rfl dX5_runs_57 ?_
                refine lv_aload_n hx hb dX5_runs_60 rfl (lv_at hl 0 rfl) ?_
                refine va_get (D := D) (ci := 5) (v := .ref No) (C := RX5) (T := TX5) (N := 13) hx hb hts inX5 hown hK hP 0 rfl rfl 2 (by decide) lk28 (fun _ h9 => h9) rfl dX5_runs_61 ?_
                obtain ⟨Ss_10, Sa_11, g12, h⟩ := zb2_s h
                have hFc := va_free (wc := (zwS cI To Tp Go Ts_50h Ta_50h ++ zwS cI No Np Go Ns Na)) hD hS hA [19, 20, 21, 22, 5, 6, 7, 8] rfl
                refine zcall_v (w2 := (zwX Xo Po Go No Qo Ko Lo To oo ra Xs ++ zwP cI Po Pp Ps Pa ++ zwG cI Go Gp Gs Ga ++ zwS cI No Np Go Ns Na ++ zwQ cI Qo Qp Qs Qa ++ zwS cI Ko Kp Go Ks Ka ++ zwQ cI Lo Lp Ls La ++ zwS cI To Tp Go Ss_10 Sa_11 ++ zwR cO ra oo ++ zwO (oo 0) (os 0) ++ zwO (oo 1) (os 1) ++ zwO (oo 2) (os 2) ++ zwO (oo 3) (os 3) ++ zwO (oo 4) (os 4) ++ zwO (oo 5) (os 5) ++ zwO (oo 6) (os 6) ++ zwO (oo 7) (os 7) ++ zwO (oo 8) (os 8))) (va_runV (As := [.ref No]) (rest := []) ⟨hx, hb, hml, hown, hts⟩ (c_X4_copyFrom l D cI cB cO To Tp Go No Np Ts_50h Ta_50h Ns Na _ _ _ g12) (cwV 1 hts gX5_runs_X4_copyFrom rfl rfl rfl kV_X4_copyFrom ⟨Nat.le_trans (Nat.le_of_ble_eq_true rfl) hRf, Nat.le_trans (Nat.le_of_ble_eq_true rfl) hRl⟩) (zpreV hK hP hD hS hE hFc [19, 20, 21, 22, 5, 6, 7, 8] rfl rfl 19 (ci := 4) rfl rfl [.ref No]) rfl rfl hl.1 rfl (lv_room (Nat.le_of_ble_eq_true rfl)) dX5_runs_64 ⟨Nat.zero_le _, Nat.zero_le _⟩) hP hD hS hFc [19, 20, 21, 22, 5, 6, 7, 8] [0, 1, 2, 3, 4, 9, 10, 11, 12, 13, 14, 15, 16, 17, 18, 23, 24, 25, 26, 27, 28, 29, 30, 31, 32] [0, 1, 2, 3, 4, 29, 30, 31, 32, 5, 6, 7, 8, 9, 10, 11, 12, 13, 14, 25, 26, 27, 28, 15, 16, 17, 18, 19, 20, 21, 22, 23, 24] 33 rfl rfl rfl rfl (fun H locs hP hD hS => ?_)
                refine lv_aload_n hx hb dX5_runs_67 rfl (lv_at hl 0 rfl) ?_
                refine va_get (D := D) (ci := 5) (v := .ref To) (C := RX5) (T := TX5) (N := 13) hx hb hts inX5 hown hK hP 0 rfl rfl 7 (by decide) lk45 (fun _ h9 => h9) rfl dX5_runs_68 ?_
                obtain ⟨r13, g14, h⟩ := zb1_s h
                have hFc := va_free (wc := (zwS cI To Tp Go Ss_10 Sa_11 ++ zwG cI Go Gp Gs Ga)) hD hS hA [19, 20, 21, 22, 3, 4] rfl
                refine zcall_i (w2 := (zwX Xo Po Go No Qo Ko Lo To oo ra Xs ++ zwP cI Po Pp Ps Pa ++ zwG cI Go Gp Gs Ga ++ zwS cI No Np Go Ns Na ++ zwQ cI Qo Qp Qs Qa ++ zwS cI Ko Kp Go Ks Ka ++ zwQ cI Lo Lp Ls La ++ zwS cI To Tp Go Ss_10 Sa_11 ++ zwR cO ra oo ++ zwO (oo 0) (os 0) ++ zwO (oo 1) (os 1) ++ zwO (oo 2) (os 2) ++ zwO (oo 3) (os 3) ++ zwO (oo 4) (os 4) ++ zwO (oo 5) (os 5) ++ zwO (oo 6) (os 6) ++ zwO (oo 7) (os 7) ++ zwO (oo 8) (os 8))) (va_runV (As := []) (rest := []) ⟨hx, hb, hml, hown, hts⟩ (c_X4_choices l D cI cB cO To Tp Go Gp Ss_10 Sa_11 Gs Ga _ _ g14) (cwV 0 hts gX5_runs_X4_choices rfl rfl rfl kV_X4_choices ⟨Nat.le_trans (Nat.le_of_ble_eq_true rfl) hRf, Nat.le_trans (Nat.le_of_ble_eq_true rfl) hRl⟩) (zpreV hK hP hD hS hE hFc [19, 20, 21, 22, 3, 4] rfl rfl 19 (ci := 4) rfl rfl []) rfl rfl hl.1 rfl (lv_room (Nat.le_of_ble_eq_true rfl)) dX5_runs_71 ⟨Nat.zero_le _, Nat.zero_le _⟩) hP hD hS hFc [19, 20, 21, 22, 3, 4] [0, 1, 2, 5, 6, 7, 8, 9, 10, 11, 12, 13, 14, 15, 16, 17, 18, 23, 24, 25, 26, 27, 28, 29, 30, 31, 32] [0, 1, 2, 31, 32, 3, 4, 5, 6, 7, 8, 9, 10, 11, 12, 13, 14, 15, 16, 27, 28, 29, 30, 17, 18, 19, 20, 21, 22, 23, 24, 25, 26] 33 rfl rfl rfl rfl (fun H locs hP hD hS => ?_)
                refine lv_istore (lv' := [(9, .int r13), (0, .ref Xo), (1, .int a0), (3, .int a2), (4, .long x4_50h), (6, .int x6_50h), (7, .int x7_50h), (8, .int x8_50h)]) hx hb dX5_runs_74 hl (by decide) rfl (fun ls hl => ?_)
                refine lv_iconst (v := (0 : Int32)) hx hb dX5_runs_76 (by decide) ?_
                refine lv_istore (lv' := [(10, .int (0 : Int32)), (9, .int r13), (0, .ref Xo), (1, .int a0), (3, .int a2), (4, .long x4_50h), (6, .int x6_50h), (7, .int x7_50h), (8, .int x8_50h)]) hx hb dX5_runs_77 hl (by decide) rfl (fun ls hl => ?_)
                obtain ⟨x4_134x79, x6_134x79, Ts_134x79, Ta_134x79, i28, h⟩ := zb4_s h
                have KX134 : ∀ (H : Heap) (locs : List Loc) (ls : Array Slot), va_P D vwCl (zwX Xo Po Go No Qo Ko Lo To oo ra Xs ++ zwP cI Po Pp Ps Pa ++ zwG cI Go Gp Gs Ga ++ zwS cI No Np Go Ns Na ++ zwQ cI Qo Qp Qs Qa ++ zwS cI Ko Kp Go Ks Ka ++ zwQ cI Lo Lp Ls La ++ zwS cI To Tp Go Ts_134x79 Ta_134x79 ++ zwR cO ra oo ++ zwO (oo 0) (os 0) ++ zwO (oo 1) (os 1) ++ zwO (oo 2) (os 2) ++ zwO (oo 3) (os 3) ++ zwO (oo 4) (os 4) ++ zwO (oo 5) (os 5) ++ zwO (oo 6) (os 6) ++ zwO (oo 7) (os 7) ++ zwO (oo 8) (os 8)) H → va_D A (zwX Xo Po Go No Qo Ko Lo To oo ra Xs ++ zwP cI Po Pp Ps Pa ++ zwG cI Go Gp Gs Ga ++ zwS cI No Np Go Ns Na ++ zwQ cI Qo Qp Qs Qa ++ zwS cI Ko Kp Go Ks Ka ++ zwQ cI Lo Lp Ls La ++ zwS cI To Tp Go Ts_134x79 Ta_134x79 ++ zwR cO ra oo ++ zwO (oo 0) (os 0) ++ zwO (oo 1) (os 1) ++ zwO (oo 2) (os 2) ++ zwO (oo 3) (os 3) ++ zwO (oo 4) (os 4) ++ zwO (oo 5) (os 5) ++ zwO (oo 6) (os 6) ++ zwO (oo 7) (os 7) ++ zwO (oo 8) (os 8)) → va_S A s.heap H locs → lv_has ls 11 [(0, .ref Xo), (1, .int a0), (3, .int a2), (4, .long x4_134x79), (6, .int x6_134x79), (7, .int x7_50h), (8, .int x8_50h)] → W p l e R s m args below meth c H locs 0 0 Q (F0 m 134 ls []) := by
                  intro H locs ls hP hD hS hl
                  refine lv_aload_n hx hb dX5_runs_134 rfl (lv_at hl 0 rfl) ?_
                  refine va_get (D := D) (ci := 5) (v := .ref To) (C := RX5) (T := TX5) (N := 13) hx hb hts inX5 hown hK hP 0 rfl rfl 7 (by decide) lk45 (fun _ h9 => h9) rfl dX5_runs_135 ?_
                  refine va_getN (D := D) (ci := 4) (v := .int (Ts_134x79 3)) (C := RX4) (T := TX4) (N := 8) hx hb hts inX4 hown hK hP 19 rfl rfl 3 (by decide) lk150 (fun _ h9 => h9) rfl dX5_runs_138 ?_
                  refine lv_iconst (v := (1 : Int32)) hx hb dX5_runs_141 (by decide) ?_
                  obtain ⟨x7_148, j26, h⟩ := zb1_s h
                  have K148 : ∀ (H : Heap) (locs : List Loc) (ls : Array Slot), va_P D vwCl (zwX Xo Po Go No Qo Ko Lo To oo ra Xs ++ zwP cI Po Pp Ps Pa ++ zwG cI Go Gp Gs Ga ++ zwS cI No Np Go Ns Na ++ zwQ cI Qo Qp Qs Qa ++ zwS cI Ko Kp Go Ks Ka ++ zwQ cI Lo Lp Ls La ++ zwS cI To Tp Go Ts_134x79 Ta_134x79 ++ zwR cO ra oo ++ zwO (oo 0) (os 0) ++ zwO (oo 1) (os 1) ++ zwO (oo 2) (os 2) ++ zwO (oo 3) (os 3) ++ zwO (oo 4) (os 4) ++ zwO (oo 5) (os 5) ++ zwO (oo 6) (os 6) ++ zwO (oo 7) (os 7) ++ zwO (oo 8) (os 8)) H → va_D A (zwX Xo Po Go No Qo Ko Lo To oo ra Xs ++ zwP cI Po Pp Ps Pa ++ zwG cI Go Gp Gs Ga ++ zwS cI No Np Go Ns Na ++ zwQ cI Qo Qp Qs Qa ++ zwS cI Ko Kp Go Ks Ka ++ zwQ cI Lo Lp Ls La ++ zwS cI To Tp Go Ts_134x79 Ta_134x79 ++ zwR cO ra oo ++ zwO (oo 0) (os 0) ++ zwO (oo 1) (os 1) ++ zwO (oo 2) (os 2) ++ zwO (oo 3) (os 3) ++ zwO (oo 4) (os 4) ++ zwO (oo 5) (os 5) ++ zwO (oo 6) (os 6) ++ zwO (oo 7) (os 7) ++ zwO (oo 8) (os 8)) → va_S A s.heap H locs → lv_has ls 11 [(0, .ref Xo), (1, .int a0), (3, .int a2), (4, .long x4_134x79), (6, .int x6_134x79), (7, .int x7_148), (8, .int x8_50h)] → W p l e R s m args below meth c H locs 0 0 Q (F0 m 148 ls []) := by
                    intro H locs ls hP hD hS hl
                    refine lv_iinc (v := (x8_50h + (1 : Int32))) (lv' := [(8, .int (x8_50h + (1 : Int32))), (0, .ref Xo), (1, .int a0), (3, .int a2), (4, .long x4_134x79), (6, .int x6_134x79), (7, .int x7_148)]) hx hb dX5_runs_148 hl (k := 6) rfl rfl (by decide) rfl (fun ls hl => ?_)
                    refine lv_goto (tgt := 50) hx hb dX5_runs_151 (by decide) ?_
                    exact zl50 _ _ _ _ _ _ (zend h).symm _ _ _ hP hD hS (lv_sub hl [1, 2, 3, 4, 5, 6, 0] rfl)
                  clear h
                  have h := j26
                  clear j26
                  refine lv_icmp_ne (tgt := 148) hx hb dX5_runs_142 (by decide) (fun c27 => ?_) (fun c27 => ?_)
                  · have h := zif_f c27 h
                    cases zend h
                    exact K148 _ _ _ hP hD hS (lv_sub hl [0, 1, 2, 3, 4, 5, 6] rfl)
                  · have h := zif_t c27 h
                    refine lv_iinc (v := (x7_50h + (1 : Int32))) (lv' := [(7, .int (x7_50h + (1 : Int32))), (0, .ref Xo), (1, .int a0), (3, .int a2), (4, .long x4_134x79), (6, .int x6_134x79), (8, .int x8_50h)]) hx hb dX5_runs_145 hl (k := 5) rfl rfl (by decide) rfl (fun ls hl => ?_)
                    cases zend h
                    exact K148 _ _ _ hP hD hS (lv_sub hl [1, 2, 3, 4, 5, 0, 6] rfl)
                clear h
                refine zi6_ind (P := (fun (x4_79h : Int64) (x6_79h : Int32) (x9_79h : Int32) (x10_79h : Int32) (Ts_79h : Nat → Int32) (Ta_79h : Nat → Nat → Int32) => ∀ (H : Heap) (locs : List Loc) (ls : Array Slot), va_P D vwCl (zwX Xo Po Go No Qo Ko Lo To oo ra Xs ++ zwP cI Po Pp Ps Pa ++ zwG cI Go Gp Gs Ga ++ zwS cI No Np Go Ns Na ++ zwQ cI Qo Qp Qs Qa ++ zwS cI Ko Kp Go Ks Ka ++ zwQ cI Lo Lp Ls La ++ zwS cI To Tp Go Ts_79h Ta_79h ++ zwR cO ra oo ++ zwO (oo 0) (os 0) ++ zwO (oo 1) (os 1) ++ zwO (oo 2) (os 2) ++ zwO (oo 3) (os 3) ++ zwO (oo 4) (os 4) ++ zwO (oo 5) (os 5) ++ zwO (oo 6) (os 6) ++ zwO (oo 7) (os 7) ++ zwO (oo 8) (os 8)) H → va_D A (zwX Xo Po Go No Qo Ko Lo To oo ra Xs ++ zwP cI Po Pp Ps Pa ++ zwG cI Go Gp Gs Ga ++ zwS cI No Np Go Ns Na ++ zwQ cI Qo Qp Qs Qa ++ zwS cI Ko Kp Go Ks Ka ++ zwQ cI Lo Lp Ls La ++ zwS cI To Tp Go Ts_79h Ta_79h ++ zwR cO ra oo ++ zwO (oo 0) (os 0) ++ zwO (oo 1) (os 1) ++ zwO (oo 2) (os 2) ++ zwO (oo 3) (os 3) ++ zwO (oo 4) (os 4) ++ zwO (oo 5) (os 5) ++ zwO (oo 6) (os 6) ++ zwO (oo 7) (os 7) ++ zwO (oo 8) (os 8)) → va_S A s.heap H locs → lv_has ls 11 [(0, .ref Xo), (1, .int a0), (3, .int a2), (4, .long x4_79h), (6, .int x6_79h), (7, .int x7_50h), (8, .int x8_50h), (9, .int x9_79h), (10, .int x10_79h)] → W p l e R s m args below meth c H locs 0 0 Q (F0 m 79 ls []))) ?_ i28 _ _ _ hP hD hS (lv_sub hl [2, 3, 4, 5, 6, 7, 8, 1, 0] rfl)
                clear i28 hP hD hS hl
                intro x4_79h x6_79h x9_79h x10_79h Ts_79h Ta_79h z79 h zl79 zr79 H locs ls hP hD hS hl
                refine lv_iload hx hb dX5_runs_79 (lv_at hl 8 rfl) ?_
                refine lv_bipush (v := (7 : Int32)) hx hb dX5_runs_81 (by decide) ?_
                refine lv_icmp_ge (tgt := 134) hx hb dX5_runs_83 (by decide) (fun c16 => ?_) (fun c16 => ?_)
                · have h := zif_t c16 h
                  cases zr79 _ (zend h).symm
                  exact KX134 _ _ _ hP hD hS (lv_sub hl [0, 1, 2, 3, 4, 5, 6] rfl)
                · have h := zif_f c16 h
                  refine lv_iload hx hb dX5_runs_86 (lv_at hl 7 rfl) ?_
                  refine lv_if_le (tgt := 134) hx hb dX5_runs_88 (by decide) (fun c17 => ?_) (fun c17 => ?_)
                  · have h := zif_t c17 h
                    cases zr79 _ (zend h).symm
                    exact KX134 _ _ _ hP hD hS (lv_sub hl [0, 1, 2, 3, 4, 5, 6] rfl)
                  · have h := zif_f c17 h
                    refine lv_lload hx hb dX5_runs_91 (lv_at hl 3 rfl) ?_
                    obtain ⟨r18, g19, h⟩ := zb1_s h
                    have hFc := va_free (wc := ([] : va_W)) hD hS hA [] rfl
                    refine zcall_l (w2 := (zwX Xo Po Go No Qo Ko Lo To oo ra Xs ++ zwP cI Po Pp Ps Pa ++ zwG cI Go Gp Gs Ga ++ zwS cI No Np Go Ns Na ++ zwQ cI Qo Qp Qs Qa ++ zwS cI Ko Kp Go Ks Ka ++ zwQ cI Lo Lp Ls La ++ zwS cI To Tp Go Ts_79h Ta_79h ++ zwR cO ra oo ++ zwO (oo 0) (os 0) ++ zwO (oo 1) (os 1) ++ zwO (oo 2) (os 2) ++ zwO (oo 3) (os 3) ++ zwO (oo 4) (os 4) ++ zwO (oo 5) (os 5) ++ zwO (oo 6) (os 6) ++ zwO (oo 7) (os 7) ++ zwO (oo 8) (os 8))) (va_runS (As := [.long x4_79h]) (rest := []) ⟨hx, hb, hml, hown, hts⟩ (c_X5_nextSeed l D cI cB cO x4_79h _ _ g19) (va_cwS 1 hts gX5_runs_X5_nextSeed rfl rfl rfl kS_X5_nextSeed ⟨Nat.le_trans (Nat.le_of_ble_eq_true rfl) hRf, Nat.le_trans (Nat.le_of_ble_eq_true rfl) hRl⟩) (zpreS hK hP hD hS hE hFc [] rfl rfl [.long x4_79h]) rfl rfl hl.1 rfl (lv_room (Nat.le_of_ble_eq_true rfl)) dX5_runs_93 ⟨Nat.zero_le _, Nat.zero_le _⟩) hP hD hS hFc [] [0, 1, 2, 3, 4, 5, 6, 7, 8, 9, 10, 11, 12, 13, 14, 15, 16, 17, 18, 19, 20, 21, 22, 23, 24, 25, 26, 27, 28, 29, 30, 31, 32] [0, 1, 2, 3, 4, 5, 6, 7, 8, 9, 10, 11, 12, 13, 14, 15, 16, 17, 18, 19, 20, 21, 22, 23, 24, 25, 26, 27, 28, 29, 30, 31, 32] 33 rfl rfl rfl rfl (fun H locs hP hD hS => ?_)
                    refine lv_lstore (lv' := [(4, .long r18), (0, .ref Xo), (1, .int a0), (3, .int a2), (6, .int x6_79h), (7, .int x7_50h), (8, .int x8_50h), (9, .int x9_79h), (10, .int x10_79h)]) hx hb dX5_runs_96 hl (by decide) rfl (fun ls hl => ?_)
                    refine lv_aload_n hx hb dX5_runs_98 rfl (lv_at hl 1 rfl) ?_
                    refine va_get (D := D) (ci := 5) (v := .ref To) (C := RX5) (T := TX5) (N := 13) hx hb hts inX5 hown hK hP 0 rfl rfl 7 (by decide) lk45 (fun _ h9 => h9) rfl dX5_runs_99 ?_
                    refine lv_lload hx hb dX5_runs_102 (lv_at hl 0 rfl) ?_
                    refine lv_ldc2 (v := (65536 : Int64)) hx hb hown (hts (.constantLong RX5 219 (65536)) (by decide +kernel)) dX5_runs_104 ?_
                    refine lv_ldiv hx hb dX5_runs_107 (by decide) ?_
                    refine lv_iload hx hb dX5_runs_108 (lv_at hl 7 rfl) ?_
                    refine lv_i2l (v := (x9_79h).toInt64) hx hb dX5_runs_110 rfl ?_
                    obtain ⟨z20, h⟩ := zck_s h
                    refine lv_lrem hx hb dX5_runs_111 (znl_s z20) ?_
                    refine lv_l2i (v := (((r18 / (65536 : Int64)) - (r18 / (65536 : Int64)) / (x9_79h).toInt64 * (x9_79h).toInt64)).toInt32) hx hb dX5_runs_112 rfl ?_
                    obtain ⟨Ss_21, Sa_22, g23, h⟩ := zb2_s h
                    have hFc := va_free (wc := (zwS cI To Tp Go Ts_79h Ta_79h ++ zwG cI Go Gp Gs Ga)) hD hS hA [19, 20, 21, 22, 3, 4] rfl
                    refine zcall_v (w2 := (zwX Xo Po Go No Qo Ko Lo To oo ra Xs ++ zwP cI Po Pp Ps Pa ++ zwG cI Go Gp Gs Ga ++ zwS cI No Np Go Ns Na ++ zwQ cI Qo Qp Qs Qa ++ zwS cI Ko Kp Go Ks Ka ++ zwQ cI Lo Lp Ls La ++ zwS cI To Tp Go Ss_21 Sa_22 ++ zwR cO ra oo ++ zwO (oo 0) (os 0) ++ zwO (oo 1) (os 1) ++ zwO (oo 2) (os 2) ++ zwO (oo 3) (os 3) ++ zwO (oo 4) (os 4) ++ zwO (oo 5) (os 5) ++ zwO (oo 6) (os 6) ++ zwO (oo 7) (os 7) ++ zwO (oo 8) (os 8))) (va_runV (As := [.int (((r18 / (65536 : Int64)) - (r18 / (65536 : Int64)) / (x9_79h).toInt64 * (x9_79h).toInt64)).toInt32]) (rest := []) ⟨hx, hb, hml, hown, hts⟩ (c_X4_leapByChoice l D cI cB cO To Tp Go Gp Ts_79h Ta_79h Gs Ga ((((r18 / (65536 : Int64)) - (r18 / (65536 : Int64)) / (x9_79h).toInt64 * (x9_79h).toInt64)).toInt32) _ _ _ g23) (cwV 1 hts gX5_runs_X4_leapByChoice rfl rfl rfl kV_X4_leapByChoice ⟨Nat.le_trans (Nat.le_of_ble_eq_true rfl) hRf, Nat.le_trans (Nat.le_of_ble_eq_true rfl) hRl⟩) (zpreV hK hP hD hS hE hFc [19, 20, 21, 22, 3, 4] rfl rfl 19 (ci := 4) rfl rfl [.int (((r18 / (65536 : Int64)) - (r18 / (65536 : Int64)) / (x9_79h).toInt64 * (x9_79h).toInt64)).toInt32]) rfl rfl hl.1 rfl (lv_room (Nat.le_of_ble_eq_true rfl)) dX5_runs_113 ⟨Nat.zero_le _, Nat.zero_le _⟩) hP hD hS hFc [19, 20, 21, 22, 3, 4] [0, 1, 2, 5, 6, 7, 8, 9, 10, 11, 12, 13, 14, 15, 16, 17, 18, 23, 24, 25, 26, 27, 28, 29, 30, 31, 32] [0, 1, 2, 31, 32, 3, 4, 5, 6, 7, 8, 9, 10, 11, 12, 13, 14, 15, 16, 27, 28, 29, 30, 17, 18, 19, 20, 21, 22, 23, 24, 25, 26] 33 rfl rfl rfl rfl (fun H locs hP hD hS => ?_)
                    refine lv_iinc (v := (x6_79h + (1 : Int32))) (lv' := [(6, .int (x6_79h + (1 : Int32))), (4, .long r18), (0, .ref Xo), (1, .int a0), (3, .int a2), (7, .int x7_50h), (8, .int x8_50h), (9, .int x9_79h), (10, .int x10_79h)]) hx hb dX5_runs_116 hl (k := 4) rfl rfl (by decide) rfl (fun ls hl => ?_)
                    refine lv_aload_n hx hb dX5_runs_119 rfl (lv_at hl 2 rfl) ?_
                    refine va_get (D := D) (ci := 5) (v := .ref To) (C := RX5) (T := TX5) (N := 13) hx hb hts inX5 hown hK hP 0 rfl rfl 7 (by decide) lk45 (fun _ h9 => h9) rfl dX5_runs_120 ?_
                    obtain ⟨r24, g25, h⟩ := zb1_s h
                    have hFc := va_free (wc := (zwS cI To Tp Go Ss_21 Sa_22 ++ zwG cI Go Gp Gs Ga)) hD hS hA [19, 20, 21, 22, 3, 4] rfl
                    refine zcall_i (w2 := (zwX Xo Po Go No Qo Ko Lo To oo ra Xs ++ zwP cI Po Pp Ps Pa ++ zwG cI Go Gp Gs Ga ++ zwS cI No Np Go Ns Na ++ zwQ cI Qo Qp Qs Qa ++ zwS cI Ko Kp Go Ks Ka ++ zwQ cI Lo Lp Ls La ++ zwS cI To Tp Go Ss_21 Sa_22 ++ zwR cO ra oo ++ zwO (oo 0) (os 0) ++ zwO (oo 1) (os 1) ++ zwO (oo 2) (os 2) ++ zwO (oo 3) (os 3) ++ zwO (oo 4) (os 4) ++ zwO (oo 5) (os 5) ++ zwO (oo 6) (os 6) ++ zwO (oo 7) (os 7) ++ zwO (oo 8) (os 8))) (va_runV (As := []) (rest := []) ⟨hx, hb, hml, hown, hts⟩ (c_X4_choices l D cI cB cO To Tp Go Gp Ss_21 Sa_22 Gs Ga _ _ g25) (cwV 0 hts gX5_runs_X4_choices rfl rfl rfl kV_X4_choices ⟨Nat.le_trans (Nat.le_of_ble_eq_true rfl) hRf, Nat.le_trans (Nat.le_of_ble_eq_true rfl) hRl⟩) (zpreV hK hP hD hS hE hFc [19, 20, 21, 22, 3, 4] rfl rfl 19 (ci := 4) rfl rfl []) rfl rfl hl.1 rfl (lv_room (Nat.le_of_ble_eq_true rfl)) dX5_runs_123 ⟨Nat.zero_le _, Nat.zero_le _⟩) hP hD hS hFc [19, 20, 21, 22, 3, 4] [0, 1, 2, 5, 6, 7, 8, 9, 10, 11, 12, 13, 14, 15, 16, 17, 18, 23, 24, 25, 26, 27, 28, 29, 30, 31, 32] [0, 1, 2, 31, 32, 3, 4, 5, 6, 7, 8, 9, 10, 11, 12, 13, 14, 15, 16, 27, 28, 29, 30, 17, 18, 19, 20, 21, 22, 23, 24, 25, 26] 33 rfl rfl rfl rfl (fun H locs hP hD hS => ?_)
                    refine lv_istore (lv' := [(9, .int r24), (6, .int (x6_79h + (1 : Int32))), (4, .long r18), (0, .ref Xo), (1, .int a0), (3, .int a2), (7, .int x7_50h), (8, .int x8_50h), (10, .int x10_79h)]) hx hb dX5_runs_126 hl (by decide) rfl (fun ls hl => ?_)
                    refine lv_iinc (v := (x10_79h + (1 : Int32))) (lv' := [(10, .int (x10_79h + (1 : Int32))), (9, .int r24), (6, .int (x6_79h + (1 : Int32))), (4, .long r18), (0, .ref Xo), (1, .int a0), (3, .int a2), (7, .int x7_50h), (8, .int x8_50h)]) hx hb dX5_runs_128 hl (k := 8) rfl rfl (by decide) rfl (fun ls hl => ?_)
                    refine lv_goto (tgt := 79) hx hb dX5_runs_131 (by decide) ?_
                    exact zl79 _ _ _ _ _ _ (zend h).symm _ _ _ hP hD hS (lv_sub hl [4, 5, 6, 3, 2, 7, 8, 1, 0] rfl)
            · have h := zif_t c6 h
              refine lv_bipush (v := (-103 : Int32)) hx hb dX5_runs_34 (by decide) ?_
              cases zend h
              exact hq hP hD hS dX5_runs_36
          · have h := zif_f c5 h
            refine lv_bipush (v := (-102 : Int32)) hx hb dX5_runs_24 (by decide) ?_
            cases zend h
            exact hq hP hD hS dX5_runs_26
set_option maxHeartbeats 4000000 in
set_option maxRecDepth 100000 in
theorem c_X5_image (l : Launch) (D : va_G) (cI cB cO : ClassId) (Xo : Nat) (Po : Nat) (Pp : Nat → Nat) (Go : Nat) (Gp : Nat → Nat) (No : Nat) (Np : Nat → Nat) (Qo : Nat) (Qp : Nat → Nat) (Ko : Nat) (Kp : Nat → Nat) (Lo : Nat) (Lp : Nat → Nat) (To : Nat) (Tp : Nat → Nat) (ra : Nat) (oo : Nat → Nat) (Xs : Nat → Int32) (Ps : Nat → Int32) (Pa : Nat → Nat → Int32) (Gs : Nat → Int32) (Ga : Nat → Nat → Int32) (Ns : Nat → Int32) (Na : Nat → Nat → Int32) (Qs : Nat → Int32) (Qa : Nat → Nat → Int32) (Ks : Nat → Int32) (Ka : Nat → Nat → Int32) (Ls : Nat → Int32) (La : Nat → Nat → Int32) (Ts : Nat → Int32) (Ta : Nat → Nat → Int32) (os : Nat → Nat → Int32)  (rv : Int32) (Xs' : Nat → Int32) (Ks' : Nat → Int32) (Ka' : Nat → Nat → Int32) (Ls' : Nat → Int32) (La' : Nat → Nat → Int32) (sz : Nat) (h : fX5_image Xs Ns Na Qs Qa Ks Ka Ls La = some (rv, Xs', Ks', Ka', Ls', La')) : Met l yX5_image wsX5_image ({ frames := 1, cells := 0, slots := 0, locals := 22 } : Room) (va_Pc [.ref Xo] (zPre D (zTY cI cB cO) (zwX Xo Po Go No Qo Ko Lo To oo ra Xs ++ zwP cI Po Pp Ps Pa ++ zwG cI Go Gp Gs Ga ++ zwS cI No Np Go Ns Na ++ zwQ cI Qo Qp Qs Qa ++ zwS cI Ko Kp Go Ks Ka ++ zwQ cI Lo Lp Ls La ++ zwS cI To Tp Go Ts Ta ++ zwR cO ra oo ++ zwO (oo 0) (os 0) ++ zwO (oo 1) (os 1) ++ zwO (oo 2) (os 2) ++ zwO (oo 3) (os 3) ++ zwO (oo 4) (os 4) ++ zwO (oo 5) (os 5) ++ zwO (oo 6) (os 6) ++ zwO (oo 7) (os 7) ++ zwO (oo 8) (os 8)) sz)) (va_Qi (fun r (_ : Unit) => r = rv) (fun _ => zPost D (zTY cI cB cO) (zwX Xo Po Go No Qo Ko Lo To oo ra Xs' ++ zwP cI Po Pp Ps Pa ++ zwG cI Go Gp Gs Ga ++ zwS cI No Np Go Ns Na ++ zwQ cI Qo Qp Qs Qa ++ zwS cI Ko Kp Go Ks' Ka' ++ zwQ cI Lo Lp Ls' La' ++ zwS cI To Tp Go Ts Ta ++ zwR cO ra oo ++ zwO (oo 0) (os 0) ++ zwO (oo 1) (os 1) ++ zwO (oo 2) (os 2) ++ zwO (oo 3) (os 3) ++ zwO (oo 4) (os 4) ++ zwO (oo 5) (os 5) ++ zwO (oo 6) (os 6) ++ zwO (oo 7) (os 7) ++ zwO (oo 8) (os 8)) (va_A (zwX Xo Po Go No Qo Ko Lo To oo ra Xs ++ zwP cI Po Pp Ps Pa ++ zwG cI Go Gp Gs Ga ++ zwS cI No Np Go Ns Na ++ zwQ cI Qo Qp Qs Qa ++ zwS cI Ko Kp Go Ks Ka ++ zwQ cI Lo Lp Ls La ++ zwS cI To Tp Go Ts Ta ++ zwR cO ra oo ++ zwO (oo 0) (os 0) ++ zwO (oo 1) (os 1) ++ zwO (oo 2) (os 2) ++ zwO (oo 3) (os 3) ++ zwO (oo 4) (os 4) ++ zwO (oo 5) (os 5) ++ zwO (oo 6) (os 6) ++ zwO (oo 7) (os 7) ++ zwO (oo 8) (os 8)) sz)) (va_A (zwX Xo Po Go No Qo Ko Lo To oo ra Xs ++ zwP cI Po Pp Ps Pa ++ zwG cI Go Gp Gs Ga ++ zwS cI No Np Go Ns Na ++ zwQ cI Qo Qp Qs Qa ++ zwS cI Ko Kp Go Ks Ka ++ zwQ cI Lo Lp Ls La ++ zwS cI To Tp Go Ts Ta ++ zwR cO ra oo ++ zwO (oo 0) (os 0) ++ zwO (oo 1) (os 1) ++ zwO (oo 2) (os 2) ++ zwO (oo 3) (os 3) ++ zwO (oo 4) (os 4) ++ zwO (oo 5) (os 5) ++ zwO (oo 6) (os 6) ++ zwO (oo 7) (os 7) ++ zwO (oo 8) (os 8)) sz)) 0 0 (va_A (zwX Xo Po Go No Qo Ko Lo To oo ra Xs ++ zwP cI Po Pp Ps Pa ++ zwG cI Go Gp Gs Ga ++ zwS cI No Np Go Ns Na ++ zwQ cI Qo Qp Qs Qa ++ zwS cI Ko Kp Go Ks Ka ++ zwQ cI Lo Lp Ls La ++ zwS cI To Tp Go Ts Ta ++ zwR cO ra oo ++ zwO (oo 0) (os 0) ++ zwO (oo 1) (os 1) ++ zwO (oo 2) (os 2) ++ zwO (oo 3) (os 3) ++ zwO (oo 4) (os 4) ++ zwO (oo 5) (os 5) ++ zwO (oo 6) (os 6) ++ zwO (oo 7) (os 7) ++ zwO (oo 8) (os 8)) sz) := by
  unfold fX5_image at h
  refine zmet_i (cc := cX5_image) (maxL := 1) (by decide) rfl (Nat.le_of_ble_eq_true rfl) rfl rfl ?_
  intro p e s m args below meth c R Q A ls hx hb hts hown hml hK hP hD hE hA hS hRf hRl hl hq
  have hown : s.vm.findClass RX5 = some m.cls := hown
  have hl : lv_has ls 1 [(0, .ref Xo)] := hl
  have inX5 : ∀ w ∈ u_ws RX5 TX5 13, w ∈ wsX5_image := by decide +kernel
  have lk95 : (Cond.fieldLink RX5 95 "PegField" "reads" "I").before args s = true := hts _ (by decide +kernel)
  have lk39 : (Cond.fieldLink RX5 39 "PegField" "keptState" "LPegField$State;").before args s = true := hts _ (by decide +kernel)
  have lk28 : (Cond.fieldLink RX5 28 "PegField" "now" "LPegField$State;").before args s = true := hts _ (by decide +kernel)
  have lk42 : (Cond.fieldLink RX5 42 "PegField" "keptSeen" "LPegField$Seen;").before args s = true := hts _ (by decide +kernel)
  have lk35 : (Cond.fieldLink RX5 35 "PegField" "seen" "LPegField$Seen;").before args s = true := hts _ (by decide +kernel)
  have lk88 : (Cond.fieldLink RX5 88 "PegField" "isKept" "Z").before args s = true := hts _ (by decide +kernel)
  have inX4 : ∀ w ∈ u_ws RX4 TX4 8, w ∈ wsX5_image := by decide +kernel
  have lk140 : (Cond.fieldLinkNest RX5 140 "PegField$State" "jumps" "I" "PegField").before args s = true := hE.2.use (by decide +kernel)
  refine lv_aload_n hx hb dX5_image_0 rfl (lv_at hl 0 rfl) ?_
  refine va_get (D := D) (ci := 5) (v := .int (Xs 11)) (C := RX5) (T := TX5) (N := 13) hx hb hts inX5 hown hK hP 0 rfl rfl 11 (by decide) lk95 (fun _ h9 => h9) rfl dX5_image_1 ?_
  refine lv_if_ne (tgt := 10) hx hb dX5_image_4 (by decide) (fun c1 => ?_) (fun c1 => ?_)
  · have h := zif_f c1 h
    refine lv_aload_n hx hb dX5_image_10 rfl (lv_at hl 0 rfl) ?_
    refine va_get (D := D) (ci := 5) (v := .ref Ko) (C := RX5) (T := TX5) (N := 13) hx hb hts inX5 hown hK hP 0 rfl rfl 4 (by decide) lk39 (fun _ h9 => h9) rfl dX5_image_11 ?_
    refine lv_aload_n hx hb dX5_image_14 rfl (lv_at hl 0 rfl) ?_
    refine va_get (D := D) (ci := 5) (v := .ref No) (C := RX5) (T := TX5) (N := 13) hx hb hts inX5 hown hK hP 0 rfl rfl 2 (by decide) lk28 (fun _ h9 => h9) rfl dX5_image_15 ?_
    obtain ⟨Ss_2, Sa_3, g4, h⟩ := zb2_s h
    have hFc := va_free (wc := (zwS cI Ko Kp Go Ks Ka ++ zwS cI No Np Go Ns Na)) hD hS hA [12, 13, 14, 15, 5, 6, 7, 8] rfl
    refine zcall_v (w2 := (zwX Xo Po Go No Qo Ko Lo To oo ra Xs ++ zwP cI Po Pp Ps Pa ++ zwG cI Go Gp Gs Ga ++ zwS cI No Np Go Ns Na ++ zwQ cI Qo Qp Qs Qa ++ zwS cI Ko Kp Go Ss_2 Sa_3 ++ zwQ cI Lo Lp Ls La ++ zwS cI To Tp Go Ts Ta ++ zwR cO ra oo ++ zwO (oo 0) (os 0) ++ zwO (oo 1) (os 1) ++ zwO (oo 2) (os 2) ++ zwO (oo 3) (os 3) ++ zwO (oo 4) (os 4) ++ zwO (oo 5) (os 5) ++ zwO (oo 6) (os 6) ++ zwO (oo 7) (os 7) ++ zwO (oo 8) (os 8))) (va_runV (As := [.ref No]) (rest := []) ⟨hx, hb, hml, hown, hts⟩ (c_X4_copyFrom l D cI cB cO Ko Kp Go No Np Ks Ka Ns Na _ _ _ g4) (cwV 1 hts gX5_image_X4_copyFrom rfl rfl rfl kV_X4_copyFrom ⟨Nat.le_trans (Nat.le_of_ble_eq_true rfl) hRf, Nat.le_trans (Nat.le_of_ble_eq_true rfl) hRl⟩) (zpreV hK hP hD hS hE hFc [12, 13, 14, 15, 5, 6, 7, 8] rfl rfl 12 (ci := 4) rfl rfl [.ref No]) rfl rfl hl.1 rfl (lv_room (Nat.le_of_ble_eq_true rfl)) dX5_image_18 ⟨Nat.zero_le _, Nat.zero_le _⟩) hP hD hS hFc [12, 13, 14, 15, 5, 6, 7, 8] [0, 1, 2, 3, 4, 9, 10, 11, 16, 17, 18, 19, 20, 21, 22, 23, 24, 25, 26, 27, 28, 29, 30, 31, 32] [0, 1, 2, 3, 4, 29, 30, 31, 32, 5, 6, 7, 25, 26, 27, 28, 8, 9, 10, 11, 12, 13, 14, 15, 16, 17, 18, 19, 20, 21, 22, 23, 24] 33 rfl rfl rfl rfl (fun H locs hP hD hS => ?_)
    refine lv_aload_n hx hb dX5_image_21 rfl (lv_at hl 0 rfl) ?_
    refine va_get (D := D) (ci := 5) (v := .ref Lo) (C := RX5) (T := TX5) (N := 13) hx hb hts inX5 hown hK hP 0 rfl rfl 5 (by decide) lk42 (fun _ h9 => h9) rfl dX5_image_22 ?_
    refine lv_aload_n hx hb dX5_image_25 rfl (lv_at hl 0 rfl) ?_
    refine va_get (D := D) (ci := 5) (v := .ref Qo) (C := RX5) (T := TX5) (N := 13) hx hb hts inX5 hown hK hP 0 rfl rfl 3 (by decide) lk35 (fun _ h9 => h9) rfl dX5_image_26 ?_
    obtain ⟨Qs_5, Qa_6, g7, h⟩ := zb2_s h
    have hFc := va_free (wc := (zwQ cI Lo Lp Ls La ++ zwQ cI Qo Qp Qs Qa)) hD hS hA [16, 17, 18, 9, 10, 11] rfl
    refine zcall_v (w2 := (zwX Xo Po Go No Qo Ko Lo To oo ra Xs ++ zwP cI Po Pp Ps Pa ++ zwG cI Go Gp Gs Ga ++ zwS cI No Np Go Ns Na ++ zwQ cI Qo Qp Qs Qa ++ zwS cI Ko Kp Go Ss_2 Sa_3 ++ zwQ cI Lo Lp Qs_5 Qa_6 ++ zwS cI To Tp Go Ts Ta ++ zwR cO ra oo ++ zwO (oo 0) (os 0) ++ zwO (oo 1) (os 1) ++ zwO (oo 2) (os 2) ++ zwO (oo 3) (os 3) ++ zwO (oo 4) (os 4) ++ zwO (oo 5) (os 5) ++ zwO (oo 6) (os 6) ++ zwO (oo 7) (os 7) ++ zwO (oo 8) (os 8))) (va_runV (As := [.ref Qo]) (rest := []) ⟨hx, hb, hml, hown, hts⟩ (c_X3_copyFrom l D cI cB cO Lo Lp Qo Qp Ls La Qs Qa _ _ _ g7) (cwV 1 hts gX5_image_X3_copyFrom rfl rfl rfl kV_X3_copyFrom ⟨Nat.le_trans (Nat.le_of_ble_eq_true rfl) hRf, Nat.le_trans (Nat.le_of_ble_eq_true rfl) hRl⟩) (zpreV hK hP hD hS hE hFc [16, 17, 18, 9, 10, 11] rfl rfl 16 (ci := 3) rfl rfl [.ref Qo]) rfl rfl hl.1 rfl (lv_room (Nat.le_of_ble_eq_true rfl)) dX5_image_29 ⟨Nat.zero_le _, Nat.zero_le _⟩) hP hD hS hFc [16, 17, 18, 9, 10, 11] [0, 1, 2, 3, 4, 5, 6, 7, 8, 12, 13, 14, 15, 19, 20, 21, 22, 23, 24, 25, 26, 27, 28, 29, 30, 31, 32] [0, 1, 2, 3, 4, 5, 6, 7, 8, 30, 31, 32, 9, 10, 11, 12, 27, 28, 29, 13, 14, 15, 16, 17, 18, 19, 20, 21, 22, 23, 24, 25, 26] 33 rfl rfl rfl rfl (fun H locs hP hD hS => ?_)
    refine lv_aload_n hx hb dX5_image_32 rfl (lv_at hl 0 rfl) ?_
    refine lv_iconst (v := (1 : Int32)) hx hb dX5_image_33 (by decide) ?_
    refine va_put (D := D) (ci := 5) (v := .int (1 : Int32)) (ty := .boolean) (C := RX5) (T := TX5) (N := 13) hx hb hts inX5 tyX5 tyX5_ok nmX5 hown hK hP hD hS 0 rfl rfl 6 (by decide) lk88 (fun _ h9 => h9) rfl (by decide +kernel) (by decide) (by decide) (Nat.le_of_ble_eq_true rfl) dX5_image_34 (fun H locs hP hD hS => ?_)
    have hP : va_P D vwCl (zwX Xo Po Go No Qo Ko Lo To oo ra (upd Xs 6 (1 : Int32)) ++ zwP cI Po Pp Ps Pa ++ zwG cI Go Gp Gs Ga ++ zwS cI No Np Go Ns Na ++ zwQ cI Qo Qp Qs Qa ++ zwS cI Ko Kp Go Ss_2 Sa_3 ++ zwQ cI Lo Lp Qs_5 Qa_6 ++ zwS cI To Tp Go Ts Ta ++ zwR cO ra oo ++ zwO (oo 0) (os 0) ++ zwO (oo 1) (os 1) ++ zwO (oo 2) (os 2) ++ zwO (oo 3) (os 3) ++ zwO (oo 4) (os 4) ++ zwO (oo 5) (os 5) ++ zwO (oo 6) (os 6) ++ zwO (oo 7) (os 7) ++ zwO (oo 8) (os 8)) H := hP
    have hD : va_D A (zwX Xo Po Go No Qo Ko Lo To oo ra (upd Xs 6 (1 : Int32)) ++ zwP cI Po Pp Ps Pa ++ zwG cI Go Gp Gs Ga ++ zwS cI No Np Go Ns Na ++ zwQ cI Qo Qp Qs Qa ++ zwS cI Ko Kp Go Ss_2 Sa_3 ++ zwQ cI Lo Lp Qs_5 Qa_6 ++ zwS cI To Tp Go Ts Ta ++ zwR cO ra oo ++ zwO (oo 0) (os 0) ++ zwO (oo 1) (os 1) ++ zwO (oo 2) (os 2) ++ zwO (oo 3) (os 3) ++ zwO (oo 4) (os 4) ++ zwO (oo 5) (os 5) ++ zwO (oo 6) (os 6) ++ zwO (oo 7) (os 7) ++ zwO (oo 8) (os 8)) := hD
    refine lv_aload_n hx hb dX5_image_37 rfl (lv_at hl 0 rfl) ?_
    refine va_get (D := D) (ci := 5) (v := .ref No) (C := RX5) (T := TX5) (N := 13) hx hb hts inX5 hown hK hP 0 rfl rfl 2 (by decide) lk28 (fun _ h9 => h9) rfl dX5_image_38 ?_
    refine va_getN (D := D) (ci := 4) (v := .int (Ns 4)) (C := RX4) (T := TX4) (N := 8) hx hb hts inX4 hown hK hP 5 rfl rfl 4 (by decide) lk140 (fun _ h9 => h9) rfl dX5_image_41 ?_
    cases zend h
    exact hq hP hD hS dX5_image_44
  · have h := zif_t c1 h
    refine lv_bipush (v := (-103 : Int32)) hx hb dX5_image_7 (by decide) ?_
    cases zend h
    exact hq hP hD hS dX5_image_9
set_option maxHeartbeats 4000000 in
set_option maxRecDepth 100000 in
theorem c_X5_restore (l : Launch) (D : va_G) (cI cB cO : ClassId) (Xo : Nat) (Po : Nat) (Pp : Nat → Nat) (Go : Nat) (Gp : Nat → Nat) (No : Nat) (Np : Nat → Nat) (Qo : Nat) (Qp : Nat → Nat) (Ko : Nat) (Kp : Nat → Nat) (Lo : Nat) (Lp : Nat → Nat) (To : Nat) (Tp : Nat → Nat) (ra : Nat) (oo : Nat → Nat) (Xs : Nat → Int32) (Ps : Nat → Int32) (Pa : Nat → Nat → Int32) (Gs : Nat → Int32) (Ga : Nat → Nat → Int32) (Ns : Nat → Int32) (Na : Nat → Nat → Int32) (Qs : Nat → Int32) (Qa : Nat → Nat → Int32) (Ks : Nat → Int32) (Ka : Nat → Nat → Int32) (Ls : Nat → Int32) (La : Nat → Nat → Int32) (Ts : Nat → Int32) (Ta : Nat → Nat → Int32) (os : Nat → Nat → Int32)  (rv : Int32) (Xs' : Nat → Int32) (Ns' : Nat → Int32) (Na' : Nat → Nat → Int32) (Qs' : Nat → Int32) (Qa' : Nat → Nat → Int32) (sz : Nat) (h : fX5_restore Xs Ns Na Qs Qa Ks Ka Ls La = some (rv, Xs', Ns', Na', Qs', Qa')) : Met l yX5_restore wsX5_restore ({ frames := 1, cells := 0, slots := 0, locals := 22 } : Room) (va_Pc [.ref Xo] (zPre D (zTY cI cB cO) (zwX Xo Po Go No Qo Ko Lo To oo ra Xs ++ zwP cI Po Pp Ps Pa ++ zwG cI Go Gp Gs Ga ++ zwS cI No Np Go Ns Na ++ zwQ cI Qo Qp Qs Qa ++ zwS cI Ko Kp Go Ks Ka ++ zwQ cI Lo Lp Ls La ++ zwS cI To Tp Go Ts Ta ++ zwR cO ra oo ++ zwO (oo 0) (os 0) ++ zwO (oo 1) (os 1) ++ zwO (oo 2) (os 2) ++ zwO (oo 3) (os 3) ++ zwO (oo 4) (os 4) ++ zwO (oo 5) (os 5) ++ zwO (oo 6) (os 6) ++ zwO (oo 7) (os 7) ++ zwO (oo 8) (os 8)) sz)) (va_Qi (fun r (_ : Unit) => r = rv) (fun _ => zPost D (zTY cI cB cO) (zwX Xo Po Go No Qo Ko Lo To oo ra Xs' ++ zwP cI Po Pp Ps Pa ++ zwG cI Go Gp Gs Ga ++ zwS cI No Np Go Ns' Na' ++ zwQ cI Qo Qp Qs' Qa' ++ zwS cI Ko Kp Go Ks Ka ++ zwQ cI Lo Lp Ls La ++ zwS cI To Tp Go Ts Ta ++ zwR cO ra oo ++ zwO (oo 0) (os 0) ++ zwO (oo 1) (os 1) ++ zwO (oo 2) (os 2) ++ zwO (oo 3) (os 3) ++ zwO (oo 4) (os 4) ++ zwO (oo 5) (os 5) ++ zwO (oo 6) (os 6) ++ zwO (oo 7) (os 7) ++ zwO (oo 8) (os 8)) (va_A (zwX Xo Po Go No Qo Ko Lo To oo ra Xs ++ zwP cI Po Pp Ps Pa ++ zwG cI Go Gp Gs Ga ++ zwS cI No Np Go Ns Na ++ zwQ cI Qo Qp Qs Qa ++ zwS cI Ko Kp Go Ks Ka ++ zwQ cI Lo Lp Ls La ++ zwS cI To Tp Go Ts Ta ++ zwR cO ra oo ++ zwO (oo 0) (os 0) ++ zwO (oo 1) (os 1) ++ zwO (oo 2) (os 2) ++ zwO (oo 3) (os 3) ++ zwO (oo 4) (os 4) ++ zwO (oo 5) (os 5) ++ zwO (oo 6) (os 6) ++ zwO (oo 7) (os 7) ++ zwO (oo 8) (os 8)) sz)) (va_A (zwX Xo Po Go No Qo Ko Lo To oo ra Xs ++ zwP cI Po Pp Ps Pa ++ zwG cI Go Gp Gs Ga ++ zwS cI No Np Go Ns Na ++ zwQ cI Qo Qp Qs Qa ++ zwS cI Ko Kp Go Ks Ka ++ zwQ cI Lo Lp Ls La ++ zwS cI To Tp Go Ts Ta ++ zwR cO ra oo ++ zwO (oo 0) (os 0) ++ zwO (oo 1) (os 1) ++ zwO (oo 2) (os 2) ++ zwO (oo 3) (os 3) ++ zwO (oo 4) (os 4) ++ zwO (oo 5) (os 5) ++ zwO (oo 6) (os 6) ++ zwO (oo 7) (os 7) ++ zwO (oo 8) (os 8)) sz)) 0 0 (va_A (zwX Xo Po Go No Qo Ko Lo To oo ra Xs ++ zwP cI Po Pp Ps Pa ++ zwG cI Go Gp Gs Ga ++ zwS cI No Np Go Ns Na ++ zwQ cI Qo Qp Qs Qa ++ zwS cI Ko Kp Go Ks Ka ++ zwQ cI Lo Lp Ls La ++ zwS cI To Tp Go Ts Ta ++ zwR cO ra oo ++ zwO (oo 0) (os 0) ++ zwO (oo 1) (os 1) ++ zwO (oo 2) (os 2) ++ zwO (oo 3) (os 3) ++ zwO (oo 4) (os 4) ++ zwO (oo 5) (os 5) ++ zwO (oo 6) (os 6) ++ zwO (oo 7) (os 7) ++ zwO (oo 8) (os 8)) sz) := by
  unfold fX5_restore at h
  refine zmet_i (cc := cX5_restore) (maxL := 1) (by decide) rfl (Nat.le_of_ble_eq_true rfl) rfl rfl ?_
  intro p e s m args below meth c R Q A ls hx hb hts hown hml hK hP hD hE hA hS hRf hRl hl hq
  have hown : s.vm.findClass RX5 = some m.cls := hown
  have hl : lv_has ls 1 [(0, .ref Xo)] := hl
  have inX5 : ∀ w ∈ u_ws RX5 TX5 13, w ∈ wsX5_restore := by decide +kernel
  have lk88 : (Cond.fieldLink RX5 88 "PegField" "isKept" "Z").before args s = true := hts _ (by decide +kernel)
  have lk28 : (Cond.fieldLink RX5 28 "PegField" "now" "LPegField$State;").before args s = true := hts _ (by decide +kernel)
  have lk39 : (Cond.fieldLink RX5 39 "PegField" "keptState" "LPegField$State;").before args s = true := hts _ (by decide +kernel)
  have lk35 : (Cond.fieldLink RX5 35 "PegField" "seen" "LPegField$Seen;").before args s = true := hts _ (by decide +kernel)
  have lk42 : (Cond.fieldLink RX5 42 "PegField" "keptSeen" "LPegField$Seen;").before args s = true := hts _ (by decide +kernel)
  have lk92 : (Cond.fieldLink RX5 92 "PegField" "isLooked" "Z").before args s = true := hts _ (by decide +kernel)
  have inX4 : ∀ w ∈ u_ws RX4 TX4 8, w ∈ wsX5_restore := by decide +kernel
  have lk140 : (Cond.fieldLinkNest RX5 140 "PegField$State" "jumps" "I" "PegField").before args s = true := hE.2.use (by decide +kernel)
  refine lv_aload_n hx hb dX5_restore_0 rfl (lv_at hl 0 rfl) ?_
  refine va_get (D := D) (ci := 5) (v := .int (Xs 6)) (C := RX5) (T := TX5) (N := 13) hx hb hts inX5 hown hK hP 0 rfl rfl 6 (by decide) lk88 (fun _ h9 => h9) rfl dX5_restore_1 ?_
  refine lv_if_ne (tgt := 10) hx hb dX5_restore_4 (by decide) (fun c1 => ?_) (fun c1 => ?_)
  · have h := zif_f c1 h
    refine lv_aload_n hx hb dX5_restore_10 rfl (lv_at hl 0 rfl) ?_
    refine va_get (D := D) (ci := 5) (v := .ref No) (C := RX5) (T := TX5) (N := 13) hx hb hts inX5 hown hK hP 0 rfl rfl 2 (by decide) lk28 (fun _ h9 => h9) rfl dX5_restore_11 ?_
    refine lv_aload_n hx hb dX5_restore_14 rfl (lv_at hl 0 rfl) ?_
    refine va_get (D := D) (ci := 5) (v := .ref Ko) (C := RX5) (T := TX5) (N := 13) hx hb hts inX5 hown hK hP 0 rfl rfl 4 (by decide) lk39 (fun _ h9 => h9) rfl dX5_restore_15 ?_
    obtain ⟨Ss_2, Sa_3, g4, h⟩ := zb2_s h
    have hFc := va_free (wc := (zwS cI No Np Go Ns Na ++ zwS cI Ko Kp Go Ks Ka)) hD hS hA [5, 6, 7, 8, 12, 13, 14, 15] rfl
    refine zcall_v (w2 := (zwX Xo Po Go No Qo Ko Lo To oo ra Xs ++ zwP cI Po Pp Ps Pa ++ zwG cI Go Gp Gs Ga ++ zwS cI No Np Go Ss_2 Sa_3 ++ zwQ cI Qo Qp Qs Qa ++ zwS cI Ko Kp Go Ks Ka ++ zwQ cI Lo Lp Ls La ++ zwS cI To Tp Go Ts Ta ++ zwR cO ra oo ++ zwO (oo 0) (os 0) ++ zwO (oo 1) (os 1) ++ zwO (oo 2) (os 2) ++ zwO (oo 3) (os 3) ++ zwO (oo 4) (os 4) ++ zwO (oo 5) (os 5) ++ zwO (oo 6) (os 6) ++ zwO (oo 7) (os 7) ++ zwO (oo 8) (os 8))) (va_runV (As := [.ref Ko]) (rest := []) ⟨hx, hb, hml, hown, hts⟩ (c_X4_copyFrom l D cI cB cO No Np Go Ko Kp Ns Na Ks Ka _ _ _ g4) (cwV 1 hts gX5_restore_X4_copyFrom rfl rfl rfl kV_X4_copyFrom ⟨Nat.le_trans (Nat.le_of_ble_eq_true rfl) hRf, Nat.le_trans (Nat.le_of_ble_eq_true rfl) hRl⟩) (zpreV hK hP hD hS hE hFc [5, 6, 7, 8, 12, 13, 14, 15] rfl rfl 5 (ci := 4) rfl rfl [.ref Ko]) rfl rfl hl.1 rfl (lv_room (Nat.le_of_ble_eq_true rfl)) dX5_restore_18 ⟨Nat.zero_le _, Nat.zero_le _⟩) hP hD hS hFc [5, 6, 7, 8, 12, 13, 14, 15] [0, 1, 2, 3, 4, 9, 10, 11, 16, 17, 18, 19, 20, 21, 22, 23, 24, 25, 26, 27, 28, 29, 30, 31, 32] [0, 1, 2, 3, 4, 25, 26, 27, 28, 5, 6, 7, 29, 30, 31, 32, 8, 9, 10, 11, 12, 13, 14, 15, 16, 17, 18, 19, 20, 21, 22, 23, 24] 33 rfl rfl rfl rfl (fun H locs hP hD hS => ?_)
    refine lv_aload_n hx hb dX5_restore_21 rfl (lv_at hl 0 rfl) ?_
    refine va_get (D := D) (ci := 5) (v := .ref Qo) (C := RX5) (T := TX5) (N := 13) hx hb hts inX5 hown hK hP 0 rfl rfl 3 (by decide) lk35 (fun _ h9 => h9) rfl dX5_restore_22 ?_
    refine lv_aload_n hx hb dX5_restore_25 rfl (lv_at hl 0 rfl) ?_
    refine va_get (D := D) (ci := 5) (v := .ref Lo) (C := RX5) (T := TX5) (N := 13) hx hb hts inX5 hown hK hP 0 rfl rfl 5 (by decide) lk42 (fun _ h9 => h9) rfl dX5_restore_26 ?_
    obtain ⟨Qs_5, Qa_6, g7, h⟩ := zb2_s h
    have hFc := va_free (wc := (zwQ cI Qo Qp Qs Qa ++ zwQ cI Lo Lp Ls La)) hD hS hA [9, 10, 11, 16, 17, 18] rfl
    refine zcall_v (w2 := (zwX Xo Po Go No Qo Ko Lo To oo ra Xs ++ zwP cI Po Pp Ps Pa ++ zwG cI Go Gp Gs Ga ++ zwS cI No Np Go Ss_2 Sa_3 ++ zwQ cI Qo Qp Qs_5 Qa_6 ++ zwS cI Ko Kp Go Ks Ka ++ zwQ cI Lo Lp Ls La ++ zwS cI To Tp Go Ts Ta ++ zwR cO ra oo ++ zwO (oo 0) (os 0) ++ zwO (oo 1) (os 1) ++ zwO (oo 2) (os 2) ++ zwO (oo 3) (os 3) ++ zwO (oo 4) (os 4) ++ zwO (oo 5) (os 5) ++ zwO (oo 6) (os 6) ++ zwO (oo 7) (os 7) ++ zwO (oo 8) (os 8))) (va_runV (As := [.ref Lo]) (rest := []) ⟨hx, hb, hml, hown, hts⟩ (c_X3_copyFrom l D cI cB cO Qo Qp Lo Lp Qs Qa Ls La _ _ _ g7) (cwV 1 hts gX5_restore_X3_copyFrom rfl rfl rfl kV_X3_copyFrom ⟨Nat.le_trans (Nat.le_of_ble_eq_true rfl) hRf, Nat.le_trans (Nat.le_of_ble_eq_true rfl) hRl⟩) (zpreV hK hP hD hS hE hFc [9, 10, 11, 16, 17, 18] rfl rfl 9 (ci := 3) rfl rfl [.ref Lo]) rfl rfl hl.1 rfl (lv_room (Nat.le_of_ble_eq_true rfl)) dX5_restore_29 ⟨Nat.zero_le _, Nat.zero_le _⟩) hP hD hS hFc [9, 10, 11, 16, 17, 18] [0, 1, 2, 3, 4, 5, 6, 7, 8, 12, 13, 14, 15, 19, 20, 21, 22, 23, 24, 25, 26, 27, 28, 29, 30, 31, 32] [0, 1, 2, 3, 4, 5, 6, 7, 8, 27, 28, 29, 9, 10, 11, 12, 30, 31, 32, 13, 14, 15, 16, 17, 18, 19, 20, 21, 22, 23, 24, 25, 26] 33 rfl rfl rfl rfl (fun H locs hP hD hS => ?_)
    refine lv_aload_n hx hb dX5_restore_32 rfl (lv_at hl 0 rfl) ?_
    refine lv_iconst (v := (0 : Int32)) hx hb dX5_restore_33 (by decide) ?_
    refine va_put (D := D) (ci := 5) (v := .int (0 : Int32)) (ty := .boolean) (C := RX5) (T := TX5) (N := 13) hx hb hts inX5 tyX5 tyX5_ok nmX5 hown hK hP hD hS 0 rfl rfl 10 (by decide) lk92 (fun _ h9 => h9) rfl (by decide +kernel) (by decide) (by decide) (Nat.le_of_ble_eq_true rfl) dX5_restore_34 (fun H locs hP hD hS => ?_)
    have hP : va_P D vwCl (zwX Xo Po Go No Qo Ko Lo To oo ra (upd Xs 10 (0 : Int32)) ++ zwP cI Po Pp Ps Pa ++ zwG cI Go Gp Gs Ga ++ zwS cI No Np Go Ss_2 Sa_3 ++ zwQ cI Qo Qp Qs_5 Qa_6 ++ zwS cI Ko Kp Go Ks Ka ++ zwQ cI Lo Lp Ls La ++ zwS cI To Tp Go Ts Ta ++ zwR cO ra oo ++ zwO (oo 0) (os 0) ++ zwO (oo 1) (os 1) ++ zwO (oo 2) (os 2) ++ zwO (oo 3) (os 3) ++ zwO (oo 4) (os 4) ++ zwO (oo 5) (os 5) ++ zwO (oo 6) (os 6) ++ zwO (oo 7) (os 7) ++ zwO (oo 8) (os 8)) H := hP
    have hD : va_D A (zwX Xo Po Go No Qo Ko Lo To oo ra (upd Xs 10 (0 : Int32)) ++ zwP cI Po Pp Ps Pa ++ zwG cI Go Gp Gs Ga ++ zwS cI No Np Go Ss_2 Sa_3 ++ zwQ cI Qo Qp Qs_5 Qa_6 ++ zwS cI Ko Kp Go Ks Ka ++ zwQ cI Lo Lp Ls La ++ zwS cI To Tp Go Ts Ta ++ zwR cO ra oo ++ zwO (oo 0) (os 0) ++ zwO (oo 1) (os 1) ++ zwO (oo 2) (os 2) ++ zwO (oo 3) (os 3) ++ zwO (oo 4) (os 4) ++ zwO (oo 5) (os 5) ++ zwO (oo 6) (os 6) ++ zwO (oo 7) (os 7) ++ zwO (oo 8) (os 8)) := hD
    refine lv_aload_n hx hb dX5_restore_37 rfl (lv_at hl 0 rfl) ?_
    refine va_get (D := D) (ci := 5) (v := .ref No) (C := RX5) (T := TX5) (N := 13) hx hb hts inX5 hown hK hP 0 rfl rfl 2 (by decide) lk28 (fun _ h9 => h9) rfl dX5_restore_38 ?_
    refine va_getN (D := D) (ci := 4) (v := .int (Ss_2 4)) (C := RX4) (T := TX4) (N := 8) hx hb hts inX4 hown hK hP 5 rfl rfl 4 (by decide) lk140 (fun _ h9 => h9) rfl dX5_restore_41 ?_
    cases zend h
    exact hq hP hD hS dX5_restore_44
  · have h := zif_t c1 h
    refine lv_bipush (v := (-103 : Int32)) hx hb dX5_restore_7 (by decide) ?_
    cases zend h
    exact hq hP hD hS dX5_restore_9
set_option maxHeartbeats 4000000 in
set_option maxRecDepth 100000 in
theorem c_X5_count (l : Launch) (D : va_G) (cI cB cO : ClassId) (Xo : Nat) (Po : Nat) (Pp : Nat → Nat) (Go : Nat) (Gp : Nat → Nat) (No : Nat) (Np : Nat → Nat) (Qo : Nat) (Qp : Nat → Nat) (Ko : Nat) (Kp : Nat → Nat) (Lo : Nat) (Lp : Nat → Nat) (To : Nat) (Tp : Nat → Nat) (ra : Nat) (oo : Nat → Nat) (Xs : Nat → Int32) (Ps : Nat → Int32) (Pa : Nat → Nat → Int32) (Gs : Nat → Int32) (Ga : Nat → Nat → Int32) (Ns : Nat → Int32) (Na : Nat → Nat → Int32) (Qs : Nat → Int32) (Qa : Nat → Nat → Int32) (Ks : Nat → Int32) (Ka : Nat → Nat → Int32) (Ls : Nat → Int32) (La : Nat → Nat → Int32) (Ts : Nat → Int32) (Ta : Nat → Nat → Int32) (os : Nat → Nat → Int32) (a0 : Int32) (rv : Int32) (sz : Nat) (h : fX5_count Xs Ps Gs Ga Ns Na Qs a0 = some rv) : Met l yX5_count wsX5_count ({ frames := 5, cells := 0, slots := 0, locals := 115 } : Room) (va_Pc [.ref Xo, .int a0] (zPre D (zTY cI cB cO) (zwX Xo Po Go No Qo Ko Lo To oo ra Xs ++ zwP cI Po Pp Ps Pa ++ zwG cI Go Gp Gs Ga ++ zwS cI No Np Go Ns Na ++ zwQ cI Qo Qp Qs Qa ++ zwS cI Ko Kp Go Ks Ka ++ zwQ cI Lo Lp Ls La ++ zwS cI To Tp Go Ts Ta ++ zwR cO ra oo ++ zwO (oo 0) (os 0) ++ zwO (oo 1) (os 1) ++ zwO (oo 2) (os 2) ++ zwO (oo 3) (os 3) ++ zwO (oo 4) (os 4) ++ zwO (oo 5) (os 5) ++ zwO (oo 6) (os 6) ++ zwO (oo 7) (os 7) ++ zwO (oo 8) (os 8)) sz)) (va_Qi (fun r (_ : Unit) => r = rv) (fun _ => zPost D (zTY cI cB cO) (zwX Xo Po Go No Qo Ko Lo To oo ra Xs ++ zwP cI Po Pp Ps Pa ++ zwG cI Go Gp Gs Ga ++ zwS cI No Np Go Ns Na ++ zwQ cI Qo Qp Qs Qa ++ zwS cI Ko Kp Go Ks Ka ++ zwQ cI Lo Lp Ls La ++ zwS cI To Tp Go Ts Ta ++ zwR cO ra oo ++ zwO (oo 0) (os 0) ++ zwO (oo 1) (os 1) ++ zwO (oo 2) (os 2) ++ zwO (oo 3) (os 3) ++ zwO (oo 4) (os 4) ++ zwO (oo 5) (os 5) ++ zwO (oo 6) (os 6) ++ zwO (oo 7) (os 7) ++ zwO (oo 8) (os 8)) (va_A (zwX Xo Po Go No Qo Ko Lo To oo ra Xs ++ zwP cI Po Pp Ps Pa ++ zwG cI Go Gp Gs Ga ++ zwS cI No Np Go Ns Na ++ zwQ cI Qo Qp Qs Qa ++ zwS cI Ko Kp Go Ks Ka ++ zwQ cI Lo Lp Ls La ++ zwS cI To Tp Go Ts Ta ++ zwR cO ra oo ++ zwO (oo 0) (os 0) ++ zwO (oo 1) (os 1) ++ zwO (oo 2) (os 2) ++ zwO (oo 3) (os 3) ++ zwO (oo 4) (os 4) ++ zwO (oo 5) (os 5) ++ zwO (oo 6) (os 6) ++ zwO (oo 7) (os 7) ++ zwO (oo 8) (os 8)) sz)) (va_A (zwX Xo Po Go No Qo Ko Lo To oo ra Xs ++ zwP cI Po Pp Ps Pa ++ zwG cI Go Gp Gs Ga ++ zwS cI No Np Go Ns Na ++ zwQ cI Qo Qp Qs Qa ++ zwS cI Ko Kp Go Ks Ka ++ zwQ cI Lo Lp Ls La ++ zwS cI To Tp Go Ts Ta ++ zwR cO ra oo ++ zwO (oo 0) (os 0) ++ zwO (oo 1) (os 1) ++ zwO (oo 2) (os 2) ++ zwO (oo 3) (os 3) ++ zwO (oo 4) (os 4) ++ zwO (oo 5) (os 5) ++ zwO (oo 6) (os 6) ++ zwO (oo 7) (os 7) ++ zwO (oo 8) (os 8)) sz)) 0 0 (va_A (zwX Xo Po Go No Qo Ko Lo To oo ra Xs ++ zwP cI Po Pp Ps Pa ++ zwG cI Go Gp Gs Ga ++ zwS cI No Np Go Ns Na ++ zwQ cI Qo Qp Qs Qa ++ zwS cI Ko Kp Go Ks Ka ++ zwQ cI Lo Lp Ls La ++ zwS cI To Tp Go Ts Ta ++ zwR cO ra oo ++ zwO (oo 0) (os 0) ++ zwO (oo 1) (os 1) ++ zwO (oo 2) (os 2) ++ zwO (oo 3) (os 3) ++ zwO (oo 4) (os 4) ++ zwO (oo 5) (os 5) ++ zwO (oo 6) (os 6) ++ zwO (oo 7) (os 7) ++ zwO (oo 8) (os 8)) sz) := by
  unfold fX5_count at h
  refine zmet_i (cc := cX5_count) (maxL := 2) (by decide) rfl (Nat.le_of_ble_eq_true rfl) rfl rfl ?_
  intro p e s m args below meth c R Q A ls hx hb hts hown hml hK hP hD hE hA hS hRf hRl hl hq
  have hown : s.vm.findClass RX5 = some m.cls := hown
  have hl : lv_has ls 2 [(0, .ref Xo), (1, .int a0)] := hl
  have inX5 : ∀ w ∈ u_ws RX5 TX5 13, w ∈ wsX5_count := by decide +kernel
  have lk19 : (Cond.fieldLink RX5 19 "PegField" "grid" "LPegField$Grid;").before args s = true := hts _ (by decide +kernel)
  have inX0 : ∀ w ∈ u_ws RX0 TX0 4, w ∈ wsX5_count := by decide +kernel
  have lk228 : (Cond.fieldLinkNest RX5 228 "PegField$Grid" "rows" "I" "PegField").before args s = true := hE.2.use (by decide +kernel)
  have lk231 : (Cond.fieldLinkNest RX5 231 "PegField$Grid" "columns" "I" "PegField").before args s = true := hE.2.use (by decide +kernel)
  have lk28 : (Cond.fieldLink RX5 28 "PegField" "now" "LPegField$State;").before args s = true := hts _ (by decide +kernel)
  have inX4 : ∀ w ∈ u_ws RX4 TX4 8, w ∈ wsX5_count := by decide +kernel
  have lk159 : (Cond.fieldLinkNest RX5 159 "PegField$State" "holes" "I" "PegField").before args s = true := hE.2.use (by decide +kernel)
  have lk98 : (Cond.fieldLinkNest RX5 98 "PegField$State" "pegs" "I" "PegField").before args s = true := hE.2.use (by decide +kernel)
  have lk150 : (Cond.fieldLinkNest RX5 150 "PegField$State" "onBoard" "I" "PegField").before args s = true := hE.2.use (by decide +kernel)
  have lk140 : (Cond.fieldLinkNest RX5 140 "PegField$State" "jumps" "I" "PegField").before args s = true := hE.2.use (by decide +kernel)
  have lk35 : (Cond.fieldLink RX5 35 "PegField" "seen" "LPegField$Seen;").before args s = true := hts _ (by decide +kernel)
  have inX3 : ∀ w ∈ u_ws RX3 TX3 3, w ∈ wsX5_count := by decide +kernel
  have lk87 : (Cond.fieldLinkNest RX5 87 "PegField$Seen" "size" "I" "PegField").before args s = true := hE.2.use (by decide +kernel)
  have lk12 : (Cond.fieldLink RX5 12 "PegField" "page" "LPegField$Page;").before args s = true := hts _ (by decide +kernel)
  have inX2 : ∀ w ∈ u_ws RX2 TX2 2, w ∈ wsX5_count := by decide +kernel
  have lk63 : (Cond.fieldLinkNest RX5 63 "PegField$Page" "size" "I" "PegField").before args s = true := hE.2.use (by decide +kernel)
  have lk95 : (Cond.fieldLink RX5 95 "PegField" "reads" "I").before args s = true := hts _ (by decide +kernel)
  have lk194 : (Cond.fieldLink RX5 194 "PegField" "adds" "I").before args s = true := hts _ (by decide +kernel)
  refine lv_iload_n hx hb dX5_count_0 rfl (lv_at hl 1 rfl) ?_
  by_cases c1 : a0 = (0 : Int32)
  · have h := zif_t c1 h
    refine lv_tableIn (tgt := 60) (off := 59) hx hb dX5_count_1 (by rw [c1]; decide) (by rw [c1]; decide) (by rw [c1]; rfl) (by decide) ?_
    refine lv_aload_n hx hb dX5_count_60 rfl (lv_at hl 0 rfl) ?_
    refine va_get (D := D) (ci := 5) (v := .ref Go) (C := RX5) (T := TX5) (N := 13) hx hb hts inX5 hown hK hP 0 rfl rfl 1 (by decide) lk19 (fun _ h9 => h9) rfl dX5_count_61 ?_
    refine va_getN (D := D) (ci := 0) (v := .int (Gs 0)) (C := RX0) (T := TX0) (N := 4) hx hb hts inX0 hown hK hP 3 rfl rfl 0 (by decide) lk228 (fun _ h9 => h9) rfl dX5_count_64 ?_
    cases zend h
    exact hq hP hD hS dX5_count_67
  · have h := zif_f c1 h
    by_cases c2 : a0 = (1 : Int32)
    · have h := zif_t c2 h
      refine lv_tableIn (tgt := 68) (off := 67) hx hb dX5_count_1 (by rw [c2]; decide) (by rw [c2]; decide) (by rw [c2]; rfl) (by decide) ?_
      refine lv_aload_n hx hb dX5_count_68 rfl (lv_at hl 0 rfl) ?_
      refine va_get (D := D) (ci := 5) (v := .ref Go) (C := RX5) (T := TX5) (N := 13) hx hb hts inX5 hown hK hP 0 rfl rfl 1 (by decide) lk19 (fun _ h9 => h9) rfl dX5_count_69 ?_
      refine va_getN (D := D) (ci := 0) (v := .int (Gs 1)) (C := RX0) (T := TX0) (N := 4) hx hb hts inX0 hown hK hP 3 rfl rfl 1 (by decide) lk231 (fun _ h9 => h9) rfl dX5_count_72 ?_
      cases zend h
      exact hq hP hD hS dX5_count_75
    · have h := zif_f c2 h
      by_cases c3 : a0 = (2 : Int32)
      · have h := zif_t c3 h
        refine lv_tableIn (tgt := 76) (off := 75) hx hb dX5_count_1 (by rw [c3]; decide) (by rw [c3]; decide) (by rw [c3]; rfl) (by decide) ?_
        refine lv_aload_n hx hb dX5_count_76 rfl (lv_at hl 0 rfl) ?_
        refine va_get (D := D) (ci := 5) (v := .ref No) (C := RX5) (T := TX5) (N := 13) hx hb hts inX5 hown hK hP 0 rfl rfl 2 (by decide) lk28 (fun _ h9 => h9) rfl dX5_count_77 ?_
        refine va_getN (D := D) (ci := 4) (v := .int (Ns 1)) (C := RX4) (T := TX4) (N := 8) hx hb hts inX4 hown hK hP 5 rfl rfl 1 (by decide) lk159 (fun _ h9 => h9) rfl dX5_count_80 ?_
        obtain ⟨r4, g5, h⟩ := zb1_s h
        have hFc := va_free (wc := ([] : va_W)) hD hS hA [] rfl
        refine zcall_i (w2 := (zwX Xo Po Go No Qo Ko Lo To oo ra Xs ++ zwP cI Po Pp Ps Pa ++ zwG cI Go Gp Gs Ga ++ zwS cI No Np Go Ns Na ++ zwQ cI Qo Qp Qs Qa ++ zwS cI Ko Kp Go Ks Ka ++ zwQ cI Lo Lp Ls La ++ zwS cI To Tp Go Ts Ta ++ zwR cO ra oo ++ zwO (oo 0) (os 0) ++ zwO (oo 1) (os 1) ++ zwO (oo 2) (os 2) ++ zwO (oo 3) (os 3) ++ zwO (oo 4) (os 4) ++ zwO (oo 5) (os 5) ++ zwO (oo 6) (os 6) ++ zwO (oo 7) (os 7) ++ zwO (oo 8) (os 8))) (va_runS (As := [.int (Ns 1)]) (rest := []) ⟨hx, hb, hml, hown, hts⟩ (c_J6_bitCount_0f7a4 l D cI cB cO (Ns 1) _ _ g5) (va_cwS 1 hts gX5_count_J6_bitCount_0f7a4 rfl rfl rfl kS_J6_bitCount_0f7a4 ⟨Nat.le_trans (Nat.le_of_ble_eq_true rfl) hRf, Nat.le_trans (Nat.le_of_ble_eq_true rfl) hRl⟩) (zpreS hK hP hD hS hE hFc [] rfl rfl [.int (Ns 1)]) rfl rfl hl.1 rfl (lv_room (Nat.le_of_ble_eq_true rfl)) dX5_count_83 ⟨Nat.zero_le _, Nat.zero_le _⟩) hP hD hS hFc [] [0, 1, 2, 3, 4, 5, 6, 7, 8, 9, 10, 11, 12, 13, 14, 15, 16, 17, 18, 19, 20, 21, 22, 23, 24, 25, 26, 27, 28, 29, 30, 31, 32] [0, 1, 2, 3, 4, 5, 6, 7, 8, 9, 10, 11, 12, 13, 14, 15, 16, 17, 18, 19, 20, 21, 22, 23, 24, 25, 26, 27, 28, 29, 30, 31, 32] 33 rfl rfl rfl rfl (fun H locs hP hD hS => ?_)
        cases zend h
        exact hq hP hD hS dX5_count_86
      · have h := zif_f c3 h
        by_cases c6 : a0 = (3 : Int32)
        · have h := zif_t c6 h
          refine lv_tableIn (tgt := 87) (off := 86) hx hb dX5_count_1 (by rw [c6]; decide) (by rw [c6]; decide) (by rw [c6]; rfl) (by decide) ?_
          refine lv_aload_n hx hb dX5_count_87 rfl (lv_at hl 0 rfl) ?_
          refine va_get (D := D) (ci := 5) (v := .ref No) (C := RX5) (T := TX5) (N := 13) hx hb hts inX5 hown hK hP 0 rfl rfl 2 (by decide) lk28 (fun _ h9 => h9) rfl dX5_count_88 ?_
          refine va_getN (D := D) (ci := 4) (v := .int (Ns 2)) (C := RX4) (T := TX4) (N := 8) hx hb hts inX4 hown hK hP 5 rfl rfl 2 (by decide) lk98 (fun _ h9 => h9) rfl dX5_count_91 ?_
          cases zend h
          exact hq hP hD hS dX5_count_94
        · have h := zif_f c6 h
          by_cases c7 : a0 = (4 : Int32)
          · have h := zif_t c7 h
            refine lv_tableIn (tgt := 95) (off := 94) hx hb dX5_count_1 (by rw [c7]; decide) (by rw [c7]; decide) (by rw [c7]; rfl) (by decide) ?_
            refine lv_aload_n hx hb dX5_count_95 rfl (lv_at hl 0 rfl) ?_
            refine va_get (D := D) (ci := 5) (v := .ref No) (C := RX5) (T := TX5) (N := 13) hx hb hts inX5 hown hK hP 0 rfl rfl 2 (by decide) lk28 (fun _ h9 => h9) rfl dX5_count_96 ?_
            refine va_getN (D := D) (ci := 4) (v := .int (Ns 3)) (C := RX4) (T := TX4) (N := 8) hx hb hts inX4 hown hK hP 5 rfl rfl 3 (by decide) lk150 (fun _ h9 => h9) rfl dX5_count_99 ?_
            cases zend h
            exact hq hP hD hS dX5_count_102
          · have h := zif_f c7 h
            by_cases c8 : a0 = (5 : Int32)
            · have h := zif_t c8 h
              refine lv_tableIn (tgt := 103) (off := 102) hx hb dX5_count_1 (by rw [c8]; decide) (by rw [c8]; decide) (by rw [c8]; rfl) (by decide) ?_
              refine lv_aload_n hx hb dX5_count_103 rfl (lv_at hl 0 rfl) ?_
              refine va_get (D := D) (ci := 5) (v := .ref No) (C := RX5) (T := TX5) (N := 13) hx hb hts inX5 hown hK hP 0 rfl rfl 2 (by decide) lk28 (fun _ h9 => h9) rfl dX5_count_104 ?_
              obtain ⟨r9, g10, h⟩ := zb1_s h
              have hFc := va_free (wc := (zwS cI No Np Go Ns Na ++ zwG cI Go Gp Gs Ga)) hD hS hA [5, 6, 7, 8, 3, 4] rfl
              refine zcall_i (w2 := (zwX Xo Po Go No Qo Ko Lo To oo ra Xs ++ zwP cI Po Pp Ps Pa ++ zwG cI Go Gp Gs Ga ++ zwS cI No Np Go Ns Na ++ zwQ cI Qo Qp Qs Qa ++ zwS cI Ko Kp Go Ks Ka ++ zwQ cI Lo Lp Ls La ++ zwS cI To Tp Go Ts Ta ++ zwR cO ra oo ++ zwO (oo 0) (os 0) ++ zwO (oo 1) (os 1) ++ zwO (oo 2) (os 2) ++ zwO (oo 3) (os 3) ++ zwO (oo 4) (os 4) ++ zwO (oo 5) (os 5) ++ zwO (oo 6) (os 6) ++ zwO (oo 7) (os 7) ++ zwO (oo 8) (os 8))) (va_runV (As := []) (rest := []) ⟨hx, hb, hml, hown, hts⟩ (c_X4_choices l D cI cB cO No Np Go Gp Ns Na Gs Ga _ _ g10) (cwV 0 hts gX5_count_X4_choices rfl rfl rfl kV_X4_choices ⟨Nat.le_trans (Nat.le_of_ble_eq_true rfl) hRf, Nat.le_trans (Nat.le_of_ble_eq_true rfl) hRl⟩) (zpreV hK hP hD hS hE hFc [5, 6, 7, 8, 3, 4] rfl rfl 5 (ci := 4) rfl rfl []) rfl rfl hl.1 rfl (lv_room (Nat.le_of_ble_eq_true rfl)) dX5_count_107 ⟨Nat.zero_le _, Nat.zero_le _⟩) hP hD hS hFc [5, 6, 7, 8, 3, 4] [0, 1, 2, 9, 10, 11, 12, 13, 14, 15, 16, 17, 18, 19, 20, 21, 22, 23, 24, 25, 26, 27, 28, 29, 30, 31, 32] [0, 1, 2, 31, 32, 27, 28, 29, 30, 3, 4, 5, 6, 7, 8, 9, 10, 11, 12, 13, 14, 15, 16, 17, 18, 19, 20, 21, 22, 23, 24, 25, 26] 33 rfl rfl rfl rfl (fun H locs hP hD hS => ?_)
              cases zend h
              exact hq hP hD hS dX5_count_110
            · have h := zif_f c8 h
              by_cases c11 : a0 = (6 : Int32)
              · have h := zif_t c11 h
                refine lv_tableIn (tgt := 111) (off := 110) hx hb dX5_count_1 (by rw [c11]; decide) (by rw [c11]; decide) (by rw [c11]; rfl) (by decide) ?_
                refine lv_aload_n hx hb dX5_count_111 rfl (lv_at hl 0 rfl) ?_
                refine va_get (D := D) (ci := 5) (v := .ref No) (C := RX5) (T := TX5) (N := 13) hx hb hts inX5 hown hK hP 0 rfl rfl 2 (by decide) lk28 (fun _ h9 => h9) rfl dX5_count_112 ?_
                refine va_getN (D := D) (ci := 4) (v := .int (Ns 4)) (C := RX4) (T := TX4) (N := 8) hx hb hts inX4 hown hK hP 5 rfl rfl 4 (by decide) lk140 (fun _ h9 => h9) rfl dX5_count_115 ?_
                cases zend h
                exact hq hP hD hS dX5_count_118
              · have h := zif_f c11 h
                by_cases c12 : a0 = (7 : Int32)
                · have h := zif_t c12 h
                  refine lv_tableIn (tgt := 119) (off := 118) hx hb dX5_count_1 (by rw [c12]; decide) (by rw [c12]; decide) (by rw [c12]; rfl) (by decide) ?_
                  refine lv_aload_n hx hb dX5_count_119 rfl (lv_at hl 0 rfl) ?_
                  refine va_get (D := D) (ci := 5) (v := .ref Qo) (C := RX5) (T := TX5) (N := 13) hx hb hts inX5 hown hK hP 0 rfl rfl 3 (by decide) lk35 (fun _ h9 => h9) rfl dX5_count_120 ?_
                  refine va_getN (D := D) (ci := 3) (v := .int (Qs 2)) (C := RX3) (T := TX3) (N := 3) hx hb hts inX3 hown hK hP 9 rfl rfl 2 (by decide) lk87 (fun _ h9 => h9) rfl dX5_count_123 ?_
                  cases zend h
                  exact hq hP hD hS dX5_count_126
                · have h := zif_f c12 h
                  by_cases c13 : a0 = (8 : Int32)
                  · have h := zif_t c13 h
                    refine lv_tableIn (tgt := 127) (off := 126) hx hb dX5_count_1 (by rw [c13]; decide) (by rw [c13]; decide) (by rw [c13]; rfl) (by decide) ?_
                    refine lv_aload_n hx hb dX5_count_127 rfl (lv_at hl 0 rfl) ?_
                    refine va_get (D := D) (ci := 5) (v := .ref Po) (C := RX5) (T := TX5) (N := 13) hx hb hts inX5 hown hK hP 0 rfl rfl 0 (by decide) lk12 (fun _ h9 => h9) rfl dX5_count_128 ?_
                    refine va_getN (D := D) (ci := 2) (v := .int (Ps 1)) (C := RX2) (T := TX2) (N := 2) hx hb hts inX2 hown hK hP 1 rfl rfl 1 (by decide) lk63 (fun _ h9 => h9) rfl dX5_count_131 ?_
                    cases zend h
                    exact hq hP hD hS dX5_count_134
                  · have h := zif_f c13 h
                    by_cases c14 : a0 = (9 : Int32)
                    · have h := zif_t c14 h
                      refine lv_tableIn (tgt := 135) (off := 134) hx hb dX5_count_1 (by rw [c14]; decide) (by rw [c14]; decide) (by rw [c14]; rfl) (by decide) ?_
                      refine lv_aload_n hx hb dX5_count_135 rfl (lv_at hl 0 rfl) ?_
                      refine va_get (D := D) (ci := 5) (v := .int (Xs 11)) (C := RX5) (T := TX5) (N := 13) hx hb hts inX5 hown hK hP 0 rfl rfl 11 (by decide) lk95 (fun _ h9 => h9) rfl dX5_count_136 ?_
                      cases zend h
                      exact hq hP hD hS dX5_count_139
                    · have h := zif_f c14 h
                      by_cases c15 : a0 = (10 : Int32)
                      · have h := zif_t c15 h
                        refine lv_tableIn (tgt := 140) (off := 139) hx hb dX5_count_1 (by rw [c15]; decide) (by rw [c15]; decide) (by rw [c15]; rfl) (by decide) ?_
                        refine lv_aload_n hx hb dX5_count_140 rfl (lv_at hl 0 rfl) ?_
                        refine va_get (D := D) (ci := 5) (v := .int (Xs 12)) (C := RX5) (T := TX5) (N := 13) hx hb hts inX5 hown hK hP 0 rfl rfl 12 (by decide) lk194 (fun _ h9 => h9) rfl dX5_count_141 ?_
                        cases zend h
                        exact hq hP hD hS dX5_count_144
                      · have h := zif_f c15 h
                        have nc1 := zne_i (k := 0) (0 : Int32) (by decide) c1
                        have nc2 := zne_i (k := 1) (1 : Int32) (by decide) c2
                        have nc3 := zne_i (k := 2) (2 : Int32) (by decide) c3
                        have nc6 := zne_i (k := 3) (3 : Int32) (by decide) c6
                        have nc7 := zne_i (k := 4) (4 : Int32) (by decide) c7
                        have nc8 := zne_i (k := 5) (5 : Int32) (by decide) c8
                        have nc11 := zne_i (k := 6) (6 : Int32) (by decide) c11
                        have nc12 := zne_i (k := 7) (7 : Int32) (by decide) c12
                        have nc13 := zne_i (k := 8) (8 : Int32) (by decide) c13
                        have nc14 := zne_i (k := 9) (9 : Int32) (by decide) c14
                        have nc15 := zne_i (k := 10) (10 : Int32) (by decide) c15
                        refine lv_tableOut (tgt := 145) hx hb dX5_count_1 (by omega) (by decide) ?_
                        refine lv_bipush (v := (-102 : Int32)) hx hb dX5_count_145 (by decide) ?_
                        cases zend h
                        exact hq hP hD hS dX5_count_147
set_option maxHeartbeats 4000000 in
set_option maxRecDepth 100000 in
theorem c_X5_digest (l : Launch) (D : va_G) (cI cB cO : ClassId) (Xo : Nat) (Po : Nat) (Pp : Nat → Nat) (Go : Nat) (Gp : Nat → Nat) (No : Nat) (Np : Nat → Nat) (Qo : Nat) (Qp : Nat → Nat) (Ko : Nat) (Kp : Nat → Nat) (Lo : Nat) (Lp : Nat → Nat) (To : Nat) (Tp : Nat → Nat) (ra : Nat) (oo : Nat → Nat) (Xs : Nat → Int32) (Ps : Nat → Int32) (Pa : Nat → Nat → Int32) (Gs : Nat → Int32) (Ga : Nat → Nat → Int32) (Ns : Nat → Int32) (Na : Nat → Nat → Int32) (Qs : Nat → Int32) (Qa : Nat → Nat → Int32) (Ks : Nat → Int32) (Ka : Nat → Nat → Int32) (Ls : Nat → Int32) (La : Nat → Nat → Int32) (Ts : Nat → Int32) (Ta : Nat → Nat → Int32) (os : Nat → Nat → Int32)  (rv : Int64) (Xs' : Nat → Int32) (Ts' : Nat → Int32) (Ta' : Nat → Nat → Int32) (os' : Nat → Nat → Int32) (sz : Nat) (h : fX5_digest Xs Ps Pa Gs Ga Ns Na Qs Qa Ts Ta os = some (rv, Xs', Ts', Ta', os')) : Met l yX5_digest wsX5_digest ({ frames := 14, cells := 0, slots := 0, locals := 367 } : Room) (va_Pc [.ref Xo] (zPre D (zTY cI cB cO) (zwX Xo Po Go No Qo Ko Lo To oo ra Xs ++ zwP cI Po Pp Ps Pa ++ zwG cI Go Gp Gs Ga ++ zwS cI No Np Go Ns Na ++ zwQ cI Qo Qp Qs Qa ++ zwS cI Ko Kp Go Ks Ka ++ zwQ cI Lo Lp Ls La ++ zwS cI To Tp Go Ts Ta ++ zwR cO ra oo ++ zwO (oo 0) (os 0) ++ zwO (oo 1) (os 1) ++ zwO (oo 2) (os 2) ++ zwO (oo 3) (os 3) ++ zwO (oo 4) (os 4) ++ zwO (oo 5) (os 5) ++ zwO (oo 6) (os 6) ++ zwO (oo 7) (os 7) ++ zwO (oo 8) (os 8)) sz)) (va_Ql (fun r (_ : Unit) => r = rv) (fun _ => zPost D (zTY cI cB cO) (zwX Xo Po Go No Qo Ko Lo To oo ra Xs' ++ zwP cI Po Pp Ps Pa ++ zwG cI Go Gp Gs Ga ++ zwS cI No Np Go Ns Na ++ zwQ cI Qo Qp Qs Qa ++ zwS cI Ko Kp Go Ks Ka ++ zwQ cI Lo Lp Ls La ++ zwS cI To Tp Go Ts' Ta' ++ zwR cO ra oo ++ zwO (oo 0) (os' 0) ++ zwO (oo 1) (os' 1) ++ zwO (oo 2) (os' 2) ++ zwO (oo 3) (os' 3) ++ zwO (oo 4) (os' 4) ++ zwO (oo 5) (os' 5) ++ zwO (oo 6) (os' 6) ++ zwO (oo 7) (os' 7) ++ zwO (oo 8) (os' 8)) (va_A (zwX Xo Po Go No Qo Ko Lo To oo ra Xs ++ zwP cI Po Pp Ps Pa ++ zwG cI Go Gp Gs Ga ++ zwS cI No Np Go Ns Na ++ zwQ cI Qo Qp Qs Qa ++ zwS cI Ko Kp Go Ks Ka ++ zwQ cI Lo Lp Ls La ++ zwS cI To Tp Go Ts Ta ++ zwR cO ra oo ++ zwO (oo 0) (os 0) ++ zwO (oo 1) (os 1) ++ zwO (oo 2) (os 2) ++ zwO (oo 3) (os 3) ++ zwO (oo 4) (os 4) ++ zwO (oo 5) (os 5) ++ zwO (oo 6) (os 6) ++ zwO (oo 7) (os 7) ++ zwO (oo 8) (os 8)) sz)) (va_A (zwX Xo Po Go No Qo Ko Lo To oo ra Xs ++ zwP cI Po Pp Ps Pa ++ zwG cI Go Gp Gs Ga ++ zwS cI No Np Go Ns Na ++ zwQ cI Qo Qp Qs Qa ++ zwS cI Ko Kp Go Ks Ka ++ zwQ cI Lo Lp Ls La ++ zwS cI To Tp Go Ts Ta ++ zwR cO ra oo ++ zwO (oo 0) (os 0) ++ zwO (oo 1) (os 1) ++ zwO (oo 2) (os 2) ++ zwO (oo 3) (os 3) ++ zwO (oo 4) (os 4) ++ zwO (oo 5) (os 5) ++ zwO (oo 6) (os 6) ++ zwO (oo 7) (os 7) ++ zwO (oo 8) (os 8)) sz)) 0 0 (va_A (zwX Xo Po Go No Qo Ko Lo To oo ra Xs ++ zwP cI Po Pp Ps Pa ++ zwG cI Go Gp Gs Ga ++ zwS cI No Np Go Ns Na ++ zwQ cI Qo Qp Qs Qa ++ zwS cI Ko Kp Go Ks Ka ++ zwQ cI Lo Lp Ls La ++ zwS cI To Tp Go Ts Ta ++ zwR cO ra oo ++ zwO (oo 0) (os 0) ++ zwO (oo 1) (os 1) ++ zwO (oo 2) (os 2) ++ zwO (oo 3) (os 3) ++ zwO (oo 4) (os 4) ++ zwO (oo 5) (os 5) ++ zwO (oo 6) (os 6) ++ zwO (oo 7) (os 7) ++ zwO (oo 8) (os 8)) sz) := by
  unfold fX5_digest at h
  refine zmet_l (cc := cX5_digest) (maxL := 5) (by decide) rfl (Nat.le_of_ble_eq_true rfl) rfl rfl ?_
  intro p e s m args below meth c R Q A ls hx hb hts hown hml hK hP hD hE hA hS hRf hRl hl hq
  have hown : s.vm.findClass RX5 = some m.cls := hown
  have hl : lv_has ls 5 [(0, .ref Xo)] := hl
  have inX5 : ∀ w ∈ u_ws RX5 TX5 13, w ∈ wsX5_digest := by decide +kernel
  have lk28 : (Cond.fieldLink RX5 28 "PegField" "now" "LPegField$State;").before args s = true := hts _ (by decide +kernel)
  have inX4 : ∀ w ∈ u_ws RX4 TX4 8, w ∈ wsX5_digest := by decide +kernel
  have lk98 : (Cond.fieldLinkNest RX5 98 "PegField$State" "pegs" "I" "PegField").before args s = true := hE.2.use (by decide +kernel)
  have lk19 : (Cond.fieldLink RX5 19 "PegField" "grid" "LPegField$Grid;").before args s = true := hts _ (by decide +kernel)
  have inX0 : ∀ w ∈ u_ws RX0 TX0 4, w ∈ wsX5_digest := by decide +kernel
  have lk241 : (Cond.fieldLinkNest RX5 241 "PegField$Grid" "places" "I" "PegField").before args s = true := hE.2.use (by decide +kernel)
  have lk95 : (Cond.fieldLink RX5 95 "PegField" "reads" "I").before args s = true := hts _ (by decide +kernel)
  have lk12 : (Cond.fieldLink RX5 12 "PegField" "page" "LPegField$Page;").before args s = true := hts _ (by decide +kernel)
  have inX2 : ∀ w ∈ u_ws RX2 TX2 2, w ∈ wsX5_digest := by decide +kernel
  have lk63 : (Cond.fieldLinkNest RX5 63 "PegField$Page" "size" "I" "PegField").before args s = true := hE.2.use (by decide +kernel)
  refine lv_ldc2 (v := (1307 : Int64)) hx hb hown (hts (.constantLong RX5 234 (1307)) (by decide +kernel)) dX5_digest_0 ?_
  refine lv_lstore_n (lv' := [(1, .long (1307 : Int64)), (0, .ref Xo)]) hx hb dX5_digest_3 rfl hl (by decide) rfl (fun ls hl => ?_)
  refine lv_iconst (v := (0 : Int32)) hx hb dX5_digest_4 (by decide) ?_
  refine lv_istore_n (lv' := [(3, .int (0 : Int32)), (1, .long (1307 : Int64)), (0, .ref Xo)]) hx hb dX5_digest_5 rfl hl (by decide) rfl (fun ls hl => ?_)
  obtain ⟨x1_53x6, i63, h⟩ := zb1_s h
  have KX53 : ∀ (H : Heap) (locs : List Loc) (ls : Array Slot), va_P D vwCl (zwX Xo Po Go No Qo Ko Lo To oo ra Xs ++ zwP cI Po Pp Ps Pa ++ zwG cI Go Gp Gs Ga ++ zwS cI No Np Go Ns Na ++ zwQ cI Qo Qp Qs Qa ++ zwS cI Ko Kp Go Ks Ka ++ zwQ cI Lo Lp Ls La ++ zwS cI To Tp Go Ts Ta ++ zwR cO ra oo ++ zwO (oo 0) (os 0) ++ zwO (oo 1) (os 1) ++ zwO (oo 2) (os 2) ++ zwO (oo 3) (os 3) ++ zwO (oo 4) (os 4) ++ zwO (oo 5) (os 5) ++ zwO (oo 6) (os 6) ++ zwO (oo 7) (os 7) ++ zwO (oo 8) (os 8)) H → va_D A (zwX Xo Po Go No Qo Ko Lo To oo ra Xs ++ zwP cI Po Pp Ps Pa ++ zwG cI Go Gp Gs Ga ++ zwS cI No Np Go Ns Na ++ zwQ cI Qo Qp Qs Qa ++ zwS cI Ko Kp Go Ks Ka ++ zwQ cI Lo Lp Ls La ++ zwS cI To Tp Go Ts Ta ++ zwR cO ra oo ++ zwO (oo 0) (os 0) ++ zwO (oo 1) (os 1) ++ zwO (oo 2) (os 2) ++ zwO (oo 3) (os 3) ++ zwO (oo 4) (os 4) ++ zwO (oo 5) (os 5) ++ zwO (oo 6) (os 6) ++ zwO (oo 7) (os 7) ++ zwO (oo 8) (os 8)) → va_S A s.heap H locs → lv_has ls 5 [(0, .ref Xo), (1, .long x1_53x6)] → W p l e R s m args below meth c H locs 0 0 Q (F0 m 53 ls []) := by
    intro H locs ls hP hD hS hl
    refine lv_iconst (v := (0 : Int32)) hx hb dX5_digest_53 (by decide) ?_
    refine lv_istore_n (lv' := [(3, .int (0 : Int32)), (0, .ref Xo), (1, .long x1_53x6)]) hx hb dX5_digest_54 rfl hl (by decide) rfl (fun ls hl => ?_)
    obtain ⟨x1_100x55, i62, h⟩ := zb1_s h
    have KX100 : ∀ (H : Heap) (locs : List Loc) (ls : Array Slot), va_P D vwCl (zwX Xo Po Go No Qo Ko Lo To oo ra Xs ++ zwP cI Po Pp Ps Pa ++ zwG cI Go Gp Gs Ga ++ zwS cI No Np Go Ns Na ++ zwQ cI Qo Qp Qs Qa ++ zwS cI Ko Kp Go Ks Ka ++ zwQ cI Lo Lp Ls La ++ zwS cI To Tp Go Ts Ta ++ zwR cO ra oo ++ zwO (oo 0) (os 0) ++ zwO (oo 1) (os 1) ++ zwO (oo 2) (os 2) ++ zwO (oo 3) (os 3) ++ zwO (oo 4) (os 4) ++ zwO (oo 5) (os 5) ++ zwO (oo 6) (os 6) ++ zwO (oo 7) (os 7) ++ zwO (oo 8) (os 8)) H → va_D A (zwX Xo Po Go No Qo Ko Lo To oo ra Xs ++ zwP cI Po Pp Ps Pa ++ zwG cI Go Gp Gs Ga ++ zwS cI No Np Go Ns Na ++ zwQ cI Qo Qp Qs Qa ++ zwS cI Ko Kp Go Ks Ka ++ zwQ cI Lo Lp Ls La ++ zwS cI To Tp Go Ts Ta ++ zwR cO ra oo ++ zwO (oo 0) (os 0) ++ zwO (oo 1) (os 1) ++ zwO (oo 2) (os 2) ++ zwO (oo 3) (os 3) ++ zwO (oo 4) (os 4) ++ zwO (oo 5) (os 5) ++ zwO (oo 6) (os 6) ++ zwO (oo 7) (os 7) ++ zwO (oo 8) (os 8)) → va_S A s.heap H locs → lv_has ls 5 [(0, .ref Xo), (1, .long x1_100x55)] → W p l e R s m args below meth c H locs 0 0 Q (F0 m 100 ls []) := by
      intro H locs ls hP hD hS hl
      refine lv_aload_n hx hb dX5_digest_100 rfl (lv_at hl 0 rfl) ?_
      refine va_get (D := D) (ci := 5) (v := .int (Xs 11)) (C := RX5) (T := TX5) (N := 13) hx hb hts inX5 hown hK hP 0 rfl rfl 11 (by decide) lk95 (fun _ h9 => h9) rfl dX5_digest_101 ?_
      obtain ⟨x1_171, Xs_171, Ts_171, Ta_171, os_171, j29, h⟩ := zb5_s h
      have K171 : ∀ (H : Heap) (locs : List Loc) (ls : Array Slot), va_P D vwCl (zwX Xo Po Go No Qo Ko Lo To oo ra Xs_171 ++ zwP cI Po Pp Ps Pa ++ zwG cI Go Gp Gs Ga ++ zwS cI No Np Go Ns Na ++ zwQ cI Qo Qp Qs Qa ++ zwS cI Ko Kp Go Ks Ka ++ zwQ cI Lo Lp Ls La ++ zwS cI To Tp Go Ts_171 Ta_171 ++ zwR cO ra oo ++ zwO (oo 0) (os_171 0) ++ zwO (oo 1) (os_171 1) ++ zwO (oo 2) (os_171 2) ++ zwO (oo 3) (os_171 3) ++ zwO (oo 4) (os_171 4) ++ zwO (oo 5) (os_171 5) ++ zwO (oo 6) (os_171 6) ++ zwO (oo 7) (os_171 7) ++ zwO (oo 8) (os_171 8)) H → va_D A (zwX Xo Po Go No Qo Ko Lo To oo ra Xs_171 ++ zwP cI Po Pp Ps Pa ++ zwG cI Go Gp Gs Ga ++ zwS cI No Np Go Ns Na ++ zwQ cI Qo Qp Qs Qa ++ zwS cI Ko Kp Go Ks Ka ++ zwQ cI Lo Lp Ls La ++ zwS cI To Tp Go Ts_171 Ta_171 ++ zwR cO ra oo ++ zwO (oo 0) (os_171 0) ++ zwO (oo 1) (os_171 1) ++ zwO (oo 2) (os_171 2) ++ zwO (oo 3) (os_171 3) ++ zwO (oo 4) (os_171 4) ++ zwO (oo 5) (os_171 5) ++ zwO (oo 6) (os_171 6) ++ zwO (oo 7) (os_171 7) ++ zwO (oo 8) (os_171 8)) → va_S A s.heap H locs → lv_has ls 5 [(0, .ref Xo), (1, .long x1_171)] → W p l e R s m args below meth c H locs 0 0 Q (F0 m 171 ls []) := by
        intro H locs ls hP hD hS hl
        refine lv_iconst (v := (0 : Int32)) hx hb dX5_digest_171 (by decide) ?_
        refine lv_istore_n (lv' := [(3, .int (0 : Int32)), (0, .ref Xo), (1, .long x1_171)]) hx hb dX5_digest_172 rfl hl (by decide) rfl (fun ls hl => ?_)
        obtain ⟨x1_206x173, i28, h⟩ := zb1_s h
        have KX206 : ∀ (H : Heap) (locs : List Loc) (ls : Array Slot), va_P D vwCl (zwX Xo Po Go No Qo Ko Lo To oo ra Xs_171 ++ zwP cI Po Pp Ps Pa ++ zwG cI Go Gp Gs Ga ++ zwS cI No Np Go Ns Na ++ zwQ cI Qo Qp Qs Qa ++ zwS cI Ko Kp Go Ks Ka ++ zwQ cI Lo Lp Ls La ++ zwS cI To Tp Go Ts_171 Ta_171 ++ zwR cO ra oo ++ zwO (oo 0) (os_171 0) ++ zwO (oo 1) (os_171 1) ++ zwO (oo 2) (os_171 2) ++ zwO (oo 3) (os_171 3) ++ zwO (oo 4) (os_171 4) ++ zwO (oo 5) (os_171 5) ++ zwO (oo 6) (os_171 6) ++ zwO (oo 7) (os_171 7) ++ zwO (oo 8) (os_171 8)) H → va_D A (zwX Xo Po Go No Qo Ko Lo To oo ra Xs_171 ++ zwP cI Po Pp Ps Pa ++ zwG cI Go Gp Gs Ga ++ zwS cI No Np Go Ns Na ++ zwQ cI Qo Qp Qs Qa ++ zwS cI Ko Kp Go Ks Ka ++ zwQ cI Lo Lp Ls La ++ zwS cI To Tp Go Ts_171 Ta_171 ++ zwR cO ra oo ++ zwO (oo 0) (os_171 0) ++ zwO (oo 1) (os_171 1) ++ zwO (oo 2) (os_171 2) ++ zwO (oo 3) (os_171 3) ++ zwO (oo 4) (os_171 4) ++ zwO (oo 5) (os_171 5) ++ zwO (oo 6) (os_171 6) ++ zwO (oo 7) (os_171 7) ++ zwO (oo 8) (os_171 8)) → va_S A s.heap H locs → lv_has ls 5 [(0, .ref Xo), (1, .long x1_206x173)] → W p l e R s m args below meth c H locs 0 0 Q (F0 m 206 ls []) := by
          intro H locs ls hP hD hS hl
          refine lv_iconst (v := (0 : Int32)) hx hb dX5_digest_206 (by decide) ?_
          refine lv_istore_n (lv' := [(3, .int (0 : Int32)), (0, .ref Xo), (1, .long x1_206x173)]) hx hb dX5_digest_207 rfl hl (by decide) rfl (fun ls hl => ?_)
          obtain ⟨x1_233x208, i27, h⟩ := zb1_s h
          have KX233 : ∀ (H : Heap) (locs : List Loc) (ls : Array Slot), va_P D vwCl (zwX Xo Po Go No Qo Ko Lo To oo ra Xs_171 ++ zwP cI Po Pp Ps Pa ++ zwG cI Go Gp Gs Ga ++ zwS cI No Np Go Ns Na ++ zwQ cI Qo Qp Qs Qa ++ zwS cI Ko Kp Go Ks Ka ++ zwQ cI Lo Lp Ls La ++ zwS cI To Tp Go Ts_171 Ta_171 ++ zwR cO ra oo ++ zwO (oo 0) (os_171 0) ++ zwO (oo 1) (os_171 1) ++ zwO (oo 2) (os_171 2) ++ zwO (oo 3) (os_171 3) ++ zwO (oo 4) (os_171 4) ++ zwO (oo 5) (os_171 5) ++ zwO (oo 6) (os_171 6) ++ zwO (oo 7) (os_171 7) ++ zwO (oo 8) (os_171 8)) H → va_D A (zwX Xo Po Go No Qo Ko Lo To oo ra Xs_171 ++ zwP cI Po Pp Ps Pa ++ zwG cI Go Gp Gs Ga ++ zwS cI No Np Go Ns Na ++ zwQ cI Qo Qp Qs Qa ++ zwS cI Ko Kp Go Ks Ka ++ zwQ cI Lo Lp Ls La ++ zwS cI To Tp Go Ts_171 Ta_171 ++ zwR cO ra oo ++ zwO (oo 0) (os_171 0) ++ zwO (oo 1) (os_171 1) ++ zwO (oo 2) (os_171 2) ++ zwO (oo 3) (os_171 3) ++ zwO (oo 4) (os_171 4) ++ zwO (oo 5) (os_171 5) ++ zwO (oo 6) (os_171 6) ++ zwO (oo 7) (os_171 7) ++ zwO (oo 8) (os_171 8)) → va_S A s.heap H locs → lv_has ls 5 [(1, .long x1_233x208)] → W p l e R s m args below meth c H locs 0 0 Q (F0 m 233 ls []) := by
            intro H locs ls hP hD hS hl
            refine lv_lload_n hx hb dX5_digest_233 rfl (lv_at hl 0 rfl) ?_
            cases zend h
            exact hq hP hD hS dX5_digest_234
          clear h
          refine zi2_ind (P := (fun (x1_208h : Int64) (x3_208h : Int32) => ∀ (H : Heap) (locs : List Loc) (ls : Array Slot), va_P D vwCl (zwX Xo Po Go No Qo Ko Lo To oo ra Xs_171 ++ zwP cI Po Pp Ps Pa ++ zwG cI Go Gp Gs Ga ++ zwS cI No Np Go Ns Na ++ zwQ cI Qo Qp Qs Qa ++ zwS cI Ko Kp Go Ks Ka ++ zwQ cI Lo Lp Ls La ++ zwS cI To Tp Go Ts_171 Ta_171 ++ zwR cO ra oo ++ zwO (oo 0) (os_171 0) ++ zwO (oo 1) (os_171 1) ++ zwO (oo 2) (os_171 2) ++ zwO (oo 3) (os_171 3) ++ zwO (oo 4) (os_171 4) ++ zwO (oo 5) (os_171 5) ++ zwO (oo 6) (os_171 6) ++ zwO (oo 7) (os_171 7) ++ zwO (oo 8) (os_171 8)) H → va_D A (zwX Xo Po Go No Qo Ko Lo To oo ra Xs_171 ++ zwP cI Po Pp Ps Pa ++ zwG cI Go Gp Gs Ga ++ zwS cI No Np Go Ns Na ++ zwQ cI Qo Qp Qs Qa ++ zwS cI Ko Kp Go Ks Ka ++ zwQ cI Lo Lp Ls La ++ zwS cI To Tp Go Ts_171 Ta_171 ++ zwR cO ra oo ++ zwO (oo 0) (os_171 0) ++ zwO (oo 1) (os_171 1) ++ zwO (oo 2) (os_171 2) ++ zwO (oo 3) (os_171 3) ++ zwO (oo 4) (os_171 4) ++ zwO (oo 5) (os_171 5) ++ zwO (oo 6) (os_171 6) ++ zwO (oo 7) (os_171 7) ++ zwO (oo 8) (os_171 8)) → va_S A s.heap H locs → lv_has ls 5 [(0, .ref Xo), (1, .long x1_208h), (3, .int x3_208h)] → W p l e R s m args below meth c H locs 0 0 Q (F0 m 208 ls []))) ?_ i27 _ _ _ hP hD hS (lv_sub hl [1, 2, 0] rfl)
          clear i27 hP hD hS hl
          intro x1_208h x3_208h z208 h zl208 zr208 H locs ls hP hD hS hl
          refine lv_iload_n hx hb dX5_digest_208 rfl (lv_at hl 2 rfl) ?_
          refine lv_bipush (v := (10 : Int32)) hx hb dX5_digest_209 (by decide) ?_
          refine lv_icmp_gt (tgt := 233) hx hb dX5_digest_211 (by decide) (fun c23 => ?_) (fun c23 => ?_)
          · have h := zif_t c23 h
            cases zr208 _ (zend h).symm
            exact KX233 _ _ _ hP hD hS (lv_sub hl [1] rfl)
          · have h := zif_f c23 h
            refine lv_ldc2 (v := (31 : Int64)) hx hb hown (hts (.constantLong RX5 236 (31)) (by decide +kernel)) dX5_digest_214 ?_
            refine lv_lload_n hx hb dX5_digest_217 rfl (lv_at hl 1 rfl) ?_
            refine lv_lmul hx hb dX5_digest_218 ?_
            refine lv_aload_n hx hb dX5_digest_219 rfl (lv_at hl 0 rfl) ?_
            refine lv_iload_n hx hb dX5_digest_220 rfl (lv_at hl 2 rfl) ?_
            obtain ⟨r24, g25, h⟩ := zb1_s h
            have hFc := va_free (wc := (zwX Xo Po Go No Qo Ko Lo To oo ra Xs_171 ++ zwP cI Po Pp Ps Pa ++ zwG cI Go Gp Gs Ga ++ zwS cI No Np Go Ns Na ++ zwQ cI Qo Qp Qs Qa ++ zwS cI Ko Kp Go Ks Ka ++ zwQ cI Lo Lp Ls La ++ zwS cI To Tp Go Ts_171 Ta_171 ++ zwR cO ra oo ++ zwO (oo 0) (os_171 0) ++ zwO (oo 1) (os_171 1) ++ zwO (oo 2) (os_171 2) ++ zwO (oo 3) (os_171 3) ++ zwO (oo 4) (os_171 4) ++ zwO (oo 5) (os_171 5) ++ zwO (oo 6) (os_171 6) ++ zwO (oo 7) (os_171 7) ++ zwO (oo 8) (os_171 8))) hD hS hA [0, 1, 2, 3, 4, 5, 6, 7, 8, 9, 10, 11, 12, 13, 14, 15, 16, 17, 18, 19, 20, 21, 22, 23, 24, 25, 26, 27, 28, 29, 30, 31, 32] rfl
            refine zcall_i (w2 := (zwX Xo Po Go No Qo Ko Lo To oo ra Xs_171 ++ zwP cI Po Pp Ps Pa ++ zwG cI Go Gp Gs Ga ++ zwS cI No Np Go Ns Na ++ zwQ cI Qo Qp Qs Qa ++ zwS cI Ko Kp Go Ks Ka ++ zwQ cI Lo Lp Ls La ++ zwS cI To Tp Go Ts_171 Ta_171 ++ zwR cO ra oo ++ zwO (oo 0) (os_171 0) ++ zwO (oo 1) (os_171 1) ++ zwO (oo 2) (os_171 2) ++ zwO (oo 3) (os_171 3) ++ zwO (oo 4) (os_171 4) ++ zwO (oo 5) (os_171 5) ++ zwO (oo 6) (os_171 6) ++ zwO (oo 7) (os_171 7) ++ zwO (oo 8) (os_171 8))) (va_runV (As := [.int x3_208h]) (rest := [.long ((31 : Int64) * x1_208h)]) ⟨hx, hb, hml, hown, hts⟩ (c_X5_count l D cI cB cO Xo Po Pp Go Gp No Np Qo Qp Ko Kp Lo Lp To Tp ra oo Xs_171 Ps Pa Gs Ga Ns Na Qs Qa Ks Ka Ls La Ts_171 Ta_171 os_171 x3_208h _ _ g25) (cwV 1 hts gX5_digest_X5_count rfl rfl rfl kV_X5_count ⟨Nat.le_trans (Nat.le_of_ble_eq_true rfl) hRf, Nat.le_trans (Nat.le_of_ble_eq_true rfl) hRl⟩) (zpreV hK hP hD hS hE hFc [0, 1, 2, 3, 4, 5, 6, 7, 8, 9, 10, 11, 12, 13, 14, 15, 16, 17, 18, 19, 20, 21, 22, 23, 24, 25, 26, 27, 28, 29, 30, 31, 32] rfl rfl 0 (ci := 5) rfl rfl [.int x3_208h]) rfl rfl hl.1 rfl (lv_room (Nat.le_of_ble_eq_true rfl)) dX5_digest_221 ⟨Nat.zero_le _, Nat.zero_le _⟩) hP hD hS hFc [0, 1, 2, 3, 4, 5, 6, 7, 8, 9, 10, 11, 12, 13, 14, 15, 16, 17, 18, 19, 20, 21, 22, 23, 24, 25, 26, 27, 28, 29, 30, 31, 32] [] [0, 1, 2, 3, 4, 5, 6, 7, 8, 9, 10, 11, 12, 13, 14, 15, 16, 17, 18, 19, 20, 21, 22, 23, 24, 25, 26, 27, 28, 29, 30, 31, 32] 33 rfl rfl rfl rfl (fun H locs hP hD hS => ?_)
            refine lv_i2l (v := (r24).toInt64) hx hb dX5_digest_224 rfl ?_
            refine lv_ladd hx hb dX5_digest_225 ?_
            refine lv_topl (fun x1_26 ex1_26 => ?_)
            have h := zlt_s h ex1_26
            refine lv_lstore_n (lv' := [(1, .long x1_26), (0, .ref Xo), (3, .int x3_208h)]) hx hb dX5_digest_226 rfl hl (by decide) rfl (fun ls hl => ?_)
            refine lv_iinc (v := (x3_208h + (1 : Int32))) (lv' := [(3, .int (x3_208h + (1 : Int32))), (1, .long x1_26), (0, .ref Xo)]) hx hb dX5_digest_227 hl (k := 2) rfl rfl (by decide) rfl (fun ls hl => ?_)
            refine lv_goto (tgt := 208) hx hb dX5_digest_230 (by decide) ?_
            exact zl208 _ _ (zend h).symm _ _ _ hP hD hS (lv_sub hl [2, 1, 0] rfl)
        clear h
        refine zi2_ind (P := (fun (x1_173h : Int64) (x3_173h : Int32) => ∀ (H : Heap) (locs : List Loc) (ls : Array Slot), va_P D vwCl (zwX Xo Po Go No Qo Ko Lo To oo ra Xs_171 ++ zwP cI Po Pp Ps Pa ++ zwG cI Go Gp Gs Ga ++ zwS cI No Np Go Ns Na ++ zwQ cI Qo Qp Qs Qa ++ zwS cI Ko Kp Go Ks Ka ++ zwQ cI Lo Lp Ls La ++ zwS cI To Tp Go Ts_171 Ta_171 ++ zwR cO ra oo ++ zwO (oo 0) (os_171 0) ++ zwO (oo 1) (os_171 1) ++ zwO (oo 2) (os_171 2) ++ zwO (oo 3) (os_171 3) ++ zwO (oo 4) (os_171 4) ++ zwO (oo 5) (os_171 5) ++ zwO (oo 6) (os_171 6) ++ zwO (oo 7) (os_171 7) ++ zwO (oo 8) (os_171 8)) H → va_D A (zwX Xo Po Go No Qo Ko Lo To oo ra Xs_171 ++ zwP cI Po Pp Ps Pa ++ zwG cI Go Gp Gs Ga ++ zwS cI No Np Go Ns Na ++ zwQ cI Qo Qp Qs Qa ++ zwS cI Ko Kp Go Ks Ka ++ zwQ cI Lo Lp Ls La ++ zwS cI To Tp Go Ts_171 Ta_171 ++ zwR cO ra oo ++ zwO (oo 0) (os_171 0) ++ zwO (oo 1) (os_171 1) ++ zwO (oo 2) (os_171 2) ++ zwO (oo 3) (os_171 3) ++ zwO (oo 4) (os_171 4) ++ zwO (oo 5) (os_171 5) ++ zwO (oo 6) (os_171 6) ++ zwO (oo 7) (os_171 7) ++ zwO (oo 8) (os_171 8)) → va_S A s.heap H locs → lv_has ls 5 [(0, .ref Xo), (1, .long x1_173h), (3, .int x3_173h)] → W p l e R s m args below meth c H locs 0 0 Q (F0 m 173 ls []))) ?_ i28 _ _ _ hP hD hS (lv_sub hl [1, 2, 0] rfl)
        clear i28 hP hD hS hl
        intro x1_173h x3_173h z173 h zl173 zr173 H locs ls hP hD hS hl
        refine lv_iload_n hx hb dX5_digest_173 rfl (lv_at hl 2 rfl) ?_
        refine lv_aload_n hx hb dX5_digest_174 rfl (lv_at hl 0 rfl) ?_
        refine va_get (D := D) (ci := 5) (v := .ref Po) (C := RX5) (T := TX5) (N := 13) hx hb hts inX5 hown hK hP 0 rfl rfl 0 (by decide) lk12 (fun _ h9 => h9) rfl dX5_digest_175 ?_
        refine va_getN (D := D) (ci := 2) (v := .int (Ps 1)) (C := RX2) (T := TX2) (N := 2) hx hb hts inX2 hown hK hP 1 rfl rfl 1 (by decide) lk63 (fun _ h9 => h9) rfl dX5_digest_178 ?_
        refine lv_icmp_ge (tgt := 206) hx hb dX5_digest_181 (by decide) (fun c18 => ?_) (fun c18 => ?_)
        · have h := zif_t c18 h
          cases zr173 _ (zend h).symm
          exact KX206 _ _ _ hP hD hS (lv_sub hl [0, 1] rfl)
        · have h := zif_f c18 h
          refine lv_ldc2 (v := (31 : Int64)) hx hb hown (hts (.constantLong RX5 236 (31)) (by decide +kernel)) dX5_digest_184 ?_
          refine lv_lload_n hx hb dX5_digest_187 rfl (lv_at hl 1 rfl) ?_
          refine lv_lmul hx hb dX5_digest_188 ?_
          refine lv_aload_n hx hb dX5_digest_189 rfl (lv_at hl 0 rfl) ?_
          refine va_get (D := D) (ci := 5) (v := .ref Po) (C := RX5) (T := TX5) (N := 13) hx hb hts inX5 hown hK hP 0 rfl rfl 0 (by decide) lk12 (fun _ h9 => h9) rfl dX5_digest_190 ?_
          refine lv_iload_n hx hb dX5_digest_193 rfl (lv_at hl 2 rfl) ?_
          obtain ⟨r19, g20, h⟩ := zb1_s h
          have hFc := va_free (wc := (zwP cI Po Pp Ps Pa)) hD hS hA [1, 2] rfl
          refine zcall_i (w2 := (zwX Xo Po Go No Qo Ko Lo To oo ra Xs_171 ++ zwP cI Po Pp Ps Pa ++ zwG cI Go Gp Gs Ga ++ zwS cI No Np Go Ns Na ++ zwQ cI Qo Qp Qs Qa ++ zwS cI Ko Kp Go Ks Ka ++ zwQ cI Lo Lp Ls La ++ zwS cI To Tp Go Ts_171 Ta_171 ++ zwR cO ra oo ++ zwO (oo 0) (os_171 0) ++ zwO (oo 1) (os_171 1) ++ zwO (oo 2) (os_171 2) ++ zwO (oo 3) (os_171 3) ++ zwO (oo 4) (os_171 4) ++ zwO (oo 5) (os_171 5) ++ zwO (oo 6) (os_171 6) ++ zwO (oo 7) (os_171 7) ++ zwO (oo 8) (os_171 8))) (va_runV (As := [.int x3_173h]) (rest := [.long ((31 : Int64) * x1_173h)]) ⟨hx, hb, hml, hown, hts⟩ (c_X2_codeAt l D cI cB cO Po Pp Ps Pa x3_173h _ _ g20) (cwV 1 hts gX5_digest_X2_codeAt rfl rfl rfl kV_X2_codeAt ⟨Nat.le_trans (Nat.le_of_ble_eq_true rfl) hRf, Nat.le_trans (Nat.le_of_ble_eq_true rfl) hRl⟩) (zpreV hK hP hD hS hE hFc [1, 2] rfl rfl 1 (ci := 2) rfl rfl [.int x3_173h]) rfl rfl hl.1 rfl (lv_room (Nat.le_of_ble_eq_true rfl)) dX5_digest_194 ⟨Nat.zero_le _, Nat.zero_le _⟩) hP hD hS hFc [1, 2] [0, 3, 4, 5, 6, 7, 8, 9, 10, 11, 12, 13, 14, 15, 16, 17, 18, 19, 20, 21, 22, 23, 24, 25, 26, 27, 28, 29, 30, 31, 32] [0, 31, 32, 1, 2, 3, 4, 5, 6, 7, 8, 9, 10, 11, 12, 13, 14, 15, 16, 17, 18, 19, 20, 21, 22, 23, 24, 25, 26, 27, 28, 29, 30] 33 rfl rfl rfl rfl (fun H locs hP hD hS => ?_)
          refine lv_i2l (v := (r19).toInt64) hx hb dX5_digest_197 rfl ?_
          refine lv_ladd hx hb dX5_digest_198 ?_
          refine lv_topl (fun x1_21 ex1_21 => ?_)
          have h := zlt_s h ex1_21
          refine lv_lstore_n (lv' := [(1, .long x1_21), (0, .ref Xo), (3, .int x3_173h)]) hx hb dX5_digest_199 rfl hl (by decide) rfl (fun ls hl => ?_)
          refine lv_iinc (v := (x3_173h + (1 : Int32))) (lv' := [(3, .int (x3_173h + (1 : Int32))), (1, .long x1_21), (0, .ref Xo)]) hx hb dX5_digest_200 hl (k := 2) rfl rfl (by decide) rfl (fun ls hl => ?_)
          refine lv_goto (tgt := 173) hx hb dX5_digest_203 (by decide) ?_
          exact zl173 _ _ (zend h).symm _ _ _ hP hD hS (lv_sub hl [2, 1, 0] rfl)
      clear h
      have h := j29
      clear j29
      refine lv_if_le (tgt := 171) hx hb dX5_digest_104 (by decide) (fun c30 => ?_) (fun c30 => ?_)
      · have h := zif_t c30 h
        cases zend h
        exact K171 _ _ _ hP hD hS (lv_sub hl [0, 1] rfl)
      · have h := zif_f c30 h
        refine lv_iconst (v := (0 : Int32)) hx hb dX5_digest_107 (by decide) ?_
        refine lv_istore_n (lv' := [(3, .int (0 : Int32)), (0, .ref Xo), (1, .long x1_100x55)]) hx hb dX5_digest_108 rfl hl (by decide) rfl (fun ls hl => ?_)
        obtain ⟨x1_133x109, Xs_133x109, Ts_133x109, Ta_133x109, os_133x109, i61, h⟩ := zb5_s h
        have KX133 : ∀ (H : Heap) (locs : List Loc) (ls : Array Slot), va_P D vwCl (zwX Xo Po Go No Qo Ko Lo To oo ra Xs_133x109 ++ zwP cI Po Pp Ps Pa ++ zwG cI Go Gp Gs Ga ++ zwS cI No Np Go Ns Na ++ zwQ cI Qo Qp Qs Qa ++ zwS cI Ko Kp Go Ks Ka ++ zwQ cI Lo Lp Ls La ++ zwS cI To Tp Go Ts_133x109 Ta_133x109 ++ zwR cO ra oo ++ zwO (oo 0) (os_133x109 0) ++ zwO (oo 1) (os_133x109 1) ++ zwO (oo 2) (os_133x109 2) ++ zwO (oo 3) (os_133x109 3) ++ zwO (oo 4) (os_133x109 4) ++ zwO (oo 5) (os_133x109 5) ++ zwO (oo 6) (os_133x109 6) ++ zwO (oo 7) (os_133x109 7) ++ zwO (oo 8) (os_133x109 8)) H → va_D A (zwX Xo Po Go No Qo Ko Lo To oo ra Xs_133x109 ++ zwP cI Po Pp Ps Pa ++ zwG cI Go Gp Gs Ga ++ zwS cI No Np Go Ns Na ++ zwQ cI Qo Qp Qs Qa ++ zwS cI Ko Kp Go Ks Ka ++ zwQ cI Lo Lp Ls La ++ zwS cI To Tp Go Ts_133x109 Ta_133x109 ++ zwR cO ra oo ++ zwO (oo 0) (os_133x109 0) ++ zwO (oo 1) (os_133x109 1) ++ zwO (oo 2) (os_133x109 2) ++ zwO (oo 3) (os_133x109 3) ++ zwO (oo 4) (os_133x109 4) ++ zwO (oo 5) (os_133x109 5) ++ zwO (oo 6) (os_133x109 6) ++ zwO (oo 7) (os_133x109 7) ++ zwO (oo 8) (os_133x109 8)) → va_S A s.heap H locs → lv_has ls 5 [(0, .ref Xo), (1, .long x1_133x109)] → W p l e R s m args below meth c H locs 0 0 Q (F0 m 133 ls []) := by
          intro H locs ls hP hD hS hl
          refine lv_ldc2 (v := (31 : Int64)) hx hb hown (hts (.constantLong RX5 236 (31)) (by decide +kernel)) dX5_digest_133 ?_
          refine lv_lload_n hx hb dX5_digest_136 rfl (lv_at hl 1 rfl) ?_
          refine lv_lmul hx hb dX5_digest_137 ?_
          refine lv_aload_n hx hb dX5_digest_138 rfl (lv_at hl 0 rfl) ?_
          refine lv_iconst (v := (0 : Int32)) hx hb dX5_digest_139 (by decide) ?_
          obtain ⟨r40, Xs_41, Ts_42, Ta_43, os_44, g45, h⟩ := zb5_s h
          have hFc := va_free (wc := (zwX Xo Po Go No Qo Ko Lo To oo ra Xs_133x109 ++ zwP cI Po Pp Ps Pa ++ zwG cI Go Gp Gs Ga ++ zwS cI No Np Go Ns Na ++ zwQ cI Qo Qp Qs Qa ++ zwS cI Ko Kp Go Ks Ka ++ zwQ cI Lo Lp Ls La ++ zwS cI To Tp Go Ts_133x109 Ta_133x109 ++ zwR cO ra oo ++ zwO (oo 0) (os_133x109 0) ++ zwO (oo 1) (os_133x109 1) ++ zwO (oo 2) (os_133x109 2) ++ zwO (oo 3) (os_133x109 3) ++ zwO (oo 4) (os_133x109 4) ++ zwO (oo 5) (os_133x109 5) ++ zwO (oo 6) (os_133x109 6) ++ zwO (oo 7) (os_133x109 7) ++ zwO (oo 8) (os_133x109 8))) hD hS hA [0, 1, 2, 3, 4, 5, 6, 7, 8, 9, 10, 11, 12, 13, 14, 15, 16, 17, 18, 19, 20, 21, 22, 23, 24, 25, 26, 27, 28, 29, 30, 31, 32] rfl
          refine zcall_i (w2 := (zwX Xo Po Go No Qo Ko Lo To oo ra Xs_41 ++ zwP cI Po Pp Ps Pa ++ zwG cI Go Gp Gs Ga ++ zwS cI No Np Go Ns Na ++ zwQ cI Qo Qp Qs Qa ++ zwS cI Ko Kp Go Ks Ka ++ zwQ cI Lo Lp Ls La ++ zwS cI To Tp Go Ts_42 Ta_43 ++ zwR cO ra oo ++ zwO (oo 0) (os_44 0) ++ zwO (oo 1) (os_44 1) ++ zwO (oo 2) (os_44 2) ++ zwO (oo 3) (os_44 3) ++ zwO (oo 4) (os_44 4) ++ zwO (oo 5) (os_44 5) ++ zwO (oo 6) (os_44 6) ++ zwO (oo 7) (os_44 7) ++ zwO (oo 8) (os_44 8))) (va_runV (As := [.int (0 : Int32)]) (rest := [.long ((31 : Int64) * x1_133x109)]) ⟨hx, hb, hml, hown, hts⟩ (c_X5_wins l D cI cB cO Xo Po Pp Go Gp No Np Qo Qp Ko Kp Lo Lp To Tp ra oo Xs_133x109 Ps Pa Gs Ga Ns Na Qs Qa Ks Ka Ls La Ts_133x109 Ta_133x109 os_133x109 (0 : Int32) _ _ _ _ _ _ g45) (cwV 1 hts gX5_digest_X5_wins rfl rfl rfl kV_X5_wins ⟨Nat.le_trans (Nat.le_of_ble_eq_true rfl) hRf, Nat.le_trans (Nat.le_of_ble_eq_true rfl) hRl⟩) (zpreV hK hP hD hS hE hFc [0, 1, 2, 3, 4, 5, 6, 7, 8, 9, 10, 11, 12, 13, 14, 15, 16, 17, 18, 19, 20, 21, 22, 23, 24, 25, 26, 27, 28, 29, 30, 31, 32] rfl rfl 0 (ci := 5) rfl rfl [.int (0 : Int32)]) rfl rfl hl.1 rfl (lv_room (Nat.le_of_ble_eq_true rfl)) dX5_digest_140 ⟨Nat.zero_le _, Nat.zero_le _⟩) hP hD hS hFc [0, 1, 2, 3, 4, 5, 6, 7, 8, 9, 10, 11, 12, 13, 14, 15, 16, 17, 18, 19, 20, 21, 22, 23, 24, 25, 26, 27, 28, 29, 30, 31, 32] [] [0, 1, 2, 3, 4, 5, 6, 7, 8, 9, 10, 11, 12, 13, 14, 15, 16, 17, 18, 19, 20, 21, 22, 23, 24, 25, 26, 27, 28, 29, 30, 31, 32] 33 rfl rfl rfl rfl (fun H locs hP hD hS => ?_)
          refine lv_i2l (v := (r40).toInt64) hx hb dX5_digest_143 rfl ?_
          refine lv_ladd hx hb dX5_digest_144 ?_
          refine lv_topl (fun x1_46 ex1_46 => ?_)
          have h := zlt_s h ex1_46
          refine lv_lstore_n (lv' := [(1, .long x1_46), (0, .ref Xo)]) hx hb dX5_digest_145 rfl hl (by decide) rfl (fun ls hl => ?_)
          refine lv_ldc2 (v := (31 : Int64)) hx hb hown (hts (.constantLong RX5 236 (31)) (by decide +kernel)) dX5_digest_146 ?_
          refine lv_lload_n hx hb dX5_digest_149 rfl (lv_at hl 0 rfl) ?_
          refine lv_lmul hx hb dX5_digest_150 ?_
          refine lv_aload_n hx hb dX5_digest_151 rfl (lv_at hl 1 rfl) ?_
          refine lv_iconst (v := (1 : Int32)) hx hb dX5_digest_152 (by decide) ?_
          obtain ⟨r47, Xs_48, Ts_49, Ta_50, os_51, g52, h⟩ := zb5_s h
          have hFc := va_free (wc := (zwX Xo Po Go No Qo Ko Lo To oo ra Xs_41 ++ zwP cI Po Pp Ps Pa ++ zwG cI Go Gp Gs Ga ++ zwS cI No Np Go Ns Na ++ zwQ cI Qo Qp Qs Qa ++ zwS cI Ko Kp Go Ks Ka ++ zwQ cI Lo Lp Ls La ++ zwS cI To Tp Go Ts_42 Ta_43 ++ zwR cO ra oo ++ zwO (oo 0) (os_44 0) ++ zwO (oo 1) (os_44 1) ++ zwO (oo 2) (os_44 2) ++ zwO (oo 3) (os_44 3) ++ zwO (oo 4) (os_44 4) ++ zwO (oo 5) (os_44 5) ++ zwO (oo 6) (os_44 6) ++ zwO (oo 7) (os_44 7) ++ zwO (oo 8) (os_44 8))) hD hS hA [0, 1, 2, 3, 4, 5, 6, 7, 8, 9, 10, 11, 12, 13, 14, 15, 16, 17, 18, 19, 20, 21, 22, 23, 24, 25, 26, 27, 28, 29, 30, 31, 32] rfl
          refine zcall_i (w2 := (zwX Xo Po Go No Qo Ko Lo To oo ra Xs_48 ++ zwP cI Po Pp Ps Pa ++ zwG cI Go Gp Gs Ga ++ zwS cI No Np Go Ns Na ++ zwQ cI Qo Qp Qs Qa ++ zwS cI Ko Kp Go Ks Ka ++ zwQ cI Lo Lp Ls La ++ zwS cI To Tp Go Ts_49 Ta_50 ++ zwR cO ra oo ++ zwO (oo 0) (os_51 0) ++ zwO (oo 1) (os_51 1) ++ zwO (oo 2) (os_51 2) ++ zwO (oo 3) (os_51 3) ++ zwO (oo 4) (os_51 4) ++ zwO (oo 5) (os_51 5) ++ zwO (oo 6) (os_51 6) ++ zwO (oo 7) (os_51 7) ++ zwO (oo 8) (os_51 8))) (va_runV (As := [.int (1 : Int32)]) (rest := [.long ((31 : Int64) * x1_46)]) ⟨hx, hb, hml, hown, hts⟩ (c_X5_wins l D cI cB cO Xo Po Pp Go Gp No Np Qo Qp Ko Kp Lo Lp To Tp ra oo Xs_41 Ps Pa Gs Ga Ns Na Qs Qa Ks Ka Ls La Ts_42 Ta_43 os_44 (1 : Int32) _ _ _ _ _ _ g52) (cwV 1 hts gX5_digest_X5_wins rfl rfl rfl kV_X5_wins ⟨Nat.le_trans (Nat.le_of_ble_eq_true rfl) hRf, Nat.le_trans (Nat.le_of_ble_eq_true rfl) hRl⟩) (zpreV hK hP hD hS hE hFc [0, 1, 2, 3, 4, 5, 6, 7, 8, 9, 10, 11, 12, 13, 14, 15, 16, 17, 18, 19, 20, 21, 22, 23, 24, 25, 26, 27, 28, 29, 30, 31, 32] rfl rfl 0 (ci := 5) rfl rfl [.int (1 : Int32)]) rfl rfl hl.1 rfl (lv_room (Nat.le_of_ble_eq_true rfl)) dX5_digest_153 ⟨Nat.zero_le _, Nat.zero_le _⟩) hP hD hS hFc [0, 1, 2, 3, 4, 5, 6, 7, 8, 9, 10, 11, 12, 13, 14, 15, 16, 17, 18, 19, 20, 21, 22, 23, 24, 25, 26, 27, 28, 29, 30, 31, 32] [] [0, 1, 2, 3, 4, 5, 6, 7, 8, 9, 10, 11, 12, 13, 14, 15, 16, 17, 18, 19, 20, 21, 22, 23, 24, 25, 26, 27, 28, 29, 30, 31, 32] 33 rfl rfl rfl rfl (fun H locs hP hD hS => ?_)
          refine lv_i2l (v := (r47).toInt64) hx hb dX5_digest_156 rfl ?_
          refine lv_ladd hx hb dX5_digest_157 ?_
          refine lv_topl (fun x1_53 ex1_53 => ?_)
          have h := zlt_s h ex1_53
          refine lv_lstore_n (lv' := [(1, .long x1_53), (0, .ref Xo)]) hx hb dX5_digest_158 rfl hl (by decide) rfl (fun ls hl => ?_)
          refine lv_ldc2 (v := (31 : Int64)) hx hb hown (hts (.constantLong RX5 236 (31)) (by decide +kernel)) dX5_digest_159 ?_
          refine lv_lload_n hx hb dX5_digest_162 rfl (lv_at hl 0 rfl) ?_
          refine lv_lmul hx hb dX5_digest_163 ?_
          refine lv_aload_n hx hb dX5_digest_164 rfl (lv_at hl 1 rfl) ?_
          obtain ⟨r54, Xs_55, Ts_56, Ta_57, os_58, g59, h⟩ := zb5_s h
          have hFc := va_free (wc := (zwX Xo Po Go No Qo Ko Lo To oo ra Xs_48 ++ zwP cI Po Pp Ps Pa ++ zwG cI Go Gp Gs Ga ++ zwS cI No Np Go Ns Na ++ zwQ cI Qo Qp Qs Qa ++ zwS cI Ko Kp Go Ks Ka ++ zwQ cI Lo Lp Ls La ++ zwS cI To Tp Go Ts_49 Ta_50 ++ zwR cO ra oo ++ zwO (oo 0) (os_51 0) ++ zwO (oo 1) (os_51 1) ++ zwO (oo 2) (os_51 2) ++ zwO (oo 3) (os_51 3) ++ zwO (oo 4) (os_51 4) ++ zwO (oo 5) (os_51 5) ++ zwO (oo 6) (os_51 6) ++ zwO (oo 7) (os_51 7) ++ zwO (oo 8) (os_51 8))) hD hS hA [0, 1, 2, 3, 4, 5, 6, 7, 8, 9, 10, 11, 12, 13, 14, 15, 16, 17, 18, 19, 20, 21, 22, 23, 24, 25, 26, 27, 28, 29, 30, 31, 32] rfl
          refine zcall_i (w2 := (zwX Xo Po Go No Qo Ko Lo To oo ra Xs_55 ++ zwP cI Po Pp Ps Pa ++ zwG cI Go Gp Gs Ga ++ zwS cI No Np Go Ns Na ++ zwQ cI Qo Qp Qs Qa ++ zwS cI Ko Kp Go Ks Ka ++ zwQ cI Lo Lp Ls La ++ zwS cI To Tp Go Ts_56 Ta_57 ++ zwR cO ra oo ++ zwO (oo 0) (os_58 0) ++ zwO (oo 1) (os_58 1) ++ zwO (oo 2) (os_58 2) ++ zwO (oo 3) (os_58 3) ++ zwO (oo 4) (os_58 4) ++ zwO (oo 5) (os_58 5) ++ zwO (oo 6) (os_58 6) ++ zwO (oo 7) (os_58 7) ++ zwO (oo 8) (os_58 8))) (va_runV (As := []) (rest := [.long ((31 : Int64) * x1_53)]) ⟨hx, hb, hml, hown, hts⟩ (c_X5_mean l D cI cB cO Xo Po Pp Go Gp No Np Qo Qp Ko Kp Lo Lp To Tp ra oo Xs_48 Ps Pa Gs Ga Ns Na Qs Qa Ks Ka Ls La Ts_49 Ta_50 os_51 _ _ _ _ _ _ g59) (cwV 0 hts gX5_digest_X5_mean rfl rfl rfl kV_X5_mean ⟨Nat.le_trans (Nat.le_of_ble_eq_true rfl) hRf, Nat.le_trans (Nat.le_of_ble_eq_true rfl) hRl⟩) (zpreV hK hP hD hS hE hFc [0, 1, 2, 3, 4, 5, 6, 7, 8, 9, 10, 11, 12, 13, 14, 15, 16, 17, 18, 19, 20, 21, 22, 23, 24, 25, 26, 27, 28, 29, 30, 31, 32] rfl rfl 0 (ci := 5) rfl rfl []) rfl rfl hl.1 rfl (lv_room (Nat.le_of_ble_eq_true rfl)) dX5_digest_165 ⟨Nat.zero_le _, Nat.zero_le _⟩) hP hD hS hFc [0, 1, 2, 3, 4, 5, 6, 7, 8, 9, 10, 11, 12, 13, 14, 15, 16, 17, 18, 19, 20, 21, 22, 23, 24, 25, 26, 27, 28, 29, 30, 31, 32] [] [0, 1, 2, 3, 4, 5, 6, 7, 8, 9, 10, 11, 12, 13, 14, 15, 16, 17, 18, 19, 20, 21, 22, 23, 24, 25, 26, 27, 28, 29, 30, 31, 32] 33 rfl rfl rfl rfl (fun H locs hP hD hS => ?_)
          refine lv_i2l (v := (r54).toInt64) hx hb dX5_digest_168 rfl ?_
          refine lv_ladd hx hb dX5_digest_169 ?_
          refine lv_topl (fun x1_60 ex1_60 => ?_)
          have h := zlt_s h ex1_60
          refine lv_lstore_n (lv' := [(1, .long x1_60), (0, .ref Xo)]) hx hb dX5_digest_170 rfl hl (by decide) rfl (fun ls hl => ?_)
          cases zend h
          exact K171 _ _ _ hP hD hS (lv_sub hl [1, 0] rfl)
        clear h
        refine zi6_ind (P := (fun (x1_109h : Int64) (x3_109h : Int32) (Xs_109h : Nat → Int32) (Ts_109h : Nat → Int32) (Ta_109h : Nat → Nat → Int32) (os_109h : Nat → Nat → Int32) => ∀ (H : Heap) (locs : List Loc) (ls : Array Slot), va_P D vwCl (zwX Xo Po Go No Qo Ko Lo To oo ra Xs_109h ++ zwP cI Po Pp Ps Pa ++ zwG cI Go Gp Gs Ga ++ zwS cI No Np Go Ns Na ++ zwQ cI Qo Qp Qs Qa ++ zwS cI Ko Kp Go Ks Ka ++ zwQ cI Lo Lp Ls La ++ zwS cI To Tp Go Ts_109h Ta_109h ++ zwR cO ra oo ++ zwO (oo 0) (os_109h 0) ++ zwO (oo 1) (os_109h 1) ++ zwO (oo 2) (os_109h 2) ++ zwO (oo 3) (os_109h 3) ++ zwO (oo 4) (os_109h 4) ++ zwO (oo 5) (os_109h 5) ++ zwO (oo 6) (os_109h 6) ++ zwO (oo 7) (os_109h 7) ++ zwO (oo 8) (os_109h 8)) H → va_D A (zwX Xo Po Go No Qo Ko Lo To oo ra Xs_109h ++ zwP cI Po Pp Ps Pa ++ zwG cI Go Gp Gs Ga ++ zwS cI No Np Go Ns Na ++ zwQ cI Qo Qp Qs Qa ++ zwS cI Ko Kp Go Ks Ka ++ zwQ cI Lo Lp Ls La ++ zwS cI To Tp Go Ts_109h Ta_109h ++ zwR cO ra oo ++ zwO (oo 0) (os_109h 0) ++ zwO (oo 1) (os_109h 1) ++ zwO (oo 2) (os_109h 2) ++ zwO (oo 3) (os_109h 3) ++ zwO (oo 4) (os_109h 4) ++ zwO (oo 5) (os_109h 5) ++ zwO (oo 6) (os_109h 6) ++ zwO (oo 7) (os_109h 7) ++ zwO (oo 8) (os_109h 8)) → va_S A s.heap H locs → lv_has ls 5 [(0, .ref Xo), (1, .long x1_109h), (3, .int x3_109h)] → W p l e R s m args below meth c H locs 0 0 Q (F0 m 109 ls []))) ?_ i61 _ _ _ hP hD hS (lv_sub hl [1, 2, 0] rfl)
        clear i61 hP hD hS hl
        intro x1_109h x3_109h Xs_109h Ts_109h Ta_109h os_109h z109 h zl109 zr109 H locs ls hP hD hS hl
        refine lv_iload_n hx hb dX5_digest_109 rfl (lv_at hl 2 rfl) ?_
        refine lv_iconst (v := (5 : Int32)) hx hb dX5_digest_110 (by decide) ?_
        refine lv_icmp_gt (tgt := 133) hx hb dX5_digest_111 (by decide) (fun c32 => ?_) (fun c32 => ?_)
        · have h := zif_t c32 h
          cases zr109 _ (zend h).symm
          exact KX133 _ _ _ hP hD hS (lv_sub hl [0, 1] rfl)
        · have h := zif_f c32 h
          refine lv_ldc2 (v := (31 : Int64)) hx hb hown (hts (.constantLong RX5 236 (31)) (by decide +kernel)) dX5_digest_114 ?_
          refine lv_lload_n hx hb dX5_digest_117 rfl (lv_at hl 1 rfl) ?_
          refine lv_lmul hx hb dX5_digest_118 ?_
          refine lv_aload_n hx hb dX5_digest_119 rfl (lv_at hl 0 rfl) ?_
          refine lv_iload_n hx hb dX5_digest_120 rfl (lv_at hl 2 rfl) ?_
          obtain ⟨r33, Xs_34, Ts_35, Ta_36, os_37, g38, h⟩ := zb5_s h
          have hFc := va_free (wc := (zwX Xo Po Go No Qo Ko Lo To oo ra Xs_109h ++ zwP cI Po Pp Ps Pa ++ zwG cI Go Gp Gs Ga ++ zwS cI No Np Go Ns Na ++ zwQ cI Qo Qp Qs Qa ++ zwS cI Ko Kp Go Ks Ka ++ zwQ cI Lo Lp Ls La ++ zwS cI To Tp Go Ts_109h Ta_109h ++ zwR cO ra oo ++ zwO (oo 0) (os_109h 0) ++ zwO (oo 1) (os_109h 1) ++ zwO (oo 2) (os_109h 2) ++ zwO (oo 3) (os_109h 3) ++ zwO (oo 4) (os_109h 4) ++ zwO (oo 5) (os_109h 5) ++ zwO (oo 6) (os_109h 6) ++ zwO (oo 7) (os_109h 7) ++ zwO (oo 8) (os_109h 8))) hD hS hA [0, 1, 2, 3, 4, 5, 6, 7, 8, 9, 10, 11, 12, 13, 14, 15, 16, 17, 18, 19, 20, 21, 22, 23, 24, 25, 26, 27, 28, 29, 30, 31, 32] rfl
          refine zcall_i (w2 := (zwX Xo Po Go No Qo Ko Lo To oo ra Xs_34 ++ zwP cI Po Pp Ps Pa ++ zwG cI Go Gp Gs Ga ++ zwS cI No Np Go Ns Na ++ zwQ cI Qo Qp Qs Qa ++ zwS cI Ko Kp Go Ks Ka ++ zwQ cI Lo Lp Ls La ++ zwS cI To Tp Go Ts_35 Ta_36 ++ zwR cO ra oo ++ zwO (oo 0) (os_37 0) ++ zwO (oo 1) (os_37 1) ++ zwO (oo 2) (os_37 2) ++ zwO (oo 3) (os_37 3) ++ zwO (oo 4) (os_37 4) ++ zwO (oo 5) (os_37 5) ++ zwO (oo 6) (os_37 6) ++ zwO (oo 7) (os_37 7) ++ zwO (oo 8) (os_37 8))) (va_runV (As := [.int x3_109h]) (rest := [.long ((31 : Int64) * x1_109h)]) ⟨hx, hb, hml, hown, hts⟩ (c_X5_courses l D cI cB cO Xo Po Pp Go Gp No Np Qo Qp Ko Kp Lo Lp To Tp ra oo Xs_109h Ps Pa Gs Ga Ns Na Qs Qa Ks Ka Ls La Ts_109h Ta_109h os_109h x3_109h _ _ _ _ _ _ g38) (cwV 1 hts gX5_digest_X5_courses rfl rfl rfl kV_X5_courses ⟨Nat.le_trans (Nat.le_of_ble_eq_true rfl) hRf, Nat.le_trans (Nat.le_of_ble_eq_true rfl) hRl⟩) (zpreV hK hP hD hS hE hFc [0, 1, 2, 3, 4, 5, 6, 7, 8, 9, 10, 11, 12, 13, 14, 15, 16, 17, 18, 19, 20, 21, 22, 23, 24, 25, 26, 27, 28, 29, 30, 31, 32] rfl rfl 0 (ci := 5) rfl rfl [.int x3_109h]) rfl rfl hl.1 rfl (lv_room (Nat.le_of_ble_eq_true rfl)) dX5_digest_121 ⟨Nat.zero_le _, Nat.zero_le _⟩) hP hD hS hFc [0, 1, 2, 3, 4, 5, 6, 7, 8, 9, 10, 11, 12, 13, 14, 15, 16, 17, 18, 19, 20, 21, 22, 23, 24, 25, 26, 27, 28, 29, 30, 31, 32] [] [0, 1, 2, 3, 4, 5, 6, 7, 8, 9, 10, 11, 12, 13, 14, 15, 16, 17, 18, 19, 20, 21, 22, 23, 24, 25, 26, 27, 28, 29, 30, 31, 32] 33 rfl rfl rfl rfl (fun H locs hP hD hS => ?_)
          refine lv_i2l (v := (r33).toInt64) hx hb dX5_digest_124 rfl ?_
          refine lv_ladd hx hb dX5_digest_125 ?_
          refine lv_topl (fun x1_39 ex1_39 => ?_)
          have h := zlt_s h ex1_39
          refine lv_lstore_n (lv' := [(1, .long x1_39), (0, .ref Xo), (3, .int x3_109h)]) hx hb dX5_digest_126 rfl hl (by decide) rfl (fun ls hl => ?_)
          refine lv_iinc (v := (x3_109h + (1 : Int32))) (lv' := [(3, .int (x3_109h + (1 : Int32))), (1, .long x1_39), (0, .ref Xo)]) hx hb dX5_digest_127 hl (k := 2) rfl rfl (by decide) rfl (fun ls hl => ?_)
          refine lv_goto (tgt := 109) hx hb dX5_digest_130 (by decide) ?_
          exact zl109 _ _ _ _ _ _ (zend h).symm _ _ _ hP hD hS (lv_sub hl [2, 1, 0] rfl)
    clear h
    refine zi2_ind (P := (fun (x1_55h : Int64) (x3_55h : Int32) => ∀ (H : Heap) (locs : List Loc) (ls : Array Slot), va_P D vwCl (zwX Xo Po Go No Qo Ko Lo To oo ra Xs ++ zwP cI Po Pp Ps Pa ++ zwG cI Go Gp Gs Ga ++ zwS cI No Np Go Ns Na ++ zwQ cI Qo Qp Qs Qa ++ zwS cI Ko Kp Go Ks Ka ++ zwQ cI Lo Lp Ls La ++ zwS cI To Tp Go Ts Ta ++ zwR cO ra oo ++ zwO (oo 0) (os 0) ++ zwO (oo 1) (os 1) ++ zwO (oo 2) (os 2) ++ zwO (oo 3) (os 3) ++ zwO (oo 4) (os 4) ++ zwO (oo 5) (os 5) ++ zwO (oo 6) (os 6) ++ zwO (oo 7) (os 7) ++ zwO (oo 8) (os 8)) H → va_D A (zwX Xo Po Go No Qo Ko Lo To oo ra Xs ++ zwP cI Po Pp Ps Pa ++ zwG cI Go Gp Gs Ga ++ zwS cI No Np Go Ns Na ++ zwQ cI Qo Qp Qs Qa ++ zwS cI Ko Kp Go Ks Ka ++ zwQ cI Lo Lp Ls La ++ zwS cI To Tp Go Ts Ta ++ zwR cO ra oo ++ zwO (oo 0) (os 0) ++ zwO (oo 1) (os 1) ++ zwO (oo 2) (os 2) ++ zwO (oo 3) (os 3) ++ zwO (oo 4) (os 4) ++ zwO (oo 5) (os 5) ++ zwO (oo 6) (os 6) ++ zwO (oo 7) (os 7) ++ zwO (oo 8) (os 8)) → va_S A s.heap H locs → lv_has ls 5 [(0, .ref Xo), (1, .long x1_55h), (3, .int x3_55h)] → W p l e R s m args below meth c H locs 0 0 Q (F0 m 55 ls []))) ?_ i62 _ _ _ hP hD hS (lv_sub hl [1, 2, 0] rfl)
    clear i62 hP hD hS hl
    intro x1_55h x3_55h z55 h zl55 zr55 H locs ls hP hD hS hl
    refine lv_iload_n hx hb dX5_digest_55 rfl (lv_at hl 2 rfl) ?_
    refine lv_aload_n hx hb dX5_digest_56 rfl (lv_at hl 0 rfl) ?_
    refine va_get (D := D) (ci := 5) (v := .ref Go) (C := RX5) (T := TX5) (N := 13) hx hb hts inX5 hown hK hP 0 rfl rfl 1 (by decide) lk19 (fun _ h9 => h9) rfl dX5_digest_57 ?_
    refine va_getN (D := D) (ci := 0) (v := .int (Gs 2)) (C := RX0) (T := TX0) (N := 4) hx hb hts inX0 hown hK hP 3 rfl rfl 2 (by decide) lk241 (fun _ h9 => h9) rfl dX5_digest_60 ?_
    refine lv_icmp_ge (tgt := 100) hx hb dX5_digest_63 (by decide) (fun c10 => ?_) (fun c10 => ?_)
    · have h := zif_t c10 h
      cases zr55 _ (zend h).symm
      exact KX100 _ _ _ hP hD hS (lv_sub hl [0, 1] rfl)
    · have h := zif_f c10 h
      refine lv_ldc2 (v := (31 : Int64)) hx hb hown (hts (.constantLong RX5 236 (31)) (by decide +kernel)) dX5_digest_66 ?_
      refine lv_lload_n hx hb dX5_digest_69 rfl (lv_at hl 1 rfl) ?_
      refine lv_lmul hx hb dX5_digest_70 ?_
      refine lv_aload_n hx hb dX5_digest_71 rfl (lv_at hl 0 rfl) ?_
      refine lv_iload_n hx hb dX5_digest_72 rfl (lv_at hl 2 rfl) ?_
      refine lv_iconst (v := (0 : Int32)) hx hb dX5_digest_73 (by decide) ?_
      obtain ⟨r11, g12, h⟩ := zb1_s h
      have hFc := va_free (wc := (zwX Xo Po Go No Qo Ko Lo To oo ra Xs ++ zwP cI Po Pp Ps Pa ++ zwG cI Go Gp Gs Ga ++ zwS cI No Np Go Ns Na ++ zwQ cI Qo Qp Qs Qa ++ zwS cI Ko Kp Go Ks Ka ++ zwQ cI Lo Lp Ls La ++ zwS cI To Tp Go Ts Ta ++ zwR cO ra oo ++ zwO (oo 0) (os 0) ++ zwO (oo 1) (os 1) ++ zwO (oo 2) (os 2) ++ zwO (oo 3) (os 3) ++ zwO (oo 4) (os 4) ++ zwO (oo 5) (os 5) ++ zwO (oo 6) (os 6) ++ zwO (oo 7) (os 7) ++ zwO (oo 8) (os 8))) hD hS hA [0, 1, 2, 3, 4, 5, 6, 7, 8, 9, 10, 11, 12, 13, 14, 15, 16, 17, 18, 19, 20, 21, 22, 23, 24, 25, 26, 27, 28, 29, 30, 31, 32] rfl
      refine zcall_i (w2 := (zwX Xo Po Go No Qo Ko Lo To oo ra Xs ++ zwP cI Po Pp Ps Pa ++ zwG cI Go Gp Gs Ga ++ zwS cI No Np Go Ns Na ++ zwQ cI Qo Qp Qs Qa ++ zwS cI Ko Kp Go Ks Ka ++ zwQ cI Lo Lp Ls La ++ zwS cI To Tp Go Ts Ta ++ zwR cO ra oo ++ zwO (oo 0) (os 0) ++ zwO (oo 1) (os 1) ++ zwO (oo 2) (os 2) ++ zwO (oo 3) (os 3) ++ zwO (oo 4) (os 4) ++ zwO (oo 5) (os 5) ++ zwO (oo 6) (os 6) ++ zwO (oo 7) (os 7) ++ zwO (oo 8) (os 8))) (va_runV (As := [.int x3_55h, .int (0 : Int32)]) (rest := [.long ((31 : Int64) * x1_55h)]) ⟨hx, hb, hml, hown, hts⟩ (c_X5_place l D cI cB cO Xo Po Pp Go Gp No Np Qo Qp Ko Kp Lo Lp To Tp ra oo Xs Ps Pa Gs Ga Ns Na Qs Qa Ks Ka Ls La Ts Ta os x3_55h (0 : Int32) _ _ g12) (cwV 2 hts gX5_digest_X5_place rfl rfl rfl kV_X5_place ⟨Nat.le_trans (Nat.le_of_ble_eq_true rfl) hRf, Nat.le_trans (Nat.le_of_ble_eq_true rfl) hRl⟩) (zpreV hK hP hD hS hE hFc [0, 1, 2, 3, 4, 5, 6, 7, 8, 9, 10, 11, 12, 13, 14, 15, 16, 17, 18, 19, 20, 21, 22, 23, 24, 25, 26, 27, 28, 29, 30, 31, 32] rfl rfl 0 (ci := 5) rfl rfl [.int x3_55h, .int (0 : Int32)]) rfl rfl hl.1 rfl (lv_room (Nat.le_of_ble_eq_true rfl)) dX5_digest_74 ⟨Nat.zero_le _, Nat.zero_le _⟩) hP hD hS hFc [0, 1, 2, 3, 4, 5, 6, 7, 8, 9, 10, 11, 12, 13, 14, 15, 16, 17, 18, 19, 20, 21, 22, 23, 24, 25, 26, 27, 28, 29, 30, 31, 32] [] [0, 1, 2, 3, 4, 5, 6, 7, 8, 9, 10, 11, 12, 13, 14, 15, 16, 17, 18, 19, 20, 21, 22, 23, 24, 25, 26, 27, 28, 29, 30, 31, 32] 33 rfl rfl rfl rfl (fun H locs hP hD hS => ?_)
      refine lv_i2l (v := (r11).toInt64) hx hb dX5_digest_77 rfl ?_
      refine lv_ladd hx hb dX5_digest_78 ?_
      refine lv_topl (fun x1_13 ex1_13 => ?_)
      have h := zlt_s h ex1_13
      refine lv_lstore_n (lv' := [(1, .long x1_13), (0, .ref Xo), (3, .int x3_55h)]) hx hb dX5_digest_79 rfl hl (by decide) rfl (fun ls hl => ?_)
      refine lv_ldc2 (v := (31 : Int64)) hx hb hown (hts (.constantLong RX5 236 (31)) (by decide +kernel)) dX5_digest_80 ?_
      refine lv_lload_n hx hb dX5_digest_83 rfl (lv_at hl 0 rfl) ?_
      refine lv_lmul hx hb dX5_digest_84 ?_
      refine lv_aload_n hx hb dX5_digest_85 rfl (lv_at hl 1 rfl) ?_
      refine lv_iload_n hx hb dX5_digest_86 rfl (lv_at hl 2 rfl) ?_
      refine lv_iconst (v := (1 : Int32)) hx hb dX5_digest_87 (by decide) ?_
      obtain ⟨r14, g15, h⟩ := zb1_s h
      have hFc := va_free (wc := (zwX Xo Po Go No Qo Ko Lo To oo ra Xs ++ zwP cI Po Pp Ps Pa ++ zwG cI Go Gp Gs Ga ++ zwS cI No Np Go Ns Na ++ zwQ cI Qo Qp Qs Qa ++ zwS cI Ko Kp Go Ks Ka ++ zwQ cI Lo Lp Ls La ++ zwS cI To Tp Go Ts Ta ++ zwR cO ra oo ++ zwO (oo 0) (os 0) ++ zwO (oo 1) (os 1) ++ zwO (oo 2) (os 2) ++ zwO (oo 3) (os 3) ++ zwO (oo 4) (os 4) ++ zwO (oo 5) (os 5) ++ zwO (oo 6) (os 6) ++ zwO (oo 7) (os 7) ++ zwO (oo 8) (os 8))) hD hS hA [0, 1, 2, 3, 4, 5, 6, 7, 8, 9, 10, 11, 12, 13, 14, 15, 16, 17, 18, 19, 20, 21, 22, 23, 24, 25, 26, 27, 28, 29, 30, 31, 32] rfl
      refine zcall_i (w2 := (zwX Xo Po Go No Qo Ko Lo To oo ra Xs ++ zwP cI Po Pp Ps Pa ++ zwG cI Go Gp Gs Ga ++ zwS cI No Np Go Ns Na ++ zwQ cI Qo Qp Qs Qa ++ zwS cI Ko Kp Go Ks Ka ++ zwQ cI Lo Lp Ls La ++ zwS cI To Tp Go Ts Ta ++ zwR cO ra oo ++ zwO (oo 0) (os 0) ++ zwO (oo 1) (os 1) ++ zwO (oo 2) (os 2) ++ zwO (oo 3) (os 3) ++ zwO (oo 4) (os 4) ++ zwO (oo 5) (os 5) ++ zwO (oo 6) (os 6) ++ zwO (oo 7) (os 7) ++ zwO (oo 8) (os 8))) (va_runV (As := [.int x3_55h, .int (1 : Int32)]) (rest := [.long ((31 : Int64) * x1_13)]) ⟨hx, hb, hml, hown, hts⟩ (c_X5_place l D cI cB cO Xo Po Pp Go Gp No Np Qo Qp Ko Kp Lo Lp To Tp ra oo Xs Ps Pa Gs Ga Ns Na Qs Qa Ks Ka Ls La Ts Ta os x3_55h (1 : Int32) _ _ g15) (cwV 2 hts gX5_digest_X5_place rfl rfl rfl kV_X5_place ⟨Nat.le_trans (Nat.le_of_ble_eq_true rfl) hRf, Nat.le_trans (Nat.le_of_ble_eq_true rfl) hRl⟩) (zpreV hK hP hD hS hE hFc [0, 1, 2, 3, 4, 5, 6, 7, 8, 9, 10, 11, 12, 13, 14, 15, 16, 17, 18, 19, 20, 21, 22, 23, 24, 25, 26, 27, 28, 29, 30, 31, 32] rfl rfl 0 (ci := 5) rfl rfl [.int x3_55h, .int (1 : Int32)]) rfl rfl hl.1 rfl (lv_room (Nat.le_of_ble_eq_true rfl)) dX5_digest_88 ⟨Nat.zero_le _, Nat.zero_le _⟩) hP hD hS hFc [0, 1, 2, 3, 4, 5, 6, 7, 8, 9, 10, 11, 12, 13, 14, 15, 16, 17, 18, 19, 20, 21, 22, 23, 24, 25, 26, 27, 28, 29, 30, 31, 32] [] [0, 1, 2, 3, 4, 5, 6, 7, 8, 9, 10, 11, 12, 13, 14, 15, 16, 17, 18, 19, 20, 21, 22, 23, 24, 25, 26, 27, 28, 29, 30, 31, 32] 33 rfl rfl rfl rfl (fun H locs hP hD hS => ?_)
      refine lv_i2l (v := (r14).toInt64) hx hb dX5_digest_91 rfl ?_
      refine lv_ladd hx hb dX5_digest_92 ?_
      refine lv_topl (fun x1_16 ex1_16 => ?_)
      have h := zlt_s h ex1_16
      refine lv_lstore_n (lv' := [(1, .long x1_16), (0, .ref Xo), (3, .int x3_55h)]) hx hb dX5_digest_93 rfl hl (by decide) rfl (fun ls hl => ?_)
      refine lv_iinc (v := (x3_55h + (1 : Int32))) (lv' := [(3, .int (x3_55h + (1 : Int32))), (1, .long x1_16), (0, .ref Xo)]) hx hb dX5_digest_94 hl (k := 2) rfl rfl (by decide) rfl (fun ls hl => ?_)
      refine lv_goto (tgt := 55) hx hb dX5_digest_97 (by decide) ?_
      exact zl55 _ _ (zend h).symm _ _ _ hP hD hS (lv_sub hl [2, 1, 0] rfl)
  clear h
  refine zi2_ind (P := (fun (x1_6h : Int64) (x3_6h : Int32) => ∀ (H : Heap) (locs : List Loc) (ls : Array Slot), va_P D vwCl (zwX Xo Po Go No Qo Ko Lo To oo ra Xs ++ zwP cI Po Pp Ps Pa ++ zwG cI Go Gp Gs Ga ++ zwS cI No Np Go Ns Na ++ zwQ cI Qo Qp Qs Qa ++ zwS cI Ko Kp Go Ks Ka ++ zwQ cI Lo Lp Ls La ++ zwS cI To Tp Go Ts Ta ++ zwR cO ra oo ++ zwO (oo 0) (os 0) ++ zwO (oo 1) (os 1) ++ zwO (oo 2) (os 2) ++ zwO (oo 3) (os 3) ++ zwO (oo 4) (os 4) ++ zwO (oo 5) (os 5) ++ zwO (oo 6) (os 6) ++ zwO (oo 7) (os 7) ++ zwO (oo 8) (os 8)) H → va_D A (zwX Xo Po Go No Qo Ko Lo To oo ra Xs ++ zwP cI Po Pp Ps Pa ++ zwG cI Go Gp Gs Ga ++ zwS cI No Np Go Ns Na ++ zwQ cI Qo Qp Qs Qa ++ zwS cI Ko Kp Go Ks Ka ++ zwQ cI Lo Lp Ls La ++ zwS cI To Tp Go Ts Ta ++ zwR cO ra oo ++ zwO (oo 0) (os 0) ++ zwO (oo 1) (os 1) ++ zwO (oo 2) (os 2) ++ zwO (oo 3) (os 3) ++ zwO (oo 4) (os 4) ++ zwO (oo 5) (os 5) ++ zwO (oo 6) (os 6) ++ zwO (oo 7) (os 7) ++ zwO (oo 8) (os 8)) → va_S A s.heap H locs → lv_has ls 5 [(0, .ref Xo), (1, .long x1_6h), (3, .int x3_6h)] → W p l e R s m args below meth c H locs 0 0 Q (F0 m 6 ls []))) ?_ i63 _ _ _ hP hD hS (lv_sub hl [2, 1, 0] rfl)
  clear i63 hP hD hS hl
  intro x1_6h x3_6h z6 h zl6 zr6 H locs ls hP hD hS hl
  refine lv_iload_n hx hb dX5_digest_6 rfl (lv_at hl 2 rfl) ?_
  refine lv_aload_n hx hb dX5_digest_7 rfl (lv_at hl 0 rfl) ?_
  refine va_get (D := D) (ci := 5) (v := .ref No) (C := RX5) (T := TX5) (N := 13) hx hb hts inX5 hown hK hP 0 rfl rfl 2 (by decide) lk28 (fun _ h9 => h9) rfl dX5_digest_8 ?_
  refine va_getN (D := D) (ci := 4) (v := .int (Ns 2)) (C := RX4) (T := TX4) (N := 8) hx hb hts inX4 hown hK hP 5 rfl rfl 2 (by decide) lk98 (fun _ h9 => h9) rfl dX5_digest_11 ?_
  refine lv_icmp_ge (tgt := 53) hx hb dX5_digest_14 (by decide) (fun c2 => ?_) (fun c2 => ?_)
  · have h := zif_t c2 h
    cases zr6 _ (zend h).symm
    exact KX53 _ _ _ hP hD hS (lv_sub hl [0, 1] rfl)
  · have h := zif_f c2 h
    refine lv_iconst (v := (0 : Int32)) hx hb dX5_digest_17 (by decide) ?_
    refine lv_istore (lv' := [(4, .int (0 : Int32)), (0, .ref Xo), (1, .long x1_6h), (3, .int x3_6h)]) hx hb dX5_digest_18 hl (by decide) rfl (fun ls hl => ?_)
    obtain ⟨x1_47x20, i8, h⟩ := zb1_s h
    have KX47 : ∀ (H : Heap) (locs : List Loc) (ls : Array Slot), va_P D vwCl (zwX Xo Po Go No Qo Ko Lo To oo ra Xs ++ zwP cI Po Pp Ps Pa ++ zwG cI Go Gp Gs Ga ++ zwS cI No Np Go Ns Na ++ zwQ cI Qo Qp Qs Qa ++ zwS cI Ko Kp Go Ks Ka ++ zwQ cI Lo Lp Ls La ++ zwS cI To Tp Go Ts Ta ++ zwR cO ra oo ++ zwO (oo 0) (os 0) ++ zwO (oo 1) (os 1) ++ zwO (oo 2) (os 2) ++ zwO (oo 3) (os 3) ++ zwO (oo 4) (os 4) ++ zwO (oo 5) (os 5) ++ zwO (oo 6) (os 6) ++ zwO (oo 7) (os 7) ++ zwO (oo 8) (os 8)) H → va_D A (zwX Xo Po Go No Qo Ko Lo To oo ra Xs ++ zwP cI Po Pp Ps Pa ++ zwG cI Go Gp Gs Ga ++ zwS cI No Np Go Ns Na ++ zwQ cI Qo Qp Qs Qa ++ zwS cI Ko Kp Go Ks Ka ++ zwQ cI Lo Lp Ls La ++ zwS cI To Tp Go Ts Ta ++ zwR cO ra oo ++ zwO (oo 0) (os 0) ++ zwO (oo 1) (os 1) ++ zwO (oo 2) (os 2) ++ zwO (oo 3) (os 3) ++ zwO (oo 4) (os 4) ++ zwO (oo 5) (os 5) ++ zwO (oo 6) (os 6) ++ zwO (oo 7) (os 7) ++ zwO (oo 8) (os 8)) → va_S A s.heap H locs → lv_has ls 5 [(0, .ref Xo), (1, .long x1_47x20), (3, .int x3_6h)] → W p l e R s m args below meth c H locs 0 0 Q (F0 m 47 ls []) := by
      intro H locs ls hP hD hS hl
      refine lv_iinc (v := (x3_6h + (1 : Int32))) (lv' := [(3, .int (x3_6h + (1 : Int32))), (0, .ref Xo), (1, .long x1_47x20)]) hx hb dX5_digest_47 hl (k := 2) rfl rfl (by decide) rfl (fun ls hl => ?_)
      refine lv_goto (tgt := 6) hx hb dX5_digest_50 (by decide) ?_
      exact zl6 _ _ (zend h).symm _ _ _ hP hD hS (lv_sub hl [1, 2, 0] rfl)
    clear h
    refine zi2_ind (P := (fun (x1_20h : Int64) (x4_20h : Int32) => ∀ (H : Heap) (locs : List Loc) (ls : Array Slot), va_P D vwCl (zwX Xo Po Go No Qo Ko Lo To oo ra Xs ++ zwP cI Po Pp Ps Pa ++ zwG cI Go Gp Gs Ga ++ zwS cI No Np Go Ns Na ++ zwQ cI Qo Qp Qs Qa ++ zwS cI Ko Kp Go Ks Ka ++ zwQ cI Lo Lp Ls La ++ zwS cI To Tp Go Ts Ta ++ zwR cO ra oo ++ zwO (oo 0) (os 0) ++ zwO (oo 1) (os 1) ++ zwO (oo 2) (os 2) ++ zwO (oo 3) (os 3) ++ zwO (oo 4) (os 4) ++ zwO (oo 5) (os 5) ++ zwO (oo 6) (os 6) ++ zwO (oo 7) (os 7) ++ zwO (oo 8) (os 8)) H → va_D A (zwX Xo Po Go No Qo Ko Lo To oo ra Xs ++ zwP cI Po Pp Ps Pa ++ zwG cI Go Gp Gs Ga ++ zwS cI No Np Go Ns Na ++ zwQ cI Qo Qp Qs Qa ++ zwS cI Ko Kp Go Ks Ka ++ zwQ cI Lo Lp Ls La ++ zwS cI To Tp Go Ts Ta ++ zwR cO ra oo ++ zwO (oo 0) (os 0) ++ zwO (oo 1) (os 1) ++ zwO (oo 2) (os 2) ++ zwO (oo 3) (os 3) ++ zwO (oo 4) (os 4) ++ zwO (oo 5) (os 5) ++ zwO (oo 6) (os 6) ++ zwO (oo 7) (os 7) ++ zwO (oo 8) (os 8)) → va_S A s.heap H locs → lv_has ls 5 [(0, .ref Xo), (1, .long x1_20h), (3, .int x3_6h), (4, .int x4_20h)] → W p l e R s m args below meth c H locs 0 0 Q (F0 m 20 ls []))) ?_ i8 _ _ _ hP hD hS (lv_sub hl [1, 2, 3, 0] rfl)
    clear i8 hP hD hS hl
    intro x1_20h x4_20h z20 h zl20 zr20 H locs ls hP hD hS hl
    refine lv_iload hx hb dX5_digest_20 (lv_at hl 3 rfl) ?_
    refine lv_iconst (v := (4 : Int32)) hx hb dX5_digest_22 (by decide) ?_
    refine lv_icmp_gt (tgt := 47) hx hb dX5_digest_23 (by decide) (fun c4 => ?_) (fun c4 => ?_)
    · have h := zif_t c4 h
      cases zr20 _ (zend h).symm
      exact KX47 _ _ _ hP hD hS (lv_sub hl [0, 1, 2] rfl)
    · have h := zif_f c4 h
      refine lv_ldc2 (v := (31 : Int64)) hx hb hown (hts (.constantLong RX5 236 (31)) (by decide +kernel)) dX5_digest_26 ?_
      refine lv_lload_n hx hb dX5_digest_29 rfl (lv_at hl 1 rfl) ?_
      refine lv_lmul hx hb dX5_digest_30 ?_
      refine lv_aload_n hx hb dX5_digest_31 rfl (lv_at hl 0 rfl) ?_
      refine lv_iload_n hx hb dX5_digest_32 rfl (lv_at hl 2 rfl) ?_
      refine lv_iload hx hb dX5_digest_33 (lv_at hl 3 rfl) ?_
      obtain ⟨r5, g6, h⟩ := zb1_s h
      have hFc := va_free (wc := (zwX Xo Po Go No Qo Ko Lo To oo ra Xs ++ zwP cI Po Pp Ps Pa ++ zwG cI Go Gp Gs Ga ++ zwS cI No Np Go Ns Na ++ zwQ cI Qo Qp Qs Qa ++ zwS cI Ko Kp Go Ks Ka ++ zwQ cI Lo Lp Ls La ++ zwS cI To Tp Go Ts Ta ++ zwR cO ra oo ++ zwO (oo 0) (os 0) ++ zwO (oo 1) (os 1) ++ zwO (oo 2) (os 2) ++ zwO (oo 3) (os 3) ++ zwO (oo 4) (os 4) ++ zwO (oo 5) (os 5) ++ zwO (oo 6) (os 6) ++ zwO (oo 7) (os 7) ++ zwO (oo 8) (os 8))) hD hS hA [0, 1, 2, 3, 4, 5, 6, 7, 8, 9, 10, 11, 12, 13, 14, 15, 16, 17, 18, 19, 20, 21, 22, 23, 24, 25, 26, 27, 28, 29, 30, 31, 32] rfl
      refine zcall_i (w2 := (zwX Xo Po Go No Qo Ko Lo To oo ra Xs ++ zwP cI Po Pp Ps Pa ++ zwG cI Go Gp Gs Ga ++ zwS cI No Np Go Ns Na ++ zwQ cI Qo Qp Qs Qa ++ zwS cI Ko Kp Go Ks Ka ++ zwQ cI Lo Lp Ls La ++ zwS cI To Tp Go Ts Ta ++ zwR cO ra oo ++ zwO (oo 0) (os 0) ++ zwO (oo 1) (os 1) ++ zwO (oo 2) (os 2) ++ zwO (oo 3) (os 3) ++ zwO (oo 4) (os 4) ++ zwO (oo 5) (os 5) ++ zwO (oo 6) (os 6) ++ zwO (oo 7) (os 7) ++ zwO (oo 8) (os 8))) (va_runV (As := [.int x3_6h, .int x4_20h]) (rest := [.long ((31 : Int64) * x1_20h)]) ⟨hx, hb, hml, hown, hts⟩ (c_X5_peg l D cI cB cO Xo Po Pp Go Gp No Np Qo Qp Ko Kp Lo Lp To Tp ra oo Xs Ps Pa Gs Ga Ns Na Qs Qa Ks Ka Ls La Ts Ta os x3_6h x4_20h _ _ g6) (cwV 2 hts gX5_digest_X5_peg rfl rfl rfl kV_X5_peg ⟨Nat.le_trans (Nat.le_of_ble_eq_true rfl) hRf, Nat.le_trans (Nat.le_of_ble_eq_true rfl) hRl⟩) (zpreV hK hP hD hS hE hFc [0, 1, 2, 3, 4, 5, 6, 7, 8, 9, 10, 11, 12, 13, 14, 15, 16, 17, 18, 19, 20, 21, 22, 23, 24, 25, 26, 27, 28, 29, 30, 31, 32] rfl rfl 0 (ci := 5) rfl rfl [.int x3_6h, .int x4_20h]) rfl rfl hl.1 rfl (lv_room (Nat.le_of_ble_eq_true rfl)) dX5_digest_35 ⟨Nat.zero_le _, Nat.zero_le _⟩) hP hD hS hFc [0, 1, 2, 3, 4, 5, 6, 7, 8, 9, 10, 11, 12, 13, 14, 15, 16, 17, 18, 19, 20, 21, 22, 23, 24, 25, 26, 27, 28, 29, 30, 31, 32] [] [0, 1, 2, 3, 4, 5, 6, 7, 8, 9, 10, 11, 12, 13, 14, 15, 16, 17, 18, 19, 20, 21, 22, 23, 24, 25, 26, 27, 28, 29, 30, 31, 32] 33 rfl rfl rfl rfl (fun H locs hP hD hS => ?_)
      refine lv_i2l (v := (r5).toInt64) hx hb dX5_digest_38 rfl ?_
      refine lv_ladd hx hb dX5_digest_39 ?_
      refine lv_topl (fun x1_7 ex1_7 => ?_)
      have h := zlt_s h ex1_7
      refine lv_lstore_n (lv' := [(1, .long x1_7), (0, .ref Xo), (3, .int x3_6h), (4, .int x4_20h)]) hx hb dX5_digest_40 rfl hl (by decide) rfl (fun ls hl => ?_)
      refine lv_iinc (v := (x4_20h + (1 : Int32))) (lv' := [(4, .int (x4_20h + (1 : Int32))), (1, .long x1_7), (0, .ref Xo), (3, .int x3_6h)]) hx hb dX5_digest_41 hl (k := 3) rfl rfl (by decide) rfl (fun ls hl => ?_)
      refine lv_goto (tgt := 20) hx hb dX5_digest_44 (by decide) ?_
      exact zl20 _ _ (zend h).symm _ _ _ hP hD hS (lv_sub hl [2, 1, 3, 0] rfl)
