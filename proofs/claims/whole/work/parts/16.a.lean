set_option maxHeartbeats 4000000 in
set_option maxRecDepth 100000 in
theorem c_X5_letter (l : Launch) (D : va_G) (cI cB cO : ClassId) (Xo : Nat) (Po : Nat) (Pp : Nat → Nat) (Go : Nat) (Gp : Nat → Nat) (No : Nat) (Np : Nat → Nat) (Qo : Nat) (Qp : Nat → Nat) (Ko : Nat) (Kp : Nat → Nat) (Lo : Nat) (Lp : Nat → Nat) (To : Nat) (Tp : Nat → Nat) (ra : Nat) (oo : Nat → Nat) (Xs : Nat → Int32) (Ps : Nat → Int32) (Pa : Nat → Nat → Int32) (Gs : Nat → Int32) (Ga : Nat → Nat → Int32) (Ns : Nat → Int32) (Na : Nat → Nat → Int32) (Qs : Nat → Int32) (Qa : Nat → Nat → Int32) (Ks : Nat → Int32) (Ka : Nat → Nat → Int32) (Ls : Nat → Int32) (La : Nat → Nat → Int32) (Ts : Nat → Int32) (Ta : Nat → Nat → Int32) (os : Nat → Nat → Int32) (a0 : Int32) (rv : Int32) (Ps' : Nat → Int32) (Pa' : Nat → Nat → Int32) (sz : Nat) (h : fX5_letter Ps Pa a0 = some (rv, Ps', Pa')) : Met l yX5_letter wsX5_letter ({ frames := 1, cells := 0, slots := 0, locals := 21 } : Room) (va_Pc [.ref Xo, .int a0] (zPre D (zTY cI cB cO) (zfXW cI cO Xo Po Pp Go Gp No Np Qo Qp Ko Kp Lo Lp To Tp ra oo Xs Ps Pa Gs Ga Ns Na Qs Qa Ks Ka Ls La Ts Ta os) sz)) (va_Qi (fun r (_ : Unit) => r = rv) (fun _ => zPost D (zTY cI cB cO) (zfXW cI cO Xo Po Pp Go Gp No Np Qo Qp Ko Kp Lo Lp To Tp ra oo Xs Ps' Pa' Gs Ga Ns Na Qs Qa Ks Ka Ls La Ts Ta os) (va_A (zfXW cI cO Xo Po Pp Go Gp No Np Qo Qp Ko Kp Lo Lp To Tp ra oo Xs Ps Pa Gs Ga Ns Na Qs Qa Ks Ka Ls La Ts Ta os) sz)) (va_A (zfXW cI cO Xo Po Pp Go Gp No Np Qo Qp Ko Kp Lo Lp To Tp ra oo Xs Ps Pa Gs Ga Ns Na Qs Qa Ks Ka Ls La Ts Ta os) sz)) 0 0 (va_A (zfXW cI cO Xo Po Pp Go Gp No Np Qo Qp Ko Kp Lo Lp To Tp ra oo Xs Ps Pa Gs Ga Ns Na Qs Qa Ks Ka Ls La Ts Ta os) sz) := by
  unfold fX5_letter at h
  refine zmet_i (cc := cX5_letter) (maxL := 2) (by decide) rfl (Nat.le_of_ble_eq_true rfl) rfl rfl ?_
  intro p e s m args below meth c R Q A ls hx hb hts hown hml hK hP hD hE hA hS hRf hRl hl hq
  have hown : s.vm.findClass RX5 = some m.cls := hown
  have hl : lv_has ls 2 [(0, .ref Xo), (1, .int a0)] := hl
  have inX5 : ∀ w ∈ u_ws RX5 TX5 13, w ∈ wsX5_letter := by decide +kernel
  have lk12 : (Cond.fieldLink RX5 12 "PegField" "page" "LPegField$Page;").before args s = true := hts _ (by decide +kernel)
  have inX2 : ∀ w ∈ u_ws RX2 TX2 2, w ∈ wsX5_letter := by decide +kernel
  have lk63 : (Cond.fieldLinkNest RX5 63 "PegField$Page" "size" "I" "PegField").before args s = true := hE.2.use (by decide +kernel)
  refine lv_iload_n hx hb dX5_letter_0 rfl (lv_at hl 1 rfl) ?_
  refine lv_bipush (v := (32 : Int32)) hx hb dX5_letter_1 (by decide) ?_
  refine lv_icmp_lt (tgt := 12) hx hb dX5_letter_3 (by decide) (fun c1 => ?_) (fun c1 => ?_)
  · have h := zif_t c1 h
    refine lv_bipush (v := (-102 : Int32)) hx hb dX5_letter_12 (by decide) ?_
    cases zend h
    exact hq hP hD hS dX5_letter_14
  · have h := zif_f c1 h
    refine lv_iload_n hx hb dX5_letter_6 rfl (lv_at hl 1 rfl) ?_
    refine lv_bipush (v := (126 : Int32)) hx hb dX5_letter_7 (by decide) ?_
    refine lv_icmp_le (tgt := 15) hx hb dX5_letter_9 (by decide) (fun c2 => ?_) (fun c2 => ?_)
    · have h := zif_t c2 h
      refine lv_aload_n hx hb dX5_letter_15 rfl (lv_at hl 0 rfl) ?_
      refine va_get (D := D) (ci := 5) (v := .ref Po) (C := RX5) (T := TX5) (N := 13) hx hb hts inX5 hown hK hP 0 rfl rfl 0 (by decide) lk12 (fun _ h9 => h9) rfl dX5_letter_16 ?_
      refine lv_iload_n hx hb dX5_letter_19 rfl (lv_at hl 1 rfl) ?_
      obtain ⟨r3, Ps_4, Pa_5, g6, h⟩ := zb3_s h
      have hFc := va_free (wc := (zwP cI Po Pp Ps Pa)) hD hS hA [1, 2] (zC_9 (cI := cI) (cB := cB) (cO := cO))
      refine zcm_i (w2 := (zfXW cI cO Xo Po Pp Go Gp No Np Qo Qp Ko Kp Lo Lp To Tp ra oo Xs Ps_4 Pa_5 Gs Ga Ns Na Qs Qa Ks Ka Ls La Ts Ta os)) (va_runV (As := [.int a0]) (rest := []) ⟨hx, hb, hml, hown, hts⟩ (c_X2_append l D cI cB cO Po Pp Ps Pa a0 _ _ _ _ g6) (cwV 1 hts gX5_letter_X2_append rfl rfl rfl kV_X2_append ⟨Nat.le_trans (Nat.le_of_ble_eq_true rfl) hRf, Nat.le_trans (Nat.le_of_ble_eq_true rfl) hRl⟩) (zpreV hK hP hD hS hE hFc [1, 2] (zC_9 (cI := cI) (cB := cB) (cO := cO)) rfl 1 (ci := 2) rfl rfl [.int a0]) rfl rfl hl.1 rfl (lv_room (Nat.le_of_ble_eq_true rfl)) dX5_letter_20 ⟨Nat.zero_le _, Nat.zero_le _⟩) hS hFc (fun H1 t h1 h2 h3 => zM_9 (cI := cI) (cB := cB) (cO := cO) hP hD h1 h2 h3) (fun H locs hP hD hS => ?_)
      clear hFc
      refine lv_if_eq (tgt := 36) hx hb dX5_letter_23 (by decide) (fun c7 => ?_) (fun c7 => ?_)
      · have h := zif_t c7 h
        refine lv_bipush (v := (-104 : Int32)) hx hb dX5_letter_36 (by decide) ?_
        cases zend h
        exact hq hP hD hS dX5_letter_38
      · have h := zif_f c7 h
        refine lv_aload_n hx hb dX5_letter_26 rfl (lv_at hl 0 rfl) ?_
        refine va_get (D := D) (ci := 5) (v := .ref Po) (C := RX5) (T := TX5) (N := 13) hx hb hts inX5 hown hK hP 0 rfl rfl 0 (by decide) lk12 (fun _ h9 => h9) rfl dX5_letter_27 ?_
        refine va_getN (D := D) (ci := 2) (v := .int (Ps_4 1)) (C := RX2) (T := TX2) (N := 2) hx hb hts inX2 hown hK hP 1 rfl rfl 1 (by decide) lk63 (fun _ h9 => h9) rfl dX5_letter_30 ?_
        refine lv_goto (tgt := 38) hx hb dX5_letter_33 (by decide) ?_
        cases zend h
        exact hq hP hD hS dX5_letter_38
    · have h := zif_f c2 h
      refine lv_bipush (v := (-102 : Int32)) hx hb dX5_letter_12 (by decide) ?_
      cases zend h
      exact hq hP hD hS dX5_letter_14
set_option maxHeartbeats 4000000 in
set_option maxRecDepth 100000 in
theorem c_X5_blank (l : Launch) (D : va_G) (cI cB cO : ClassId) (Xo : Nat) (Po : Nat) (Pp : Nat → Nat) (Go : Nat) (Gp : Nat → Nat) (No : Nat) (Np : Nat → Nat) (Qo : Nat) (Qp : Nat → Nat) (Ko : Nat) (Kp : Nat → Nat) (Lo : Nat) (Lp : Nat → Nat) (To : Nat) (Tp : Nat → Nat) (ra : Nat) (oo : Nat → Nat) (Xs : Nat → Int32) (Ps : Nat → Int32) (Pa : Nat → Nat → Int32) (Gs : Nat → Int32) (Ga : Nat → Nat → Int32) (Ns : Nat → Int32) (Na : Nat → Nat → Int32) (Qs : Nat → Int32) (Qa : Nat → Nat → Int32) (Ks : Nat → Int32) (Ka : Nat → Nat → Int32) (Ls : Nat → Int32) (La : Nat → Nat → Int32) (Ts : Nat → Int32) (Ta : Nat → Nat → Int32) (os : Nat → Nat → Int32)  (rv : Int32) (Ps' : Nat → Int32) (sz : Nat) (h : fX5_blank Ps = some (rv, Ps')) : Met l yX5_blank wsX5_blank ({ frames := 0, cells := 0, slots := 0, locals := 0 } : Room) (va_Pc [.ref Xo] (zPre D (zTY cI cB cO) (zfXW cI cO Xo Po Pp Go Gp No Np Qo Qp Ko Kp Lo Lp To Tp ra oo Xs Ps Pa Gs Ga Ns Na Qs Qa Ks Ka Ls La Ts Ta os) sz)) (va_Qi (fun r (_ : Unit) => r = rv) (fun _ => zPost D (zTY cI cB cO) (zfXW cI cO Xo Po Pp Go Gp No Np Qo Qp Ko Kp Lo Lp To Tp ra oo Xs Ps' Pa Gs Ga Ns Na Qs Qa Ks Ka Ls La Ts Ta os) (va_A (zfXW cI cO Xo Po Pp Go Gp No Np Qo Qp Ko Kp Lo Lp To Tp ra oo Xs Ps Pa Gs Ga Ns Na Qs Qa Ks Ka Ls La Ts Ta os) sz)) (va_A (zfXW cI cO Xo Po Pp Go Gp No Np Qo Qp Ko Kp Lo Lp To Tp ra oo Xs Ps Pa Gs Ga Ns Na Qs Qa Ks Ka Ls La Ts Ta os) sz)) 0 0 (va_A (zfXW cI cO Xo Po Pp Go Gp No Np Qo Qp Ko Kp Lo Lp To Tp ra oo Xs Ps Pa Gs Ga Ns Na Qs Qa Ks Ka Ls La Ts Ta os) sz) := by
  unfold fX5_blank at h
  refine zmet_i (cc := cX5_blank) (maxL := 2) (by decide) rfl (Nat.le_of_ble_eq_true rfl) rfl rfl ?_
  intro p e s m args below meth c R Q A ls hx hb hts hown hml hK hP hD hE hA hS hRf hRl hl hq
  have hown : s.vm.findClass RX5 = some m.cls := hown
  have hl : lv_has ls 2 [(0, .ref Xo)] := hl
  have inX5 : ∀ w ∈ u_ws RX5 TX5 13, w ∈ wsX5_blank := by decide +kernel
  have lk12 : (Cond.fieldLink RX5 12 "PegField" "page" "LPegField$Page;").before args s = true := hts _ (by decide +kernel)
  have inX2 : ∀ w ∈ u_ws RX2 TX2 2, w ∈ wsX5_blank := by decide +kernel
  have lk63 : (Cond.fieldLinkNest RX5 63 "PegField$Page" "size" "I" "PegField").before args s = true := hE.2.use (by decide +kernel)
  refine lv_aload_n hx hb dX5_blank_0 rfl (lv_at hl 0 rfl) ?_
  refine va_get (D := D) (ci := 5) (v := .ref Po) (C := RX5) (T := TX5) (N := 13) hx hb hts inX5 hown hK hP 0 rfl rfl 0 (by decide) lk12 (fun _ h9 => h9) rfl dX5_blank_1 ?_
  refine va_getN (D := D) (ci := 2) (v := .int (Ps 1)) (C := RX2) (T := TX2) (N := 2) hx hb hts inX2 hown hK hP 1 rfl rfl 1 (by decide) lk63 (fun _ h9 => h9) rfl dX5_blank_4 ?_
  refine lv_topi (fun x1_1 ex1_1 => ?_)
  have h := zlt_s h ex1_1
  refine lv_istore_n (lv' := [(1, .int x1_1), (0, .ref Xo)]) hx hb dX5_blank_7 rfl hl (by decide) rfl (fun ls hl => ?_)
  refine lv_aload_n hx hb dX5_blank_8 rfl (lv_at hl 1 rfl) ?_
  refine va_get (D := D) (ci := 5) (v := .ref Po) (C := RX5) (T := TX5) (N := 13) hx hb hts inX5 hown hK hP 0 rfl rfl 0 (by decide) lk12 (fun _ h9 => h9) rfl dX5_blank_9 ?_
  refine lv_iconst (v := (0 : Int32)) hx hb dX5_blank_12 (by decide) ?_
  refine va_putN (D := D) (ci := 2) (v := .int (0 : Int32)) (ty := .int) (C := RX2) (T := TX2) (N := 2) hx hb hts inX2 tyX2 tyX2_ok nmX2 hown hK hP hD hS 1 rfl rfl 1 (by decide) lk63 (fun _ h9 => h9) rfl (by decide +kernel) rfl rfl (Nat.le_of_ble_eq_true rfl) dX5_blank_13 (fun H locs hP hD hS => ?_)
  have hset : ∀ v9 : Int32, (zfXW cI cO Xo Po Pp Go Gp No Np Qo Qp Ko Kp Lo Lp To Tp ra oo Xs Ps Pa Gs Ga Ns Na Qs Qa Ks Ka Ls La Ts Ta os).set 1 (Po, .inr (2, ([.ref (Pp 0), .int (Ps 1)] : List Value).set 1 (.int v9))) = (zfXW cI cO Xo Po Pp Go Gp No Np Qo Qp Ko Kp Lo Lp To Tp ra oo Xs (upd Ps 1 v9) Pa Gs Ga Ns Na Qs Qa Ks Ka Ls La Ts Ta os) := fun _ => rfl
  obtain ⟨Ps_2, ePs_2, hP, hD⟩ : ∃ y9, y9 = (upd Ps 1 (0 : Int32)) ∧ va_P D vwCl (zfXW cI cO Xo Po Pp Go Gp No Np Qo Qp Ko Kp Lo Lp To Tp ra oo Xs y9 Pa Gs Ga Ns Na Qs Qa Ks Ka Ls La Ts Ta os) H ∧ va_D A (zfXW cI cO Xo Po Pp Go Gp No Np Qo Qp Ko Kp Lo Lp To Tp ra oo Xs y9 Pa Gs Ga Ns Na Qs Qa Ks Ka Ls La Ts Ta os) := ⟨_, rfl, zsetP (hset _) hP, zsetD (hset _) hD⟩
  have h := zlt_s h ePs_2
  clear hset
  refine lv_iload_n hx hb dX5_blank_16 rfl (lv_at hl 0 rfl) ?_
  cases zend h
  exact hq hP hD hS dX5_blank_17
set_option maxHeartbeats 4000000 in
set_option maxRecDepth 100000 in
theorem c_X5_fault (l : Launch) (D : va_G) (cI cB cO : ClassId) (Xo : Nat) (Po : Nat) (Pp : Nat → Nat) (Go : Nat) (Gp : Nat → Nat) (No : Nat) (Np : Nat → Nat) (Qo : Nat) (Qp : Nat → Nat) (Ko : Nat) (Kp : Nat → Nat) (Lo : Nat) (Lp : Nat → Nat) (To : Nat) (Tp : Nat → Nat) (ra : Nat) (oo : Nat → Nat) (Xs : Nat → Int32) (Ps : Nat → Int32) (Pa : Nat → Nat → Int32) (Gs : Nat → Int32) (Ga : Nat → Nat → Int32) (Ns : Nat → Int32) (Na : Nat → Nat → Int32) (Qs : Nat → Int32) (Qa : Nat → Nat → Int32) (Ks : Nat → Int32) (Ka : Nat → Nat → Int32) (Ls : Nat → Int32) (La : Nat → Nat → Int32) (Ts : Nat → Int32) (Ta : Nat → Nat → Int32) (os : Nat → Nat → Int32)  (rv : Int32) (sz : Nat) (h : fX5_fault Ps Pa = some rv) : Met l yX5_fault wsX5_fault ({ frames := 5, cells := 0, slots := 0, locals := 110 } : Room) (va_Pc [.ref Xo] (zPre D (zTY cI cB cO) (zfXW cI cO Xo Po Pp Go Gp No Np Qo Qp Ko Kp Lo Lp To Tp ra oo Xs Ps Pa Gs Ga Ns Na Qs Qa Ks Ka Ls La Ts Ta os) sz)) (va_Qi (fun r (_ : Unit) => r = rv) (fun _ => zPost D (zTY cI cB cO) (zfXW cI cO Xo Po Pp Go Gp No Np Qo Qp Ko Kp Lo Lp To Tp ra oo Xs Ps Pa Gs Ga Ns Na Qs Qa Ks Ka Ls La Ts Ta os) (va_A (zfXW cI cO Xo Po Pp Go Gp No Np Qo Qp Ko Kp Lo Lp To Tp ra oo Xs Ps Pa Gs Ga Ns Na Qs Qa Ks Ka Ls La Ts Ta os) sz)) (va_A (zfXW cI cO Xo Po Pp Go Gp No Np Qo Qp Ko Kp Lo Lp To Tp ra oo Xs Ps Pa Gs Ga Ns Na Qs Qa Ks Ka Ls La Ts Ta os) sz)) 0 0 (va_A (zfXW cI cO Xo Po Pp Go Gp No Np Qo Qp Ko Kp Lo Lp To Tp ra oo Xs Ps Pa Gs Ga Ns Na Qs Qa Ks Ka Ls La Ts Ta os) sz) := by
  unfold fX5_fault at h
  refine zmet_i (cc := cX5_fault) (maxL := 1) (by decide) rfl (Nat.le_of_ble_eq_true rfl) rfl rfl ?_
  intro p e s m args below meth c R Q A ls hx hb hts hown hml hK hP hD hE hA hS hRf hRl hl hq
  have hown : s.vm.findClass RX5 = some m.cls := hown
  have hl : lv_has ls 1 [(0, .ref Xo)] := hl
  have inX5 : ∀ w ∈ u_ws RX5 TX5 13, w ∈ wsX5_fault := by decide +kernel
  have lk12 : (Cond.fieldLink RX5 12 "PegField" "page" "LPegField$Page;").before args s = true := hts _ (by decide +kernel)
  refine lv_aload_n hx hb dX5_fault_0 rfl (lv_at hl 0 rfl) ?_
  refine va_get (D := D) (ci := 5) (v := .ref Po) (C := RX5) (T := TX5) (N := 13) hx hb hts inX5 hown hK hP 0 rfl rfl 0 (by decide) lk12 (fun _ h9 => h9) rfl dX5_fault_1 ?_
  obtain ⟨r1, g2, h⟩ := zb1_s h
  have hFc := va_free (wc := (zwP cI Po Pp Ps Pa)) hD hS hA [1, 2] (zC_10 (cI := cI) (cB := cB) (cO := cO))
  refine zcp_i (va_runV (As := []) (rest := []) ⟨hx, hb, hml, hown, hts⟩ (c_X2_firstFault l D cI cB cO Po Pp Ps Pa _ _ g2) (cwV 0 hts gX5_fault_X2_firstFault rfl rfl rfl kV_X2_firstFault ⟨Nat.le_trans (Nat.le_of_ble_eq_true rfl) hRf, Nat.le_trans (Nat.le_of_ble_eq_true rfl) hRl⟩) (zpreV hK hP hD hS hE hFc [1, 2] (zC_10 (cI := cI) (cB := cB) (cO := cO)) rfl 1 (ci := 2) rfl rfl []) rfl rfl hl.1 rfl (lv_room (Nat.le_of_ble_eq_true rfl)) dX5_fault_4 ⟨Nat.zero_le _, Nat.zero_le _⟩) hP hD hS hFc [1, 2] (zC_10 (cI := cI) (cB := cB) (cO := cO)) (fun H locs hP hS => ?_)
  clear hFc
  cases zend h
  exact hq hP hD hS dX5_fault_7
set_option maxHeartbeats 4000000 in
set_option maxRecDepth 100000 in
theorem c_X5_board (l : Launch) (D : va_G) (cI cB cO : ClassId) (Xo : Nat) (Po : Nat) (Pp : Nat → Nat) (Go : Nat) (Gp : Nat → Nat) (No : Nat) (Np : Nat → Nat) (Qo : Nat) (Qp : Nat → Nat) (Ko : Nat) (Kp : Nat → Nat) (Lo : Nat) (Lp : Nat → Nat) (To : Nat) (Tp : Nat → Nat) (ra : Nat) (oo : Nat → Nat) (Xs : Nat → Int32) (Ps : Nat → Int32) (Pa : Nat → Nat → Int32) (Gs : Nat → Int32) (Ga : Nat → Nat → Int32) (Ns : Nat → Int32) (Na : Nat → Nat → Int32) (Qs : Nat → Int32) (Qa : Nat → Nat → Int32) (Ks : Nat → Int32) (Ka : Nat → Nat → Int32) (Ls : Nat → Int32) (La : Nat → Nat → Int32) (Ts : Nat → Int32) (Ta : Nat → Nat → Int32) (os : Nat → Nat → Int32)  (rv : Int32) (Xs' : Nat → Int32) (Ps' : Nat → Int32) (Gs' : Nat → Int32) (Ga' : Nat → Nat → Int32) (Ns' : Nat → Int32) (Na' : Nat → Nat → Int32) (Qs' : Nat → Int32) (sz : Nat) (h : fX5_board Xs Ps Pa Gs Ga Ns Na Qs = some (rv, Xs', Ps', Gs', Ga', Ns', Na', Qs')) : Met l yX5_board wsX5_board ({ frames := 6, cells := 0, slots := 0, locals := 130 } : Room) (va_Pc [.ref Xo] (zPre D (zTY cI cB cO) (zfXW cI cO Xo Po Pp Go Gp No Np Qo Qp Ko Kp Lo Lp To Tp ra oo Xs Ps Pa Gs Ga Ns Na Qs Qa Ks Ka Ls La Ts Ta os) sz)) (va_Qi (fun r (_ : Unit) => r = rv) (fun _ => zPost D (zTY cI cB cO) (zfXW cI cO Xo Po Pp Go Gp No Np Qo Qp Ko Kp Lo Lp To Tp ra oo Xs' Ps' Pa Gs' Ga' Ns' Na' Qs' Qa Ks Ka Ls La Ts Ta os) (va_A (zfXW cI cO Xo Po Pp Go Gp No Np Qo Qp Ko Kp Lo Lp To Tp ra oo Xs Ps Pa Gs Ga Ns Na Qs Qa Ks Ka Ls La Ts Ta os) sz)) (va_A (zfXW cI cO Xo Po Pp Go Gp No Np Qo Qp Ko Kp Lo Lp To Tp ra oo Xs Ps Pa Gs Ga Ns Na Qs Qa Ks Ka Ls La Ts Ta os) sz)) 0 0 (va_A (zfXW cI cO Xo Po Pp Go Gp No Np Qo Qp Ko Kp Lo Lp To Tp ra oo Xs Ps Pa Gs Ga Ns Na Qs Qa Ks Ka Ls La Ts Ta os) sz) := by
  unfold fX5_board at h
  refine zmet_i (cc := cX5_board) (maxL := 1) (by decide) rfl (Nat.le_of_ble_eq_true rfl) rfl rfl ?_
  intro p e s m args below meth c R Q A ls hx hb hts hown hml hK hP hD hE hA hS hRf hRl hl hq
  have hown : s.vm.findClass RX5 = some m.cls := hown
  have hl : lv_has ls 1 [(0, .ref Xo)] := hl
  have inX5 : ∀ w ∈ u_ws RX5 TX5 13, w ∈ wsX5_board := by decide +kernel
  have lk12 : (Cond.fieldLink RX5 12 "PegField" "page" "LPegField$Page;").before args s = true := hts _ (by decide +kernel)
  have lk19 : (Cond.fieldLink RX5 19 "PegField" "grid" "LPegField$Grid;").before args s = true := hts _ (by decide +kernel)
  have lk28 : (Cond.fieldLink RX5 28 "PegField" "now" "LPegField$State;").before args s = true := hts _ (by decide +kernel)
  have lk35 : (Cond.fieldLink RX5 35 "PegField" "seen" "LPegField$Seen;").before args s = true := hts _ (by decide +kernel)
  have inX3 : ∀ w ∈ u_ws RX3 TX3 3, w ∈ wsX5_board := by decide +kernel
  have lk87 : (Cond.fieldLinkNest RX5 87 "PegField$Seen" "size" "I" "PegField").before args s = true := hE.2.use (by decide +kernel)
  have inX2 : ∀ w ∈ u_ws RX2 TX2 2, w ∈ wsX5_board := by decide +kernel
  have lk63 : (Cond.fieldLinkNest RX5 63 "PegField$Page" "size" "I" "PegField").before args s = true := hE.2.use (by decide +kernel)
  have lk88 : (Cond.fieldLink RX5 88 "PegField" "isKept" "Z").before args s = true := hts _ (by decide +kernel)
  have lk92 : (Cond.fieldLink RX5 92 "PegField" "isLooked" "Z").before args s = true := hts _ (by decide +kernel)
  have lk95 : (Cond.fieldLink RX5 95 "PegField" "reads" "I").before args s = true := hts _ (by decide +kernel)
  have inX4 : ∀ w ∈ u_ws RX4 TX4 8, w ∈ wsX5_board := by decide +kernel
  have lk98 : (Cond.fieldLinkNest RX5 98 "PegField$State" "pegs" "I" "PegField").before args s = true := hE.2.use (by decide +kernel)
  refine lv_aload_n hx hb dX5_board_0 rfl (lv_at hl 0 rfl) ?_
  refine va_get (D := D) (ci := 5) (v := .ref Po) (C := RX5) (T := TX5) (N := 13) hx hb hts inX5 hown hK hP 0 rfl rfl 0 (by decide) lk12 (fun _ h9 => h9) rfl dX5_board_1 ?_
  obtain ⟨r1, g2, h⟩ := zb1_s h
  have hFc := va_free (wc := (zwP cI Po Pp Ps Pa)) hD hS hA [1, 2] (zC_10 (cI := cI) (cB := cB) (cO := cO))
  refine zcp_i (va_runV (As := []) (rest := []) ⟨hx, hb, hml, hown, hts⟩ (c_X2_isBoard l D cI cB cO Po Pp Ps Pa _ _ g2) (cwV 0 hts gX5_board_X2_isBoard rfl rfl rfl kV_X2_isBoard ⟨Nat.le_trans (Nat.le_of_ble_eq_true rfl) hRf, Nat.le_trans (Nat.le_of_ble_eq_true rfl) hRl⟩) (zpreV hK hP hD hS hE hFc [1, 2] (zC_10 (cI := cI) (cB := cB) (cO := cO)) rfl 1 (ci := 2) rfl rfl []) rfl rfl hl.1 rfl (lv_room (Nat.le_of_ble_eq_true rfl)) dX5_board_4 ⟨Nat.zero_le _, Nat.zero_le _⟩) hP hD hS hFc [1, 2] (zC_10 (cI := cI) (cB := cB) (cO := cO)) (fun H locs hP hS => ?_)
  clear hFc
  refine lv_if_ne (tgt := 13) hx hb dX5_board_7 (by decide) (fun c3 => ?_) (fun c3 => ?_)
  · have h := zif_f c3 h
    refine lv_aload_n hx hb dX5_board_13 rfl (lv_at hl 0 rfl) ?_
    refine va_get (D := D) (ci := 5) (v := .ref Go) (C := RX5) (T := TX5) (N := 13) hx hb hts inX5 hown hK hP 0 rfl rfl 1 (by decide) lk19 (fun _ h9 => h9) rfl dX5_board_14 ?_
    refine lv_aload_n hx hb dX5_board_17 rfl (lv_at hl 0 rfl) ?_
    refine va_get (D := D) (ci := 5) (v := .ref Po) (C := RX5) (T := TX5) (N := 13) hx hb hts inX5 hown hK hP 0 rfl rfl 0 (by decide) lk12 (fun _ h9 => h9) rfl dX5_board_18 ?_
    refine lv_iconst (v := (0 : Int32)) hx hb dX5_board_21 (by decide) ?_
    obtain ⟨r4, g5, h⟩ := zb1_s h
    have hFc := va_free (wc := (zwP cI Po Pp Ps Pa)) hD hS hA [1, 2] (zC_10 (cI := cI) (cB := cB) (cO := cO))
    refine zcp_i (va_runV (As := [.int (0 : Int32)]) (rest := [.ref Go]) ⟨hx, hb, hml, hown, hts⟩ (c_X2_digitAt l D cI cB cO Po Pp Ps Pa (0 : Int32) _ _ g5) (cwV 1 hts gX5_board_X2_digitAt rfl rfl rfl kV_X2_digitAt ⟨Nat.le_trans (Nat.le_of_ble_eq_true rfl) hRf, Nat.le_trans (Nat.le_of_ble_eq_true rfl) hRl⟩) (zpreV hK hP hD hS hE hFc [1, 2] (zC_10 (cI := cI) (cB := cB) (cO := cO)) rfl 1 (ci := 2) rfl rfl [.int (0 : Int32)]) rfl rfl hl.1 rfl (lv_room (Nat.le_of_ble_eq_true rfl)) dX5_board_22 ⟨Nat.zero_le _, Nat.zero_le _⟩) hP hD hS hFc [1, 2] (zC_10 (cI := cI) (cB := cB) (cO := cO)) (fun H locs hP hS => ?_)
    clear hFc
    refine lv_aload_n hx hb dX5_board_25 rfl (lv_at hl 0 rfl) ?_
    refine va_get (D := D) (ci := 5) (v := .ref Po) (C := RX5) (T := TX5) (N := 13) hx hb hts inX5 hown hK hP 0 rfl rfl 0 (by decide) lk12 (fun _ h9 => h9) rfl dX5_board_26 ?_
    refine lv_iconst (v := (1 : Int32)) hx hb dX5_board_29 (by decide) ?_
    obtain ⟨r6, g7, h⟩ := zb1_s h
    have hFc := va_free (wc := (zwP cI Po Pp Ps Pa)) hD hS hA [1, 2] (zC_10 (cI := cI) (cB := cB) (cO := cO))
    refine zcp_i (va_runV (As := [.int (1 : Int32)]) (rest := [.int r4, .ref Go]) ⟨hx, hb, hml, hown, hts⟩ (c_X2_digitAt l D cI cB cO Po Pp Ps Pa (1 : Int32) _ _ g7) (cwV 1 hts gX5_board_X2_digitAt rfl rfl rfl kV_X2_digitAt ⟨Nat.le_trans (Nat.le_of_ble_eq_true rfl) hRf, Nat.le_trans (Nat.le_of_ble_eq_true rfl) hRl⟩) (zpreV hK hP hD hS hE hFc [1, 2] (zC_10 (cI := cI) (cB := cB) (cO := cO)) rfl 1 (ci := 2) rfl rfl [.int (1 : Int32)]) rfl rfl hl.1 rfl (lv_room (Nat.le_of_ble_eq_true rfl)) dX5_board_30 ⟨Nat.zero_le _, Nat.zero_le _⟩) hP hD hS hFc [1, 2] (zC_10 (cI := cI) (cB := cB) (cO := cO)) (fun H locs hP hS => ?_)
    clear hFc
    obtain ⟨Gs_8, Ga_9, g10, h⟩ := zb2_s h
    have hFc := va_free (wc := (zwG cI Go Gp Gs Ga)) hD hS hA [3, 4] (zC_11 (cI := cI) (cB := cB) (cO := cO))
    refine zcm_v (w2 := (zfXW cI cO Xo Po Pp Go Gp No Np Qo Qp Ko Kp Lo Lp To Tp ra oo Xs Ps Pa Gs_8 Ga_9 Ns Na Qs Qa Ks Ka Ls La Ts Ta os)) (va_runV (As := [.int r4, .int r6]) (rest := []) ⟨hx, hb, hml, hown, hts⟩ (c_X0_lay l D cI cB cO Go Gp Gs Ga r4 r6 _ _ _ g10) (cwV 2 hts gX5_board_X0_lay rfl rfl rfl kV_X0_lay ⟨Nat.le_trans (Nat.le_of_ble_eq_true rfl) hRf, Nat.le_trans (Nat.le_of_ble_eq_true rfl) hRl⟩) (zpreV hK hP hD hS hE hFc [3, 4] (zC_11 (cI := cI) (cB := cB) (cO := cO)) rfl 3 (ci := 0) rfl rfl [.int r4, .int r6]) rfl rfl hl.1 rfl (lv_room (Nat.le_of_ble_eq_true rfl)) dX5_board_33 ⟨Nat.zero_le _, Nat.zero_le _⟩) hS hFc (fun H1 t h1 h2 h3 => zM_11 (cI := cI) (cB := cB) (cO := cO) hP hD h1 h2 h3) (fun H locs hP hD hS => ?_)
    clear hFc
    refine lv_aload_n hx hb dX5_board_36 rfl (lv_at hl 0 rfl) ?_
    refine va_get (D := D) (ci := 5) (v := .ref No) (C := RX5) (T := TX5) (N := 13) hx hb hts inX5 hown hK hP 0 rfl rfl 2 (by decide) lk28 (fun _ h9 => h9) rfl dX5_board_37 ?_
    refine lv_aload_n hx hb dX5_board_40 rfl (lv_at hl 0 rfl) ?_
    refine va_get (D := D) (ci := 5) (v := .ref Po) (C := RX5) (T := TX5) (N := 13) hx hb hts inX5 hown hK hP 0 rfl rfl 0 (by decide) lk12 (fun _ h9 => h9) rfl dX5_board_41 ?_
    obtain ⟨Ss_11, Sa_12, g13, h⟩ := zb2_s h
    have hFc := va_free (wc := (zfSGP cI cO No Np Go Gp Po Pp Ns Na Gs_8 Ga_9 Ps Pa)) hD hS hA [5, 6, 7, 8, 3, 4, 1, 2] (zC_12 (cI := cI) (cB := cB) (cO := cO))
    refine zcm_v (w2 := (zfXW cI cO Xo Po Pp Go Gp No Np Qo Qp Ko Kp Lo Lp To Tp ra oo Xs Ps Pa Gs_8 Ga_9 Ss_11 Sa_12 Qs Qa Ks Ka Ls La Ts Ta os)) (va_runV (As := [.ref Po]) (rest := []) ⟨hx, hb, hml, hown, hts⟩ (c_X4_read l D cI cB cO No Np Go Gp Po Pp Ns Na Gs_8 Ga_9 Ps Pa _ _ _ g13) (cwV 1 hts gX5_board_X4_read rfl rfl rfl kV_X4_read ⟨Nat.le_trans (Nat.le_of_ble_eq_true rfl) hRf, Nat.le_trans (Nat.le_of_ble_eq_true rfl) hRl⟩) (zpreV hK hP hD hS hE hFc [5, 6, 7, 8, 3, 4, 1, 2] (zC_12 (cI := cI) (cB := cB) (cO := cO)) rfl 5 (ci := 4) rfl rfl [.ref Po]) rfl rfl hl.1 rfl (lv_room (Nat.le_of_ble_eq_true rfl)) dX5_board_44 ⟨Nat.zero_le _, Nat.zero_le _⟩) hS hFc (fun H1 t h1 h2 h3 => zM_12 (cI := cI) (cB := cB) (cO := cO) hP hD h1 h2 h3) (fun H locs hP hD hS => ?_)
    clear hFc
    refine lv_aload_n hx hb dX5_board_47 rfl (lv_at hl 0 rfl) ?_
    refine va_get (D := D) (ci := 5) (v := .ref Qo) (C := RX5) (T := TX5) (N := 13) hx hb hts inX5 hown hK hP 0 rfl rfl 3 (by decide) lk35 (fun _ h9 => h9) rfl dX5_board_48 ?_
    refine lv_iconst (v := (0 : Int32)) hx hb dX5_board_51 (by decide) ?_
    refine va_putN (D := D) (ci := 3) (v := .int (0 : Int32)) (ty := .int) (C := RX3) (T := TX3) (N := 3) hx hb hts inX3 tyX3 tyX3_ok nmX3 hown hK hP hD hS 9 rfl rfl 2 (by decide) lk87 (fun _ h9 => h9) rfl (by decide +kernel) rfl rfl (Nat.le_of_ble_eq_true rfl) dX5_board_52 (fun H locs hP hD hS => ?_)
    have hset : ∀ v9 : Int32, (zfXW cI cO Xo Po Pp Go Gp No Np Qo Qp Ko Kp Lo Lp To Tp ra oo Xs Ps Pa Gs_8 Ga_9 Ss_11 Sa_12 Qs Qa Ks Ka Ls La Ts Ta os).set 9 (Qo, .inr (3, ([.ref (Qp 0), .ref (Qp 1), .int (Qs 2)] : List Value).set 2 (.int v9))) = (zfXW cI cO Xo Po Pp Go Gp No Np Qo Qp Ko Kp Lo Lp To Tp ra oo Xs Ps Pa Gs_8 Ga_9 Ss_11 Sa_12 (upd Qs 2 v9) Qa Ks Ka Ls La Ts Ta os) := fun _ => rfl
    obtain ⟨Qs_14, eQs_14, hP, hD⟩ : ∃ y9, y9 = (upd Qs 2 (0 : Int32)) ∧ va_P D vwCl (zfXW cI cO Xo Po Pp Go Gp No Np Qo Qp Ko Kp Lo Lp To Tp ra oo Xs Ps Pa Gs_8 Ga_9 Ss_11 Sa_12 y9 Qa Ks Ka Ls La Ts Ta os) H ∧ va_D A (zfXW cI cO Xo Po Pp Go Gp No Np Qo Qp Ko Kp Lo Lp To Tp ra oo Xs Ps Pa Gs_8 Ga_9 Ss_11 Sa_12 y9 Qa Ks Ka Ls La Ts Ta os) := ⟨_, rfl, zsetP (hset _) hP, zsetD (hset _) hD⟩
    have h := zlt_s h eQs_14
    clear hset
    refine lv_aload_n hx hb dX5_board_55 rfl (lv_at hl 0 rfl) ?_
    refine va_get (D := D) (ci := 5) (v := .ref Po) (C := RX5) (T := TX5) (N := 13) hx hb hts inX5 hown hK hP 0 rfl rfl 0 (by decide) lk12 (fun _ h9 => h9) rfl dX5_board_56 ?_
    refine lv_iconst (v := (0 : Int32)) hx hb dX5_board_59 (by decide) ?_
    refine va_putN (D := D) (ci := 2) (v := .int (0 : Int32)) (ty := .int) (C := RX2) (T := TX2) (N := 2) hx hb hts inX2 tyX2 tyX2_ok nmX2 hown hK hP hD hS 1 rfl rfl 1 (by decide) lk63 (fun _ h9 => h9) rfl (by decide +kernel) rfl rfl (Nat.le_of_ble_eq_true rfl) dX5_board_60 (fun H locs hP hD hS => ?_)
    have hset : ∀ v9 : Int32, (zfXW cI cO Xo Po Pp Go Gp No Np Qo Qp Ko Kp Lo Lp To Tp ra oo Xs Ps Pa Gs_8 Ga_9 Ss_11 Sa_12 Qs_14 Qa Ks Ka Ls La Ts Ta os).set 1 (Po, .inr (2, ([.ref (Pp 0), .int (Ps 1)] : List Value).set 1 (.int v9))) = (zfXW cI cO Xo Po Pp Go Gp No Np Qo Qp Ko Kp Lo Lp To Tp ra oo Xs (upd Ps 1 v9) Pa Gs_8 Ga_9 Ss_11 Sa_12 Qs_14 Qa Ks Ka Ls La Ts Ta os) := fun _ => rfl
    obtain ⟨Ps_15, ePs_15, hP, hD⟩ : ∃ y9, y9 = (upd Ps 1 (0 : Int32)) ∧ va_P D vwCl (zfXW cI cO Xo Po Pp Go Gp No Np Qo Qp Ko Kp Lo Lp To Tp ra oo Xs y9 Pa Gs_8 Ga_9 Ss_11 Sa_12 Qs_14 Qa Ks Ka Ls La Ts Ta os) H ∧ va_D A (zfXW cI cO Xo Po Pp Go Gp No Np Qo Qp Ko Kp Lo Lp To Tp ra oo Xs y9 Pa Gs_8 Ga_9 Ss_11 Sa_12 Qs_14 Qa Ks Ka Ls La Ts Ta os) := ⟨_, rfl, zsetP (hset _) hP, zsetD (hset _) hD⟩
    have h := zlt_s h ePs_15
    clear hset
    refine lv_aload_n hx hb dX5_board_63 rfl (lv_at hl 0 rfl) ?_
    refine lv_iconst (v := (0 : Int32)) hx hb dX5_board_64 (by decide) ?_
    refine va_put (D := D) (ci := 5) (v := .int (0 : Int32)) (ty := .boolean) (C := RX5) (T := TX5) (N := 13) hx hb hts inX5 tyX5 tyX5_ok nmX5 hown hK hP hD hS 0 rfl rfl 6 (by decide) lk88 (fun _ h9 => h9) rfl (by decide +kernel) (by decide) (by decide) (Nat.le_of_ble_eq_true rfl) dX5_board_65 (fun H locs hP hD hS => ?_)
    have hset : ∀ v9 : Int32, (zfXW cI cO Xo Po Pp Go Gp No Np Qo Qp Ko Kp Lo Lp To Tp ra oo Xs Ps_15 Pa Gs_8 Ga_9 Ss_11 Sa_12 Qs_14 Qa Ks Ka Ls La Ts Ta os).set 0 (Xo, .inr (5, ([.ref Po, .ref Go, .ref No, .ref Qo, .ref Ko, .ref Lo, .int (Xs 6), .ref To, .ref (oo 0), .ref ra, .int (Xs 10), .int (Xs 11), .int (Xs 12)] : List Value).set 6 (.int v9))) = (zfXW cI cO Xo Po Pp Go Gp No Np Qo Qp Ko Kp Lo Lp To Tp ra oo (upd Xs 6 v9) Ps_15 Pa Gs_8 Ga_9 Ss_11 Sa_12 Qs_14 Qa Ks Ka Ls La Ts Ta os) := fun _ => rfl
    obtain ⟨Xs_16, eXs_16, hP, hD⟩ : ∃ y9, y9 = (upd Xs 6 (0 : Int32)) ∧ va_P D vwCl (zfXW cI cO Xo Po Pp Go Gp No Np Qo Qp Ko Kp Lo Lp To Tp ra oo y9 Ps_15 Pa Gs_8 Ga_9 Ss_11 Sa_12 Qs_14 Qa Ks Ka Ls La Ts Ta os) H ∧ va_D A (zfXW cI cO Xo Po Pp Go Gp No Np Qo Qp Ko Kp Lo Lp To Tp ra oo y9 Ps_15 Pa Gs_8 Ga_9 Ss_11 Sa_12 Qs_14 Qa Ks Ka Ls La Ts Ta os) := ⟨_, rfl, zsetP (hset _) hP, zsetD (hset _) hD⟩
    have h := zlt_s h eXs_16
    clear hset
    refine lv_aload_n hx hb dX5_board_68 rfl (lv_at hl 0 rfl) ?_
    refine lv_iconst (v := (0 : Int32)) hx hb dX5_board_69 (by decide) ?_
    refine va_put (D := D) (ci := 5) (v := .int (0 : Int32)) (ty := .boolean) (C := RX5) (T := TX5) (N := 13) hx hb hts inX5 tyX5 tyX5_ok nmX5 hown hK hP hD hS 0 rfl rfl 10 (by decide) lk92 (fun _ h9 => h9) rfl (by decide +kernel) (by decide) (by decide) (Nat.le_of_ble_eq_true rfl) dX5_board_70 (fun H locs hP hD hS => ?_)
    have hset : ∀ v9 : Int32, (zfXW cI cO Xo Po Pp Go Gp No Np Qo Qp Ko Kp Lo Lp To Tp ra oo Xs_16 Ps_15 Pa Gs_8 Ga_9 Ss_11 Sa_12 Qs_14 Qa Ks Ka Ls La Ts Ta os).set 0 (Xo, .inr (5, ([.ref Po, .ref Go, .ref No, .ref Qo, .ref Ko, .ref Lo, .int (Xs_16 6), .ref To, .ref (oo 0), .ref ra, .int (Xs_16 10), .int (Xs_16 11), .int (Xs_16 12)] : List Value).set 10 (.int v9))) = (zfXW cI cO Xo Po Pp Go Gp No Np Qo Qp Ko Kp Lo Lp To Tp ra oo (upd Xs_16 10 v9) Ps_15 Pa Gs_8 Ga_9 Ss_11 Sa_12 Qs_14 Qa Ks Ka Ls La Ts Ta os) := fun _ => rfl
    obtain ⟨Xs_17, eXs_17, hP, hD⟩ : ∃ y9, y9 = (upd Xs_16 10 (0 : Int32)) ∧ va_P D vwCl (zfXW cI cO Xo Po Pp Go Gp No Np Qo Qp Ko Kp Lo Lp To Tp ra oo y9 Ps_15 Pa Gs_8 Ga_9 Ss_11 Sa_12 Qs_14 Qa Ks Ka Ls La Ts Ta os) H ∧ va_D A (zfXW cI cO Xo Po Pp Go Gp No Np Qo Qp Ko Kp Lo Lp To Tp ra oo y9 Ps_15 Pa Gs_8 Ga_9 Ss_11 Sa_12 Qs_14 Qa Ks Ka Ls La Ts Ta os) := ⟨_, rfl, zsetP (hset _) hP, zsetD (hset _) hD⟩
    have h := zlt_s h eXs_17
    clear hset
    refine lv_aload_n hx hb dX5_board_73 rfl (lv_at hl 0 rfl) ?_
    refine lv_dup hx hb dX5_board_74 rfl ?_
    refine va_get (D := D) (ci := 5) (v := .int (Xs_17 11)) (C := RX5) (T := TX5) (N := 13) hx hb hts inX5 hown hK hP 0 rfl rfl 11 (by decide) lk95 (fun _ h9 => h9) rfl dX5_board_75 ?_
    refine lv_iconst (v := (1 : Int32)) hx hb dX5_board_78 (by decide) ?_
    refine lv_iadd hx hb dX5_board_79 ?_
    refine va_put (D := D) (ci := 5) (v := .int ((Xs_17 11) + (1 : Int32))) (ty := .int) (C := RX5) (T := TX5) (N := 13) hx hb hts inX5 tyX5 tyX5_ok nmX5 hown hK hP hD hS 0 rfl rfl 11 (by decide) lk95 (fun _ h9 => h9) rfl (by decide +kernel) rfl rfl (Nat.le_of_ble_eq_true rfl) dX5_board_80 (fun H locs hP hD hS => ?_)
    have hset : ∀ v9 : Int32, (zfXW cI cO Xo Po Pp Go Gp No Np Qo Qp Ko Kp Lo Lp To Tp ra oo Xs_17 Ps_15 Pa Gs_8 Ga_9 Ss_11 Sa_12 Qs_14 Qa Ks Ka Ls La Ts Ta os).set 0 (Xo, .inr (5, ([.ref Po, .ref Go, .ref No, .ref Qo, .ref Ko, .ref Lo, .int (Xs_17 6), .ref To, .ref (oo 0), .ref ra, .int (Xs_17 10), .int (Xs_17 11), .int (Xs_17 12)] : List Value).set 11 (.int v9))) = (zfXW cI cO Xo Po Pp Go Gp No Np Qo Qp Ko Kp Lo Lp To Tp ra oo (upd Xs_17 11 v9) Ps_15 Pa Gs_8 Ga_9 Ss_11 Sa_12 Qs_14 Qa Ks Ka Ls La Ts Ta os) := fun _ => rfl
    obtain ⟨Xs_18, eXs_18, hP, hD⟩ : ∃ y9, y9 = (upd Xs_17 11 ((Xs_17 11) + (1 : Int32))) ∧ va_P D vwCl (zfXW cI cO Xo Po Pp Go Gp No Np Qo Qp Ko Kp Lo Lp To Tp ra oo y9 Ps_15 Pa Gs_8 Ga_9 Ss_11 Sa_12 Qs_14 Qa Ks Ka Ls La Ts Ta os) H ∧ va_D A (zfXW cI cO Xo Po Pp Go Gp No Np Qo Qp Ko Kp Lo Lp To Tp ra oo y9 Ps_15 Pa Gs_8 Ga_9 Ss_11 Sa_12 Qs_14 Qa Ks Ka Ls La Ts Ta os) := ⟨_, rfl, zsetP (hset _) hP, zsetD (hset _) hD⟩
    have h := zlt_s h eXs_18
    clear hset
    refine lv_aload_n hx hb dX5_board_83 rfl (lv_at hl 0 rfl) ?_
    refine va_get (D := D) (ci := 5) (v := .ref No) (C := RX5) (T := TX5) (N := 13) hx hb hts inX5 hown hK hP 0 rfl rfl 2 (by decide) lk28 (fun _ h9 => h9) rfl dX5_board_84 ?_
    refine va_getN (D := D) (ci := 4) (v := .int (Ss_11 2)) (C := RX4) (T := TX4) (N := 8) hx hb hts inX4 hown hK hP 5 rfl rfl 2 (by decide) lk98 (fun _ h9 => h9) rfl dX5_board_87 ?_
    cases zend h
    exact hq hP hD hS dX5_board_90
  · have h := zif_t c3 h
    refine lv_bipush (v := (-103 : Int32)) hx hb dX5_board_10 (by decide) ?_
    cases zend h
    exact hq hP hD hS dX5_board_12
set_option maxHeartbeats 4000000 in
set_option maxRecDepth 100000 in
theorem c_X5_peg (l : Launch) (D : va_G) (cI cB cO : ClassId) (Xo : Nat) (Po : Nat) (Pp : Nat → Nat) (Go : Nat) (Gp : Nat → Nat) (No : Nat) (Np : Nat → Nat) (Qo : Nat) (Qp : Nat → Nat) (Ko : Nat) (Kp : Nat → Nat) (Lo : Nat) (Lp : Nat → Nat) (To : Nat) (Tp : Nat → Nat) (ra : Nat) (oo : Nat → Nat) (Xs : Nat → Int32) (Ps : Nat → Int32) (Pa : Nat → Nat → Int32) (Gs : Nat → Int32) (Ga : Nat → Nat → Int32) (Ns : Nat → Int32) (Na : Nat → Nat → Int32) (Qs : Nat → Int32) (Qa : Nat → Nat → Int32) (Ks : Nat → Int32) (Ka : Nat → Nat → Int32) (Ls : Nat → Int32) (La : Nat → Nat → Int32) (Ts : Nat → Int32) (Ta : Nat → Nat → Int32) (os : Nat → Nat → Int32) (a0 : Int32) (a1 : Int32) (rv : Int32) (sz : Nat) (h : fX5_peg Gs Ga Ns Na Qs Qa a0 a1 = some rv) : Met l yX5_peg wsX5_peg ({ frames := 4, cells := 0, slots := 0, locals := 93 } : Room) (va_Pc [.ref Xo, .int a0, .int a1] (zPre D (zTY cI cB cO) (zfXW cI cO Xo Po Pp Go Gp No Np Qo Qp Ko Kp Lo Lp To Tp ra oo Xs Ps Pa Gs Ga Ns Na Qs Qa Ks Ka Ls La Ts Ta os) sz)) (va_Qi (fun r (_ : Unit) => r = rv) (fun _ => zPost D (zTY cI cB cO) (zfXW cI cO Xo Po Pp Go Gp No Np Qo Qp Ko Kp Lo Lp To Tp ra oo Xs Ps Pa Gs Ga Ns Na Qs Qa Ks Ka Ls La Ts Ta os) (va_A (zfXW cI cO Xo Po Pp Go Gp No Np Qo Qp Ko Kp Lo Lp To Tp ra oo Xs Ps Pa Gs Ga Ns Na Qs Qa Ks Ka Ls La Ts Ta os) sz)) (va_A (zfXW cI cO Xo Po Pp Go Gp No Np Qo Qp Ko Kp Lo Lp To Tp ra oo Xs Ps Pa Gs Ga Ns Na Qs Qa Ks Ka Ls La Ts Ta os) sz)) 0 0 (va_A (zfXW cI cO Xo Po Pp Go Gp No Np Qo Qp Ko Kp Lo Lp To Tp ra oo Xs Ps Pa Gs Ga Ns Na Qs Qa Ks Ka Ls La Ts Ta os) sz) := by
  unfold fX5_peg at h
  refine zmet_i (cc := cX5_peg) (maxL := 3) (by decide) rfl (Nat.le_of_ble_eq_true rfl) rfl rfl ?_
  intro p e s m args below meth c R Q A ls hx hb hts hown hml hK hP hD hE hA hS hRf hRl hl hq
  have hown : s.vm.findClass RX5 = some m.cls := hown
  have hl : lv_has ls 3 [(0, .ref Xo), (1, .int a0), (2, .int a1)] := hl
  have inX5 : ∀ w ∈ u_ws RX5 TX5 13, w ∈ wsX5_peg := by decide +kernel
  have lk28 : (Cond.fieldLink RX5 28 "PegField" "now" "LPegField$State;").before args s = true := hts _ (by decide +kernel)
  have lk35 : (Cond.fieldLink RX5 35 "PegField" "seen" "LPegField$Seen;").before args s = true := hts _ (by decide +kernel)
  refine lv_aload_n hx hb dX5_peg_0 rfl (lv_at hl 0 rfl) ?_
  refine va_get (D := D) (ci := 5) (v := .ref No) (C := RX5) (T := TX5) (N := 13) hx hb hts inX5 hown hK hP 0 rfl rfl 2 (by decide) lk28 (fun _ h9 => h9) rfl dX5_peg_1 ?_
  refine lv_iload_n hx hb dX5_peg_4 rfl (lv_at hl 1 rfl) ?_
  obtain ⟨r1, g2, h⟩ := zb1_s h
  have hFc := va_free (wc := (zwS cI No Np Go Ns Na)) hD hS hA [5, 6, 7, 8] (zC_13 (cI := cI) (cB := cB) (cO := cO))
  refine zcp_i (va_runV (As := [.int a0]) (rest := []) ⟨hx, hb, hml, hown, hts⟩ (c_X4_isPeg l D cI cB cO No Np Go Ns Na a0 _ _ g2) (cwV 1 hts gX5_peg_X4_isPeg rfl rfl rfl kV_X4_isPeg ⟨Nat.le_trans (Nat.le_of_ble_eq_true rfl) hRf, Nat.le_trans (Nat.le_of_ble_eq_true rfl) hRl⟩) (zpreV hK hP hD hS hE hFc [5, 6, 7, 8] (zC_13 (cI := cI) (cB := cB) (cO := cO)) rfl 5 (ci := 4) rfl rfl [.int a0]) rfl rfl hl.1 rfl (lv_room (Nat.le_of_ble_eq_true rfl)) dX5_peg_5 ⟨Nat.zero_le _, Nat.zero_le _⟩) hP hD hS hFc [5, 6, 7, 8] (zC_13 (cI := cI) (cB := cB) (cO := cO)) (fun H locs hP hS => ?_)
  clear hFc
  refine lv_if_ne (tgt := 14) hx hb dX5_peg_8 (by decide) (fun c3 => ?_) (fun c3 => ?_)
  · have h := zif_f c3 h
    refine lv_iload_n hx hb dX5_peg_14 rfl (lv_at hl 2 rfl) ?_
    by_cases c4 : a1 = (0 : Int32)
    · have h := zif_t c4 h
      refine lv_tableIn (tgt := 48) (off := 33) hx hb dX5_peg_15 (by rw [c4]; decide) (by rw [c4]; decide) (by rw [c4]; rfl) (by decide) ?_
      refine lv_aload_n hx hb dX5_peg_48 rfl (lv_at hl 0 rfl) ?_
      refine va_get (D := D) (ci := 5) (v := .ref No) (C := RX5) (T := TX5) (N := 13) hx hb hts inX5 hown hK hP 0 rfl rfl 2 (by decide) lk28 (fun _ h9 => h9) rfl dX5_peg_49 ?_
      refine lv_iload_n hx hb dX5_peg_52 rfl (lv_at hl 1 rfl) ?_
      obtain ⟨r5, g6, h⟩ := zb1_s h
      have hFc := va_free (wc := (zwS cI No Np Go Ns Na)) hD hS hA [5, 6, 7, 8] (zC_13 (cI := cI) (cB := cB) (cO := cO))
      refine zcp_i (va_runV (As := [.int a0]) (rest := []) ⟨hx, hb, hml, hown, hts⟩ (c_X4_kindOf l D cI cB cO No Np Go Ns Na a0 _ _ g6) (cwV 1 hts gX5_peg_X4_kindOf rfl rfl rfl kV_X4_kindOf ⟨Nat.le_trans (Nat.le_of_ble_eq_true rfl) hRf, Nat.le_trans (Nat.le_of_ble_eq_true rfl) hRl⟩) (zpreV hK hP hD hS hE hFc [5, 6, 7, 8] (zC_13 (cI := cI) (cB := cB) (cO := cO)) rfl 5 (ci := 4) rfl rfl [.int a0]) rfl rfl hl.1 rfl (lv_room (Nat.le_of_ble_eq_true rfl)) dX5_peg_53 ⟨Nat.zero_le _, Nat.zero_le _⟩) hP hD hS hFc [5, 6, 7, 8] (zC_13 (cI := cI) (cB := cB) (cO := cO)) (fun H locs hP hS => ?_)
      clear hFc
      cases zend h
      exact hq hP hD hS dX5_peg_56
    · have h := zif_f c4 h
      by_cases c7 : a1 = (1 : Int32)
      · have h := zif_t c7 h
        refine lv_tableIn (tgt := 57) (off := 42) hx hb dX5_peg_15 (by rw [c7]; decide) (by rw [c7]; decide) (by rw [c7]; rfl) (by decide) ?_
        refine lv_aload_n hx hb dX5_peg_57 rfl (lv_at hl 0 rfl) ?_
        refine va_get (D := D) (ci := 5) (v := .ref No) (C := RX5) (T := TX5) (N := 13) hx hb hts inX5 hown hK hP 0 rfl rfl 2 (by decide) lk28 (fun _ h9 => h9) rfl dX5_peg_58 ?_
        refine lv_iload_n hx hb dX5_peg_61 rfl (lv_at hl 1 rfl) ?_
        obtain ⟨r8, g9, h⟩ := zb1_s h
        have hFc := va_free (wc := (zwS cI No Np Go Ns Na)) hD hS hA [5, 6, 7, 8] (zC_13 (cI := cI) (cB := cB) (cO := cO))
        refine zcp_i (va_runV (As := [.int a0]) (rest := []) ⟨hx, hb, hml, hown, hts⟩ (c_X4_homeOf l D cI cB cO No Np Go Ns Na a0 _ _ g9) (cwV 1 hts gX5_peg_X4_homeOf rfl rfl rfl kV_X4_homeOf ⟨Nat.le_trans (Nat.le_of_ble_eq_true rfl) hRf, Nat.le_trans (Nat.le_of_ble_eq_true rfl) hRl⟩) (zpreV hK hP hD hS hE hFc [5, 6, 7, 8] (zC_13 (cI := cI) (cB := cB) (cO := cO)) rfl 5 (ci := 4) rfl rfl [.int a0]) rfl rfl hl.1 rfl (lv_room (Nat.le_of_ble_eq_true rfl)) dX5_peg_62 ⟨Nat.zero_le _, Nat.zero_le _⟩) hP hD hS hFc [5, 6, 7, 8] (zC_13 (cI := cI) (cB := cB) (cO := cO)) (fun H locs hP hS => ?_)
        clear hFc
        cases zend h
        exact hq hP hD hS dX5_peg_65
      · have h := zif_f c7 h
        by_cases c10 : a1 = (2 : Int32)
        · have h := zif_t c10 h
          refine lv_tableIn (tgt := 66) (off := 51) hx hb dX5_peg_15 (by rw [c10]; decide) (by rw [c10]; decide) (by rw [c10]; rfl) (by decide) ?_
          refine lv_aload_n hx hb dX5_peg_66 rfl (lv_at hl 0 rfl) ?_
          refine va_get (D := D) (ci := 5) (v := .ref No) (C := RX5) (T := TX5) (N := 13) hx hb hts inX5 hown hK hP 0 rfl rfl 2 (by decide) lk28 (fun _ h9 => h9) rfl dX5_peg_67 ?_
          refine lv_iload_n hx hb dX5_peg_70 rfl (lv_at hl 1 rfl) ?_
          obtain ⟨r11, g12, h⟩ := zb1_s h
          have hFc := va_free (wc := (zfSG cI cO No Np Go Gp Ns Na Gs Ga)) hD hS hA [5, 6, 7, 8, 3, 4] (zC_14 (cI := cI) (cB := cB) (cO := cO))
          refine zcp_i (va_runV (As := [.int a0]) (rest := []) ⟨hx, hb, hml, hown, hts⟩ (c_X4_targetsOf l D cI cB cO No Np Go Gp Ns Na Gs Ga a0 _ _ g12) (cwV 1 hts gX5_peg_X4_targetsOf rfl rfl rfl kV_X4_targetsOf ⟨Nat.le_trans (Nat.le_of_ble_eq_true rfl) hRf, Nat.le_trans (Nat.le_of_ble_eq_true rfl) hRl⟩) (zpreV hK hP hD hS hE hFc [5, 6, 7, 8, 3, 4] (zC_14 (cI := cI) (cB := cB) (cO := cO)) rfl 5 (ci := 4) rfl rfl [.int a0]) rfl rfl hl.1 rfl (lv_room (Nat.le_of_ble_eq_true rfl)) dX5_peg_71 ⟨Nat.zero_le _, Nat.zero_le _⟩) hP hD hS hFc [5, 6, 7, 8, 3, 4] (zC_14 (cI := cI) (cB := cB) (cO := cO)) (fun H locs hP hS => ?_)
          clear hFc
          cases zend h
          exact hq hP hD hS dX5_peg_74
        · have h := zif_f c10 h
          by_cases c13 : a1 = (3 : Int32)
          · have h := zif_t c13 h
            refine lv_tableIn (tgt := 75) (off := 60) hx hb dX5_peg_15 (by rw [c13]; decide) (by rw [c13]; decide) (by rw [c13]; rfl) (by decide) ?_
            refine lv_aload_n hx hb dX5_peg_75 rfl (lv_at hl 0 rfl) ?_
            refine va_get (D := D) (ci := 5) (v := .ref Qo) (C := RX5) (T := TX5) (N := 13) hx hb hts inX5 hown hK hP 0 rfl rfl 3 (by decide) lk35 (fun _ h9 => h9) rfl dX5_peg_76 ?_
            refine lv_iload_n hx hb dX5_peg_79 rfl (lv_at hl 1 rfl) ?_
            obtain ⟨r14, g15, h⟩ := zb1_s h
            have hFc := va_free (wc := (zwQ cI Qo Qp Qs Qa)) hD hS hA [9, 10, 11] (zC_15 (cI := cI) (cB := cB) (cO := cO))
            refine zcp_i (va_runV (As := [.int a0]) (rest := []) ⟨hx, hb, hml, hown, hts⟩ (c_X3_sortsOf l D cI cB cO Qo Qp Qs Qa a0 _ _ g15) (cwV 1 hts gX5_peg_X3_sortsOf rfl rfl rfl kV_X3_sortsOf ⟨Nat.le_trans (Nat.le_of_ble_eq_true rfl) hRf, Nat.le_trans (Nat.le_of_ble_eq_true rfl) hRl⟩) (zpreV hK hP hD hS hE hFc [9, 10, 11] (zC_15 (cI := cI) (cB := cB) (cO := cO)) rfl 9 (ci := 3) rfl rfl [.int a0]) rfl rfl hl.1 rfl (lv_room (Nat.le_of_ble_eq_true rfl)) dX5_peg_80 ⟨Nat.zero_le _, Nat.zero_le _⟩) hP hD hS hFc [9, 10, 11] (zC_15 (cI := cI) (cB := cB) (cO := cO)) (fun H locs hP hS => ?_)
            clear hFc
            cases zend h
            exact hq hP hD hS dX5_peg_83
          · have h := zif_f c13 h
            by_cases c16 : a1 = (4 : Int32)
            · have h := zif_t c16 h
              refine lv_tableIn (tgt := 84) (off := 69) hx hb dX5_peg_15 (by rw [c16]; decide) (by rw [c16]; decide) (by rw [c16]; rfl) (by decide) ?_
              refine lv_aload_n hx hb dX5_peg_84 rfl (lv_at hl 0 rfl) ?_
              refine va_get (D := D) (ci := 5) (v := .ref Qo) (C := RX5) (T := TX5) (N := 13) hx hb hts inX5 hown hK hP 0 rfl rfl 3 (by decide) lk35 (fun _ h9 => h9) rfl dX5_peg_85 ?_
              refine lv_iload_n hx hb dX5_peg_88 rfl (lv_at hl 1 rfl) ?_
              obtain ⟨r17, g18, h⟩ := zb1_s h
              have hFc := va_free (wc := (zwQ cI Qo Qp Qs Qa)) hD hS hA [9, 10, 11] (zC_15 (cI := cI) (cB := cB) (cO := cO))
              refine zcp_i (va_runV (As := [.int a0]) (rest := []) ⟨hx, hb, hml, hown, hts⟩ (c_X3_sortsOf l D cI cB cO Qo Qp Qs Qa a0 _ _ g18) (cwV 1 hts gX5_peg_X3_sortsOf rfl rfl rfl kV_X3_sortsOf ⟨Nat.le_trans (Nat.le_of_ble_eq_true rfl) hRf, Nat.le_trans (Nat.le_of_ble_eq_true rfl) hRl⟩) (zpreV hK hP hD hS hE hFc [9, 10, 11] (zC_15 (cI := cI) (cB := cB) (cO := cO)) rfl 9 (ci := 3) rfl rfl [.int a0]) rfl rfl hl.1 rfl (lv_room (Nat.le_of_ble_eq_true rfl)) dX5_peg_89 ⟨Nat.zero_le _, Nat.zero_le _⟩) hP hD hS hFc [9, 10, 11] (zC_15 (cI := cI) (cB := cB) (cO := cO)) (fun H locs hP hS => ?_)
              clear hFc
              obtain ⟨r19, g20, h⟩ := zb1_s h
              have hFc := va_free (wc := ([] : va_W)) hD hS hA [] rfl
              refine zcp_i (va_runS (As := [.int r17]) (rest := []) ⟨hx, hb, hml, hown, hts⟩ (c_X5_bestQuestion l D cI cB cO r17 _ _ g20) (va_cwS 1 hts gX5_peg_X5_bestQuestion rfl rfl rfl kS_X5_bestQuestion ⟨Nat.le_trans (Nat.le_of_ble_eq_true rfl) hRf, Nat.le_trans (Nat.le_of_ble_eq_true rfl) hRl⟩) (zpreS hK hP hD hS hE hFc [] (rfl) rfl [.int r17]) rfl rfl hl.1 rfl (lv_room (Nat.le_of_ble_eq_true rfl)) dX5_peg_92 ⟨Nat.zero_le _, Nat.zero_le _⟩) hP hD hS hFc [] (rfl) (fun H locs hP hS => ?_)
              clear hFc
              cases zend h
              exact hq hP hD hS dX5_peg_95
            · have h := zif_f c16 h
              have nc4 := zne_i (k := 0) (0 : Int32) (by decide) c4
              have nc7 := zne_i (k := 1) (1 : Int32) (by decide) c7
              have nc10 := zne_i (k := 2) (2 : Int32) (by decide) c10
              have nc13 := zne_i (k := 3) (3 : Int32) (by decide) c13
              have nc16 := zne_i (k := 4) (4 : Int32) (by decide) c16
              refine lv_tableOut (tgt := 96) hx hb dX5_peg_15 (by omega) (by decide) ?_
              refine lv_bipush (v := (-102 : Int32)) hx hb dX5_peg_96 (by decide) ?_
              cases zend h
              exact hq hP hD hS dX5_peg_98
  · have h := zif_t c3 h
    refine lv_bipush (v := (-101 : Int32)) hx hb dX5_peg_11 (by decide) ?_
    cases zend h
    exact hq hP hD hS dX5_peg_13
set_option maxHeartbeats 4000000 in
set_option maxRecDepth 100000 in
theorem c_X5_as (l : Launch) (D : va_G) (cI cB cO : ClassId) (Xo : Nat) (Po : Nat) (Pp : Nat → Nat) (Go : Nat) (Gp : Nat → Nat) (No : Nat) (Np : Nat → Nat) (Qo : Nat) (Qp : Nat → Nat) (Ko : Nat) (Kp : Nat → Nat) (Lo : Nat) (Lp : Nat → Nat) (To : Nat) (Tp : Nat → Nat) (ra : Nat) (oo : Nat → Nat) (Xs : Nat → Int32) (Ps : Nat → Int32) (Pa : Nat → Nat → Int32) (Gs : Nat → Int32) (Ga : Nat → Nat → Int32) (Ns : Nat → Int32) (Na : Nat → Nat → Int32) (Qs : Nat → Int32) (Qa : Nat → Nat → Int32) (Ks : Nat → Int32) (Ka : Nat → Nat → Int32) (Ls : Nat → Int32) (La : Nat → Nat → Int32) (Ts : Nat → Int32) (Ta : Nat → Nat → Int32) (os : Nat → Nat → Int32) (a0 : Int32) (a1 : Int32) (rv : Int32) (sz : Nat) (h : fX5_as Ns Na a0 a1 = some rv) : Met l yX5_as wsX5_as ({ frames := 2, cells := 0, slots := 0, locals := 42 } : Room) (va_Pc [.ref Xo, .int a0, .int a1] (zPre D (zTY cI cB cO) (zfXW cI cO Xo Po Pp Go Gp No Np Qo Qp Ko Kp Lo Lp To Tp ra oo Xs Ps Pa Gs Ga Ns Na Qs Qa Ks Ka Ls La Ts Ta os) sz)) (va_Qi (fun r (_ : Unit) => r = rv) (fun _ => zPost D (zTY cI cB cO) (zfXW cI cO Xo Po Pp Go Gp No Np Qo Qp Ko Kp Lo Lp To Tp ra oo Xs Ps Pa Gs Ga Ns Na Qs Qa Ks Ka Ls La Ts Ta os) (va_A (zfXW cI cO Xo Po Pp Go Gp No Np Qo Qp Ko Kp Lo Lp To Tp ra oo Xs Ps Pa Gs Ga Ns Na Qs Qa Ks Ka Ls La Ts Ta os) sz)) (va_A (zfXW cI cO Xo Po Pp Go Gp No Np Qo Qp Ko Kp Lo Lp To Tp ra oo Xs Ps Pa Gs Ga Ns Na Qs Qa Ks Ka Ls La Ts Ta os) sz)) 0 0 (va_A (zfXW cI cO Xo Po Pp Go Gp No Np Qo Qp Ko Kp Lo Lp To Tp ra oo Xs Ps Pa Gs Ga Ns Na Qs Qa Ks Ka Ls La Ts Ta os) sz) := by
  unfold fX5_as at h
  refine zmet_i (cc := cX5_as) (maxL := 3) (by decide) rfl (Nat.le_of_ble_eq_true rfl) rfl rfl ?_
  intro p e s m args below meth c R Q A ls hx hb hts hown hml hK hP hD hE hA hS hRf hRl hl hq
  have hown : s.vm.findClass RX5 = some m.cls := hown
  have hl : lv_has ls 3 [(0, .ref Xo), (1, .int a0), (2, .int a1)] := hl
  obtain ⟨tTAKEN_AS, zzTAKEN_AS, ztTAKEN_AS⟩ := hE.1.2.1
  have inX5 : ∀ w ∈ u_ws RX5 TX5 13, w ∈ wsX5_as := by decide +kernel
  have lk28 : (Cond.fieldLink RX5 28 "PegField" "now" "LPegField$State;").before args s = true := hts _ (by decide +kernel)
  have lk119 : (Cond.fieldLink RX5 119 "PegField" "TAKEN_AS" "[I").before args s = true := hts _ (by decide +kernel)
  refine lv_aload_n hx hb dX5_as_0 rfl (lv_at hl 0 rfl) ?_
  refine va_get (D := D) (ci := 5) (v := .ref No) (C := RX5) (T := TX5) (N := 13) hx hb hts inX5 hown hK hP 0 rfl rfl 2 (by decide) lk28 (fun _ h9 => h9) rfl dX5_as_1 ?_
  refine lv_iload_n hx hb dX5_as_4 rfl (lv_at hl 1 rfl) ?_
  obtain ⟨r1, g2, h⟩ := zb1_s h
  have hFc := va_free (wc := (zwS cI No Np Go Ns Na)) hD hS hA [5, 6, 7, 8] (zC_13 (cI := cI) (cB := cB) (cO := cO))
  refine zcp_i (va_runV (As := [.int a0]) (rest := []) ⟨hx, hb, hml, hown, hts⟩ (c_X4_isPeg l D cI cB cO No Np Go Ns Na a0 _ _ g2) (cwV 1 hts gX5_as_X4_isPeg rfl rfl rfl kV_X4_isPeg ⟨Nat.le_trans (Nat.le_of_ble_eq_true rfl) hRf, Nat.le_trans (Nat.le_of_ble_eq_true rfl) hRl⟩) (zpreV hK hP hD hS hE hFc [5, 6, 7, 8] (zC_13 (cI := cI) (cB := cB) (cO := cO)) rfl 5 (ci := 4) rfl rfl [.int a0]) rfl rfl hl.1 rfl (lv_room (Nat.le_of_ble_eq_true rfl)) dX5_as_5 ⟨Nat.zero_le _, Nat.zero_le _⟩) hP hD hS hFc [5, 6, 7, 8] (zC_13 (cI := cI) (cB := cB) (cO := cO)) (fun H locs hP hS => ?_)
  clear hFc
  refine lv_if_ne (tgt := 14) hx hb dX5_as_8 (by decide) (fun c3 => ?_) (fun c3 => ?_)
  · have h := zif_f c3 h
    refine lv_iload_n hx hb dX5_as_14 rfl (lv_at hl 2 rfl) ?_
    refine lv_if_lt (tgt := 23) hx hb dX5_as_15 (by decide) (fun c4 => ?_) (fun c4 => ?_)
    · have h := zif_t c4 h
      refine lv_bipush (v := (-102 : Int32)) hx hb dX5_as_23 (by decide) ?_
      cases zend h
      exact hq hP hD hS dX5_as_25
    · have h := zif_f c4 h
      refine lv_iload_n hx hb dX5_as_18 rfl (lv_at hl 2 rfl) ?_
      refine lv_iconst (v := (5 : Int32)) hx hb dX5_as_19 (by decide) ?_
      refine lv_icmp_lt (tgt := 26) hx hb dX5_as_20 (by decide) (fun c5 => ?_) (fun c5 => ?_)
      · have h := zif_t c5 h
        refine va_gets hx hb zzTAKEN_AS hS hown lk119 (fun _ h9 => h9) dX5_as_26 ?_
        refine lv_iload_n hx hb dX5_as_29 rfl (lv_at hl 2 rfl) ?_
        obtain ⟨z6, h⟩ := zck_s h
        refine va_ti (v := .int (zTA (a1).toNatClampNeg)) hx hb ztTAKEN_AS hS (zin_s z6) rfl dX5_as_30 ?_
        refine lv_aload_n hx hb dX5_as_31 rfl (lv_at hl 0 rfl) ?_
        refine va_get (D := D) (ci := 5) (v := .ref No) (C := RX5) (T := TX5) (N := 13) hx hb hts inX5 hown hK hP 0 rfl rfl 2 (by decide) lk28 (fun _ h9 => h9) rfl dX5_as_32 ?_
        refine lv_iload_n hx hb dX5_as_35 rfl (lv_at hl 1 rfl) ?_
        obtain ⟨r7, g8, h⟩ := zb1_s h
        have hFc := va_free (wc := (zwS cI No Np Go Ns Na)) hD hS hA [5, 6, 7, 8] (zC_13 (cI := cI) (cB := cB) (cO := cO))
        refine zcp_i (va_runV (As := [.int a0]) (rest := [.int (zTA (a1).toNatClampNeg)]) ⟨hx, hb, hml, hown, hts⟩ (c_X4_kindOf l D cI cB cO No Np Go Ns Na a0 _ _ g8) (cwV 1 hts gX5_as_X4_kindOf rfl rfl rfl kV_X4_kindOf ⟨Nat.le_trans (Nat.le_of_ble_eq_true rfl) hRf, Nat.le_trans (Nat.le_of_ble_eq_true rfl) hRl⟩) (zpreV hK hP hD hS hE hFc [5, 6, 7, 8] (zC_13 (cI := cI) (cB := cB) (cO := cO)) rfl 5 (ci := 4) rfl rfl [.int a0]) rfl rfl hl.1 rfl (lv_room (Nat.le_of_ble_eq_true rfl)) dX5_as_36 ⟨Nat.zero_le _, Nat.zero_le _⟩) hP hD hS hFc [5, 6, 7, 8] (zC_13 (cI := cI) (cB := cB) (cO := cO)) (fun H locs hP hS => ?_)
        clear hFc
        obtain ⟨r9, g10, h⟩ := zb1_s h
        have hFc := va_free (wc := ([] : va_W)) hD hS hA [] rfl
        refine zcp_i (va_runS (As := [.int (zTA (a1).toNatClampNeg), .int r7]) (rest := []) ⟨hx, hb, hml, hown, hts⟩ (c_X5_hasBit l D cI cB cO (zTA (a1).toNatClampNeg) r7 _ _ g10) (va_cwS 2 hts gX5_as_X5_hasBit rfl rfl rfl kS_X5_hasBit ⟨Nat.le_trans (Nat.le_of_ble_eq_true rfl) hRf, Nat.le_trans (Nat.le_of_ble_eq_true rfl) hRl⟩) (zpreS hK hP hD hS hE hFc [] (rfl) rfl [.int (zTA (a1).toNatClampNeg), .int r7]) rfl rfl hl.1 rfl (lv_room (Nat.le_of_ble_eq_true rfl)) dX5_as_39 ⟨Nat.zero_le _, Nat.zero_le _⟩) hP hD hS hFc [] (rfl) (fun H locs hP hS => ?_)
        clear hFc
        refine lv_if_eq (tgt := 49) hx hb dX5_as_42 (by decide) (fun c11 => ?_) (fun c11 => ?_)
        · have h := zif_t c11 h
          refine lv_iconst (v := (-1 : Int32)) hx hb dX5_as_49 (by decide) ?_
          cases zend h
          exact hq hP hD hS dX5_as_50
        · have h := zif_f c11 h
          refine lv_iload_n hx hb dX5_as_45 rfl (lv_at hl 1 rfl) ?_
          refine lv_goto (tgt := 50) hx hb dX5_as_46 (by decide) ?_
          cases zend h
          exact hq hP hD hS dX5_as_50
      · have h := zif_f c5 h
        refine lv_bipush (v := (-102 : Int32)) hx hb dX5_as_23 (by decide) ?_
        cases zend h
        exact hq hP hD hS dX5_as_25
  · have h := zif_t c3 h
    refine lv_bipush (v := (-101 : Int32)) hx hb dX5_as_11 (by decide) ?_
    cases zend h
    exact hq hP hD hS dX5_as_13
set_option maxHeartbeats 4000000 in
set_option maxRecDepth 100000 in
theorem c_X5_place (l : Launch) (D : va_G) (cI cB cO : ClassId) (Xo : Nat) (Po : Nat) (Pp : Nat → Nat) (Go : Nat) (Gp : Nat → Nat) (No : Nat) (Np : Nat → Nat) (Qo : Nat) (Qp : Nat → Nat) (Ko : Nat) (Kp : Nat → Nat) (Lo : Nat) (Lp : Nat → Nat) (To : Nat) (Tp : Nat → Nat) (ra : Nat) (oo : Nat → Nat) (Xs : Nat → Int32) (Ps : Nat → Int32) (Pa : Nat → Nat → Int32) (Gs : Nat → Int32) (Ga : Nat → Nat → Int32) (Ns : Nat → Int32) (Na : Nat → Nat → Int32) (Qs : Nat → Int32) (Qa : Nat → Nat → Int32) (Ks : Nat → Int32) (Ka : Nat → Nat → Int32) (Ls : Nat → Int32) (La : Nat → Nat → Int32) (Ts : Nat → Int32) (Ta : Nat → Nat → Int32) (os : Nat → Nat → Int32) (a0 : Int32) (a1 : Int32) (rv : Int32) (sz : Nat) (h : fX5_place Gs Ns Na a0 a1 = some rv) : Met l yX5_place wsX5_place ({ frames := 2, cells := 0, slots := 0, locals := 42 } : Room) (va_Pc [.ref Xo, .int a0, .int a1] (zPre D (zTY cI cB cO) (zfXW cI cO Xo Po Pp Go Gp No Np Qo Qp Ko Kp Lo Lp To Tp ra oo Xs Ps Pa Gs Ga Ns Na Qs Qa Ks Ka Ls La Ts Ta os) sz)) (va_Qi (fun r (_ : Unit) => r = rv) (fun _ => zPost D (zTY cI cB cO) (zfXW cI cO Xo Po Pp Go Gp No Np Qo Qp Ko Kp Lo Lp To Tp ra oo Xs Ps Pa Gs Ga Ns Na Qs Qa Ks Ka Ls La Ts Ta os) (va_A (zfXW cI cO Xo Po Pp Go Gp No Np Qo Qp Ko Kp Lo Lp To Tp ra oo Xs Ps Pa Gs Ga Ns Na Qs Qa Ks Ka Ls La Ts Ta os) sz)) (va_A (zfXW cI cO Xo Po Pp Go Gp No Np Qo Qp Ko Kp Lo Lp To Tp ra oo Xs Ps Pa Gs Ga Ns Na Qs Qa Ks Ka Ls La Ts Ta os) sz)) 0 0 (va_A (zfXW cI cO Xo Po Pp Go Gp No Np Qo Qp Ko Kp Lo Lp To Tp ra oo Xs Ps Pa Gs Ga Ns Na Qs Qa Ks Ka Ls La Ts Ta os) sz) := by
  unfold fX5_place at h
  refine zmet_i (cc := cX5_place) (maxL := 3) (by decide) rfl (Nat.le_of_ble_eq_true rfl) rfl rfl ?_
  intro p e s m args below meth c R Q A ls hx hb hts hown hml hK hP hD hE hA hS hRf hRl hl hq
  have hown : s.vm.findClass RX5 = some m.cls := hown
  have hl : lv_has ls 3 [(0, .ref Xo), (1, .int a0), (2, .int a1)] := hl
  have inX5 : ∀ w ∈ u_ws RX5 TX5 13, w ∈ wsX5_place := by decide +kernel
  have lk19 : (Cond.fieldLink RX5 19 "PegField" "grid" "LPegField$Grid;").before args s = true := hts _ (by decide +kernel)
  have lk28 : (Cond.fieldLink RX5 28 "PegField" "now" "LPegField$State;").before args s = true := hts _ (by decide +kernel)
  refine lv_aload_n hx hb dX5_place_0 rfl (lv_at hl 0 rfl) ?_
  refine va_get (D := D) (ci := 5) (v := .ref Go) (C := RX5) (T := TX5) (N := 13) hx hb hts inX5 hown hK hP 0 rfl rfl 1 (by decide) lk19 (fun _ h9 => h9) rfl dX5_place_1 ?_
  refine lv_iload_n hx hb dX5_place_4 rfl (lv_at hl 1 rfl) ?_
  obtain ⟨r1, g2, h⟩ := zb1_s h
  have hFc := va_free (wc := (zwG cI Go Gp Gs Ga)) hD hS hA [3, 4] (zC_16 (cI := cI) (cB := cB) (cO := cO))
  refine zcp_i (va_runV (As := [.int a0]) (rest := []) ⟨hx, hb, hml, hown, hts⟩ (c_X0_has l D cI cB cO Go Gp Gs Ga a0 _ _ g2) (cwV 1 hts gX5_place_X0_has rfl rfl rfl kV_X0_has ⟨Nat.le_trans (Nat.le_of_ble_eq_true rfl) hRf, Nat.le_trans (Nat.le_of_ble_eq_true rfl) hRl⟩) (zpreV hK hP hD hS hE hFc [3, 4] (zC_16 (cI := cI) (cB := cB) (cO := cO)) rfl 3 (ci := 0) rfl rfl [.int a0]) rfl rfl hl.1 rfl (lv_room (Nat.le_of_ble_eq_true rfl)) dX5_place_5 ⟨Nat.zero_le _, Nat.zero_le _⟩) hP hD hS hFc [3, 4] (zC_16 (cI := cI) (cB := cB) (cO := cO)) (fun H locs hP hS => ?_)
  clear hFc
  refine lv_if_ne (tgt := 14) hx hb dX5_place_8 (by decide) (fun c3 => ?_) (fun c3 => ?_)
  · have h := zif_f c3 h
    refine lv_iload_n hx hb dX5_place_14 rfl (lv_at hl 2 rfl) ?_
    by_cases c4 : a1 = (0 : Int32)
    · have h := zif_t c4 h
      refine lv_lookup (tgt := 40) (off := 25) hx hb dX5_place_15 (by decide) (by rw [c4]; decide) (by decide) ?_
      refine lv_aload_n hx hb dX5_place_40 rfl (lv_at hl 0 rfl) ?_
      refine va_get (D := D) (ci := 5) (v := .ref No) (C := RX5) (T := TX5) (N := 13) hx hb hts inX5 hown hK hP 0 rfl rfl 2 (by decide) lk28 (fun _ h9 => h9) rfl dX5_place_41 ?_
      refine lv_iload_n hx hb dX5_place_44 rfl (lv_at hl 1 rfl) ?_
      obtain ⟨r5, g6, h⟩ := zb1_s h
      have hFc := va_free (wc := (zfSG cI cO No Np Go Gp Ns Na Gs Ga)) hD hS hA [5, 6, 7, 8, 3, 4] (zC_14 (cI := cI) (cB := cB) (cO := cO))
      refine zcp_i (va_runV (As := [.int a0]) (rest := []) ⟨hx, hb, hml, hown, hts⟩ (c_X4_isHole l D cI cB cO No Np Go Gp Ns Na Gs Ga a0 _ _ g6) (cwV 1 hts gX5_place_X4_isHole rfl rfl rfl kV_X4_isHole ⟨Nat.le_trans (Nat.le_of_ble_eq_true rfl) hRf, Nat.le_trans (Nat.le_of_ble_eq_true rfl) hRl⟩) (zpreV hK hP hD hS hE hFc [5, 6, 7, 8, 3, 4] (zC_14 (cI := cI) (cB := cB) (cO := cO)) rfl 5 (ci := 4) rfl rfl [.int a0]) rfl rfl hl.1 rfl (lv_room (Nat.le_of_ble_eq_true rfl)) dX5_place_45 ⟨Nat.zero_le _, Nat.zero_le _⟩) hP hD hS hFc [5, 6, 7, 8, 3, 4] (zC_14 (cI := cI) (cB := cB) (cO := cO)) (fun H locs hP hS => ?_)
      clear hFc
      refine lv_if_eq (tgt := 55) hx hb dX5_place_48 (by decide) (fun c7 => ?_) (fun c7 => ?_)
      · have h := zif_t c7 h
        refine lv_iconst (v := (0 : Int32)) hx hb dX5_place_55 (by decide) ?_
        cases zend h
        exact hq hP hD hS dX5_place_56
      · have h := zif_f c7 h
        refine lv_iconst (v := (1 : Int32)) hx hb dX5_place_51 (by decide) ?_
        refine lv_goto (tgt := 56) hx hb dX5_place_52 (by decide) ?_
        cases zend h
        exact hq hP hD hS dX5_place_56
    · have h := zif_f c4 h
      by_cases c8 : a1 = (1 : Int32)
      · have h := zif_t c8 h
        refine lv_lookup (tgt := 57) (off := 42) hx hb dX5_place_15 (by decide) (by rw [c8]; decide) (by decide) ?_
        refine lv_aload_n hx hb dX5_place_57 rfl (lv_at hl 0 rfl) ?_
        refine va_get (D := D) (ci := 5) (v := .ref No) (C := RX5) (T := TX5) (N := 13) hx hb hts inX5 hown hK hP 0 rfl rfl 2 (by decide) lk28 (fun _ h9 => h9) rfl dX5_place_58 ?_
        refine lv_iload_n hx hb dX5_place_61 rfl (lv_at hl 1 rfl) ?_
        obtain ⟨r9, g10, h⟩ := zb1_s h
        have hFc := va_free (wc := (zfSG cI cO No Np Go Gp Ns Na Gs Ga)) hD hS hA [5, 6, 7, 8, 3, 4] (zC_14 (cI := cI) (cB := cB) (cO := cO))
        refine zcp_i (va_runV (As := [.int a0]) (rest := []) ⟨hx, hb, hml, hown, hts⟩ (c_X4_pegIn l D cI cB cO No Np Go Gp Ns Na Gs Ga a0 _ _ g10) (cwV 1 hts gX5_place_X4_pegIn rfl rfl rfl kV_X4_pegIn ⟨Nat.le_trans (Nat.le_of_ble_eq_true rfl) hRf, Nat.le_trans (Nat.le_of_ble_eq_true rfl) hRl⟩) (zpreV hK hP hD hS hE hFc [5, 6, 7, 8, 3, 4] (zC_14 (cI := cI) (cB := cB) (cO := cO)) rfl 5 (ci := 4) rfl rfl [.int a0]) rfl rfl hl.1 rfl (lv_room (Nat.le_of_ble_eq_true rfl)) dX5_place_62 ⟨Nat.zero_le _, Nat.zero_le _⟩) hP hD hS hFc [5, 6, 7, 8, 3, 4] (zC_14 (cI := cI) (cB := cB) (cO := cO)) (fun H locs hP hS => ?_)
        clear hFc
        cases zend h
        exact hq hP hD hS dX5_place_65
      · have h := zif_f c8 h
        have nc4 := zne_i (k := 0) (0 : Int32) (by decide) c4
        have nc8 := zne_i (k := 1) (1 : Int32) (by decide) c8
        refine lv_lookup (tgt := 66) (off := 51) hx hb dX5_place_15 (by decide) (zlk [(0, 25), (1, 42)] 51 _ (List.forall_mem_cons.mpr ⟨nc4, (List.forall_mem_cons.mpr ⟨nc8, (fun _ h => absurd h List.not_mem_nil)⟩)⟩)) (by decide) ?_
        refine lv_bipush (v := (-102 : Int32)) hx hb dX5_place_66 (by decide) ?_
        cases zend h
        exact hq hP hD hS dX5_place_68
  · have h := zif_t c3 h
    refine lv_bipush (v := (-101 : Int32)) hx hb dX5_place_11 (by decide) ?_
    cases zend h
    exact hq hP hD hS dX5_place_13
set_option maxHeartbeats 4000000 in
set_option maxRecDepth 100000 in
theorem c_X5_jump (l : Launch) (D : va_G) (cI cB cO : ClassId) (Xo : Nat) (Po : Nat) (Pp : Nat → Nat) (Go : Nat) (Gp : Nat → Nat) (No : Nat) (Np : Nat → Nat) (Qo : Nat) (Qp : Nat → Nat) (Ko : Nat) (Kp : Nat → Nat) (Lo : Nat) (Lp : Nat → Nat) (To : Nat) (Tp : Nat → Nat) (ra : Nat) (oo : Nat → Nat) (Xs : Nat → Int32) (Ps : Nat → Int32) (Pa : Nat → Nat → Int32) (Gs : Nat → Int32) (Ga : Nat → Nat → Int32) (Ns : Nat → Int32) (Na : Nat → Nat → Int32) (Qs : Nat → Int32) (Qa : Nat → Nat → Int32) (Ks : Nat → Int32) (Ka : Nat → Nat → Int32) (Ls : Nat → Int32) (La : Nat → Nat → Int32) (Ts : Nat → Int32) (Ta : Nat → Nat → Int32) (os : Nat → Nat → Int32) (a0 : Int32) (a1 : Int32) (rv : Int32) (Xs' : Nat → Int32) (Ns' : Nat → Int32) (Na' : Nat → Nat → Int32) (sz : Nat) (h : fX5_jump Xs Gs Ga Ns Na a0 a1 = some (rv, Xs', Ns', Na')) : Met l yX5_jump wsX5_jump ({ frames := 4, cells := 0, slots := 0, locals := 92 } : Room) (va_Pc [.ref Xo, .int a0, .int a1] (zPre D (zTY cI cB cO) (zfXW cI cO Xo Po Pp Go Gp No Np Qo Qp Ko Kp Lo Lp To Tp ra oo Xs Ps Pa Gs Ga Ns Na Qs Qa Ks Ka Ls La Ts Ta os) sz)) (va_Qi (fun r (_ : Unit) => r = rv) (fun _ => zPost D (zTY cI cB cO) (zfXW cI cO Xo Po Pp Go Gp No Np Qo Qp Ko Kp Lo Lp To Tp ra oo Xs' Ps Pa Gs Ga Ns' Na' Qs Qa Ks Ka Ls La Ts Ta os) (va_A (zfXW cI cO Xo Po Pp Go Gp No Np Qo Qp Ko Kp Lo Lp To Tp ra oo Xs Ps Pa Gs Ga Ns Na Qs Qa Ks Ka Ls La Ts Ta os) sz)) (va_A (zfXW cI cO Xo Po Pp Go Gp No Np Qo Qp Ko Kp Lo Lp To Tp ra oo Xs Ps Pa Gs Ga Ns Na Qs Qa Ks Ka Ls La Ts Ta os) sz)) 0 0 (va_A (zfXW cI cO Xo Po Pp Go Gp No Np Qo Qp Ko Kp Lo Lp To Tp ra oo Xs Ps Pa Gs Ga Ns Na Qs Qa Ks Ka Ls La Ts Ta os) sz) := by
  unfold fX5_jump at h
  refine zmet_i (cc := cX5_jump) (maxL := 4) (by decide) rfl (Nat.le_of_ble_eq_true rfl) rfl rfl ?_
  intro p e s m args below meth c R Q A ls hx hb hts hown hml hK hP hD hE hA hS hRf hRl hl hq
  have hown : s.vm.findClass RX5 = some m.cls := hown
  have hl : lv_has ls 4 [(0, .ref Xo), (1, .int a0), (2, .int a1)] := hl
  have inX5 : ∀ w ∈ u_ws RX5 TX5 13, w ∈ wsX5_jump := by decide +kernel
  have lk28 : (Cond.fieldLink RX5 28 "PegField" "now" "LPegField$State;").before args s = true := hts _ (by decide +kernel)
  have lk19 : (Cond.fieldLink RX5 19 "PegField" "grid" "LPegField$Grid;").before args s = true := hts _ (by decide +kernel)
  have inX4 : ∀ w ∈ u_ws RX4 TX4 8, w ∈ wsX5_jump := by decide +kernel
  have lk140 : (Cond.fieldLinkNest RX5 140 "PegField$State" "jumps" "I" "PegField").before args s = true := hE.2.use (by decide +kernel)
  have lk92 : (Cond.fieldLink RX5 92 "PegField" "isLooked" "Z").before args s = true := hts _ (by decide +kernel)
  have lk150 : (Cond.fieldLinkNest RX5 150 "PegField$State" "onBoard" "I" "PegField").before args s = true := hE.2.use (by decide +kernel)
  refine lv_aload_n hx hb dX5_jump_0 rfl (lv_at hl 0 rfl) ?_
  refine va_get (D := D) (ci := 5) (v := .ref No) (C := RX5) (T := TX5) (N := 13) hx hb hts inX5 hown hK hP 0 rfl rfl 2 (by decide) lk28 (fun _ h9 => h9) rfl dX5_jump_1 ?_
  refine lv_iload_n hx hb dX5_jump_4 rfl (lv_at hl 1 rfl) ?_
  obtain ⟨r1, g2, h⟩ := zb1_s h
  have hFc := va_free (wc := (zwS cI No Np Go Ns Na)) hD hS hA [5, 6, 7, 8] (zC_13 (cI := cI) (cB := cB) (cO := cO))
  refine zcp_i (va_runV (As := [.int a0]) (rest := []) ⟨hx, hb, hml, hown, hts⟩ (c_X4_isPeg l D cI cB cO No Np Go Ns Na a0 _ _ g2) (cwV 1 hts gX5_jump_X4_isPeg rfl rfl rfl kV_X4_isPeg ⟨Nat.le_trans (Nat.le_of_ble_eq_true rfl) hRf, Nat.le_trans (Nat.le_of_ble_eq_true rfl) hRl⟩) (zpreV hK hP hD hS hE hFc [5, 6, 7, 8] (zC_13 (cI := cI) (cB := cB) (cO := cO)) rfl 5 (ci := 4) rfl rfl [.int a0]) rfl rfl hl.1 rfl (lv_room (Nat.le_of_ble_eq_true rfl)) dX5_jump_5 ⟨Nat.zero_le _, Nat.zero_le _⟩) hP hD hS hFc [5, 6, 7, 8] (zC_13 (cI := cI) (cB := cB) (cO := cO)) (fun H locs hP hS => ?_)
  clear hFc
  refine lv_if_eq (tgt := 22) hx hb dX5_jump_8 (by decide) (fun c3 => ?_) (fun c3 => ?_)
  · have h := zif_t c3 h
    refine lv_bipush (v := (-101 : Int32)) hx hb dX5_jump_22 (by decide) ?_
    cases zend h
    exact hq hP hD hS dX5_jump_24
  · have h := zif_f c3 h
    refine lv_aload_n hx hb dX5_jump_11 rfl (lv_at hl 0 rfl) ?_
    refine va_get (D := D) (ci := 5) (v := .ref Go) (C := RX5) (T := TX5) (N := 13) hx hb hts inX5 hown hK hP 0 rfl rfl 1 (by decide) lk19 (fun _ h9 => h9) rfl dX5_jump_12 ?_
    refine lv_iload_n hx hb dX5_jump_15 rfl (lv_at hl 2 rfl) ?_
    obtain ⟨r4, g5, h⟩ := zb1_s h
    have hFc := va_free (wc := (zwG cI Go Gp Gs Ga)) hD hS hA [3, 4] (zC_16 (cI := cI) (cB := cB) (cO := cO))
    refine zcp_i (va_runV (As := [.int a1]) (rest := []) ⟨hx, hb, hml, hown, hts⟩ (c_X0_has l D cI cB cO Go Gp Gs Ga a1 _ _ g5) (cwV 1 hts gX5_jump_X0_has rfl rfl rfl kV_X0_has ⟨Nat.le_trans (Nat.le_of_ble_eq_true rfl) hRf, Nat.le_trans (Nat.le_of_ble_eq_true rfl) hRl⟩) (zpreV hK hP hD hS hE hFc [3, 4] (zC_16 (cI := cI) (cB := cB) (cO := cO)) rfl 3 (ci := 0) rfl rfl [.int a1]) rfl rfl hl.1 rfl (lv_room (Nat.le_of_ble_eq_true rfl)) dX5_jump_16 ⟨Nat.zero_le _, Nat.zero_le _⟩) hP hD hS hFc [3, 4] (zC_16 (cI := cI) (cB := cB) (cO := cO)) (fun H locs hP hS => ?_)
    clear hFc
    refine lv_if_ne (tgt := 25) hx hb dX5_jump_19 (by decide) (fun c6 => ?_) (fun c6 => ?_)
    · have h := zif_f c6 h
      refine lv_aload_n hx hb dX5_jump_25 rfl (lv_at hl 0 rfl) ?_
      refine va_get (D := D) (ci := 5) (v := .ref No) (C := RX5) (T := TX5) (N := 13) hx hb hts inX5 hown hK hP 0 rfl rfl 2 (by decide) lk28 (fun _ h9 => h9) rfl dX5_jump_26 ?_
      refine lv_iload_n hx hb dX5_jump_29 rfl (lv_at hl 1 rfl) ?_
      refine lv_iload_n hx hb dX5_jump_30 rfl (lv_at hl 2 rfl) ?_
      obtain ⟨r7, g8, h⟩ := zb1_s h
      have hFc := va_free (wc := (zfSG cI cO No Np Go Gp Ns Na Gs Ga)) hD hS hA [5, 6, 7, 8, 3, 4] (zC_14 (cI := cI) (cB := cB) (cO := cO))
      refine zcp_i (va_runV (As := [.int a0, .int a1]) (rest := []) ⟨hx, hb, hml, hown, hts⟩ (c_X4_directionTo l D cI cB cO No Np Go Gp Ns Na Gs Ga a0 a1 _ _ g8) (cwV 2 hts gX5_jump_X4_directionTo rfl rfl rfl kV_X4_directionTo ⟨Nat.le_trans (Nat.le_of_ble_eq_true rfl) hRf, Nat.le_trans (Nat.le_of_ble_eq_true rfl) hRl⟩) (zpreV hK hP hD hS hE hFc [5, 6, 7, 8, 3, 4] (zC_14 (cI := cI) (cB := cB) (cO := cO)) rfl 5 (ci := 4) rfl rfl [.int a0, .int a1]) rfl rfl hl.1 rfl (lv_room (Nat.le_of_ble_eq_true rfl)) dX5_jump_31 ⟨Nat.zero_le _, Nat.zero_le _⟩) hP hD hS hFc [5, 6, 7, 8, 3, 4] (zC_14 (cI := cI) (cB := cB) (cO := cO)) (fun H locs hP hS => ?_)
      clear hFc
      refine lv_istore_n (lv' := [(3, .int r7), (0, .ref Xo), (1, .int a0), (2, .int a1)]) hx hb dX5_jump_34 rfl hl (by decide) rfl (fun ls hl => ?_)
      refine lv_iload_n hx hb dX5_jump_35 rfl (lv_at hl 0 rfl) ?_
      refine lv_iconst (v := (-1 : Int32)) hx hb dX5_jump_36 (by decide) ?_
      refine lv_icmp_ne (tgt := 43) hx hb dX5_jump_37 (by decide) (fun c9 => ?_) (fun c9 => ?_)
      · have h := zif_f c9 h
        refine lv_aload_n hx hb dX5_jump_43 rfl (lv_at hl 1 rfl) ?_
        refine va_get (D := D) (ci := 5) (v := .ref No) (C := RX5) (T := TX5) (N := 13) hx hb hts inX5 hown hK hP 0 rfl rfl 2 (by decide) lk28 (fun _ h9 => h9) rfl dX5_jump_44 ?_
        refine va_getN (D := D) (ci := 4) (v := .int (Ns 4)) (C := RX4) (T := TX4) (N := 8) hx hb hts inX4 hown hK hP 5 rfl rfl 4 (by decide) lk140 (fun _ h9 => h9) rfl dX5_jump_47 ?_
        refine lv_sipush (v := (999 : Int32)) hx hb dX5_jump_50 (by decide) ?_
        refine lv_icmp_lt (tgt := 59) hx hb dX5_jump_53 (by decide) (fun c10 => ?_) (fun c10 => ?_)
        · have h := zif_t c10 h
          refine lv_aload_n hx hb dX5_jump_59 rfl (lv_at hl 1 rfl) ?_
          refine va_get (D := D) (ci := 5) (v := .ref No) (C := RX5) (T := TX5) (N := 13) hx hb hts inX5 hown hK hP 0 rfl rfl 2 (by decide) lk28 (fun _ h9 => h9) rfl dX5_jump_60 ?_
          refine lv_iload_n hx hb dX5_jump_63 rfl (lv_at hl 2 rfl) ?_
          refine lv_aload_n hx hb dX5_jump_64 rfl (lv_at hl 1 rfl) ?_
          refine va_get (D := D) (ci := 5) (v := .ref No) (C := RX5) (T := TX5) (N := 13) hx hb hts inX5 hown hK hP 0 rfl rfl 2 (by decide) lk28 (fun _ h9 => h9) rfl dX5_jump_65 ?_
          refine lv_iload_n hx hb dX5_jump_68 rfl (lv_at hl 2 rfl) ?_
          refine lv_iload_n hx hb dX5_jump_69 rfl (lv_at hl 0 rfl) ?_
          obtain ⟨r11, g12, h⟩ := zb1_s h
          have hFc := va_free (wc := (zfSG cI cO No Np Go Gp Ns Na Gs Ga)) hD hS hA [5, 6, 7, 8, 3, 4] (zC_14 (cI := cI) (cB := cB) (cO := cO))
          refine zcp_i (va_runV (As := [.int a0, .int r7]) (rest := [.int a0, .ref No]) ⟨hx, hb, hml, hown, hts⟩ (c_X4_neighbourOf l D cI cB cO No Np Go Gp Ns Na Gs Ga a0 r7 _ _ g12) (cwV 2 hts gX5_jump_X4_neighbourOf rfl rfl rfl kV_X4_neighbourOf ⟨Nat.le_trans (Nat.le_of_ble_eq_true rfl) hRf, Nat.le_trans (Nat.le_of_ble_eq_true rfl) hRl⟩) (zpreV hK hP hD hS hE hFc [5, 6, 7, 8, 3, 4] (zC_14 (cI := cI) (cB := cB) (cO := cO)) rfl 5 (ci := 4) rfl rfl [.int a0, .int r7]) rfl rfl hl.1 rfl (lv_room (Nat.le_of_ble_eq_true rfl)) dX5_jump_70 ⟨Nat.zero_le _, Nat.zero_le _⟩) hP hD hS hFc [5, 6, 7, 8, 3, 4] (zC_14 (cI := cI) (cB := cB) (cO := cO)) (fun H locs hP hS => ?_)
          clear hFc
          refine lv_iload_n hx hb dX5_jump_73 rfl (lv_at hl 3 rfl) ?_
          obtain ⟨Ss_13, Sa_14, g15, h⟩ := zb2_s h
          have hFc := va_free (wc := (zfSG cI cO No Np Go Gp Ns Na Gs Ga)) hD hS hA [5, 6, 7, 8, 3, 4] (zC_17 (cI := cI) (cB := cB) (cO := cO))
          refine zcm_v (w2 := (zfXW cI cO Xo Po Pp Go Gp No Np Qo Qp Ko Kp Lo Lp To Tp ra oo Xs Ps Pa Gs Ga Ss_13 Sa_14 Qs Qa Ks Ka Ls La Ts Ta os)) (va_runV (As := [.int a0, .int r11, .int a1]) (rest := []) ⟨hx, hb, hml, hown, hts⟩ (c_X4_leap l D cI cB cO No Np Go Gp Ns Na Gs Ga a0 r11 a1 _ _ _ g15) (cwV 3 hts gX5_jump_X4_leap rfl rfl rfl kV_X4_leap ⟨Nat.le_trans (Nat.le_of_ble_eq_true rfl) hRf, Nat.le_trans (Nat.le_of_ble_eq_true rfl) hRl⟩) (zpreV hK hP hD hS hE hFc [5, 6, 7, 8, 3, 4] (zC_17 (cI := cI) (cB := cB) (cO := cO)) rfl 5 (ci := 4) rfl rfl [.int a0, .int r11, .int a1]) rfl rfl hl.1 rfl (lv_room (Nat.le_of_ble_eq_true rfl)) dX5_jump_74 ⟨Nat.zero_le _, Nat.zero_le _⟩) hS hFc (fun H1 t h1 h2 h3 => zM_17 (cI := cI) (cB := cB) (cO := cO) hP hD h1 h2 h3) (fun H locs hP hD hS => ?_)
          clear hFc
          refine lv_aload_n hx hb dX5_jump_77 rfl (lv_at hl 1 rfl) ?_
          refine va_get (D := D) (ci := 5) (v := .ref No) (C := RX5) (T := TX5) (N := 13) hx hb hts inX5 hown hK hP 0 rfl rfl 2 (by decide) lk28 (fun _ h9 => h9) rfl dX5_jump_78 ?_
          refine lv_dup hx hb dX5_jump_81 rfl ?_
          refine va_getN (D := D) (ci := 4) (v := .int (Ss_13 4)) (C := RX4) (T := TX4) (N := 8) hx hb hts inX4 hown hK hP 5 rfl rfl 4 (by decide) lk140 (fun _ h9 => h9) rfl dX5_jump_82 ?_
          refine lv_iconst (v := (1 : Int32)) hx hb dX5_jump_85 (by decide) ?_
          refine lv_iadd hx hb dX5_jump_86 ?_
          refine va_putN (D := D) (ci := 4) (v := .int ((Ss_13 4) + (1 : Int32))) (ty := .int) (C := RX4) (T := TX4) (N := 8) hx hb hts inX4 tyX4 tyX4_ok nmX4 hown hK hP hD hS 5 rfl rfl 4 (by decide) lk140 (fun _ h9 => h9) rfl (by decide +kernel) rfl rfl (Nat.le_of_ble_eq_true rfl) dX5_jump_87 (fun H locs hP hD hS => ?_)
          have hset : ∀ v9 : Int32, (zfXW cI cO Xo Po Pp Go Gp No Np Qo Qp Ko Kp Lo Lp To Tp ra oo Xs Ps Pa Gs Ga Ss_13 Sa_14 Qs Qa Ks Ka Ls La Ts Ta os).set 5 (No, .inr (4, ([.ref Go, .int (Ss_13 1), .int (Ss_13 2), .int (Ss_13 3), .int (Ss_13 4), .ref (Np 5), .ref (Np 6), .ref (Np 7)] : List Value).set 4 (.int v9))) = (zfXW cI cO Xo Po Pp Go Gp No Np Qo Qp Ko Kp Lo Lp To Tp ra oo Xs Ps Pa Gs Ga (upd Ss_13 4 v9) Sa_14 Qs Qa Ks Ka Ls La Ts Ta os) := fun _ => rfl
          obtain ⟨Ns_16, eNs_16, hP, hD⟩ : ∃ y9, y9 = (upd Ss_13 4 ((Ss_13 4) + (1 : Int32))) ∧ va_P D vwCl (zfXW cI cO Xo Po Pp Go Gp No Np Qo Qp Ko Kp Lo Lp To Tp ra oo Xs Ps Pa Gs Ga y9 Sa_14 Qs Qa Ks Ka Ls La Ts Ta os) H ∧ va_D A (zfXW cI cO Xo Po Pp Go Gp No Np Qo Qp Ko Kp Lo Lp To Tp ra oo Xs Ps Pa Gs Ga y9 Sa_14 Qs Qa Ks Ka Ls La Ts Ta os) := ⟨_, rfl, zsetP (hset _) hP, zsetD (hset _) hD⟩
          have h := zlt_s h eNs_16
          clear hset
          refine lv_aload_n hx hb dX5_jump_90 rfl (lv_at hl 1 rfl) ?_
          refine lv_iconst (v := (0 : Int32)) hx hb dX5_jump_91 (by decide) ?_
          refine va_put (D := D) (ci := 5) (v := .int (0 : Int32)) (ty := .boolean) (C := RX5) (T := TX5) (N := 13) hx hb hts inX5 tyX5 tyX5_ok nmX5 hown hK hP hD hS 0 rfl rfl 10 (by decide) lk92 (fun _ h9 => h9) rfl (by decide +kernel) (by decide) (by decide) (Nat.le_of_ble_eq_true rfl) dX5_jump_92 (fun H locs hP hD hS => ?_)
          have hset : ∀ v9 : Int32, (zfXW cI cO Xo Po Pp Go Gp No Np Qo Qp Ko Kp Lo Lp To Tp ra oo Xs Ps Pa Gs Ga Ns_16 Sa_14 Qs Qa Ks Ka Ls La Ts Ta os).set 0 (Xo, .inr (5, ([.ref Po, .ref Go, .ref No, .ref Qo, .ref Ko, .ref Lo, .int (Xs 6), .ref To, .ref (oo 0), .ref ra, .int (Xs 10), .int (Xs 11), .int (Xs 12)] : List Value).set 10 (.int v9))) = (zfXW cI cO Xo Po Pp Go Gp No Np Qo Qp Ko Kp Lo Lp To Tp ra oo (upd Xs 10 v9) Ps Pa Gs Ga Ns_16 Sa_14 Qs Qa Ks Ka Ls La Ts Ta os) := fun _ => rfl
          obtain ⟨Xs_17, eXs_17, hP, hD⟩ : ∃ y9, y9 = (upd Xs 10 (0 : Int32)) ∧ va_P D vwCl (zfXW cI cO Xo Po Pp Go Gp No Np Qo Qp Ko Kp Lo Lp To Tp ra oo y9 Ps Pa Gs Ga Ns_16 Sa_14 Qs Qa Ks Ka Ls La Ts Ta os) H ∧ va_D A (zfXW cI cO Xo Po Pp Go Gp No Np Qo Qp Ko Kp Lo Lp To Tp ra oo y9 Ps Pa Gs Ga Ns_16 Sa_14 Qs Qa Ks Ka Ls La Ts Ta os) := ⟨_, rfl, zsetP (hset _) hP, zsetD (hset _) hD⟩
          have h := zlt_s h eXs_17
          clear hset
          refine lv_aload_n hx hb dX5_jump_95 rfl (lv_at hl 1 rfl) ?_
          refine va_get (D := D) (ci := 5) (v := .ref No) (C := RX5) (T := TX5) (N := 13) hx hb hts inX5 hown hK hP 0 rfl rfl 2 (by decide) lk28 (fun _ h9 => h9) rfl dX5_jump_96 ?_
          refine va_getN (D := D) (ci := 4) (v := .int (Ns_16 3)) (C := RX4) (T := TX4) (N := 8) hx hb hts inX4 hown hK hP 5 rfl rfl 3 (by decide) lk150 (fun _ h9 => h9) rfl dX5_jump_99 ?_
          cases zend h
          exact hq hP hD hS dX5_jump_102
        · have h := zif_f c10 h
          refine lv_bipush (v := (-104 : Int32)) hx hb dX5_jump_56 (by decide) ?_
          cases zend h
          exact hq hP hD hS dX5_jump_58
      · have h := zif_t c9 h
        refine lv_bipush (v := (-103 : Int32)) hx hb dX5_jump_40 (by decide) ?_
        cases zend h
        exact hq hP hD hS dX5_jump_42
    · have h := zif_t c6 h
      refine lv_bipush (v := (-101 : Int32)) hx hb dX5_jump_22 (by decide) ?_
      cases zend h
      exact hq hP hD hS dX5_jump_24
set_option maxHeartbeats 4000000 in
set_option maxRecDepth 100000 in
theorem c_X5_put (l : Launch) (D : va_G) (cI cB cO : ClassId) (Xo : Nat) (Po : Nat) (Pp : Nat → Nat) (Go : Nat) (Gp : Nat → Nat) (No : Nat) (Np : Nat → Nat) (Qo : Nat) (Qp : Nat → Nat) (Ko : Nat) (Kp : Nat → Nat) (Lo : Nat) (Lp : Nat → Nat) (To : Nat) (Tp : Nat → Nat) (ra : Nat) (oo : Nat → Nat) (Xs : Nat → Int32) (Ps : Nat → Int32) (Pa : Nat → Nat → Int32) (Gs : Nat → Int32) (Ga : Nat → Nat → Int32) (Ns : Nat → Int32) (Na : Nat → Nat → Int32) (Qs : Nat → Int32) (Qa : Nat → Nat → Int32) (Ks : Nat → Int32) (Ka : Nat → Nat → Int32) (Ls : Nat → Int32) (La : Nat → Nat → Int32) (Ts : Nat → Int32) (Ta : Nat → Nat → Int32) (os : Nat → Nat → Int32) (a0 : Int32) (a1 : Int32) (rv : Int32) (Xs' : Nat → Int32) (Ns' : Nat → Int32) (Na' : Nat → Nat → Int32) (sz : Nat) (h : fX5_put Xs Gs Ns Na a0 a1 = some (rv, Xs', Ns', Na')) : Met l yX5_put wsX5_put ({ frames := 2, cells := 0, slots := 0, locals := 43 } : Room) (va_Pc [.ref Xo, .int a0, .int a1] (zPre D (zTY cI cB cO) (zfXW cI cO Xo Po Pp Go Gp No Np Qo Qp Ko Kp Lo Lp To Tp ra oo Xs Ps Pa Gs Ga Ns Na Qs Qa Ks Ka Ls La Ts Ta os) sz)) (va_Qi (fun r (_ : Unit) => r = rv) (fun _ => zPost D (zTY cI cB cO) (zfXW cI cO Xo Po Pp Go Gp No Np Qo Qp Ko Kp Lo Lp To Tp ra oo Xs' Ps Pa Gs Ga Ns' Na' Qs Qa Ks Ka Ls La Ts Ta os) (va_A (zfXW cI cO Xo Po Pp Go Gp No Np Qo Qp Ko Kp Lo Lp To Tp ra oo Xs Ps Pa Gs Ga Ns Na Qs Qa Ks Ka Ls La Ts Ta os) sz)) (va_A (zfXW cI cO Xo Po Pp Go Gp No Np Qo Qp Ko Kp Lo Lp To Tp ra oo Xs Ps Pa Gs Ga Ns Na Qs Qa Ks Ka Ls La Ts Ta os) sz)) 0 0 (va_A (zfXW cI cO Xo Po Pp Go Gp No Np Qo Qp Ko Kp Lo Lp To Tp ra oo Xs Ps Pa Gs Ga Ns Na Qs Qa Ks Ka Ls La Ts Ta os) sz) := by
  unfold fX5_put at h
  refine zmet_i (cc := cX5_put) (maxL := 3) (by decide) rfl (Nat.le_of_ble_eq_true rfl) rfl rfl ?_
  intro p e s m args below meth c R Q A ls hx hb hts hown hml hK hP hD hE hA hS hRf hRl hl hq
  have hown : s.vm.findClass RX5 = some m.cls := hown
  have hl : lv_has ls 3 [(0, .ref Xo), (1, .int a0), (2, .int a1)] := hl
  have inX5 : ∀ w ∈ u_ws RX5 TX5 13, w ∈ wsX5_put := by decide +kernel
  have lk28 : (Cond.fieldLink RX5 28 "PegField" "now" "LPegField$State;").before args s = true := hts _ (by decide +kernel)
  have lk19 : (Cond.fieldLink RX5 19 "PegField" "grid" "LPegField$Grid;").before args s = true := hts _ (by decide +kernel)
  have lk92 : (Cond.fieldLink RX5 92 "PegField" "isLooked" "Z").before args s = true := hts _ (by decide +kernel)
  have inX4 : ∀ w ∈ u_ws RX4 TX4 8, w ∈ wsX5_put := by decide +kernel
  have lk150 : (Cond.fieldLinkNest RX5 150 "PegField$State" "onBoard" "I" "PegField").before args s = true := hE.2.use (by decide +kernel)
  refine lv_aload_n hx hb dX5_put_0 rfl (lv_at hl 0 rfl) ?_
  refine va_get (D := D) (ci := 5) (v := .ref No) (C := RX5) (T := TX5) (N := 13) hx hb hts inX5 hown hK hP 0 rfl rfl 2 (by decide) lk28 (fun _ h9 => h9) rfl dX5_put_1 ?_
  refine lv_iload_n hx hb dX5_put_4 rfl (lv_at hl 1 rfl) ?_
  obtain ⟨r1, g2, h⟩ := zb1_s h
  have hFc := va_free (wc := (zwS cI No Np Go Ns Na)) hD hS hA [5, 6, 7, 8] (zC_13 (cI := cI) (cB := cB) (cO := cO))
  refine zcp_i (va_runV (As := [.int a0]) (rest := []) ⟨hx, hb, hml, hown, hts⟩ (c_X4_isPeg l D cI cB cO No Np Go Ns Na a0 _ _ g2) (cwV 1 hts gX5_put_X4_isPeg rfl rfl rfl kV_X4_isPeg ⟨Nat.le_trans (Nat.le_of_ble_eq_true rfl) hRf, Nat.le_trans (Nat.le_of_ble_eq_true rfl) hRl⟩) (zpreV hK hP hD hS hE hFc [5, 6, 7, 8] (zC_13 (cI := cI) (cB := cB) (cO := cO)) rfl 5 (ci := 4) rfl rfl [.int a0]) rfl rfl hl.1 rfl (lv_room (Nat.le_of_ble_eq_true rfl)) dX5_put_5 ⟨Nat.zero_le _, Nat.zero_le _⟩) hP hD hS hFc [5, 6, 7, 8] (zC_13 (cI := cI) (cB := cB) (cO := cO)) (fun H locs hP hS => ?_)
  clear hFc
  refine lv_if_eq (tgt := 22) hx hb dX5_put_8 (by decide) (fun c3 => ?_) (fun c3 => ?_)
  · have h := zif_t c3 h
    refine lv_bipush (v := (-101 : Int32)) hx hb dX5_put_22 (by decide) ?_
    cases zend h
    exact hq hP hD hS dX5_put_24
  · have h := zif_f c3 h
    refine lv_aload_n hx hb dX5_put_11 rfl (lv_at hl 0 rfl) ?_
    refine va_get (D := D) (ci := 5) (v := .ref Go) (C := RX5) (T := TX5) (N := 13) hx hb hts inX5 hown hK hP 0 rfl rfl 1 (by decide) lk19 (fun _ h9 => h9) rfl dX5_put_12 ?_
    refine lv_iload_n hx hb dX5_put_15 rfl (lv_at hl 2 rfl) ?_
    obtain ⟨r4, g5, h⟩ := zb1_s h
    have hFc := va_free (wc := (zwG cI Go Gp Gs Ga)) hD hS hA [3, 4] (zC_16 (cI := cI) (cB := cB) (cO := cO))
    refine zcp_i (va_runV (As := [.int a1]) (rest := []) ⟨hx, hb, hml, hown, hts⟩ (c_X0_has l D cI cB cO Go Gp Gs Ga a1 _ _ g5) (cwV 1 hts gX5_put_X0_has rfl rfl rfl kV_X0_has ⟨Nat.le_trans (Nat.le_of_ble_eq_true rfl) hRf, Nat.le_trans (Nat.le_of_ble_eq_true rfl) hRl⟩) (zpreV hK hP hD hS hE hFc [3, 4] (zC_16 (cI := cI) (cB := cB) (cO := cO)) rfl 3 (ci := 0) rfl rfl [.int a1]) rfl rfl hl.1 rfl (lv_room (Nat.le_of_ble_eq_true rfl)) dX5_put_16 ⟨Nat.zero_le _, Nat.zero_le _⟩) hP hD hS hFc [3, 4] (zC_16 (cI := cI) (cB := cB) (cO := cO)) (fun H locs hP hS => ?_)
    clear hFc
    refine lv_if_ne (tgt := 25) hx hb dX5_put_19 (by decide) (fun c6 => ?_) (fun c6 => ?_)
    · have h := zif_f c6 h
      refine lv_aload_n hx hb dX5_put_25 rfl (lv_at hl 0 rfl) ?_
      refine va_get (D := D) (ci := 5) (v := .ref No) (C := RX5) (T := TX5) (N := 13) hx hb hts inX5 hown hK hP 0 rfl rfl 2 (by decide) lk28 (fun _ h9 => h9) rfl dX5_put_26 ?_
      refine lv_iload_n hx hb dX5_put_29 rfl (lv_at hl 1 rfl) ?_
      obtain ⟨r7, g8, h⟩ := zb1_s h
      have hFc := va_free (wc := (zwS cI No Np Go Ns Na)) hD hS hA [5, 6, 7, 8] (zC_13 (cI := cI) (cB := cB) (cO := cO))
      refine zcp_i (va_runV (As := [.int a0]) (rest := []) ⟨hx, hb, hml, hown, hts⟩ (c_X4_homeOf l D cI cB cO No Np Go Ns Na a0 _ _ g8) (cwV 1 hts gX5_put_X4_homeOf rfl rfl rfl kV_X4_homeOf ⟨Nat.le_trans (Nat.le_of_ble_eq_true rfl) hRf, Nat.le_trans (Nat.le_of_ble_eq_true rfl) hRl⟩) (zpreV hK hP hD hS hE hFc [5, 6, 7, 8] (zC_13 (cI := cI) (cB := cB) (cO := cO)) rfl 5 (ci := 4) rfl rfl [.int a0]) rfl rfl hl.1 rfl (lv_room (Nat.le_of_ble_eq_true rfl)) dX5_put_30 ⟨Nat.zero_le _, Nat.zero_le _⟩) hP hD hS hFc [5, 6, 7, 8] (zC_13 (cI := cI) (cB := cB) (cO := cO)) (fun H locs hP hS => ?_)
      clear hFc
      refine lv_iconst (v := (-1 : Int32)) hx hb dX5_put_33 (by decide) ?_
      refine lv_icmp_ne (tgt := 48) hx hb dX5_put_34 (by decide) (fun c9 => ?_) (fun c9 => ?_)
      · have h := zif_f c9 h
        refine lv_bipush (v := (-103 : Int32)) hx hb dX5_put_48 (by decide) ?_
        cases zend h
        exact hq hP hD hS dX5_put_50
      · have h := zif_t c9 h
        refine lv_aload_n hx hb dX5_put_37 rfl (lv_at hl 0 rfl) ?_
        refine va_get (D := D) (ci := 5) (v := .ref No) (C := RX5) (T := TX5) (N := 13) hx hb hts inX5 hown hK hP 0 rfl rfl 2 (by decide) lk28 (fun _ h9 => h9) rfl dX5_put_38 ?_
        refine lv_iload_n hx hb dX5_put_41 rfl (lv_at hl 2 rfl) ?_
        obtain ⟨r10, g11, h⟩ := zb1_s h
        have hFc := va_free (wc := (zfSG cI cO No Np Go Gp Ns Na Gs Ga)) hD hS hA [5, 6, 7, 8, 3, 4] (zC_14 (cI := cI) (cB := cB) (cO := cO))
        refine zcp_i (va_runV (As := [.int a1]) (rest := []) ⟨hx, hb, hml, hown, hts⟩ (c_X4_isEmptyHole l D cI cB cO No Np Go Gp Ns Na Gs Ga a1 _ _ g11) (cwV 1 hts gX5_put_X4_isEmptyHole rfl rfl rfl kV_X4_isEmptyHole ⟨Nat.le_trans (Nat.le_of_ble_eq_true rfl) hRf, Nat.le_trans (Nat.le_of_ble_eq_true rfl) hRl⟩) (zpreV hK hP hD hS hE hFc [5, 6, 7, 8, 3, 4] (zC_14 (cI := cI) (cB := cB) (cO := cO)) rfl 5 (ci := 4) rfl rfl [.int a1]) rfl rfl hl.1 rfl (lv_room (Nat.le_of_ble_eq_true rfl)) dX5_put_42 ⟨Nat.zero_le _, Nat.zero_le _⟩) hP hD hS hFc [5, 6, 7, 8, 3, 4] (zC_14 (cI := cI) (cB := cB) (cO := cO)) (fun H locs hP hS => ?_)
        clear hFc
        refine lv_if_ne (tgt := 51) hx hb dX5_put_45 (by decide) (fun c12 => ?_) (fun c12 => ?_)
        · have h := zif_f c12 h
          refine lv_aload_n hx hb dX5_put_51 rfl (lv_at hl 0 rfl) ?_
          refine va_get (D := D) (ci := 5) (v := .ref No) (C := RX5) (T := TX5) (N := 13) hx hb hts inX5 hown hK hP 0 rfl rfl 2 (by decide) lk28 (fun _ h9 => h9) rfl dX5_put_52 ?_
          refine lv_iload_n hx hb dX5_put_55 rfl (lv_at hl 1 rfl) ?_
          refine lv_iload_n hx hb dX5_put_56 rfl (lv_at hl 2 rfl) ?_
          obtain ⟨Ss_13, Sa_14, g15, h⟩ := zb2_s h
          have hFc := va_free (wc := (zfSG cI cO No Np Go Gp Ns Na Gs Ga)) hD hS hA [5, 6, 7, 8, 3, 4] (zC_17 (cI := cI) (cB := cB) (cO := cO))
          refine zcm_v (w2 := (zfXW cI cO Xo Po Pp Go Gp No Np Qo Qp Ko Kp Lo Lp To Tp ra oo Xs Ps Pa Gs Ga Ss_13 Sa_14 Qs Qa Ks Ka Ls La Ts Ta os)) (va_runV (As := [.int a0, .int a1]) (rest := []) ⟨hx, hb, hml, hown, hts⟩ (c_X4_set l D cI cB cO No Np Go Gp Ns Na Gs Ga a0 a1 _ _ _ g15) (cwV 2 hts gX5_put_X4_set rfl rfl rfl kV_X4_set ⟨Nat.le_trans (Nat.le_of_ble_eq_true rfl) hRf, Nat.le_trans (Nat.le_of_ble_eq_true rfl) hRl⟩) (zpreV hK hP hD hS hE hFc [5, 6, 7, 8, 3, 4] (zC_17 (cI := cI) (cB := cB) (cO := cO)) rfl 5 (ci := 4) rfl rfl [.int a0, .int a1]) rfl rfl hl.1 rfl (lv_room (Nat.le_of_ble_eq_true rfl)) dX5_put_57 ⟨Nat.zero_le _, Nat.zero_le _⟩) hS hFc (fun H1 t h1 h2 h3 => zM_17 (cI := cI) (cB := cB) (cO := cO) hP hD h1 h2 h3) (fun H locs hP hD hS => ?_)
          clear hFc
          refine lv_aload_n hx hb dX5_put_60 rfl (lv_at hl 0 rfl) ?_
          refine lv_iconst (v := (0 : Int32)) hx hb dX5_put_61 (by decide) ?_
          refine va_put (D := D) (ci := 5) (v := .int (0 : Int32)) (ty := .boolean) (C := RX5) (T := TX5) (N := 13) hx hb hts inX5 tyX5 tyX5_ok nmX5 hown hK hP hD hS 0 rfl rfl 10 (by decide) lk92 (fun _ h9 => h9) rfl (by decide +kernel) (by decide) (by decide) (Nat.le_of_ble_eq_true rfl) dX5_put_62 (fun H locs hP hD hS => ?_)
          have hset : ∀ v9 : Int32, (zfXW cI cO Xo Po Pp Go Gp No Np Qo Qp Ko Kp Lo Lp To Tp ra oo Xs Ps Pa Gs Ga Ss_13 Sa_14 Qs Qa Ks Ka Ls La Ts Ta os).set 0 (Xo, .inr (5, ([.ref Po, .ref Go, .ref No, .ref Qo, .ref Ko, .ref Lo, .int (Xs 6), .ref To, .ref (oo 0), .ref ra, .int (Xs 10), .int (Xs 11), .int (Xs 12)] : List Value).set 10 (.int v9))) = (zfXW cI cO Xo Po Pp Go Gp No Np Qo Qp Ko Kp Lo Lp To Tp ra oo (upd Xs 10 v9) Ps Pa Gs Ga Ss_13 Sa_14 Qs Qa Ks Ka Ls La Ts Ta os) := fun _ => rfl
          obtain ⟨Xs_16, eXs_16, hP, hD⟩ : ∃ y9, y9 = (upd Xs 10 (0 : Int32)) ∧ va_P D vwCl (zfXW cI cO Xo Po Pp Go Gp No Np Qo Qp Ko Kp Lo Lp To Tp ra oo y9 Ps Pa Gs Ga Ss_13 Sa_14 Qs Qa Ks Ka Ls La Ts Ta os) H ∧ va_D A (zfXW cI cO Xo Po Pp Go Gp No Np Qo Qp Ko Kp Lo Lp To Tp ra oo y9 Ps Pa Gs Ga Ss_13 Sa_14 Qs Qa Ks Ka Ls La Ts Ta os) := ⟨_, rfl, zsetP (hset _) hP, zsetD (hset _) hD⟩
          have h := zlt_s h eXs_16
          clear hset
          refine lv_aload_n hx hb dX5_put_65 rfl (lv_at hl 0 rfl) ?_
          refine va_get (D := D) (ci := 5) (v := .ref No) (C := RX5) (T := TX5) (N := 13) hx hb hts inX5 hown hK hP 0 rfl rfl 2 (by decide) lk28 (fun _ h9 => h9) rfl dX5_put_66 ?_
          refine va_getN (D := D) (ci := 4) (v := .int (Ss_13 3)) (C := RX4) (T := TX4) (N := 8) hx hb hts inX4 hown hK hP 5 rfl rfl 3 (by decide) lk150 (fun _ h9 => h9) rfl dX5_put_69 ?_
          cases zend h
          exact hq hP hD hS dX5_put_72
        · have h := zif_t c12 h
          refine lv_bipush (v := (-103 : Int32)) hx hb dX5_put_48 (by decide) ?_
          cases zend h
          exact hq hP hD hS dX5_put_50
    · have h := zif_t c6 h
      refine lv_bipush (v := (-101 : Int32)) hx hb dX5_put_22 (by decide) ?_
      cases zend h
      exact hq hP hD hS dX5_put_24
set_option maxHeartbeats 4000000 in
set_option maxRecDepth 100000 in
theorem c_X5_plug (l : Launch) (D : va_G) (cI cB cO : ClassId) (Xo : Nat) (Po : Nat) (Pp : Nat → Nat) (Go : Nat) (Gp : Nat → Nat) (No : Nat) (Np : Nat → Nat) (Qo : Nat) (Qp : Nat → Nat) (Ko : Nat) (Kp : Nat → Nat) (Lo : Nat) (Lp : Nat → Nat) (To : Nat) (Tp : Nat → Nat) (ra : Nat) (oo : Nat → Nat) (Xs : Nat → Int32) (Ps : Nat → Int32) (Pa : Nat → Nat → Int32) (Gs : Nat → Int32) (Ga : Nat → Nat → Int32) (Ns : Nat → Int32) (Na : Nat → Nat → Int32) (Qs : Nat → Int32) (Qa : Nat → Nat → Int32) (Ks : Nat → Int32) (Ka : Nat → Nat → Int32) (Ls : Nat → Int32) (La : Nat → Nat → Int32) (Ts : Nat → Int32) (Ta : Nat → Nat → Int32) (os : Nat → Nat → Int32) (a0 : Int32) (rv : Int32) (Xs' : Nat → Int32) (Ns' : Nat → Int32) (sz : Nat) (h : fX5_plug Xs Gs Ns Na a0 = some (rv, Xs', Ns')) : Met l yX5_plug wsX5_plug ({ frames := 2, cells := 0, slots := 0, locals := 42 } : Room) (va_Pc [.ref Xo, .int a0] (zPre D (zTY cI cB cO) (zfXW cI cO Xo Po Pp Go Gp No Np Qo Qp Ko Kp Lo Lp To Tp ra oo Xs Ps Pa Gs Ga Ns Na Qs Qa Ks Ka Ls La Ts Ta os) sz)) (va_Qi (fun r (_ : Unit) => r = rv) (fun _ => zPost D (zTY cI cB cO) (zfXW cI cO Xo Po Pp Go Gp No Np Qo Qp Ko Kp Lo Lp To Tp ra oo Xs' Ps Pa Gs Ga Ns' Na Qs Qa Ks Ka Ls La Ts Ta os) (va_A (zfXW cI cO Xo Po Pp Go Gp No Np Qo Qp Ko Kp Lo Lp To Tp ra oo Xs Ps Pa Gs Ga Ns Na Qs Qa Ks Ka Ls La Ts Ta os) sz)) (va_A (zfXW cI cO Xo Po Pp Go Gp No Np Qo Qp Ko Kp Lo Lp To Tp ra oo Xs Ps Pa Gs Ga Ns Na Qs Qa Ks Ka Ls La Ts Ta os) sz)) 0 0 (va_A (zfXW cI cO Xo Po Pp Go Gp No Np Qo Qp Ko Kp Lo Lp To Tp ra oo Xs Ps Pa Gs Ga Ns Na Qs Qa Ks Ka Ls La Ts Ta os) sz) := by
  unfold fX5_plug at h
  refine zmet_i (cc := cX5_plug) (maxL := 2) (by decide) rfl (Nat.le_of_ble_eq_true rfl) rfl rfl ?_
  intro p e s m args below meth c R Q A ls hx hb hts hown hml hK hP hD hE hA hS hRf hRl hl hq
  have hown : s.vm.findClass RX5 = some m.cls := hown
  have hl : lv_has ls 2 [(0, .ref Xo), (1, .int a0)] := hl
  have inX5 : ∀ w ∈ u_ws RX5 TX5 13, w ∈ wsX5_plug := by decide +kernel
  have lk19 : (Cond.fieldLink RX5 19 "PegField" "grid" "LPegField$Grid;").before args s = true := hts _ (by decide +kernel)
  have lk28 : (Cond.fieldLink RX5 28 "PegField" "now" "LPegField$State;").before args s = true := hts _ (by decide +kernel)
  have inX4 : ∀ w ∈ u_ws RX4 TX4 8, w ∈ wsX5_plug := by decide +kernel
  have lk159 : (Cond.fieldLinkNest RX5 159 "PegField$State" "holes" "I" "PegField").before args s = true := hE.2.use (by decide +kernel)
  have lk92 : (Cond.fieldLink RX5 92 "PegField" "isLooked" "Z").before args s = true := hts _ (by decide +kernel)
  refine lv_aload_n hx hb dX5_plug_0 rfl (lv_at hl 0 rfl) ?_
  refine va_get (D := D) (ci := 5) (v := .ref Go) (C := RX5) (T := TX5) (N := 13) hx hb hts inX5 hown hK hP 0 rfl rfl 1 (by decide) lk19 (fun _ h9 => h9) rfl dX5_plug_1 ?_
  refine lv_iload_n hx hb dX5_plug_4 rfl (lv_at hl 1 rfl) ?_
  obtain ⟨r1, g2, h⟩ := zb1_s h
  have hFc := va_free (wc := (zwG cI Go Gp Gs Ga)) hD hS hA [3, 4] (zC_16 (cI := cI) (cB := cB) (cO := cO))
  refine zcp_i (va_runV (As := [.int a0]) (rest := []) ⟨hx, hb, hml, hown, hts⟩ (c_X0_has l D cI cB cO Go Gp Gs Ga a0 _ _ g2) (cwV 1 hts gX5_plug_X0_has rfl rfl rfl kV_X0_has ⟨Nat.le_trans (Nat.le_of_ble_eq_true rfl) hRf, Nat.le_trans (Nat.le_of_ble_eq_true rfl) hRl⟩) (zpreV hK hP hD hS hE hFc [3, 4] (zC_16 (cI := cI) (cB := cB) (cO := cO)) rfl 3 (ci := 0) rfl rfl [.int a0]) rfl rfl hl.1 rfl (lv_room (Nat.le_of_ble_eq_true rfl)) dX5_plug_5 ⟨Nat.zero_le _, Nat.zero_le _⟩) hP hD hS hFc [3, 4] (zC_16 (cI := cI) (cB := cB) (cO := cO)) (fun H locs hP hS => ?_)
  clear hFc
  refine lv_if_ne (tgt := 14) hx hb dX5_plug_8 (by decide) (fun c3 => ?_) (fun c3 => ?_)
  · have h := zif_f c3 h
    refine lv_aload_n hx hb dX5_plug_14 rfl (lv_at hl 0 rfl) ?_
    refine va_get (D := D) (ci := 5) (v := .ref No) (C := RX5) (T := TX5) (N := 13) hx hb hts inX5 hown hK hP 0 rfl rfl 2 (by decide) lk28 (fun _ h9 => h9) rfl dX5_plug_15 ?_
    refine lv_iload_n hx hb dX5_plug_18 rfl (lv_at hl 1 rfl) ?_
    obtain ⟨r4, g5, h⟩ := zb1_s h
    have hFc := va_free (wc := (zfSG cI cO No Np Go Gp Ns Na Gs Ga)) hD hS hA [5, 6, 7, 8, 3, 4] (zC_14 (cI := cI) (cB := cB) (cO := cO))
    refine zcp_i (va_runV (As := [.int a0]) (rest := []) ⟨hx, hb, hml, hown, hts⟩ (c_X4_isEmptyHole l D cI cB cO No Np Go Gp Ns Na Gs Ga a0 _ _ g5) (cwV 1 hts gX5_plug_X4_isEmptyHole rfl rfl rfl kV_X4_isEmptyHole ⟨Nat.le_trans (Nat.le_of_ble_eq_true rfl) hRf, Nat.le_trans (Nat.le_of_ble_eq_true rfl) hRl⟩) (zpreV hK hP hD hS hE hFc [5, 6, 7, 8, 3, 4] (zC_14 (cI := cI) (cB := cB) (cO := cO)) rfl 5 (ci := 4) rfl rfl [.int a0]) rfl rfl hl.1 rfl (lv_room (Nat.le_of_ble_eq_true rfl)) dX5_plug_19 ⟨Nat.zero_le _, Nat.zero_le _⟩) hP hD hS hFc [5, 6, 7, 8, 3, 4] (zC_14 (cI := cI) (cB := cB) (cO := cO)) (fun H locs hP hS => ?_)
    clear hFc
    refine lv_if_ne (tgt := 28) hx hb dX5_plug_22 (by decide) (fun c6 => ?_) (fun c6 => ?_)
    · have h := zif_f c6 h
      refine lv_aload_n hx hb dX5_plug_28 rfl (lv_at hl 0 rfl) ?_
      refine va_get (D := D) (ci := 5) (v := .ref No) (C := RX5) (T := TX5) (N := 13) hx hb hts inX5 hown hK hP 0 rfl rfl 2 (by decide) lk28 (fun _ h9 => h9) rfl dX5_plug_29 ?_
      refine lv_dup hx hb dX5_plug_32 rfl ?_
      refine va_getN (D := D) (ci := 4) (v := .int (Ns 1)) (C := RX4) (T := TX4) (N := 8) hx hb hts inX4 hown hK hP 5 rfl rfl 1 (by decide) lk159 (fun _ h9 => h9) rfl dX5_plug_33 ?_
      refine lv_iconst (v := (1 : Int32)) hx hb dX5_plug_36 (by decide) ?_
      refine lv_iload_n hx hb dX5_plug_37 rfl (lv_at hl 1 rfl) ?_
      refine lv_ishl hx hb dX5_plug_38 ?_
      refine lv_iconst (v := (-1 : Int32)) hx hb dX5_plug_39 (by decide) ?_
      refine lv_ixor hx hb dX5_plug_40 ?_
      refine lv_iand hx hb dX5_plug_41 ?_
      refine va_putN (D := D) (ci := 4) (v := .int ((Ns 1) &&& (((1 : Int32) <<< (a0 &&& 31)) ^^^ (-1 : Int32)))) (ty := .int) (C := RX4) (T := TX4) (N := 8) hx hb hts inX4 tyX4 tyX4_ok nmX4 hown hK hP hD hS 5 rfl rfl 1 (by decide) lk159 (fun _ h9 => h9) rfl (by decide +kernel) rfl rfl (Nat.le_of_ble_eq_true rfl) dX5_plug_42 (fun H locs hP hD hS => ?_)
      have hset : ∀ v9 : Int32, (zfXW cI cO Xo Po Pp Go Gp No Np Qo Qp Ko Kp Lo Lp To Tp ra oo Xs Ps Pa Gs Ga Ns Na Qs Qa Ks Ka Ls La Ts Ta os).set 5 (No, .inr (4, ([.ref Go, .int (Ns 1), .int (Ns 2), .int (Ns 3), .int (Ns 4), .ref (Np 5), .ref (Np 6), .ref (Np 7)] : List Value).set 1 (.int v9))) = (zfXW cI cO Xo Po Pp Go Gp No Np Qo Qp Ko Kp Lo Lp To Tp ra oo Xs Ps Pa Gs Ga (upd Ns 1 v9) Na Qs Qa Ks Ka Ls La Ts Ta os) := fun _ => rfl
      obtain ⟨Ns_7, eNs_7, hP, hD⟩ : ∃ y9, y9 = (upd Ns 1 ((Ns 1) &&& (((1 : Int32) <<< (a0 &&& 31)) ^^^ (-1 : Int32)))) ∧ va_P D vwCl (zfXW cI cO Xo Po Pp Go Gp No Np Qo Qp Ko Kp Lo Lp To Tp ra oo Xs Ps Pa Gs Ga y9 Na Qs Qa Ks Ka Ls La Ts Ta os) H ∧ va_D A (zfXW cI cO Xo Po Pp Go Gp No Np Qo Qp Ko Kp Lo Lp To Tp ra oo Xs Ps Pa Gs Ga y9 Na Qs Qa Ks Ka Ls La Ts Ta os) := ⟨_, rfl, zsetP (hset _) hP, zsetD (hset _) hD⟩
      have h := zlt_s h eNs_7
      clear hset
      refine lv_aload_n hx hb dX5_plug_45 rfl (lv_at hl 0 rfl) ?_
      refine lv_iconst (v := (0 : Int32)) hx hb dX5_plug_46 (by decide) ?_
      refine va_put (D := D) (ci := 5) (v := .int (0 : Int32)) (ty := .boolean) (C := RX5) (T := TX5) (N := 13) hx hb hts inX5 tyX5 tyX5_ok nmX5 hown hK hP hD hS 0 rfl rfl 10 (by decide) lk92 (fun _ h9 => h9) rfl (by decide +kernel) (by decide) (by decide) (Nat.le_of_ble_eq_true rfl) dX5_plug_47 (fun H locs hP hD hS => ?_)
      have hset : ∀ v9 : Int32, (zfXW cI cO Xo Po Pp Go Gp No Np Qo Qp Ko Kp Lo Lp To Tp ra oo Xs Ps Pa Gs Ga Ns_7 Na Qs Qa Ks Ka Ls La Ts Ta os).set 0 (Xo, .inr (5, ([.ref Po, .ref Go, .ref No, .ref Qo, .ref Ko, .ref Lo, .int (Xs 6), .ref To, .ref (oo 0), .ref ra, .int (Xs 10), .int (Xs 11), .int (Xs 12)] : List Value).set 10 (.int v9))) = (zfXW cI cO Xo Po Pp Go Gp No Np Qo Qp Ko Kp Lo Lp To Tp ra oo (upd Xs 10 v9) Ps Pa Gs Ga Ns_7 Na Qs Qa Ks Ka Ls La Ts Ta os) := fun _ => rfl
      obtain ⟨Xs_8, eXs_8, hP, hD⟩ : ∃ y9, y9 = (upd Xs 10 (0 : Int32)) ∧ va_P D vwCl (zfXW cI cO Xo Po Pp Go Gp No Np Qo Qp Ko Kp Lo Lp To Tp ra oo y9 Ps Pa Gs Ga Ns_7 Na Qs Qa Ks Ka Ls La Ts Ta os) H ∧ va_D A (zfXW cI cO Xo Po Pp Go Gp No Np Qo Qp Ko Kp Lo Lp To Tp ra oo y9 Ps Pa Gs Ga Ns_7 Na Qs Qa Ks Ka Ls La Ts Ta os) := ⟨_, rfl, zsetP (hset _) hP, zsetD (hset _) hD⟩
      have h := zlt_s h eXs_8
      clear hset
      refine lv_aload_n hx hb dX5_plug_50 rfl (lv_at hl 0 rfl) ?_
      refine va_get (D := D) (ci := 5) (v := .ref No) (C := RX5) (T := TX5) (N := 13) hx hb hts inX5 hown hK hP 0 rfl rfl 2 (by decide) lk28 (fun _ h9 => h9) rfl dX5_plug_51 ?_
      refine va_getN (D := D) (ci := 4) (v := .int (Ns_7 1)) (C := RX4) (T := TX4) (N := 8) hx hb hts inX4 hown hK hP 5 rfl rfl 1 (by decide) lk159 (fun _ h9 => h9) rfl dX5_plug_54 ?_
      obtain ⟨r9, g10, h⟩ := zb1_s h
      have hFc := va_free (wc := ([] : va_W)) hD hS hA [] rfl
      refine zcp_i (va_runS (As := [.int (Ns_7 1)]) (rest := []) ⟨hx, hb, hml, hown, hts⟩ (c_J6_bitCount_0f7a4 l D cI cB cO (Ns_7 1) _ _ g10) (va_cwS 1 hts gX5_plug_J6_bitCount_0f7a4 rfl rfl rfl kS_J6_bitCount_0f7a4 ⟨Nat.le_trans (Nat.le_of_ble_eq_true rfl) hRf, Nat.le_trans (Nat.le_of_ble_eq_true rfl) hRl⟩) (zpreS hK hP hD hS hE hFc [] (rfl) rfl [.int (Ns_7 1)]) rfl rfl hl.1 rfl (lv_room (Nat.le_of_ble_eq_true rfl)) dX5_plug_57 ⟨Nat.zero_le _, Nat.zero_le _⟩) hP hD hS hFc [] (rfl) (fun H locs hP hS => ?_)
      clear hFc
      cases zend h
      exact hq hP hD hS dX5_plug_60
    · have h := zif_t c6 h
      refine lv_bipush (v := (-103 : Int32)) hx hb dX5_plug_25 (by decide) ?_
      cases zend h
      exact hq hP hD hS dX5_plug_27
  · have h := zif_t c3 h
    refine lv_bipush (v := (-101 : Int32)) hx hb dX5_plug_11 (by decide) ?_
    cases zend h
    exact hq hP hD hS dX5_plug_13
set_option maxHeartbeats 4000000 in
set_option maxRecDepth 100000 in
theorem c_X5_bore (l : Launch) (D : va_G) (cI cB cO : ClassId) (Xo : Nat) (Po : Nat) (Pp : Nat → Nat) (Go : Nat) (Gp : Nat → Nat) (No : Nat) (Np : Nat → Nat) (Qo : Nat) (Qp : Nat → Nat) (Ko : Nat) (Kp : Nat → Nat) (Lo : Nat) (Lp : Nat → Nat) (To : Nat) (Tp : Nat → Nat) (ra : Nat) (oo : Nat → Nat) (Xs : Nat → Int32) (Ps : Nat → Int32) (Pa : Nat → Nat → Int32) (Gs : Nat → Int32) (Ga : Nat → Nat → Int32) (Ns : Nat → Int32) (Na : Nat → Nat → Int32) (Qs : Nat → Int32) (Qa : Nat → Nat → Int32) (Ks : Nat → Int32) (Ka : Nat → Nat → Int32) (Ls : Nat → Int32) (La : Nat → Nat → Int32) (Ts : Nat → Int32) (Ta : Nat → Nat → Int32) (os : Nat → Nat → Int32) (a0 : Int32) (rv : Int32) (Xs' : Nat → Int32) (Ns' : Nat → Int32) (sz : Nat) (h : fX5_bore Xs Gs Ns a0 = some (rv, Xs', Ns')) : Met l yX5_bore wsX5_bore ({ frames := 2, cells := 0, slots := 0, locals := 42 } : Room) (va_Pc [.ref Xo, .int a0] (zPre D (zTY cI cB cO) (zfXW cI cO Xo Po Pp Go Gp No Np Qo Qp Ko Kp Lo Lp To Tp ra oo Xs Ps Pa Gs Ga Ns Na Qs Qa Ks Ka Ls La Ts Ta os) sz)) (va_Qi (fun r (_ : Unit) => r = rv) (fun _ => zPost D (zTY cI cB cO) (zfXW cI cO Xo Po Pp Go Gp No Np Qo Qp Ko Kp Lo Lp To Tp ra oo Xs' Ps Pa Gs Ga Ns' Na Qs Qa Ks Ka Ls La Ts Ta os) (va_A (zfXW cI cO Xo Po Pp Go Gp No Np Qo Qp Ko Kp Lo Lp To Tp ra oo Xs Ps Pa Gs Ga Ns Na Qs Qa Ks Ka Ls La Ts Ta os) sz)) (va_A (zfXW cI cO Xo Po Pp Go Gp No Np Qo Qp Ko Kp Lo Lp To Tp ra oo Xs Ps Pa Gs Ga Ns Na Qs Qa Ks Ka Ls La Ts Ta os) sz)) 0 0 (va_A (zfXW cI cO Xo Po Pp Go Gp No Np Qo Qp Ko Kp Lo Lp To Tp ra oo Xs Ps Pa Gs Ga Ns Na Qs Qa Ks Ka Ls La Ts Ta os) sz) := by
  unfold fX5_bore at h
  refine zmet_i (cc := cX5_bore) (maxL := 2) (by decide) rfl (Nat.le_of_ble_eq_true rfl) rfl rfl ?_
  intro p e s m args below meth c R Q A ls hx hb hts hown hml hK hP hD hE hA hS hRf hRl hl hq
  have hown : s.vm.findClass RX5 = some m.cls := hown
  have hl : lv_has ls 2 [(0, .ref Xo), (1, .int a0)] := hl
  have inX5 : ∀ w ∈ u_ws RX5 TX5 13, w ∈ wsX5_bore := by decide +kernel
  have lk19 : (Cond.fieldLink RX5 19 "PegField" "grid" "LPegField$Grid;").before args s = true := hts _ (by decide +kernel)
  have lk28 : (Cond.fieldLink RX5 28 "PegField" "now" "LPegField$State;").before args s = true := hts _ (by decide +kernel)
  have inX4 : ∀ w ∈ u_ws RX4 TX4 8, w ∈ wsX5_bore := by decide +kernel
  have lk159 : (Cond.fieldLinkNest RX5 159 "PegField$State" "holes" "I" "PegField").before args s = true := hE.2.use (by decide +kernel)
  have lk92 : (Cond.fieldLink RX5 92 "PegField" "isLooked" "Z").before args s = true := hts _ (by decide +kernel)
  refine lv_aload_n hx hb dX5_bore_0 rfl (lv_at hl 0 rfl) ?_
  refine va_get (D := D) (ci := 5) (v := .ref Go) (C := RX5) (T := TX5) (N := 13) hx hb hts inX5 hown hK hP 0 rfl rfl 1 (by decide) lk19 (fun _ h9 => h9) rfl dX5_bore_1 ?_
  refine lv_iload_n hx hb dX5_bore_4 rfl (lv_at hl 1 rfl) ?_
  obtain ⟨r1, g2, h⟩ := zb1_s h
  have hFc := va_free (wc := (zwG cI Go Gp Gs Ga)) hD hS hA [3, 4] (zC_16 (cI := cI) (cB := cB) (cO := cO))
  refine zcp_i (va_runV (As := [.int a0]) (rest := []) ⟨hx, hb, hml, hown, hts⟩ (c_X0_has l D cI cB cO Go Gp Gs Ga a0 _ _ g2) (cwV 1 hts gX5_bore_X0_has rfl rfl rfl kV_X0_has ⟨Nat.le_trans (Nat.le_of_ble_eq_true rfl) hRf, Nat.le_trans (Nat.le_of_ble_eq_true rfl) hRl⟩) (zpreV hK hP hD hS hE hFc [3, 4] (zC_16 (cI := cI) (cB := cB) (cO := cO)) rfl 3 (ci := 0) rfl rfl [.int a0]) rfl rfl hl.1 rfl (lv_room (Nat.le_of_ble_eq_true rfl)) dX5_bore_5 ⟨Nat.zero_le _, Nat.zero_le _⟩) hP hD hS hFc [3, 4] (zC_16 (cI := cI) (cB := cB) (cO := cO)) (fun H locs hP hS => ?_)
  clear hFc
  refine lv_if_ne (tgt := 14) hx hb dX5_bore_8 (by decide) (fun c3 => ?_) (fun c3 => ?_)
  · have h := zif_f c3 h
    refine lv_aload_n hx hb dX5_bore_14 rfl (lv_at hl 0 rfl) ?_
    refine va_get (D := D) (ci := 5) (v := .ref No) (C := RX5) (T := TX5) (N := 13) hx hb hts inX5 hown hK hP 0 rfl rfl 2 (by decide) lk28 (fun _ h9 => h9) rfl dX5_bore_15 ?_
    refine lv_iload_n hx hb dX5_bore_18 rfl (lv_at hl 1 rfl) ?_
    obtain ⟨r4, g5, h⟩ := zb1_s h
    have hFc := va_free (wc := (zfSG cI cO No Np Go Gp Ns Na Gs Ga)) hD hS hA [5, 6, 7, 8, 3, 4] (zC_14 (cI := cI) (cB := cB) (cO := cO))
    refine zcp_i (va_runV (As := [.int a0]) (rest := []) ⟨hx, hb, hml, hown, hts⟩ (c_X4_isHole l D cI cB cO No Np Go Gp Ns Na Gs Ga a0 _ _ g5) (cwV 1 hts gX5_bore_X4_isHole rfl rfl rfl kV_X4_isHole ⟨Nat.le_trans (Nat.le_of_ble_eq_true rfl) hRf, Nat.le_trans (Nat.le_of_ble_eq_true rfl) hRl⟩) (zpreV hK hP hD hS hE hFc [5, 6, 7, 8, 3, 4] (zC_14 (cI := cI) (cB := cB) (cO := cO)) rfl 5 (ci := 4) rfl rfl [.int a0]) rfl rfl hl.1 rfl (lv_room (Nat.le_of_ble_eq_true rfl)) dX5_bore_19 ⟨Nat.zero_le _, Nat.zero_le _⟩) hP hD hS hFc [5, 6, 7, 8, 3, 4] (zC_14 (cI := cI) (cB := cB) (cO := cO)) (fun H locs hP hS => ?_)
    clear hFc
    refine lv_if_eq (tgt := 28) hx hb dX5_bore_22 (by decide) (fun c6 => ?_) (fun c6 => ?_)
    · have h := zif_t c6 h
      refine lv_aload_n hx hb dX5_bore_28 rfl (lv_at hl 0 rfl) ?_
      refine va_get (D := D) (ci := 5) (v := .ref No) (C := RX5) (T := TX5) (N := 13) hx hb hts inX5 hown hK hP 0 rfl rfl 2 (by decide) lk28 (fun _ h9 => h9) rfl dX5_bore_29 ?_
      refine lv_dup hx hb dX5_bore_32 rfl ?_
      refine va_getN (D := D) (ci := 4) (v := .int (Ns 1)) (C := RX4) (T := TX4) (N := 8) hx hb hts inX4 hown hK hP 5 rfl rfl 1 (by decide) lk159 (fun _ h9 => h9) rfl dX5_bore_33 ?_
      refine lv_iconst (v := (1 : Int32)) hx hb dX5_bore_36 (by decide) ?_
      refine lv_iload_n hx hb dX5_bore_37 rfl (lv_at hl 1 rfl) ?_
      refine lv_ishl hx hb dX5_bore_38 ?_
      refine lv_ior hx hb dX5_bore_39 ?_
      refine va_putN (D := D) (ci := 4) (v := .int ((Ns 1) ||| ((1 : Int32) <<< (a0 &&& 31)))) (ty := .int) (C := RX4) (T := TX4) (N := 8) hx hb hts inX4 tyX4 tyX4_ok nmX4 hown hK hP hD hS 5 rfl rfl 1 (by decide) lk159 (fun _ h9 => h9) rfl (by decide +kernel) rfl rfl (Nat.le_of_ble_eq_true rfl) dX5_bore_40 (fun H locs hP hD hS => ?_)
      have hset : ∀ v9 : Int32, (zfXW cI cO Xo Po Pp Go Gp No Np Qo Qp Ko Kp Lo Lp To Tp ra oo Xs Ps Pa Gs Ga Ns Na Qs Qa Ks Ka Ls La Ts Ta os).set 5 (No, .inr (4, ([.ref Go, .int (Ns 1), .int (Ns 2), .int (Ns 3), .int (Ns 4), .ref (Np 5), .ref (Np 6), .ref (Np 7)] : List Value).set 1 (.int v9))) = (zfXW cI cO Xo Po Pp Go Gp No Np Qo Qp Ko Kp Lo Lp To Tp ra oo Xs Ps Pa Gs Ga (upd Ns 1 v9) Na Qs Qa Ks Ka Ls La Ts Ta os) := fun _ => rfl
      obtain ⟨Ns_7, eNs_7, hP, hD⟩ : ∃ y9, y9 = (upd Ns 1 ((Ns 1) ||| ((1 : Int32) <<< (a0 &&& 31)))) ∧ va_P D vwCl (zfXW cI cO Xo Po Pp Go Gp No Np Qo Qp Ko Kp Lo Lp To Tp ra oo Xs Ps Pa Gs Ga y9 Na Qs Qa Ks Ka Ls La Ts Ta os) H ∧ va_D A (zfXW cI cO Xo Po Pp Go Gp No Np Qo Qp Ko Kp Lo Lp To Tp ra oo Xs Ps Pa Gs Ga y9 Na Qs Qa Ks Ka Ls La Ts Ta os) := ⟨_, rfl, zsetP (hset _) hP, zsetD (hset _) hD⟩
      have h := zlt_s h eNs_7
      clear hset
      refine lv_aload_n hx hb dX5_bore_43 rfl (lv_at hl 0 rfl) ?_
      refine lv_iconst (v := (0 : Int32)) hx hb dX5_bore_44 (by decide) ?_
      refine va_put (D := D) (ci := 5) (v := .int (0 : Int32)) (ty := .boolean) (C := RX5) (T := TX5) (N := 13) hx hb hts inX5 tyX5 tyX5_ok nmX5 hown hK hP hD hS 0 rfl rfl 10 (by decide) lk92 (fun _ h9 => h9) rfl (by decide +kernel) (by decide) (by decide) (Nat.le_of_ble_eq_true rfl) dX5_bore_45 (fun H locs hP hD hS => ?_)
      have hset : ∀ v9 : Int32, (zfXW cI cO Xo Po Pp Go Gp No Np Qo Qp Ko Kp Lo Lp To Tp ra oo Xs Ps Pa Gs Ga Ns_7 Na Qs Qa Ks Ka Ls La Ts Ta os).set 0 (Xo, .inr (5, ([.ref Po, .ref Go, .ref No, .ref Qo, .ref Ko, .ref Lo, .int (Xs 6), .ref To, .ref (oo 0), .ref ra, .int (Xs 10), .int (Xs 11), .int (Xs 12)] : List Value).set 10 (.int v9))) = (zfXW cI cO Xo Po Pp Go Gp No Np Qo Qp Ko Kp Lo Lp To Tp ra oo (upd Xs 10 v9) Ps Pa Gs Ga Ns_7 Na Qs Qa Ks Ka Ls La Ts Ta os) := fun _ => rfl
      obtain ⟨Xs_8, eXs_8, hP, hD⟩ : ∃ y9, y9 = (upd Xs 10 (0 : Int32)) ∧ va_P D vwCl (zfXW cI cO Xo Po Pp Go Gp No Np Qo Qp Ko Kp Lo Lp To Tp ra oo y9 Ps Pa Gs Ga Ns_7 Na Qs Qa Ks Ka Ls La Ts Ta os) H ∧ va_D A (zfXW cI cO Xo Po Pp Go Gp No Np Qo Qp Ko Kp Lo Lp To Tp ra oo y9 Ps Pa Gs Ga Ns_7 Na Qs Qa Ks Ka Ls La Ts Ta os) := ⟨_, rfl, zsetP (hset _) hP, zsetD (hset _) hD⟩
      have h := zlt_s h eXs_8
      clear hset
      refine lv_aload_n hx hb dX5_bore_48 rfl (lv_at hl 0 rfl) ?_
      refine va_get (D := D) (ci := 5) (v := .ref No) (C := RX5) (T := TX5) (N := 13) hx hb hts inX5 hown hK hP 0 rfl rfl 2 (by decide) lk28 (fun _ h9 => h9) rfl dX5_bore_49 ?_
      refine va_getN (D := D) (ci := 4) (v := .int (Ns_7 1)) (C := RX4) (T := TX4) (N := 8) hx hb hts inX4 hown hK hP 5 rfl rfl 1 (by decide) lk159 (fun _ h9 => h9) rfl dX5_bore_52 ?_
      obtain ⟨r9, g10, h⟩ := zb1_s h
      have hFc := va_free (wc := ([] : va_W)) hD hS hA [] rfl
      refine zcp_i (va_runS (As := [.int (Ns_7 1)]) (rest := []) ⟨hx, hb, hml, hown, hts⟩ (c_J6_bitCount_0f7a4 l D cI cB cO (Ns_7 1) _ _ g10) (va_cwS 1 hts gX5_bore_J6_bitCount_0f7a4 rfl rfl rfl kS_J6_bitCount_0f7a4 ⟨Nat.le_trans (Nat.le_of_ble_eq_true rfl) hRf, Nat.le_trans (Nat.le_of_ble_eq_true rfl) hRl⟩) (zpreS hK hP hD hS hE hFc [] (rfl) rfl [.int (Ns_7 1)]) rfl rfl hl.1 rfl (lv_room (Nat.le_of_ble_eq_true rfl)) dX5_bore_55 ⟨Nat.zero_le _, Nat.zero_le _⟩) hP hD hS hFc [] (rfl) (fun H locs hP hS => ?_)
      clear hFc
      cases zend h
      exact hq hP hD hS dX5_bore_58
    · have h := zif_f c6 h
      refine lv_bipush (v := (-103 : Int32)) hx hb dX5_bore_25 (by decide) ?_
      cases zend h
      exact hq hP hD hS dX5_bore_27
  · have h := zif_t c3 h
    refine lv_bipush (v := (-101 : Int32)) hx hb dX5_bore_11 (by decide) ?_
    cases zend h
    exact hq hP hD hS dX5_bore_13
set_option maxHeartbeats 4000000 in
set_option maxRecDepth 100000 in
theorem c_X5_be (l : Launch) (D : va_G) (cI cB cO : ClassId) (Xo : Nat) (Po : Nat) (Pp : Nat → Nat) (Go : Nat) (Gp : Nat → Nat) (No : Nat) (Np : Nat → Nat) (Qo : Nat) (Qp : Nat → Nat) (Ko : Nat) (Kp : Nat → Nat) (Lo : Nat) (Lp : Nat → Nat) (To : Nat) (Tp : Nat → Nat) (ra : Nat) (oo : Nat → Nat) (Xs : Nat → Int32) (Ps : Nat → Int32) (Pa : Nat → Nat → Int32) (Gs : Nat → Int32) (Ga : Nat → Nat → Int32) (Ns : Nat → Int32) (Na : Nat → Nat → Int32) (Qs : Nat → Int32) (Qa : Nat → Nat → Int32) (Ks : Nat → Int32) (Ka : Nat → Nat → Int32) (Ls : Nat → Int32) (La : Nat → Nat → Int32) (Ts : Nat → Int32) (Ta : Nat → Nat → Int32) (os : Nat → Nat → Int32) (a0 : Int32) (a1 : Int32) (rv : Int32) (Xs' : Nat → Int32) (Na' : Nat → Nat → Int32) (sz : Nat) (h : fX5_be Xs Ns Na a0 a1 = some (rv, Xs', Na')) : Met l yX5_be wsX5_be ({ frames := 2, cells := 0, slots := 0, locals := 43 } : Room) (va_Pc [.ref Xo, .int a0, .int a1] (zPre D (zTY cI cB cO) (zfXW cI cO Xo Po Pp Go Gp No Np Qo Qp Ko Kp Lo Lp To Tp ra oo Xs Ps Pa Gs Ga Ns Na Qs Qa Ks Ka Ls La Ts Ta os) sz)) (va_Qi (fun r (_ : Unit) => r = rv) (fun _ => zPost D (zTY cI cB cO) (zfXW cI cO Xo Po Pp Go Gp No Np Qo Qp Ko Kp Lo Lp To Tp ra oo Xs' Ps Pa Gs Ga Ns Na' Qs Qa Ks Ka Ls La Ts Ta os) (va_A (zfXW cI cO Xo Po Pp Go Gp No Np Qo Qp Ko Kp Lo Lp To Tp ra oo Xs Ps Pa Gs Ga Ns Na Qs Qa Ks Ka Ls La Ts Ta os) sz)) (va_A (zfXW cI cO Xo Po Pp Go Gp No Np Qo Qp Ko Kp Lo Lp To Tp ra oo Xs Ps Pa Gs Ga Ns Na Qs Qa Ks Ka Ls La Ts Ta os) sz)) 0 0 (va_A (zfXW cI cO Xo Po Pp Go Gp No Np Qo Qp Ko Kp Lo Lp To Tp ra oo Xs Ps Pa Gs Ga Ns Na Qs Qa Ks Ka Ls La Ts Ta os) sz) := by
  unfold fX5_be at h
  refine zmet_i (cc := cX5_be) (maxL := 4) (by decide) rfl (Nat.le_of_ble_eq_true rfl) rfl rfl ?_
  intro p e s m args below meth c R Q A ls hx hb hts hown hml hK hP hD hE hA hS hRf hRl hl hq
  have hown : s.vm.findClass RX5 = some m.cls := hown
  have hl : lv_has ls 4 [(0, .ref Xo), (1, .int a0), (2, .int a1)] := hl
  have inX5 : ∀ w ∈ u_ws RX5 TX5 13, w ∈ wsX5_be := by decide +kernel
  have lk28 : (Cond.fieldLink RX5 28 "PegField" "now" "LPegField$State;").before args s = true := hts _ (by decide +kernel)
  have lk92 : (Cond.fieldLink RX5 92 "PegField" "isLooked" "Z").before args s = true := hts _ (by decide +kernel)
  refine lv_aload_n hx hb dX5_be_0 rfl (lv_at hl 0 rfl) ?_
  refine va_get (D := D) (ci := 5) (v := .ref No) (C := RX5) (T := TX5) (N := 13) hx hb hts inX5 hown hK hP 0 rfl rfl 2 (by decide) lk28 (fun _ h9 => h9) rfl dX5_be_1 ?_
  refine lv_iload_n hx hb dX5_be_4 rfl (lv_at hl 1 rfl) ?_
  obtain ⟨r1, g2, h⟩ := zb1_s h
  have hFc := va_free (wc := (zwS cI No Np Go Ns Na)) hD hS hA [5, 6, 7, 8] (zC_13 (cI := cI) (cB := cB) (cO := cO))
  refine zcp_i (va_runV (As := [.int a0]) (rest := []) ⟨hx, hb, hml, hown, hts⟩ (c_X4_isPeg l D cI cB cO No Np Go Ns Na a0 _ _ g2) (cwV 1 hts gX5_be_X4_isPeg rfl rfl rfl kV_X4_isPeg ⟨Nat.le_trans (Nat.le_of_ble_eq_true rfl) hRf, Nat.le_trans (Nat.le_of_ble_eq_true rfl) hRl⟩) (zpreV hK hP hD hS hE hFc [5, 6, 7, 8] (zC_13 (cI := cI) (cB := cB) (cO := cO)) rfl 5 (ci := 4) rfl rfl [.int a0]) rfl rfl hl.1 rfl (lv_room (Nat.le_of_ble_eq_true rfl)) dX5_be_5 ⟨Nat.zero_le _, Nat.zero_le _⟩) hP hD hS hFc [5, 6, 7, 8] (zC_13 (cI := cI) (cB := cB) (cO := cO)) (fun H locs hP hS => ?_)
  clear hFc
  refine lv_if_ne (tgt := 14) hx hb dX5_be_8 (by decide) (fun c3 => ?_) (fun c3 => ?_)
  · have h := zif_f c3 h
    refine lv_iload_n hx hb dX5_be_14 rfl (lv_at hl 2 rfl) ?_
    refine lv_if_lt (tgt := 23) hx hb dX5_be_15 (by decide) (fun c4 => ?_) (fun c4 => ?_)
    · have h := zif_t c4 h
      refine lv_bipush (v := (-102 : Int32)) hx hb dX5_be_23 (by decide) ?_
      cases zend h
      exact hq hP hD hS dX5_be_25
    · have h := zif_f c4 h
      refine lv_iload_n hx hb dX5_be_18 rfl (lv_at hl 2 rfl) ?_
      refine lv_iconst (v := (5 : Int32)) hx hb dX5_be_19 (by decide) ?_
      refine lv_icmp_lt (tgt := 26) hx hb dX5_be_20 (by decide) (fun c5 => ?_) (fun c5 => ?_)
      · have h := zif_t c5 h
        refine lv_aload_n hx hb dX5_be_26 rfl (lv_at hl 0 rfl) ?_
        refine va_get (D := D) (ci := 5) (v := .ref No) (C := RX5) (T := TX5) (N := 13) hx hb hts inX5 hown hK hP 0 rfl rfl 2 (by decide) lk28 (fun _ h9 => h9) rfl dX5_be_27 ?_
        refine lv_iload_n hx hb dX5_be_30 rfl (lv_at hl 1 rfl) ?_
        obtain ⟨r6, g7, h⟩ := zb1_s h
        have hFc := va_free (wc := (zwS cI No Np Go Ns Na)) hD hS hA [5, 6, 7, 8] (zC_13 (cI := cI) (cB := cB) (cO := cO))
        refine zcp_i (va_runV (As := [.int a0]) (rest := []) ⟨hx, hb, hml, hown, hts⟩ (c_X4_kindOf l D cI cB cO No Np Go Ns Na a0 _ _ g7) (cwV 1 hts gX5_be_X4_kindOf rfl rfl rfl kV_X4_kindOf ⟨Nat.le_trans (Nat.le_of_ble_eq_true rfl) hRf, Nat.le_trans (Nat.le_of_ble_eq_true rfl) hRl⟩) (zpreV hK hP hD hS hE hFc [5, 6, 7, 8] (zC_13 (cI := cI) (cB := cB) (cO := cO)) rfl 5 (ci := 4) rfl rfl [.int a0]) rfl rfl hl.1 rfl (lv_room (Nat.le_of_ble_eq_true rfl)) dX5_be_31 ⟨Nat.zero_le _, Nat.zero_le _⟩) hP hD hS hFc [5, 6, 7, 8] (zC_13 (cI := cI) (cB := cB) (cO := cO)) (fun H locs hP hS => ?_)
        clear hFc
        refine lv_istore_n (lv' := [(3, .int r6), (0, .ref Xo), (1, .int a0), (2, .int a1)]) hx hb dX5_be_34 rfl hl (by decide) rfl (fun ls hl => ?_)
        refine lv_aload_n hx hb dX5_be_35 rfl (lv_at hl 1 rfl) ?_
        refine va_get (D := D) (ci := 5) (v := .ref No) (C := RX5) (T := TX5) (N := 13) hx hb hts inX5 hown hK hP 0 rfl rfl 2 (by decide) lk28 (fun _ h9 => h9) rfl dX5_be_36 ?_
        refine lv_iload_n hx hb dX5_be_39 rfl (lv_at hl 2 rfl) ?_
        refine lv_iload_n hx hb dX5_be_40 rfl (lv_at hl 3 rfl) ?_
        obtain ⟨Sa_8, g9, h⟩ := zb1_s h
        have hFc := va_free (wc := (zwS cI No Np Go Ns Na)) hD hS hA [5, 6, 7, 8] (zC_18 (cI := cI) (cB := cB) (cO := cO))
        refine zcm_v (w2 := (zfXW cI cO Xo Po Pp Go Gp No Np Qo Qp Ko Kp Lo Lp To Tp ra oo Xs Ps Pa Gs Ga Ns Sa_8 Qs Qa Ks Ka Ls La Ts Ta os)) (va_runV (As := [.int a0, .int a1]) (rest := []) ⟨hx, hb, hml, hown, hts⟩ (c_X4_turn l D cI cB cO No Np Go Ns Na a0 a1 _ _ g9) (cwV 2 hts gX5_be_X4_turn rfl rfl rfl kV_X4_turn ⟨Nat.le_trans (Nat.le_of_ble_eq_true rfl) hRf, Nat.le_trans (Nat.le_of_ble_eq_true rfl) hRl⟩) (zpreV hK hP hD hS hE hFc [5, 6, 7, 8] (zC_18 (cI := cI) (cB := cB) (cO := cO)) rfl 5 (ci := 4) rfl rfl [.int a0, .int a1]) rfl rfl hl.1 rfl (lv_room (Nat.le_of_ble_eq_true rfl)) dX5_be_41 ⟨Nat.zero_le _, Nat.zero_le _⟩) hS hFc (fun H1 t h1 h2 h3 => zM_18 (cI := cI) (cB := cB) (cO := cO) hP hD h1 h2 h3) (fun H locs hP hD hS => ?_)
        clear hFc
        refine lv_aload_n hx hb dX5_be_44 rfl (lv_at hl 1 rfl) ?_
        refine lv_iconst (v := (0 : Int32)) hx hb dX5_be_45 (by decide) ?_
        refine va_put (D := D) (ci := 5) (v := .int (0 : Int32)) (ty := .boolean) (C := RX5) (T := TX5) (N := 13) hx hb hts inX5 tyX5 tyX5_ok nmX5 hown hK hP hD hS 0 rfl rfl 10 (by decide) lk92 (fun _ h9 => h9) rfl (by decide +kernel) (by decide) (by decide) (Nat.le_of_ble_eq_true rfl) dX5_be_46 (fun H locs hP hD hS => ?_)
        have hset : ∀ v9 : Int32, (zfXW cI cO Xo Po Pp Go Gp No Np Qo Qp Ko Kp Lo Lp To Tp ra oo Xs Ps Pa Gs Ga Ns Sa_8 Qs Qa Ks Ka Ls La Ts Ta os).set 0 (Xo, .inr (5, ([.ref Po, .ref Go, .ref No, .ref Qo, .ref Ko, .ref Lo, .int (Xs 6), .ref To, .ref (oo 0), .ref ra, .int (Xs 10), .int (Xs 11), .int (Xs 12)] : List Value).set 10 (.int v9))) = (zfXW cI cO Xo Po Pp Go Gp No Np Qo Qp Ko Kp Lo Lp To Tp ra oo (upd Xs 10 v9) Ps Pa Gs Ga Ns Sa_8 Qs Qa Ks Ka Ls La Ts Ta os) := fun _ => rfl
        obtain ⟨Xs_10, eXs_10, hP, hD⟩ : ∃ y9, y9 = (upd Xs 10 (0 : Int32)) ∧ va_P D vwCl (zfXW cI cO Xo Po Pp Go Gp No Np Qo Qp Ko Kp Lo Lp To Tp ra oo y9 Ps Pa Gs Ga Ns Sa_8 Qs Qa Ks Ka Ls La Ts Ta os) H ∧ va_D A (zfXW cI cO Xo Po Pp Go Gp No Np Qo Qp Ko Kp Lo Lp To Tp ra oo y9 Ps Pa Gs Ga Ns Sa_8 Qs Qa Ks Ka Ls La Ts Ta os) := ⟨_, rfl, zsetP (hset _) hP, zsetD (hset _) hD⟩
        have h := zlt_s h eXs_10
        clear hset
        refine lv_iload_n hx hb dX5_be_49 rfl (lv_at hl 0 rfl) ?_
        cases zend h
        exact hq hP hD hS dX5_be_50
      · have h := zif_f c5 h
        refine lv_bipush (v := (-102 : Int32)) hx hb dX5_be_23 (by decide) ?_
        cases zend h
        exact hq hP hD hS dX5_be_25
  · have h := zif_t c3 h
    refine lv_bipush (v := (-101 : Int32)) hx hb dX5_be_11 (by decide) ?_
    cases zend h
    exact hq hP hD hS dX5_be_13
set_option maxHeartbeats 4000000 in
set_option maxRecDepth 100000 in
theorem c_X5_see (l : Launch) (D : va_G) (cI cB cO : ClassId) (Xo : Nat) (Po : Nat) (Pp : Nat → Nat) (Go : Nat) (Gp : Nat → Nat) (No : Nat) (Np : Nat → Nat) (Qo : Nat) (Qp : Nat → Nat) (Ko : Nat) (Kp : Nat → Nat) (Lo : Nat) (Lp : Nat → Nat) (To : Nat) (Tp : Nat → Nat) (ra : Nat) (oo : Nat → Nat) (Xs : Nat → Int32) (Ps : Nat → Int32) (Pa : Nat → Nat → Int32) (Gs : Nat → Int32) (Ga : Nat → Nat → Int32) (Ns : Nat → Int32) (Na : Nat → Nat → Int32) (Qs : Nat → Int32) (Qa : Nat → Nat → Int32) (Ks : Nat → Int32) (Ka : Nat → Nat → Int32) (Ls : Nat → Int32) (La : Nat → Nat → Int32) (Ts : Nat → Int32) (Ta : Nat → Nat → Int32) (os : Nat → Nat → Int32) (a0 : Int32) (a1 : Int32) (a2 : Int32) (rv : Int32) (Qs' : Nat → Int32) (Qa' : Nat → Nat → Int32) (sz : Nat) (h : fX5_see Ns Qs Qa a0 a1 a2 = some (rv, Qs', Qa')) : Met l yX5_see wsX5_see ({ frames := 1, cells := 0, slots := 0, locals := 22 } : Room) (va_Pc [.ref Xo, .int a0, .int a1, .int a2] (zPre D (zTY cI cB cO) (zfXW cI cO Xo Po Pp Go Gp No Np Qo Qp Ko Kp Lo Lp To Tp ra oo Xs Ps Pa Gs Ga Ns Na Qs Qa Ks Ka Ls La Ts Ta os) sz)) (va_Qi (fun r (_ : Unit) => r = rv) (fun _ => zPost D (zTY cI cB cO) (zfXW cI cO Xo Po Pp Go Gp No Np Qo Qp Ko Kp Lo Lp To Tp ra oo Xs Ps Pa Gs Ga Ns Na Qs' Qa' Ks Ka Ls La Ts Ta os) (va_A (zfXW cI cO Xo Po Pp Go Gp No Np Qo Qp Ko Kp Lo Lp To Tp ra oo Xs Ps Pa Gs Ga Ns Na Qs Qa Ks Ka Ls La Ts Ta os) sz)) (va_A (zfXW cI cO Xo Po Pp Go Gp No Np Qo Qp Ko Kp Lo Lp To Tp ra oo Xs Ps Pa Gs Ga Ns Na Qs Qa Ks Ka Ls La Ts Ta os) sz)) 0 0 (va_A (zfXW cI cO Xo Po Pp Go Gp No Np Qo Qp Ko Kp Lo Lp To Tp ra oo Xs Ps Pa Gs Ga Ns Na Qs Qa Ks Ka Ls La Ts Ta os) sz) := by
  unfold fX5_see at h
  refine zmet_i (cc := cX5_see) (maxL := 5) (by decide) rfl (Nat.le_of_ble_eq_true rfl) rfl rfl ?_
  intro p e s m args below meth c R Q A ls hx hb hts hown hml hK hP hD hE hA hS hRf hRl hl hq
  have hown : s.vm.findClass RX5 = some m.cls := hown
  have hl : lv_has ls 5 [(0, .ref Xo), (1, .int a0), (2, .int a1), (3, .int a2)] := hl
  obtain ⟨tWHO_COULD, zzWHO_COULD, ztWHO_COULD⟩ := hE.1.2.2.1
  have inX5 : ∀ w ∈ u_ws RX5 TX5 13, w ∈ wsX5_see := by decide +kernel
  have lk28 : (Cond.fieldLink RX5 28 "PegField" "now" "LPegField$State;").before args s = true := hts _ (by decide +kernel)
  have lk203 : (Cond.fieldLink RX5 203 "PegField" "WHO_COULD" "[I").before args s = true := hts _ (by decide +kernel)
  have lk35 : (Cond.fieldLink RX5 35 "PegField" "seen" "LPegField$Seen;").before args s = true := hts _ (by decide +kernel)
  have inX3 : ∀ w ∈ u_ws RX3 TX3 3, w ∈ wsX5_see := by decide +kernel
  have lk87 : (Cond.fieldLinkNest RX5 87 "PegField$Seen" "size" "I" "PegField").before args s = true := hE.2.use (by decide +kernel)
  refine lv_aload_n hx hb dX5_see_0 rfl (lv_at hl 0 rfl) ?_
  refine va_get (D := D) (ci := 5) (v := .ref No) (C := RX5) (T := TX5) (N := 13) hx hb hts inX5 hown hK hP 0 rfl rfl 2 (by decide) lk28 (fun _ h9 => h9) rfl dX5_see_1 ?_
  refine lv_iload_n hx hb dX5_see_4 rfl (lv_at hl 1 rfl) ?_
  obtain ⟨r1, g2, h⟩ := zb1_s h
  have hFc := va_free (wc := (zwS cI No Np Go Ns Na)) hD hS hA [5, 6, 7, 8] (zC_13 (cI := cI) (cB := cB) (cO := cO))
  refine zcp_i (va_runV (As := [.int a0]) (rest := []) ⟨hx, hb, hml, hown, hts⟩ (c_X4_isPeg l D cI cB cO No Np Go Ns Na a0 _ _ g2) (cwV 1 hts gX5_see_X4_isPeg rfl rfl rfl kV_X4_isPeg ⟨Nat.le_trans (Nat.le_of_ble_eq_true rfl) hRf, Nat.le_trans (Nat.le_of_ble_eq_true rfl) hRl⟩) (zpreV hK hP hD hS hE hFc [5, 6, 7, 8] (zC_13 (cI := cI) (cB := cB) (cO := cO)) rfl 5 (ci := 4) rfl rfl [.int a0]) rfl rfl hl.1 rfl (lv_room (Nat.le_of_ble_eq_true rfl)) dX5_see_5 ⟨Nat.zero_le _, Nat.zero_le _⟩) hP hD hS hFc [5, 6, 7, 8] (zC_13 (cI := cI) (cB := cB) (cO := cO)) (fun H locs hP hS => ?_)
  clear hFc
  refine lv_if_ne (tgt := 14) hx hb dX5_see_8 (by decide) (fun c3 => ?_) (fun c3 => ?_)
  · have h := zif_f c3 h
    refine lv_iload_n hx hb dX5_see_14 rfl (lv_at hl 2 rfl) ?_
    refine lv_if_lt (tgt := 23) hx hb dX5_see_15 (by decide) (fun c4 => ?_) (fun c4 => ?_)
    · have h := zif_t c4 h
      refine lv_bipush (v := (-102 : Int32)) hx hb dX5_see_23 (by decide) ?_
      cases zend h
      exact hq hP hD hS dX5_see_25
    · have h := zif_f c4 h
      refine lv_iload_n hx hb dX5_see_18 rfl (lv_at hl 2 rfl) ?_
      refine lv_iconst (v := (4 : Int32)) hx hb dX5_see_19 (by decide) ?_
      refine lv_icmp_lt (tgt := 26) hx hb dX5_see_20 (by decide) (fun c5 => ?_) (fun c5 => ?_)
      · have h := zif_t c5 h
        refine lv_iload_n hx hb dX5_see_26 rfl (lv_at hl 3 rfl) ?_
        obtain ⟨v48, j11, h⟩ := zb1_s h
        have K48 : ∀ (H : Heap) (locs : List Loc) (ls : Array Slot), va_P D vwCl (zfXW cI cO Xo Po Pp Go Gp No Np Qo Qp Ko Kp Lo Lp To Tp ra oo Xs Ps Pa Gs Ga Ns Na Qs Qa Ks Ka Ls La Ts Ta os) H → va_D A (zfXW cI cO Xo Po Pp Go Gp No Np Qo Qp Ko Kp Lo Lp To Tp ra oo Xs Ps Pa Gs Ga Ns Na Qs Qa Ks Ka Ls La Ts Ta os) → va_S A s.heap H locs → lv_has ls 5 [(0, .ref Xo), (1, .int a0)] → W p l e R s m args below meth c H locs 0 0 Q (F0 m 48 ls [.int v48]) := by
          intro H locs ls hP hD hS hl
          refine lv_istore (lv' := [(4, .int v48), (0, .ref Xo), (1, .int a0)]) hx hb dX5_see_48 hl (by decide) rfl (fun ls hl => ?_)
          refine lv_aload_n hx hb dX5_see_50 rfl (lv_at hl 1 rfl) ?_
          refine va_get (D := D) (ci := 5) (v := .ref Qo) (C := RX5) (T := TX5) (N := 13) hx hb hts inX5 hown hK hP 0 rfl rfl 3 (by decide) lk35 (fun _ h9 => h9) rfl dX5_see_51 ?_
          refine lv_iload_n hx hb dX5_see_54 rfl (lv_at hl 2 rfl) ?_
          refine lv_iload hx hb dX5_see_55 (lv_at hl 0 rfl) ?_
          obtain ⟨r6, Qs_7, Qa_8, g9, h⟩ := zb3_s h
          have hFc := va_free (wc := (zwQ cI Qo Qp Qs Qa)) hD hS hA [9, 10, 11] (zC_46 (cI := cI) (cB := cB) (cO := cO))
          refine zcm_i (w2 := (zfXW cI cO Xo Po Pp Go Gp No Np Qo Qp Ko Kp Lo Lp To Tp ra oo Xs Ps Pa Gs Ga Ns Na Qs_7 Qa_8 Ks Ka Ls La Ts Ta os)) (va_runV (As := [.int a0, .int v48]) (rest := []) ⟨hx, hb, hml, hown, hts⟩ (c_X3_append l D cI cB cO Qo Qp Qs Qa a0 v48 _ _ _ _ g9) (cwV 2 hts gX5_see_X3_append rfl rfl rfl kV_X3_append ⟨Nat.le_trans (Nat.le_of_ble_eq_true rfl) hRf, Nat.le_trans (Nat.le_of_ble_eq_true rfl) hRl⟩) (zpreV hK hP hD hS hE hFc [9, 10, 11] (zC_46 (cI := cI) (cB := cB) (cO := cO)) rfl 9 (ci := 3) rfl rfl [.int a0, .int v48]) rfl rfl hl.1 rfl (lv_room (Nat.le_of_ble_eq_true rfl)) dX5_see_57 ⟨Nat.zero_le _, Nat.zero_le _⟩) hS hFc (fun H1 t h1 h2 h3 => zM_46 (cI := cI) (cB := cB) (cO := cO) hP hD h1 h2 h3) (fun H locs hP hD hS => ?_)
          clear hFc
          refine lv_if_eq (tgt := 73) hx hb dX5_see_60 (by decide) (fun c10 => ?_) (fun c10 => ?_)
          · have h := zif_t c10 h
            refine lv_bipush (v := (-104 : Int32)) hx hb dX5_see_73 (by decide) ?_
            cases zend h
            exact hq hP hD hS dX5_see_75
          · have h := zif_f c10 h
            refine lv_aload_n hx hb dX5_see_63 rfl (lv_at hl 1 rfl) ?_
            refine va_get (D := D) (ci := 5) (v := .ref Qo) (C := RX5) (T := TX5) (N := 13) hx hb hts inX5 hown hK hP 0 rfl rfl 3 (by decide) lk35 (fun _ h9 => h9) rfl dX5_see_64 ?_
            refine va_getN (D := D) (ci := 3) (v := .int (Qs_7 2)) (C := RX3) (T := TX3) (N := 3) hx hb hts inX3 hown hK hP 9 rfl rfl 2 (by decide) lk87 (fun _ h9 => h9) rfl dX5_see_67 ?_
            refine lv_goto (tgt := 75) hx hb dX5_see_70 (by decide) ?_
            cases zend h
            exact hq hP hD hS dX5_see_75
        clear h
        have h := j11
        clear j11
        refine lv_if_eq (tgt := 38) hx hb dX5_see_27 (by decide) (fun c12 => ?_) (fun c12 => ?_)
        · have h := zif_t c12 h
          refine lv_bipush (v := (31 : Int32)) hx hb dX5_see_38 (by decide) ?_
          refine va_gets hx hb zzWHO_COULD hS hown lk203 (fun _ h9 => h9) dX5_see_40 ?_
          refine lv_iload_n hx hb dX5_see_43 rfl (lv_at hl 2 rfl) ?_
          obtain ⟨z13, h⟩ := zck_s h
          refine va_ti (v := .int (zWC (a1).toNatClampNeg)) hx hb ztWHO_COULD hS (zin_s z13) rfl dX5_see_44 ?_
          refine lv_iconst (v := (-1 : Int32)) hx hb dX5_see_45 (by decide) ?_
          refine lv_ixor hx hb dX5_see_46 ?_
          refine lv_iand hx hb dX5_see_47 ?_
          cases zend h
          exact K48 _ _ _ hP hD hS (lv_sub hl [0, 1] rfl)
        · have h := zif_f c12 h
          refine va_gets hx hb zzWHO_COULD hS hown lk203 (fun _ h9 => h9) dX5_see_30 ?_
          refine lv_iload_n hx hb dX5_see_33 rfl (lv_at hl 2 rfl) ?_
          obtain ⟨z14, h⟩ := zck_s h
          refine va_ti (v := .int (zWC (a1).toNatClampNeg)) hx hb ztWHO_COULD hS (zin_s z14) rfl dX5_see_34 ?_
          refine lv_goto (tgt := 48) hx hb dX5_see_35 (by decide) ?_
          cases zend h
          exact K48 _ _ _ hP hD hS (lv_sub hl [0, 1] rfl)
      · have h := zif_f c5 h
        refine lv_bipush (v := (-102 : Int32)) hx hb dX5_see_23 (by decide) ?_
        cases zend h
        exact hq hP hD hS dX5_see_25
  · have h := zif_t c3 h
    refine lv_bipush (v := (-101 : Int32)) hx hb dX5_see_11 (by decide) ?_
    cases zend h
    exact hq hP hD hS dX5_see_13
set_option maxHeartbeats 4000000 in
set_option maxRecDepth 100000 in
theorem c_X5_forget (l : Launch) (D : va_G) (cI cB cO : ClassId) (Xo : Nat) (Po : Nat) (Pp : Nat → Nat) (Go : Nat) (Gp : Nat → Nat) (No : Nat) (Np : Nat → Nat) (Qo : Nat) (Qp : Nat → Nat) (Ko : Nat) (Kp : Nat → Nat) (Lo : Nat) (Lp : Nat → Nat) (To : Nat) (Tp : Nat → Nat) (ra : Nat) (oo : Nat → Nat) (Xs : Nat → Int32) (Ps : Nat → Int32) (Pa : Nat → Nat → Int32) (Gs : Nat → Int32) (Ga : Nat → Nat → Int32) (Ns : Nat → Int32) (Na : Nat → Nat → Int32) (Qs : Nat → Int32) (Qa : Nat → Nat → Int32) (Ks : Nat → Int32) (Ka : Nat → Nat → Int32) (Ls : Nat → Int32) (La : Nat → Nat → Int32) (Ts : Nat → Int32) (Ta : Nat → Nat → Int32) (os : Nat → Nat → Int32)  (rv : Int32) (Qs' : Nat → Int32) (sz : Nat) (h : fX5_forget Qs = some (rv, Qs')) : Met l yX5_forget wsX5_forget ({ frames := 0, cells := 0, slots := 0, locals := 0 } : Room) (va_Pc [.ref Xo] (zPre D (zTY cI cB cO) (zfXW cI cO Xo Po Pp Go Gp No Np Qo Qp Ko Kp Lo Lp To Tp ra oo Xs Ps Pa Gs Ga Ns Na Qs Qa Ks Ka Ls La Ts Ta os) sz)) (va_Qi (fun r (_ : Unit) => r = rv) (fun _ => zPost D (zTY cI cB cO) (zfXW cI cO Xo Po Pp Go Gp No Np Qo Qp Ko Kp Lo Lp To Tp ra oo Xs Ps Pa Gs Ga Ns Na Qs' Qa Ks Ka Ls La Ts Ta os) (va_A (zfXW cI cO Xo Po Pp Go Gp No Np Qo Qp Ko Kp Lo Lp To Tp ra oo Xs Ps Pa Gs Ga Ns Na Qs Qa Ks Ka Ls La Ts Ta os) sz)) (va_A (zfXW cI cO Xo Po Pp Go Gp No Np Qo Qp Ko Kp Lo Lp To Tp ra oo Xs Ps Pa Gs Ga Ns Na Qs Qa Ks Ka Ls La Ts Ta os) sz)) 0 0 (va_A (zfXW cI cO Xo Po Pp Go Gp No Np Qo Qp Ko Kp Lo Lp To Tp ra oo Xs Ps Pa Gs Ga Ns Na Qs Qa Ks Ka Ls La Ts Ta os) sz) := by
  unfold fX5_forget at h
  refine zmet_i (cc := cX5_forget) (maxL := 2) (by decide) rfl (Nat.le_of_ble_eq_true rfl) rfl rfl ?_
  intro p e s m args below meth c R Q A ls hx hb hts hown hml hK hP hD hE hA hS hRf hRl hl hq
  have hown : s.vm.findClass RX5 = some m.cls := hown
  have hl : lv_has ls 2 [(0, .ref Xo)] := hl
  have inX5 : ∀ w ∈ u_ws RX5 TX5 13, w ∈ wsX5_forget := by decide +kernel
  have lk35 : (Cond.fieldLink RX5 35 "PegField" "seen" "LPegField$Seen;").before args s = true := hts _ (by decide +kernel)
  have inX3 : ∀ w ∈ u_ws RX3 TX3 3, w ∈ wsX5_forget := by decide +kernel
  have lk87 : (Cond.fieldLinkNest RX5 87 "PegField$Seen" "size" "I" "PegField").before args s = true := hE.2.use (by decide +kernel)
  refine lv_aload_n hx hb dX5_forget_0 rfl (lv_at hl 0 rfl) ?_
  refine va_get (D := D) (ci := 5) (v := .ref Qo) (C := RX5) (T := TX5) (N := 13) hx hb hts inX5 hown hK hP 0 rfl rfl 3 (by decide) lk35 (fun _ h9 => h9) rfl dX5_forget_1 ?_
  refine va_getN (D := D) (ci := 3) (v := .int (Qs 2)) (C := RX3) (T := TX3) (N := 3) hx hb hts inX3 hown hK hP 9 rfl rfl 2 (by decide) lk87 (fun _ h9 => h9) rfl dX5_forget_4 ?_
  refine lv_topi (fun x1_1 ex1_1 => ?_)
  have h := zlt_s h ex1_1
  refine lv_istore_n (lv' := [(1, .int x1_1), (0, .ref Xo)]) hx hb dX5_forget_7 rfl hl (by decide) rfl (fun ls hl => ?_)
  refine lv_aload_n hx hb dX5_forget_8 rfl (lv_at hl 1 rfl) ?_
  refine va_get (D := D) (ci := 5) (v := .ref Qo) (C := RX5) (T := TX5) (N := 13) hx hb hts inX5 hown hK hP 0 rfl rfl 3 (by decide) lk35 (fun _ h9 => h9) rfl dX5_forget_9 ?_
  refine lv_iconst (v := (0 : Int32)) hx hb dX5_forget_12 (by decide) ?_
  refine va_putN (D := D) (ci := 3) (v := .int (0 : Int32)) (ty := .int) (C := RX3) (T := TX3) (N := 3) hx hb hts inX3 tyX3 tyX3_ok nmX3 hown hK hP hD hS 9 rfl rfl 2 (by decide) lk87 (fun _ h9 => h9) rfl (by decide +kernel) rfl rfl (Nat.le_of_ble_eq_true rfl) dX5_forget_13 (fun H locs hP hD hS => ?_)
  have hset : ∀ v9 : Int32, (zfXW cI cO Xo Po Pp Go Gp No Np Qo Qp Ko Kp Lo Lp To Tp ra oo Xs Ps Pa Gs Ga Ns Na Qs Qa Ks Ka Ls La Ts Ta os).set 9 (Qo, .inr (3, ([.ref (Qp 0), .ref (Qp 1), .int (Qs 2)] : List Value).set 2 (.int v9))) = (zfXW cI cO Xo Po Pp Go Gp No Np Qo Qp Ko Kp Lo Lp To Tp ra oo Xs Ps Pa Gs Ga Ns Na (upd Qs 2 v9) Qa Ks Ka Ls La Ts Ta os) := fun _ => rfl
  obtain ⟨Qs_2, eQs_2, hP, hD⟩ : ∃ y9, y9 = (upd Qs 2 (0 : Int32)) ∧ va_P D vwCl (zfXW cI cO Xo Po Pp Go Gp No Np Qo Qp Ko Kp Lo Lp To Tp ra oo Xs Ps Pa Gs Ga Ns Na y9 Qa Ks Ka Ls La Ts Ta os) H ∧ va_D A (zfXW cI cO Xo Po Pp Go Gp No Np Qo Qp Ko Kp Lo Lp To Tp ra oo Xs Ps Pa Gs Ga Ns Na y9 Qa Ks Ka Ls La Ts Ta os) := ⟨_, rfl, zsetP (hset _) hP, zsetD (hset _) hD⟩
  have h := zlt_s h eQs_2
  clear hset
  refine lv_iload_n hx hb dX5_forget_16 rfl (lv_at hl 0 rfl) ?_
  cases zend h
  exact hq hP hD hS dX5_forget_17
set_option maxHeartbeats 4000000 in
set_option maxRecDepth 100000 in
theorem c_X5_image (l : Launch) (D : va_G) (cI cB cO : ClassId) (Xo : Nat) (Po : Nat) (Pp : Nat → Nat) (Go : Nat) (Gp : Nat → Nat) (No : Nat) (Np : Nat → Nat) (Qo : Nat) (Qp : Nat → Nat) (Ko : Nat) (Kp : Nat → Nat) (Lo : Nat) (Lp : Nat → Nat) (To : Nat) (Tp : Nat → Nat) (ra : Nat) (oo : Nat → Nat) (Xs : Nat → Int32) (Ps : Nat → Int32) (Pa : Nat → Nat → Int32) (Gs : Nat → Int32) (Ga : Nat → Nat → Int32) (Ns : Nat → Int32) (Na : Nat → Nat → Int32) (Qs : Nat → Int32) (Qa : Nat → Nat → Int32) (Ks : Nat → Int32) (Ka : Nat → Nat → Int32) (Ls : Nat → Int32) (La : Nat → Nat → Int32) (Ts : Nat → Int32) (Ta : Nat → Nat → Int32) (os : Nat → Nat → Int32)  (rv : Int32) (Xs' : Nat → Int32) (Ks' : Nat → Int32) (Ka' : Nat → Nat → Int32) (Ls' : Nat → Int32) (La' : Nat → Nat → Int32) (sz : Nat) (h : fX5_image Xs Ns Na Qs Qa Ks Ka Ls La = some (rv, Xs', Ks', Ka', Ls', La')) : Met l yX5_image wsX5_image ({ frames := 1, cells := 0, slots := 0, locals := 22 } : Room) (va_Pc [.ref Xo] (zPre D (zTY cI cB cO) (zfXW cI cO Xo Po Pp Go Gp No Np Qo Qp Ko Kp Lo Lp To Tp ra oo Xs Ps Pa Gs Ga Ns Na Qs Qa Ks Ka Ls La Ts Ta os) sz)) (va_Qi (fun r (_ : Unit) => r = rv) (fun _ => zPost D (zTY cI cB cO) (zfXW cI cO Xo Po Pp Go Gp No Np Qo Qp Ko Kp Lo Lp To Tp ra oo Xs' Ps Pa Gs Ga Ns Na Qs Qa Ks' Ka' Ls' La' Ts Ta os) (va_A (zfXW cI cO Xo Po Pp Go Gp No Np Qo Qp Ko Kp Lo Lp To Tp ra oo Xs Ps Pa Gs Ga Ns Na Qs Qa Ks Ka Ls La Ts Ta os) sz)) (va_A (zfXW cI cO Xo Po Pp Go Gp No Np Qo Qp Ko Kp Lo Lp To Tp ra oo Xs Ps Pa Gs Ga Ns Na Qs Qa Ks Ka Ls La Ts Ta os) sz)) 0 0 (va_A (zfXW cI cO Xo Po Pp Go Gp No Np Qo Qp Ko Kp Lo Lp To Tp ra oo Xs Ps Pa Gs Ga Ns Na Qs Qa Ks Ka Ls La Ts Ta os) sz) := by
  unfold fX5_image at h
  refine zmet_i (cc := cX5_image) (maxL := 1) (by decide) rfl (Nat.le_of_ble_eq_true rfl) rfl rfl ?_
  intro p e s m args below meth c R Q A ls hx hb hts hown hml hK hP hD hE hA hS hRf hRl hl hq
  have hown : s.vm.findClass RX5 = some m.cls := hown
  have hl : lv_has ls 1 [(0, .ref Xo)] := hl
  have inX5 : ∀ w ∈ u_ws RX5 TX5 13, w ∈ wsX5_image := by decide +kernel
  have lk95 : (Cond.fieldLink RX5 95 "PegField" "reads" "I").before args s = true := hts _ (by decide +kernel)
  have lk39 : (Cond.fieldLink RX5 39 "PegField" "keptState" "LPegField$State;").before args s = true := hts _ (by decide +kernel)
  have lk28 : (Cond.fieldLink RX5 28 "PegField" "now" "LPegField$State;").before args s = true := hts _ (by decide +kernel)
  have lk42 : (Cond.fieldLink RX5 42 "PegField" "keptSeen" "LPegField$Seen;").before args s = true := hts _ (by decide +kernel)
  have lk35 : (Cond.fieldLink RX5 35 "PegField" "seen" "LPegField$Seen;").before args s = true := hts _ (by decide +kernel)
  have lk88 : (Cond.fieldLink RX5 88 "PegField" "isKept" "Z").before args s = true := hts _ (by decide +kernel)
  have inX4 : ∀ w ∈ u_ws RX4 TX4 8, w ∈ wsX5_image := by decide +kernel
  have lk140 : (Cond.fieldLinkNest RX5 140 "PegField$State" "jumps" "I" "PegField").before args s = true := hE.2.use (by decide +kernel)
  refine lv_aload_n hx hb dX5_image_0 rfl (lv_at hl 0 rfl) ?_
  refine va_get (D := D) (ci := 5) (v := .int (Xs 11)) (C := RX5) (T := TX5) (N := 13) hx hb hts inX5 hown hK hP 0 rfl rfl 11 (by decide) lk95 (fun _ h9 => h9) rfl dX5_image_1 ?_
  refine lv_if_ne (tgt := 10) hx hb dX5_image_4 (by decide) (fun c1 => ?_) (fun c1 => ?_)
  · have h := zif_f c1 h
    refine lv_aload_n hx hb dX5_image_10 rfl (lv_at hl 0 rfl) ?_
    refine va_get (D := D) (ci := 5) (v := .ref Ko) (C := RX5) (T := TX5) (N := 13) hx hb hts inX5 hown hK hP 0 rfl rfl 4 (by decide) lk39 (fun _ h9 => h9) rfl dX5_image_11 ?_
    refine lv_aload_n hx hb dX5_image_14 rfl (lv_at hl 0 rfl) ?_
    refine va_get (D := D) (ci := 5) (v := .ref No) (C := RX5) (T := TX5) (N := 13) hx hb hts inX5 hown hK hP 0 rfl rfl 2 (by decide) lk28 (fun _ h9 => h9) rfl dX5_image_15 ?_
    obtain ⟨Ss_2, Sa_3, g4, h⟩ := zb2_s h
    have hFc := va_free (wc := (zfSS cI cO Ko Kp Go No Np Ks Ka Ns Na)) hD hS hA [12, 13, 14, 15, 5, 6, 7, 8] (zC_48 (cI := cI) (cB := cB) (cO := cO))
    refine zcm_v (w2 := (zfXW cI cO Xo Po Pp Go Gp No Np Qo Qp Ko Kp Lo Lp To Tp ra oo Xs Ps Pa Gs Ga Ns Na Qs Qa Ss_2 Sa_3 Ls La Ts Ta os)) (va_runV (As := [.ref No]) (rest := []) ⟨hx, hb, hml, hown, hts⟩ (c_X4_copyFrom l D cI cB cO Ko Kp Go No Np Ks Ka Ns Na _ _ _ g4) (cwV 1 hts gX5_image_X4_copyFrom rfl rfl rfl kV_X4_copyFrom ⟨Nat.le_trans (Nat.le_of_ble_eq_true rfl) hRf, Nat.le_trans (Nat.le_of_ble_eq_true rfl) hRl⟩) (zpreV hK hP hD hS hE hFc [12, 13, 14, 15, 5, 6, 7, 8] (zC_48 (cI := cI) (cB := cB) (cO := cO)) rfl 12 (ci := 4) rfl rfl [.ref No]) rfl rfl hl.1 rfl (lv_room (Nat.le_of_ble_eq_true rfl)) dX5_image_18 ⟨Nat.zero_le _, Nat.zero_le _⟩) hS hFc (fun H1 t h1 h2 h3 => zM_48 (cI := cI) (cB := cB) (cO := cO) hP hD h1 h2 h3) (fun H locs hP hD hS => ?_)
    clear hFc
    refine lv_aload_n hx hb dX5_image_21 rfl (lv_at hl 0 rfl) ?_
    refine va_get (D := D) (ci := 5) (v := .ref Lo) (C := RX5) (T := TX5) (N := 13) hx hb hts inX5 hown hK hP 0 rfl rfl 5 (by decide) lk42 (fun _ h9 => h9) rfl dX5_image_22 ?_
    refine lv_aload_n hx hb dX5_image_25 rfl (lv_at hl 0 rfl) ?_
    refine va_get (D := D) (ci := 5) (v := .ref Qo) (C := RX5) (T := TX5) (N := 13) hx hb hts inX5 hown hK hP 0 rfl rfl 3 (by decide) lk35 (fun _ h9 => h9) rfl dX5_image_26 ?_
    obtain ⟨Qs_5, Qa_6, g7, h⟩ := zb2_s h
    have hFc := va_free (wc := (zfQQ cI cO Lo Lp Qo Qp Ls La Qs Qa)) hD hS hA [16, 17, 18, 9, 10, 11] (zC_49 (cI := cI) (cB := cB) (cO := cO))
    refine zcm_v (w2 := (zfXW cI cO Xo Po Pp Go Gp No Np Qo Qp Ko Kp Lo Lp To Tp ra oo Xs Ps Pa Gs Ga Ns Na Qs Qa Ss_2 Sa_3 Qs_5 Qa_6 Ts Ta os)) (va_runV (As := [.ref Qo]) (rest := []) ⟨hx, hb, hml, hown, hts⟩ (c_X3_copyFrom l D cI cB cO Lo Lp Qo Qp Ls La Qs Qa _ _ _ g7) (cwV 1 hts gX5_image_X3_copyFrom rfl rfl rfl kV_X3_copyFrom ⟨Nat.le_trans (Nat.le_of_ble_eq_true rfl) hRf, Nat.le_trans (Nat.le_of_ble_eq_true rfl) hRl⟩) (zpreV hK hP hD hS hE hFc [16, 17, 18, 9, 10, 11] (zC_49 (cI := cI) (cB := cB) (cO := cO)) rfl 16 (ci := 3) rfl rfl [.ref Qo]) rfl rfl hl.1 rfl (lv_room (Nat.le_of_ble_eq_true rfl)) dX5_image_29 ⟨Nat.zero_le _, Nat.zero_le _⟩) hS hFc (fun H1 t h1 h2 h3 => zM_49 (cI := cI) (cB := cB) (cO := cO) hP hD h1 h2 h3) (fun H locs hP hD hS => ?_)
    clear hFc
    refine lv_aload_n hx hb dX5_image_32 rfl (lv_at hl 0 rfl) ?_
    refine lv_iconst (v := (1 : Int32)) hx hb dX5_image_33 (by decide) ?_
    refine va_put (D := D) (ci := 5) (v := .int (1 : Int32)) (ty := .boolean) (C := RX5) (T := TX5) (N := 13) hx hb hts inX5 tyX5 tyX5_ok nmX5 hown hK hP hD hS 0 rfl rfl 6 (by decide) lk88 (fun _ h9 => h9) rfl (by decide +kernel) (by decide) (by decide) (Nat.le_of_ble_eq_true rfl) dX5_image_34 (fun H locs hP hD hS => ?_)
    have hset : ∀ v9 : Int32, (zfXW cI cO Xo Po Pp Go Gp No Np Qo Qp Ko Kp Lo Lp To Tp ra oo Xs Ps Pa Gs Ga Ns Na Qs Qa Ss_2 Sa_3 Qs_5 Qa_6 Ts Ta os).set 0 (Xo, .inr (5, ([.ref Po, .ref Go, .ref No, .ref Qo, .ref Ko, .ref Lo, .int (Xs 6), .ref To, .ref (oo 0), .ref ra, .int (Xs 10), .int (Xs 11), .int (Xs 12)] : List Value).set 6 (.int v9))) = (zfXW cI cO Xo Po Pp Go Gp No Np Qo Qp Ko Kp Lo Lp To Tp ra oo (upd Xs 6 v9) Ps Pa Gs Ga Ns Na Qs Qa Ss_2 Sa_3 Qs_5 Qa_6 Ts Ta os) := fun _ => rfl
    obtain ⟨Xs_8, eXs_8, hP, hD⟩ : ∃ y9, y9 = (upd Xs 6 (1 : Int32)) ∧ va_P D vwCl (zfXW cI cO Xo Po Pp Go Gp No Np Qo Qp Ko Kp Lo Lp To Tp ra oo y9 Ps Pa Gs Ga Ns Na Qs Qa Ss_2 Sa_3 Qs_5 Qa_6 Ts Ta os) H ∧ va_D A (zfXW cI cO Xo Po Pp Go Gp No Np Qo Qp Ko Kp Lo Lp To Tp ra oo y9 Ps Pa Gs Ga Ns Na Qs Qa Ss_2 Sa_3 Qs_5 Qa_6 Ts Ta os) := ⟨_, rfl, zsetP (hset _) hP, zsetD (hset _) hD⟩
    have h := zlt_s h eXs_8
    clear hset
    refine lv_aload_n hx hb dX5_image_37 rfl (lv_at hl 0 rfl) ?_
    refine va_get (D := D) (ci := 5) (v := .ref No) (C := RX5) (T := TX5) (N := 13) hx hb hts inX5 hown hK hP 0 rfl rfl 2 (by decide) lk28 (fun _ h9 => h9) rfl dX5_image_38 ?_
    refine va_getN (D := D) (ci := 4) (v := .int (Ns 4)) (C := RX4) (T := TX4) (N := 8) hx hb hts inX4 hown hK hP 5 rfl rfl 4 (by decide) lk140 (fun _ h9 => h9) rfl dX5_image_41 ?_
    cases zend h
    exact hq hP hD hS dX5_image_44
  · have h := zif_t c1 h
    refine lv_bipush (v := (-103 : Int32)) hx hb dX5_image_7 (by decide) ?_
    cases zend h
    exact hq hP hD hS dX5_image_9
set_option maxHeartbeats 4000000 in
set_option maxRecDepth 100000 in
theorem c_X5_restore (l : Launch) (D : va_G) (cI cB cO : ClassId) (Xo : Nat) (Po : Nat) (Pp : Nat → Nat) (Go : Nat) (Gp : Nat → Nat) (No : Nat) (Np : Nat → Nat) (Qo : Nat) (Qp : Nat → Nat) (Ko : Nat) (Kp : Nat → Nat) (Lo : Nat) (Lp : Nat → Nat) (To : Nat) (Tp : Nat → Nat) (ra : Nat) (oo : Nat → Nat) (Xs : Nat → Int32) (Ps : Nat → Int32) (Pa : Nat → Nat → Int32) (Gs : Nat → Int32) (Ga : Nat → Nat → Int32) (Ns : Nat → Int32) (Na : Nat → Nat → Int32) (Qs : Nat → Int32) (Qa : Nat → Nat → Int32) (Ks : Nat → Int32) (Ka : Nat → Nat → Int32) (Ls : Nat → Int32) (La : Nat → Nat → Int32) (Ts : Nat → Int32) (Ta : Nat → Nat → Int32) (os : Nat → Nat → Int32)  (rv : Int32) (Xs' : Nat → Int32) (Ns' : Nat → Int32) (Na' : Nat → Nat → Int32) (Qs' : Nat → Int32) (Qa' : Nat → Nat → Int32) (sz : Nat) (h : fX5_restore Xs Ns Na Qs Qa Ks Ka Ls La = some (rv, Xs', Ns', Na', Qs', Qa')) : Met l yX5_restore wsX5_restore ({ frames := 1, cells := 0, slots := 0, locals := 22 } : Room) (va_Pc [.ref Xo] (zPre D (zTY cI cB cO) (zfXW cI cO Xo Po Pp Go Gp No Np Qo Qp Ko Kp Lo Lp To Tp ra oo Xs Ps Pa Gs Ga Ns Na Qs Qa Ks Ka Ls La Ts Ta os) sz)) (va_Qi (fun r (_ : Unit) => r = rv) (fun _ => zPost D (zTY cI cB cO) (zfXW cI cO Xo Po Pp Go Gp No Np Qo Qp Ko Kp Lo Lp To Tp ra oo Xs' Ps Pa Gs Ga Ns' Na' Qs' Qa' Ks Ka Ls La Ts Ta os) (va_A (zfXW cI cO Xo Po Pp Go Gp No Np Qo Qp Ko Kp Lo Lp To Tp ra oo Xs Ps Pa Gs Ga Ns Na Qs Qa Ks Ka Ls La Ts Ta os) sz)) (va_A (zfXW cI cO Xo Po Pp Go Gp No Np Qo Qp Ko Kp Lo Lp To Tp ra oo Xs Ps Pa Gs Ga Ns Na Qs Qa Ks Ka Ls La Ts Ta os) sz)) 0 0 (va_A (zfXW cI cO Xo Po Pp Go Gp No Np Qo Qp Ko Kp Lo Lp To Tp ra oo Xs Ps Pa Gs Ga Ns Na Qs Qa Ks Ka Ls La Ts Ta os) sz) := by
  unfold fX5_restore at h
  refine zmet_i (cc := cX5_restore) (maxL := 1) (by decide) rfl (Nat.le_of_ble_eq_true rfl) rfl rfl ?_
  intro p e s m args below meth c R Q A ls hx hb hts hown hml hK hP hD hE hA hS hRf hRl hl hq
  have hown : s.vm.findClass RX5 = some m.cls := hown
  have hl : lv_has ls 1 [(0, .ref Xo)] := hl
  have inX5 : ∀ w ∈ u_ws RX5 TX5 13, w ∈ wsX5_restore := by decide +kernel
  have lk88 : (Cond.fieldLink RX5 88 "PegField" "isKept" "Z").before args s = true := hts _ (by decide +kernel)
  have lk28 : (Cond.fieldLink RX5 28 "PegField" "now" "LPegField$State;").before args s = true := hts _ (by decide +kernel)
  have lk39 : (Cond.fieldLink RX5 39 "PegField" "keptState" "LPegField$State;").before args s = true := hts _ (by decide +kernel)
  have lk35 : (Cond.fieldLink RX5 35 "PegField" "seen" "LPegField$Seen;").before args s = true := hts _ (by decide +kernel)
  have lk42 : (Cond.fieldLink RX5 42 "PegField" "keptSeen" "LPegField$Seen;").before args s = true := hts _ (by decide +kernel)
  have lk92 : (Cond.fieldLink RX5 92 "PegField" "isLooked" "Z").before args s = true := hts _ (by decide +kernel)
  have inX4 : ∀ w ∈ u_ws RX4 TX4 8, w ∈ wsX5_restore := by decide +kernel
  have lk140 : (Cond.fieldLinkNest RX5 140 "PegField$State" "jumps" "I" "PegField").before args s = true := hE.2.use (by decide +kernel)
  refine lv_aload_n hx hb dX5_restore_0 rfl (lv_at hl 0 rfl) ?_
  refine va_get (D := D) (ci := 5) (v := .int (Xs 6)) (C := RX5) (T := TX5) (N := 13) hx hb hts inX5 hown hK hP 0 rfl rfl 6 (by decide) lk88 (fun _ h9 => h9) rfl dX5_restore_1 ?_
  refine lv_if_ne (tgt := 10) hx hb dX5_restore_4 (by decide) (fun c1 => ?_) (fun c1 => ?_)
  · have h := zif_f c1 h
    refine lv_aload_n hx hb dX5_restore_10 rfl (lv_at hl 0 rfl) ?_
    refine va_get (D := D) (ci := 5) (v := .ref No) (C := RX5) (T := TX5) (N := 13) hx hb hts inX5 hown hK hP 0 rfl rfl 2 (by decide) lk28 (fun _ h9 => h9) rfl dX5_restore_11 ?_
    refine lv_aload_n hx hb dX5_restore_14 rfl (lv_at hl 0 rfl) ?_
    refine va_get (D := D) (ci := 5) (v := .ref Ko) (C := RX5) (T := TX5) (N := 13) hx hb hts inX5 hown hK hP 0 rfl rfl 4 (by decide) lk39 (fun _ h9 => h9) rfl dX5_restore_15 ?_
    obtain ⟨Ss_2, Sa_3, g4, h⟩ := zb2_s h
    have hFc := va_free (wc := (zfSS cI cO No Np Go Ko Kp Ns Na Ks Ka)) hD hS hA [5, 6, 7, 8, 12, 13, 14, 15] (zC_50 (cI := cI) (cB := cB) (cO := cO))
    refine zcm_v (w2 := (zfXW cI cO Xo Po Pp Go Gp No Np Qo Qp Ko Kp Lo Lp To Tp ra oo Xs Ps Pa Gs Ga Ss_2 Sa_3 Qs Qa Ks Ka Ls La Ts Ta os)) (va_runV (As := [.ref Ko]) (rest := []) ⟨hx, hb, hml, hown, hts⟩ (c_X4_copyFrom l D cI cB cO No Np Go Ko Kp Ns Na Ks Ka _ _ _ g4) (cwV 1 hts gX5_restore_X4_copyFrom rfl rfl rfl kV_X4_copyFrom ⟨Nat.le_trans (Nat.le_of_ble_eq_true rfl) hRf, Nat.le_trans (Nat.le_of_ble_eq_true rfl) hRl⟩) (zpreV hK hP hD hS hE hFc [5, 6, 7, 8, 12, 13, 14, 15] (zC_50 (cI := cI) (cB := cB) (cO := cO)) rfl 5 (ci := 4) rfl rfl [.ref Ko]) rfl rfl hl.1 rfl (lv_room (Nat.le_of_ble_eq_true rfl)) dX5_restore_18 ⟨Nat.zero_le _, Nat.zero_le _⟩) hS hFc (fun H1 t h1 h2 h3 => zM_50 (cI := cI) (cB := cB) (cO := cO) hP hD h1 h2 h3) (fun H locs hP hD hS => ?_)
    clear hFc
    refine lv_aload_n hx hb dX5_restore_21 rfl (lv_at hl 0 rfl) ?_
    refine va_get (D := D) (ci := 5) (v := .ref Qo) (C := RX5) (T := TX5) (N := 13) hx hb hts inX5 hown hK hP 0 rfl rfl 3 (by decide) lk35 (fun _ h9 => h9) rfl dX5_restore_22 ?_
    refine lv_aload_n hx hb dX5_restore_25 rfl (lv_at hl 0 rfl) ?_
    refine va_get (D := D) (ci := 5) (v := .ref Lo) (C := RX5) (T := TX5) (N := 13) hx hb hts inX5 hown hK hP 0 rfl rfl 5 (by decide) lk42 (fun _ h9 => h9) rfl dX5_restore_26 ?_
    obtain ⟨Qs_5, Qa_6, g7, h⟩ := zb2_s h
    have hFc := va_free (wc := (zfQQ cI cO Qo Qp Lo Lp Qs Qa Ls La)) hD hS hA [9, 10, 11, 16, 17, 18] (zC_51 (cI := cI) (cB := cB) (cO := cO))
    refine zcm_v (w2 := (zfXW cI cO Xo Po Pp Go Gp No Np Qo Qp Ko Kp Lo Lp To Tp ra oo Xs Ps Pa Gs Ga Ss_2 Sa_3 Qs_5 Qa_6 Ks Ka Ls La Ts Ta os)) (va_runV (As := [.ref Lo]) (rest := []) ⟨hx, hb, hml, hown, hts⟩ (c_X3_copyFrom l D cI cB cO Qo Qp Lo Lp Qs Qa Ls La _ _ _ g7) (cwV 1 hts gX5_restore_X3_copyFrom rfl rfl rfl kV_X3_copyFrom ⟨Nat.le_trans (Nat.le_of_ble_eq_true rfl) hRf, Nat.le_trans (Nat.le_of_ble_eq_true rfl) hRl⟩) (zpreV hK hP hD hS hE hFc [9, 10, 11, 16, 17, 18] (zC_51 (cI := cI) (cB := cB) (cO := cO)) rfl 9 (ci := 3) rfl rfl [.ref Lo]) rfl rfl hl.1 rfl (lv_room (Nat.le_of_ble_eq_true rfl)) dX5_restore_29 ⟨Nat.zero_le _, Nat.zero_le _⟩) hS hFc (fun H1 t h1 h2 h3 => zM_51 (cI := cI) (cB := cB) (cO := cO) hP hD h1 h2 h3) (fun H locs hP hD hS => ?_)
    clear hFc
    refine lv_aload_n hx hb dX5_restore_32 rfl (lv_at hl 0 rfl) ?_
    refine lv_iconst (v := (0 : Int32)) hx hb dX5_restore_33 (by decide) ?_
    refine va_put (D := D) (ci := 5) (v := .int (0 : Int32)) (ty := .boolean) (C := RX5) (T := TX5) (N := 13) hx hb hts inX5 tyX5 tyX5_ok nmX5 hown hK hP hD hS 0 rfl rfl 10 (by decide) lk92 (fun _ h9 => h9) rfl (by decide +kernel) (by decide) (by decide) (Nat.le_of_ble_eq_true rfl) dX5_restore_34 (fun H locs hP hD hS => ?_)
    have hset : ∀ v9 : Int32, (zfXW cI cO Xo Po Pp Go Gp No Np Qo Qp Ko Kp Lo Lp To Tp ra oo Xs Ps Pa Gs Ga Ss_2 Sa_3 Qs_5 Qa_6 Ks Ka Ls La Ts Ta os).set 0 (Xo, .inr (5, ([.ref Po, .ref Go, .ref No, .ref Qo, .ref Ko, .ref Lo, .int (Xs 6), .ref To, .ref (oo 0), .ref ra, .int (Xs 10), .int (Xs 11), .int (Xs 12)] : List Value).set 10 (.int v9))) = (zfXW cI cO Xo Po Pp Go Gp No Np Qo Qp Ko Kp Lo Lp To Tp ra oo (upd Xs 10 v9) Ps Pa Gs Ga Ss_2 Sa_3 Qs_5 Qa_6 Ks Ka Ls La Ts Ta os) := fun _ => rfl
    obtain ⟨Xs_8, eXs_8, hP, hD⟩ : ∃ y9, y9 = (upd Xs 10 (0 : Int32)) ∧ va_P D vwCl (zfXW cI cO Xo Po Pp Go Gp No Np Qo Qp Ko Kp Lo Lp To Tp ra oo y9 Ps Pa Gs Ga Ss_2 Sa_3 Qs_5 Qa_6 Ks Ka Ls La Ts Ta os) H ∧ va_D A (zfXW cI cO Xo Po Pp Go Gp No Np Qo Qp Ko Kp Lo Lp To Tp ra oo y9 Ps Pa Gs Ga Ss_2 Sa_3 Qs_5 Qa_6 Ks Ka Ls La Ts Ta os) := ⟨_, rfl, zsetP (hset _) hP, zsetD (hset _) hD⟩
    have h := zlt_s h eXs_8
    clear hset
    refine lv_aload_n hx hb dX5_restore_37 rfl (lv_at hl 0 rfl) ?_
    refine va_get (D := D) (ci := 5) (v := .ref No) (C := RX5) (T := TX5) (N := 13) hx hb hts inX5 hown hK hP 0 rfl rfl 2 (by decide) lk28 (fun _ h9 => h9) rfl dX5_restore_38 ?_
    refine va_getN (D := D) (ci := 4) (v := .int (Ss_2 4)) (C := RX4) (T := TX4) (N := 8) hx hb hts inX4 hown hK hP 5 rfl rfl 4 (by decide) lk140 (fun _ h9 => h9) rfl dX5_restore_41 ?_
    cases zend h
    exact hq hP hD hS dX5_restore_44
  · have h := zif_t c1 h
    refine lv_bipush (v := (-103 : Int32)) hx hb dX5_restore_7 (by decide) ?_
    cases zend h
    exact hq hP hD hS dX5_restore_9
