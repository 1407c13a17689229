set_option maxHeartbeats 4000000 in
set_option maxRecDepth 100000 in
theorem c_X5_lookAhead (l : Launch) (D : va_G) (cI cB cO : ClassId) (Xo : Nat) (Po : Nat) (Pp : Nat → Nat) (Go : Nat) (Gp : Nat → Nat) (No : Nat) (Np : Nat → Nat) (Qo : Nat) (Qp : Nat → Nat) (Ko : Nat) (Kp : Nat → Nat) (Lo : Nat) (Lp : Nat → Nat) (To : Nat) (Tp : Nat → Nat) (ra : Nat) (oo : Nat → Nat) (Xs : Nat → Int32) (Ps : Nat → Int32) (Pa : Nat → Nat → Int32) (Gs : Nat → Int32) (Ga : Nat → Nat → Int32) (Ns : Nat → Int32) (Na : Nat → Nat → Int32) (Qs : Nat → Int32) (Qa : Nat → Nat → Int32) (Ks : Nat → Int32) (Ka : Nat → Nat → Int32) (Ls : Nat → Int32) (La : Nat → Nat → Int32) (Ts : Nat → Int32) (Ta : Nat → Nat → Int32) (os : Nat → Nat → Int32)  (Xs' : Nat → Int32) (Ts' : Nat → Int32) (Ta' : Nat → Nat → Int32) (os' : Nat → Nat → Int32) (sz : Nat) (h : fX5_lookAhead Xs Gs Ga Ns Na Ts Ta os = some (Xs', Ts', Ta', os')) : Met l yX5_lookAhead wsX5_lookAhead ({ frames := 12, cells := 0, slots := 0, locals := 326 } : Room) (va_Pc [.ref Xo] (zPre D (zTY cI cB cO) (zfXW cI cO Xo Po Pp Go Gp No Np Qo Qp Ko Kp Lo Lp To Tp ra oo Xs Ps Pa Gs Ga Ns Na Qs Qa Ks Ka Ls La Ts Ta os) sz)) (va_Qv (fun (_ : Unit) => True) (fun _ => zPost D (zTY cI cB cO) (zfXW cI cO Xo Po Pp Go Gp No Np Qo Qp Ko Kp Lo Lp To Tp ra oo Xs' Ps Pa Gs Ga Ns Na Qs Qa Ks Ka Ls La Ts' Ta' os') (va_A (zfXW cI cO Xo Po Pp Go Gp No Np Qo Qp Ko Kp Lo Lp To Tp ra oo Xs Ps Pa Gs Ga Ns Na Qs Qa Ks Ka Ls La Ts Ta os) sz)) (va_A (zfXW cI cO Xo Po Pp Go Gp No Np Qo Qp Ko Kp Lo Lp To Tp ra oo Xs Ps Pa Gs Ga Ns Na Qs Qa Ks Ka Ls La Ts Ta os) sz)) 0 0 (va_A (zfXW cI cO Xo Po Pp Go Gp No Np Qo Qp Ko Kp Lo Lp To Tp ra oo Xs Ps Pa Gs Ga Ns Na Qs Qa Ks Ka Ls La Ts Ta os) sz) := by
  unfold fX5_lookAhead at h
  refine zmet_v (cc := cX5_lookAhead) (maxL := 1) (by decide) rfl (Nat.le_of_ble_eq_true rfl) rfl rfl ?_
  intro p e s m args below meth c R Q A ls hx hb hts hown hml hK hP hD hE hA hS hRf hRl hl hq
  have hown : s.vm.findClass RX5 = some m.cls := hown
  have hl : lv_has ls 1 [(0, .ref Xo)] := hl
  have inX5 : ∀ w ∈ u_ws RX5 TX5 13, w ∈ wsX5_lookAhead := by decide +kernel
  have lk92 : (Cond.fieldLink RX5 92 "PegField" "isLooked" "Z").before args s = true := hts _ (by decide +kernel)
  have lk45 : (Cond.fieldLink RX5 45 "PegField" "thought" "LPegField$State;").before args s = true := hts _ (by decide +kernel)
  have lk28 : (Cond.fieldLink RX5 28 "PegField" "now" "LPegField$State;").before args s = true := hts _ (by decide +kernel)
  have lk55 : (Cond.fieldLink RX5 55 "PegField" "outcomes" "[LPegField$Outcome;").before args s = true := hts _ (by decide +kernel)
  refine lv_aload_n hx hb dX5_lookAhead_0 rfl (lv_at hl 0 rfl) ?_
  refine va_get (D := D) (ci := 5) (v := .int (Xs 10)) (C := RX5) (T := TX5) (N := 13) hx hb hts inX5 hown hK hP 0 rfl rfl 10 (by decide) lk92 (fun _ h9 => h9) rfl dX5_lookAhead_1 ?_
  refine lv_if_ne (tgt := 35) hx hb dX5_lookAhead_4 (by decide) (fun c1 => ?_) (fun c1 => ?_)
  · have h := zif_f c1 h
    cases zend h
    exact hq hP hD hS dX5_lookAhead_35
  · have h := zif_t c1 h
    refine lv_aload_n hx hb dX5_lookAhead_7 rfl (lv_at hl 0 rfl) ?_
    refine va_get (D := D) (ci := 5) (v := .ref To) (C := RX5) (T := TX5) (N := 13) hx hb hts inX5 hown hK hP 0 rfl rfl 7 (by decide) lk45 (fun _ h9 => h9) rfl dX5_lookAhead_8 ?_
    refine lv_aload_n hx hb dX5_lookAhead_11 rfl (lv_at hl 0 rfl) ?_
    refine va_get (D := D) (ci := 5) (v := .ref No) (C := RX5) (T := TX5) (N := 13) hx hb hts inX5 hown hK hP 0 rfl rfl 2 (by decide) lk28 (fun _ h9 => h9) rfl dX5_lookAhead_12 ?_
    obtain ⟨Ss_2, Sa_3, g4, h⟩ := zb2_s h
    have hFc := va_free (wc := (zfSS cI cO To Tp Go No Np Ts Ta Ns Na)) hD hS hA [19, 20, 21, 22, 5, 6, 7, 8] (zC_41 (cI := cI) (cB := cB) (cO := cO))
    refine zcm_v (w2 := (zfXW cI cO Xo Po Pp Go Gp No Np Qo Qp Ko Kp Lo Lp To Tp ra oo Xs Ps Pa Gs Ga Ns Na Qs Qa Ks Ka Ls La Ss_2 Sa_3 os)) (va_runV (As := [.ref No]) (rest := []) ⟨hx, hb, hml, hown, hts⟩ (c_X4_copyFrom l D cI cB cO To Tp Go No Np Ts Ta Ns Na _ _ _ g4) (cwV 1 hts gX5_lookAhead_X4_copyFrom rfl rfl rfl kV_X4_copyFrom ⟨Nat.le_trans (Nat.le_of_ble_eq_true rfl) hRf, Nat.le_trans (Nat.le_of_ble_eq_true rfl) hRl⟩) (zpreV hK hP hD hS hE hFc [19, 20, 21, 22, 5, 6, 7, 8] (zC_41 (cI := cI) (cB := cB) (cO := cO)) rfl 19 (ci := 4) rfl rfl [.ref No]) rfl rfl hl.1 rfl (lv_room (Nat.le_of_ble_eq_true rfl)) dX5_lookAhead_15 ⟨Nat.zero_le _, Nat.zero_le _⟩) hS hFc (fun H1 t h1 h2 h3 => zM_41 (cI := cI) (cB := cB) (cO := cO) hP hD h1 h2 h3) (fun H locs hP hD hS => ?_)
    clear hFc
    refine lv_aload_n hx hb dX5_lookAhead_18 rfl (lv_at hl 0 rfl) ?_
    refine va_get (D := D) (ci := 5) (v := .ref To) (C := RX5) (T := TX5) (N := 13) hx hb hts inX5 hown hK hP 0 rfl rfl 7 (by decide) lk45 (fun _ h9 => h9) rfl dX5_lookAhead_19 ?_
    refine lv_aload_n hx hb dX5_lookAhead_22 rfl (lv_at hl 0 rfl) ?_
    refine va_get (D := D) (ci := 5) (v := .ref ra) (C := RX5) (T := TX5) (N := 13) hx hb hts inX5 hown hK hP 0 rfl rfl 9 (by decide) lk55 (fun _ h9 => h9) rfl dX5_lookAhead_23 ?_
    refine lv_iconst (v := (0 : Int32)) hx hb dX5_lookAhead_26 (by decide) ?_
    obtain ⟨Ss_5, Sa_6, os_7, g8, h⟩ := zb3_s h
    have hFc := va_free (wc := (zfLK cI cO To Tp Go Gp ra oo Ss_2 Sa_3 Gs Ga os)) hD hS hA [19, 20, 21, 22, 3, 4, 23, 24, 25, 26, 27, 28, 29, 30, 31, 32] (zC_42 (cI := cI) (cB := cB) (cO := cO))
    refine zcm_v (w2 := (zfXW cI cO Xo Po Pp Go Gp No Np Qo Qp Ko Kp Lo Lp To Tp ra oo Xs Ps Pa Gs Ga Ns Na Qs Qa Ks Ka Ls La Ss_5 Sa_6 os_7)) (va_runS (As := [.ref To, .ref ra, .int (0 : Int32)]) (rest := []) ⟨hx, hb, hml, hown, hts⟩ (c_X5_look_0 l D cI cB cO To Tp Go Gp ra oo Ss_2 Sa_3 Gs Ga os _ _ _ _ g8) (va_cwS 3 hts gX5_lookAhead_X5_look rfl rfl rfl kS_X5_look ⟨Nat.le_trans (Nat.le_of_ble_eq_true rfl) hRf, Nat.le_trans (Nat.le_of_ble_eq_true rfl) hRl⟩) (zpreS hK hP hD hS hE hFc [19, 20, 21, 22, 3, 4, 23, 24, 25, 26, 27, 28, 29, 30, 31, 32] (zC_42 (cI := cI) (cB := cB) (cO := cO)) rfl [.ref To, .ref ra, .int (0 : Int32)]) rfl rfl hl.1 rfl (lv_room (Nat.le_of_ble_eq_true rfl)) dX5_lookAhead_27 ⟨Nat.zero_le _, Nat.zero_le _⟩) hS hFc (fun H1 t h1 h2 h3 => zM_42 (cI := cI) (cB := cB) (cO := cO) hP hD h1 h2 h3) (fun H locs hP hD hS => ?_)
    clear hFc
    refine lv_aload_n hx hb dX5_lookAhead_30 rfl (lv_at hl 0 rfl) ?_
    refine lv_iconst (v := (1 : Int32)) hx hb dX5_lookAhead_31 (by decide) ?_
    refine va_put (D := D) (ci := 5) (v := .int (1 : Int32)) (ty := .boolean) (C := RX5) (T := TX5) (N := 13) hx hb hts inX5 tyX5 tyX5_ok nmX5 hown hK hP hD hS 0 rfl rfl 10 (by decide) lk92 (fun _ h9 => h9) rfl (by decide +kernel) (by decide) (by decide) (Nat.le_of_ble_eq_true rfl) dX5_lookAhead_32 (fun H locs hP hD hS => ?_)
    have hset : ∀ v9 : Int32, (zfXW cI cO Xo Po Pp Go Gp No Np Qo Qp Ko Kp Lo Lp To Tp ra oo Xs Ps Pa Gs Ga Ns Na Qs Qa Ks Ka Ls La Ss_5 Sa_6 os_7).set 0 (Xo, .inr (5, ([.ref Po, .ref Go, .ref No, .ref Qo, .ref Ko, .ref Lo, .int (Xs 6), .ref To, .ref (oo 0), .ref ra, .int (Xs 10), .int (Xs 11), .int (Xs 12)] : List Value).set 10 (.int v9))) = (zfXW cI cO Xo Po Pp Go Gp No Np Qo Qp Ko Kp Lo Lp To Tp ra oo (upd Xs 10 v9) Ps Pa Gs Ga Ns Na Qs Qa Ks Ka Ls La Ss_5 Sa_6 os_7) := fun _ => rfl
    obtain ⟨Xs_9, eXs_9, hP, hD⟩ : ∃ y9, y9 = (upd Xs 10 (1 : Int32)) ∧ va_P D vwCl (zfXW cI cO Xo Po Pp Go Gp No Np Qo Qp Ko Kp Lo Lp To Tp ra oo y9 Ps Pa Gs Ga Ns Na Qs Qa Ks Ka Ls La Ss_5 Sa_6 os_7) H ∧ va_D A (zfXW cI cO Xo Po Pp Go Gp No Np Qo Qp Ko Kp Lo Lp To Tp ra oo y9 Ps Pa Gs Ga Ns Na Qs Qa Ks Ka Ls La Ss_5 Sa_6 os_7) := ⟨_, rfl, zsetP (hset _) hP, zsetD (hset _) hD⟩
    have h := zlt_s h eXs_9
    clear hset
    cases zend h
    exact hq hP hD hS dX5_lookAhead_35
set_option maxHeartbeats 4000000 in
set_option maxRecDepth 100000 in
theorem c_X5_courses (l : Launch) (D : va_G) (cI cB cO : ClassId) (Xo : Nat) (Po : Nat) (Pp : Nat → Nat) (Go : Nat) (Gp : Nat → Nat) (No : Nat) (Np : Nat → Nat) (Qo : Nat) (Qp : Nat → Nat) (Ko : Nat) (Kp : Nat → Nat) (Lo : Nat) (Lp : Nat → Nat) (To : Nat) (Tp : Nat → Nat) (ra : Nat) (oo : Nat → Nat) (Xs : Nat → Int32) (Ps : Nat → Int32) (Pa : Nat → Nat → Int32) (Gs : Nat → Int32) (Ga : Nat → Nat → Int32) (Ns : Nat → Int32) (Na : Nat → Nat → Int32) (Qs : Nat → Int32) (Qa : Nat → Nat → Int32) (Ks : Nat → Int32) (Ka : Nat → Nat → Int32) (Ls : Nat → Int32) (La : Nat → Nat → Int32) (Ts : Nat → Int32) (Ta : Nat → Nat → Int32) (os : Nat → Nat → Int32) (a0 : Int32) (rv : Int32) (Xs' : Nat → Int32) (Ts' : Nat → Int32) (Ta' : Nat → Nat → Int32) (os' : Nat → Nat → Int32) (sz : Nat) (h : fX5_courses Xs Gs Ga Ns Na Ts Ta os a0 = some (rv, Xs', Ts', Ta', os')) : Met l yX5_courses wsX5_courses ({ frames := 13, cells := 0, slots := 0, locals := 346 } : Room) (va_Pc [.ref Xo, .int a0] (zPre D (zTY cI cB cO) (zfXW cI cO Xo Po Pp Go Gp No Np Qo Qp Ko Kp Lo Lp To Tp ra oo Xs Ps Pa Gs Ga Ns Na Qs Qa Ks Ka Ls La Ts Ta os) sz)) (va_Qi (fun r (_ : Unit) => r = rv) (fun _ => zPost D (zTY cI cB cO) (zfXW cI cO Xo Po Pp Go Gp No Np Qo Qp Ko Kp Lo Lp To Tp ra oo Xs' Ps Pa Gs Ga Ns Na Qs Qa Ks Ka Ls La Ts' Ta' os') (va_A (zfXW cI cO Xo Po Pp Go Gp No Np Qo Qp Ko Kp Lo Lp To Tp ra oo Xs Ps Pa Gs Ga Ns Na Qs Qa Ks Ka Ls La Ts Ta os) sz)) (va_A (zfXW cI cO Xo Po Pp Go Gp No Np Qo Qp Ko Kp Lo Lp To Tp ra oo Xs Ps Pa Gs Ga Ns Na Qs Qa Ks Ka Ls La Ts Ta os) sz)) 0 0 (va_A (zfXW cI cO Xo Po Pp Go Gp No Np Qo Qp Ko Kp Lo Lp To Tp ra oo Xs Ps Pa Gs Ga Ns Na Qs Qa Ks Ka Ls La Ts Ta os) sz) := by
  unfold fX5_courses at h
  refine zmet_i (cc := cX5_courses) (maxL := 2) (by decide) rfl (Nat.le_of_ble_eq_true rfl) rfl rfl ?_
  intro p e s m args below meth c R Q A ls hx hb hts hown hml hK hP hD hE hA hS hRf hRl hl hq
  have hown : s.vm.findClass RX5 = some m.cls := hown
  have hl : lv_has ls 2 [(0, .ref Xo), (1, .int a0)] := hl
  have inX5 : ∀ w ∈ u_ws RX5 TX5 13, w ∈ wsX5_courses := by decide +kernel
  have lk95 : (Cond.fieldLink RX5 95 "PegField" "reads" "I").before args s = true := hts _ (by decide +kernel)
  have lk51 : (Cond.fieldLink RX5 51 "PegField" "outlook" "LPegField$Outcome;").before args s = true := hts _ (by decide +kernel)
  have inX1 : ∀ w ∈ u_ws RX1 TX1 9, w ∈ wsX5_courses := by decide +kernel
  have lk173 : (Cond.fieldLinkNest RX5 173 "PegField$Outcome" "fewest" "I" "PegField").before args s = true := hE.2.use (by decide +kernel)
  have lk176 : (Cond.fieldLinkNest RX5 176 "PegField$Outcome" "first" "I" "PegField").before args s = true := hE.2.use (by decide +kernel)
  have lk179 : (Cond.fieldLinkNest RX5 179 "PegField$Outcome" "ways" "I" "PegField").before args s = true := hE.2.use (by decide +kernel)
  have lk182 : (Cond.fieldLinkNest RX5 182 "PegField$Outcome" "longest" "I" "PegField").before args s = true := hE.2.use (by decide +kernel)
  have lk185 : (Cond.fieldLinkNest RX5 185 "PegField$Outcome" "shortest" "I" "PegField").before args s = true := hE.2.use (by decide +kernel)
  have lk188 : (Cond.fieldLinkNest RX5 188 "PegField$Outcome" "alone" "I" "PegField").before args s = true := hE.2.use (by decide +kernel)
  refine lv_iload_n hx hb dX5_courses_0 rfl (lv_at hl 1 rfl) ?_
  refine lv_if_lt (tgt := 9) hx hb dX5_courses_1 (by decide) (fun c1 => ?_) (fun c1 => ?_)
  · have h := zif_t c1 h
    refine lv_bipush (v := (-102 : Int32)) hx hb dX5_courses_9 (by decide) ?_
    cases zend h
    exact hq hP hD hS dX5_courses_11
  · have h := zif_f c1 h
    refine lv_iload_n hx hb dX5_courses_4 rfl (lv_at hl 1 rfl) ?_
    refine lv_iconst (v := (5 : Int32)) hx hb dX5_courses_5 (by decide) ?_
    refine lv_icmp_le (tgt := 12) hx hb dX5_courses_6 (by decide) (fun c2 => ?_) (fun c2 => ?_)
    · have h := zif_t c2 h
      refine lv_aload_n hx hb dX5_courses_12 rfl (lv_at hl 0 rfl) ?_
      refine va_get (D := D) (ci := 5) (v := .int (Xs 11)) (C := RX5) (T := TX5) (N := 13) hx hb hts inX5 hown hK hP 0 rfl rfl 11 (by decide) lk95 (fun _ h9 => h9) rfl dX5_courses_13 ?_
      refine lv_if_ne (tgt := 22) hx hb dX5_courses_16 (by decide) (fun c3 => ?_) (fun c3 => ?_)
      · have h := zif_f c3 h
        refine lv_aload_n hx hb dX5_courses_22 rfl (lv_at hl 0 rfl) ?_
        obtain ⟨Xs_4, Ts_5, Ta_6, os_7, g8, h⟩ := zb4_s h
        have hFc := va_free (wc := (zfXW cI cO Xo Po Pp Go Gp No Np Qo Qp Ko Kp Lo Lp To Tp ra oo Xs Ps Pa Gs Ga Ns Na Qs Qa Ks Ka Ls La Ts Ta os)) hD hS hA [0, 1, 2, 3, 4, 5, 6, 7, 8, 9, 10, 11, 12, 13, 14, 15, 16, 17, 18, 19, 20, 21, 22, 23, 24, 25, 26, 27, 28, 29, 30, 31, 32] (zC_43 (cI := cI) (cB := cB) (cO := cO))
        refine zcm_v (w2 := (zfXW cI cO Xo Po Pp Go Gp No Np Qo Qp Ko Kp Lo Lp To Tp ra oo Xs_4 Ps Pa Gs Ga Ns Na Qs Qa Ks Ka Ls La Ts_5 Ta_6 os_7)) (va_runV (As := []) (rest := []) ⟨hx, hb, hml, hown, hts⟩ (c_X5_lookAhead l D cI cB cO Xo Po Pp Go Gp No Np Qo Qp Ko Kp Lo Lp To Tp ra oo Xs Ps Pa Gs Ga Ns Na Qs Qa Ks Ka Ls La Ts Ta os _ _ _ _ _ g8) (cwV 0 hts gX5_courses_X5_lookAhead rfl rfl rfl kV_X5_lookAhead ⟨Nat.le_trans (Nat.le_of_ble_eq_true rfl) hRf, Nat.le_trans (Nat.le_of_ble_eq_true rfl) hRl⟩) (zpreV hK hP hD hS hE hFc [0, 1, 2, 3, 4, 5, 6, 7, 8, 9, 10, 11, 12, 13, 14, 15, 16, 17, 18, 19, 20, 21, 22, 23, 24, 25, 26, 27, 28, 29, 30, 31, 32] (zC_43 (cI := cI) (cB := cB) (cO := cO)) rfl 0 (ci := 5) rfl rfl []) rfl rfl hl.1 rfl (lv_room (Nat.le_of_ble_eq_true rfl)) dX5_courses_23 ⟨Nat.zero_le _, Nat.zero_le _⟩) hS hFc (fun H1 t h1 h2 h3 => zM_43 (cI := cI) (cB := cB) (cO := cO) hP hD h1 h2 h3) (fun H locs hP hD hS => ?_)
        clear hFc
        refine lv_iload_n hx hb dX5_courses_26 rfl (lv_at hl 1 rfl) ?_
        by_cases c9 : a0 = (0 : Int32)
        · have h := zif_t c9 h
          refine lv_tableIn (tgt := 60) (off := 33) hx hb dX5_courses_27 (by rw [c9]; decide) (by rw [c9]; decide) (by rw [c9]; rfl) (by decide) ?_
          refine lv_aload_n hx hb dX5_courses_60 rfl (lv_at hl 0 rfl) ?_
          refine va_get (D := D) (ci := 5) (v := .ref (oo 0)) (C := RX5) (T := TX5) (N := 13) hx hb hts inX5 hown hK hP 0 rfl rfl 8 (by decide) lk51 (fun _ h9 => h9) rfl dX5_courses_61 ?_
          refine va_getN (D := D) (ci := 1) (v := .int ((os_7 0) 1)) (C := RX1) (T := TX1) (N := 9) hx hb hts inX1 hown hK hP 24 rfl rfl 1 (by decide) lk173 (fun _ h9 => h9) rfl dX5_courses_64 ?_
          cases zend h
          exact hq hP hD hS dX5_courses_67
        · have h := zif_f c9 h
          by_cases c10 : a0 = (1 : Int32)
          · have h := zif_t c10 h
            refine lv_tableIn (tgt := 68) (off := 41) hx hb dX5_courses_27 (by rw [c10]; decide) (by rw [c10]; decide) (by rw [c10]; rfl) (by decide) ?_
            refine lv_aload_n hx hb dX5_courses_68 rfl (lv_at hl 0 rfl) ?_
            refine va_get (D := D) (ci := 5) (v := .ref (oo 0)) (C := RX5) (T := TX5) (N := 13) hx hb hts inX5 hown hK hP 0 rfl rfl 8 (by decide) lk51 (fun _ h9 => h9) rfl dX5_courses_69 ?_
            refine va_getN (D := D) (ci := 1) (v := .int ((os_7 0) 2)) (C := RX1) (T := TX1) (N := 9) hx hb hts inX1 hown hK hP 24 rfl rfl 2 (by decide) lk176 (fun _ h9 => h9) rfl dX5_courses_72 ?_
            cases zend h
            exact hq hP hD hS dX5_courses_75
          · have h := zif_f c10 h
            by_cases c11 : a0 = (2 : Int32)
            · have h := zif_t c11 h
              refine lv_tableIn (tgt := 76) (off := 49) hx hb dX5_courses_27 (by rw [c11]; decide) (by rw [c11]; decide) (by rw [c11]; rfl) (by decide) ?_
              refine lv_aload_n hx hb dX5_courses_76 rfl (lv_at hl 0 rfl) ?_
              refine va_get (D := D) (ci := 5) (v := .ref (oo 0)) (C := RX5) (T := TX5) (N := 13) hx hb hts inX5 hown hK hP 0 rfl rfl 8 (by decide) lk51 (fun _ h9 => h9) rfl dX5_courses_77 ?_
              refine va_getN (D := D) (ci := 1) (v := .int ((os_7 0) 3)) (C := RX1) (T := TX1) (N := 9) hx hb hts inX1 hown hK hP 24 rfl rfl 3 (by decide) lk179 (fun _ h9 => h9) rfl dX5_courses_80 ?_
              cases zend h
              exact hq hP hD hS dX5_courses_83
            · have h := zif_f c11 h
              by_cases c12 : a0 = (3 : Int32)
              · have h := zif_t c12 h
                refine lv_tableIn (tgt := 84) (off := 57) hx hb dX5_courses_27 (by rw [c12]; decide) (by rw [c12]; decide) (by rw [c12]; rfl) (by decide) ?_
                refine lv_aload_n hx hb dX5_courses_84 rfl (lv_at hl 0 rfl) ?_
                refine va_get (D := D) (ci := 5) (v := .ref (oo 0)) (C := RX5) (T := TX5) (N := 13) hx hb hts inX5 hown hK hP 0 rfl rfl 8 (by decide) lk51 (fun _ h9 => h9) rfl dX5_courses_85 ?_
                refine va_getN (D := D) (ci := 1) (v := .int ((os_7 0) 4)) (C := RX1) (T := TX1) (N := 9) hx hb hts inX1 hown hK hP 24 rfl rfl 4 (by decide) lk182 (fun _ h9 => h9) rfl dX5_courses_88 ?_
                cases zend h
                exact hq hP hD hS dX5_courses_91
              · have h := zif_f c12 h
                by_cases c13 : a0 = (4 : Int32)
                · have h := zif_t c13 h
                  refine lv_tableIn (tgt := 92) (off := 65) hx hb dX5_courses_27 (by rw [c13]; decide) (by rw [c13]; decide) (by rw [c13]; rfl) (by decide) ?_
                  refine lv_aload_n hx hb dX5_courses_92 rfl (lv_at hl 0 rfl) ?_
                  refine va_get (D := D) (ci := 5) (v := .ref (oo 0)) (C := RX5) (T := TX5) (N := 13) hx hb hts inX5 hown hK hP 0 rfl rfl 8 (by decide) lk51 (fun _ h9 => h9) rfl dX5_courses_93 ?_
                  refine va_getN (D := D) (ci := 1) (v := .int ((os_7 0) 5)) (C := RX1) (T := TX1) (N := 9) hx hb hts inX1 hown hK hP 24 rfl rfl 5 (by decide) lk185 (fun _ h9 => h9) rfl dX5_courses_96 ?_
                  cases zend h
                  exact hq hP hD hS dX5_courses_99
                · have h := zif_f c13 h
                  have nc9 := zne_i (k := 0) (0 : Int32) (by decide) c9
                  have nc10 := zne_i (k := 1) (1 : Int32) (by decide) c10
                  have nc11 := zne_i (k := 2) (2 : Int32) (by decide) c11
                  have nc12 := zne_i (k := 3) (3 : Int32) (by decide) c12
                  have nc13 := zne_i (k := 4) (4 : Int32) (by decide) c13
                  refine lv_tableOut (tgt := 100) hx hb dX5_courses_27 (by omega) (by decide) ?_
                  refine lv_aload_n hx hb dX5_courses_100 rfl (lv_at hl 0 rfl) ?_
                  refine va_get (D := D) (ci := 5) (v := .ref (oo 0)) (C := RX5) (T := TX5) (N := 13) hx hb hts inX5 hown hK hP 0 rfl rfl 8 (by decide) lk51 (fun _ h9 => h9) rfl dX5_courses_101 ?_
                  refine va_getN (D := D) (ci := 1) (v := .int ((os_7 0) 6)) (C := RX1) (T := TX1) (N := 9) hx hb hts inX1 hown hK hP 24 rfl rfl 6 (by decide) lk188 (fun _ h9 => h9) rfl dX5_courses_104 ?_
                  cases zend h
                  exact hq hP hD hS dX5_courses_107
      · have h := zif_t c3 h
        refine lv_bipush (v := (-103 : Int32)) hx hb dX5_courses_19 (by decide) ?_
        cases zend h
        exact hq hP hD hS dX5_courses_21
    · have h := zif_f c2 h
      refine lv_bipush (v := (-102 : Int32)) hx hb dX5_courses_9 (by decide) ?_
      cases zend h
      exact hq hP hD hS dX5_courses_11
set_option maxHeartbeats 4000000 in
set_option maxRecDepth 100000 in
theorem c_X5_wins (l : Launch) (D : va_G) (cI cB cO : ClassId) (Xo : Nat) (Po : Nat) (Pp : Nat → Nat) (Go : Nat) (Gp : Nat → Nat) (No : Nat) (Np : Nat → Nat) (Qo : Nat) (Qp : Nat → Nat) (Ko : Nat) (Kp : Nat → Nat) (Lo : Nat) (Lp : Nat → Nat) (To : Nat) (Tp : Nat → Nat) (ra : Nat) (oo : Nat → Nat) (Xs : Nat → Int32) (Ps : Nat → Int32) (Pa : Nat → Nat → Int32) (Gs : Nat → Int32) (Ga : Nat → Nat → Int32) (Ns : Nat → Int32) (Na : Nat → Nat → Int32) (Qs : Nat → Int32) (Qa : Nat → Nat → Int32) (Ks : Nat → Int32) (Ka : Nat → Nat → Int32) (Ls : Nat → Int32) (La : Nat → Nat → Int32) (Ts : Nat → Int32) (Ta : Nat → Nat → Int32) (os : Nat → Nat → Int32) (a0 : Int32) (rv : Int32) (Xs' : Nat → Int32) (Ts' : Nat → Int32) (Ta' : Nat → Nat → Int32) (os' : Nat → Nat → Int32) (sz : Nat) (h : fX5_wins Xs Gs Ga Ns Na Ts Ta os a0 = some (rv, Xs', Ts', Ta', os')) : Met l yX5_wins wsX5_wins ({ frames := 13, cells := 0, slots := 0, locals := 346 } : Room) (va_Pc [.ref Xo, .int a0] (zPre D (zTY cI cB cO) (zfXW cI cO Xo Po Pp Go Gp No Np Qo Qp Ko Kp Lo Lp To Tp ra oo Xs Ps Pa Gs Ga Ns Na Qs Qa Ks Ka Ls La Ts Ta os) sz)) (va_Qi (fun r (_ : Unit) => r = rv) (fun _ => zPost D (zTY cI cB cO) (zfXW cI cO Xo Po Pp Go Gp No Np Qo Qp Ko Kp Lo Lp To Tp ra oo Xs' Ps Pa Gs Ga Ns Na Qs Qa Ks Ka Ls La Ts' Ta' os') (va_A (zfXW cI cO Xo Po Pp Go Gp No Np Qo Qp Ko Kp Lo Lp To Tp ra oo Xs Ps Pa Gs Ga Ns Na Qs Qa Ks Ka Ls La Ts Ta os) sz)) (va_A (zfXW cI cO Xo Po Pp Go Gp No Np Qo Qp Ko Kp Lo Lp To Tp ra oo Xs Ps Pa Gs Ga Ns Na Qs Qa Ks Ka Ls La Ts Ta os) sz)) 0 0 (va_A (zfXW cI cO Xo Po Pp Go Gp No Np Qo Qp Ko Kp Lo Lp To Tp ra oo Xs Ps Pa Gs Ga Ns Na Qs Qa Ks Ka Ls La Ts Ta os) sz) := by
  unfold fX5_wins at h
  refine zmet_i (cc := cX5_wins) (maxL := 2) (by decide) rfl (Nat.le_of_ble_eq_true rfl) rfl rfl ?_
  intro p e s m args below meth c R Q A ls hx hb hts hown hml hK hP hD hE hA hS hRf hRl hl hq
  have hown : s.vm.findClass RX5 = some m.cls := hown
  have hl : lv_has ls 2 [(0, .ref Xo), (1, .int a0)] := hl
  have inX5 : ∀ w ∈ u_ws RX5 TX5 13, w ∈ wsX5_wins := by decide +kernel
  have lk95 : (Cond.fieldLink RX5 95 "PegField" "reads" "I").before args s = true := hts _ (by decide +kernel)
  have lk51 : (Cond.fieldLink RX5 51 "PegField" "outlook" "LPegField$Outcome;").before args s = true := hts _ (by decide +kernel)
  have inX1 : ∀ w ∈ u_ws RX1 TX1 9, w ∈ wsX5_wins := by decide +kernel
  have lk191 : (Cond.fieldLinkNest RX5 191 "PegField$Outcome" "winning" "I" "PegField").before args s = true := hE.2.use (by decide +kernel)
  refine lv_iload_n hx hb dX5_wins_0 rfl (lv_at hl 1 rfl) ?_
  refine lv_if_lt (tgt := 9) hx hb dX5_wins_1 (by decide) (fun c1 => ?_) (fun c1 => ?_)
  · have h := zif_t c1 h
    refine lv_bipush (v := (-102 : Int32)) hx hb dX5_wins_9 (by decide) ?_
    cases zend h
    exact hq hP hD hS dX5_wins_11
  · have h := zif_f c1 h
    refine lv_iload_n hx hb dX5_wins_4 rfl (lv_at hl 1 rfl) ?_
    refine lv_iconst (v := (1 : Int32)) hx hb dX5_wins_5 (by decide) ?_
    refine lv_icmp_le (tgt := 12) hx hb dX5_wins_6 (by decide) (fun c2 => ?_) (fun c2 => ?_)
    · have h := zif_t c2 h
      refine lv_aload_n hx hb dX5_wins_12 rfl (lv_at hl 0 rfl) ?_
      refine va_get (D := D) (ci := 5) (v := .int (Xs 11)) (C := RX5) (T := TX5) (N := 13) hx hb hts inX5 hown hK hP 0 rfl rfl 11 (by decide) lk95 (fun _ h9 => h9) rfl dX5_wins_13 ?_
      refine lv_if_ne (tgt := 22) hx hb dX5_wins_16 (by decide) (fun c3 => ?_) (fun c3 => ?_)
      · have h := zif_f c3 h
        refine lv_aload_n hx hb dX5_wins_22 rfl (lv_at hl 0 rfl) ?_
        obtain ⟨Xs_4, Ts_5, Ta_6, os_7, g8, h⟩ := zb4_s h
        have hFc := va_free (wc := (zfXW cI cO Xo Po Pp Go Gp No Np Qo Qp Ko Kp Lo Lp To Tp ra oo Xs Ps Pa Gs Ga Ns Na Qs Qa Ks Ka Ls La Ts Ta os)) hD hS hA [0, 1, 2, 3, 4, 5, 6, 7, 8, 9, 10, 11, 12, 13, 14, 15, 16, 17, 18, 19, 20, 21, 22, 23, 24, 25, 26, 27, 28, 29, 30, 31, 32] (zC_43 (cI := cI) (cB := cB) (cO := cO))
        refine zcm_v (w2 := (zfXW cI cO Xo Po Pp Go Gp No Np Qo Qp Ko Kp Lo Lp To Tp ra oo Xs_4 Ps Pa Gs Ga Ns Na Qs Qa Ks Ka Ls La Ts_5 Ta_6 os_7)) (va_runV (As := []) (rest := []) ⟨hx, hb, hml, hown, hts⟩ (c_X5_lookAhead l D cI cB cO Xo Po Pp Go Gp No Np Qo Qp Ko Kp Lo Lp To Tp ra oo Xs Ps Pa Gs Ga Ns Na Qs Qa Ks Ka Ls La Ts Ta os _ _ _ _ _ g8) (cwV 0 hts gX5_wins_X5_lookAhead rfl rfl rfl kV_X5_lookAhead ⟨Nat.le_trans (Nat.le_of_ble_eq_true rfl) hRf, Nat.le_trans (Nat.le_of_ble_eq_true rfl) hRl⟩) (zpreV hK hP hD hS hE hFc [0, 1, 2, 3, 4, 5, 6, 7, 8, 9, 10, 11, 12, 13, 14, 15, 16, 17, 18, 19, 20, 21, 22, 23, 24, 25, 26, 27, 28, 29, 30, 31, 32] (zC_43 (cI := cI) (cB := cB) (cO := cO)) rfl 0 (ci := 5) rfl rfl []) rfl rfl hl.1 rfl (lv_room (Nat.le_of_ble_eq_true rfl)) dX5_wins_23 ⟨Nat.zero_le _, Nat.zero_le _⟩) hS hFc (fun H1 t h1 h2 h3 => zM_43 (cI := cI) (cB := cB) (cO := cO) hP hD h1 h2 h3) (fun H locs hP hD hS => ?_)
        clear hFc
        refine lv_iload_n hx hb dX5_wins_26 rfl (lv_at hl 1 rfl) ?_
        refine lv_iconst (v := (1 : Int32)) hx hb dX5_wins_27 (by decide) ?_
        refine lv_icmp_ne (tgt := 39) hx hb dX5_wins_28 (by decide) (fun c9 => ?_) (fun c9 => ?_)
        · have h := zif_f c9 h
          refine lv_aload_n hx hb dX5_wins_39 rfl (lv_at hl 0 rfl) ?_
          refine va_get (D := D) (ci := 5) (v := .ref (oo 0)) (C := RX5) (T := TX5) (N := 13) hx hb hts inX5 hown hK hP 0 rfl rfl 8 (by decide) lk51 (fun _ h9 => h9) rfl dX5_wins_40 ?_
          refine va_getN (D := D) (ci := 1) (v := .int ((os_7 0) 7)) (C := RX1) (T := TX1) (N := 9) hx hb hts inX1 hown hK hP 24 rfl rfl 7 (by decide) lk191 (fun _ h9 => h9) rfl dX5_wins_43 ?_
          refine lv_iconst (v := (-1 : Int32)) hx hb dX5_wins_46 (by decide) ?_
          refine lv_icmp_ne (tgt := 54) hx hb dX5_wins_47 (by decide) (fun c10 => ?_) (fun c10 => ?_)
          · have h := zif_f c10 h
            refine lv_iconst (v := (1 : Int32)) hx hb dX5_wins_54 (by decide) ?_
            cases zend h
            exact hq hP hD hS dX5_wins_55
          · have h := zif_t c10 h
            refine lv_iconst (v := (0 : Int32)) hx hb dX5_wins_50 (by decide) ?_
            refine lv_goto (tgt := 55) hx hb dX5_wins_51 (by decide) ?_
            cases zend h
            exact hq hP hD hS dX5_wins_55
        · have h := zif_t c9 h
          refine lv_aload_n hx hb dX5_wins_31 rfl (lv_at hl 0 rfl) ?_
          refine va_get (D := D) (ci := 5) (v := .ref (oo 0)) (C := RX5) (T := TX5) (N := 13) hx hb hts inX5 hown hK hP 0 rfl rfl 8 (by decide) lk51 (fun _ h9 => h9) rfl dX5_wins_32 ?_
          refine va_getN (D := D) (ci := 1) (v := .int ((os_7 0) 7)) (C := RX1) (T := TX1) (N := 9) hx hb hts inX1 hown hK hP 24 rfl rfl 7 (by decide) lk191 (fun _ h9 => h9) rfl dX5_wins_35 ?_
          cases zend h
          exact hq hP hD hS dX5_wins_38
      · have h := zif_t c3 h
        refine lv_bipush (v := (-103 : Int32)) hx hb dX5_wins_19 (by decide) ?_
        cases zend h
        exact hq hP hD hS dX5_wins_21
    · have h := zif_f c2 h
      refine lv_bipush (v := (-102 : Int32)) hx hb dX5_wins_9 (by decide) ?_
      cases zend h
      exact hq hP hD hS dX5_wins_11
set_option maxHeartbeats 4000000 in
set_option maxRecDepth 100000 in
theorem c_X5_fewestWithOneMore (l : Launch) (D : va_G) (cI cB cO : ClassId) (Xo : Nat) (Po : Nat) (Pp : Nat → Nat) (Go : Nat) (Gp : Nat → Nat) (No : Nat) (Np : Nat → Nat) (Qo : Nat) (Qp : Nat → Nat) (Ko : Nat) (Kp : Nat → Nat) (Lo : Nat) (Lp : Nat → Nat) (To : Nat) (Tp : Nat → Nat) (ra : Nat) (oo : Nat → Nat) (Xs : Nat → Int32) (Ps : Nat → Int32) (Pa : Nat → Nat → Int32) (Gs : Nat → Int32) (Ga : Nat → Nat → Int32) (Ns : Nat → Int32) (Na : Nat → Nat → Int32) (Qs : Nat → Int32) (Qa : Nat → Nat → Int32) (Ks : Nat → Int32) (Ka : Nat → Nat → Int32) (Ls : Nat → Int32) (La : Nat → Nat → Int32) (Ts : Nat → Int32) (Ta : Nat → Nat → Int32) (os : Nat → Nat → Int32) (a0 : Int32) (rv : Int32) (Ts' : Nat → Int32) (Ta' : Nat → Nat → Int32) (os' : Nat → Nat → Int32) (sz : Nat) (h : fX5_fewestWithOneMore Gs Ga Ns Na Ts Ta os a0 = some (rv, Ts', Ta', os')) : Met l yX5_fewestWithOneMore wsX5_fewestWithOneMore ({ frames := 12, cells := 0, slots := 0, locals := 326 } : Room) (va_Pc [.ref Xo, .int a0] (zPre D (zTY cI cB cO) (zfXW cI cO Xo Po Pp Go Gp No Np Qo Qp Ko Kp Lo Lp To Tp ra oo Xs Ps Pa Gs Ga Ns Na Qs Qa Ks Ka Ls La Ts Ta os) sz)) (va_Qi (fun r (_ : Unit) => r = rv) (fun _ => zPost D (zTY cI cB cO) (zfXW cI cO Xo Po Pp Go Gp No Np Qo Qp Ko Kp Lo Lp To Tp ra oo Xs Ps Pa Gs Ga Ns Na Qs Qa Ks Ka Ls La Ts' Ta' os') (va_A (zfXW cI cO Xo Po Pp Go Gp No Np Qo Qp Ko Kp Lo Lp To Tp ra oo Xs Ps Pa Gs Ga Ns Na Qs Qa Ks Ka Ls La Ts Ta os) sz)) (va_A (zfXW cI cO Xo Po Pp Go Gp No Np Qo Qp Ko Kp Lo Lp To Tp ra oo Xs Ps Pa Gs Ga Ns Na Qs Qa Ks Ka Ls La Ts Ta os) sz)) 0 0 (va_A (zfXW cI cO Xo Po Pp Go Gp No Np Qo Qp Ko Kp Lo Lp To Tp ra oo Xs Ps Pa Gs Ga Ns Na Qs Qa Ks Ka Ls La Ts Ta os) sz) := by
  unfold fX5_fewestWithOneMore at h
  refine zmet_i (cc := cX5_fewestWithOneMore) (maxL := 2) (by decide) rfl (Nat.le_of_ble_eq_true rfl) rfl rfl ?_
  intro p e s m args below meth c R Q A ls hx hb hts hown hml hK hP hD hE hA hS hRf hRl hl hq
  have hown : s.vm.findClass RX5 = some m.cls := hown
  have hl : lv_has ls 2 [(0, .ref Xo), (1, .int a0)] := hl
  have inX5 : ∀ w ∈ u_ws RX5 TX5 13, w ∈ wsX5_fewestWithOneMore := by decide +kernel
  have lk45 : (Cond.fieldLink RX5 45 "PegField" "thought" "LPegField$State;").before args s = true := hts _ (by decide +kernel)
  have lk28 : (Cond.fieldLink RX5 28 "PegField" "now" "LPegField$State;").before args s = true := hts _ (by decide +kernel)
  have lk55 : (Cond.fieldLink RX5 55 "PegField" "outcomes" "[LPegField$Outcome;").before args s = true := hts _ (by decide +kernel)
  have lk51 : (Cond.fieldLink RX5 51 "PegField" "outlook" "LPegField$Outcome;").before args s = true := hts _ (by decide +kernel)
  have inX1 : ∀ w ∈ u_ws RX1 TX1 9, w ∈ wsX5_fewestWithOneMore := by decide +kernel
  have lk173 : (Cond.fieldLinkNest RX5 173 "PegField$Outcome" "fewest" "I" "PegField").before args s = true := hE.2.use (by decide +kernel)
  refine lv_aload_n hx hb dX5_fewestWithOneMore_0 rfl (lv_at hl 0 rfl) ?_
  refine va_get (D := D) (ci := 5) (v := .ref To) (C := RX5) (T := TX5) (N := 13) hx hb hts inX5 hown hK hP 0 rfl rfl 7 (by decide) lk45 (fun _ h9 => h9) rfl dX5_fewestWithOneMore_1 ?_
  refine lv_aload_n hx hb dX5_fewestWithOneMore_4 rfl (lv_at hl 0 rfl) ?_
  refine va_get (D := D) (ci := 5) (v := .ref No) (C := RX5) (T := TX5) (N := 13) hx hb hts inX5 hown hK hP 0 rfl rfl 2 (by decide) lk28 (fun _ h9 => h9) rfl dX5_fewestWithOneMore_5 ?_
  obtain ⟨Ss_1, Sa_2, g3, h⟩ := zb2_s h
  have hFc := va_free (wc := (zfSS cI cO To Tp Go No Np Ts Ta Ns Na)) hD hS hA [19, 20, 21, 22, 5, 6, 7, 8] (zC_41 (cI := cI) (cB := cB) (cO := cO))
  refine zcm_v (w2 := (zfXW cI cO Xo Po Pp Go Gp No Np Qo Qp Ko Kp Lo Lp To Tp ra oo Xs Ps Pa Gs Ga Ns Na Qs Qa Ks Ka Ls La Ss_1 Sa_2 os)) (va_runV (As := [.ref No]) (rest := []) ⟨hx, hb, hml, hown, hts⟩ (c_X4_copyFrom l D cI cB cO To Tp Go No Np Ts Ta Ns Na _ _ _ g3) (cwV 1 hts gX5_fewestWithOneMore_X4_copyFrom rfl rfl rfl kV_X4_copyFrom ⟨Nat.le_trans (Nat.le_of_ble_eq_true rfl) hRf, Nat.le_trans (Nat.le_of_ble_eq_true rfl) hRl⟩) (zpreV hK hP hD hS hE hFc [19, 20, 21, 22, 5, 6, 7, 8] (zC_41 (cI := cI) (cB := cB) (cO := cO)) rfl 19 (ci := 4) rfl rfl [.ref No]) rfl rfl hl.1 rfl (lv_room (Nat.le_of_ble_eq_true rfl)) dX5_fewestWithOneMore_8 ⟨Nat.zero_le _, Nat.zero_le _⟩) hS hFc (fun H1 t h1 h2 h3 => zM_41 (cI := cI) (cB := cB) (cO := cO) hP hD h1 h2 h3) (fun H locs hP hD hS => ?_)
  clear hFc
  refine lv_aload_n hx hb dX5_fewestWithOneMore_11 rfl (lv_at hl 0 rfl) ?_
  refine va_get (D := D) (ci := 5) (v := .ref To) (C := RX5) (T := TX5) (N := 13) hx hb hts inX5 hown hK hP 0 rfl rfl 7 (by decide) lk45 (fun _ h9 => h9) rfl dX5_fewestWithOneMore_12 ?_
  refine lv_iload_n hx hb dX5_fewestWithOneMore_15 rfl (lv_at hl 1 rfl) ?_
  obtain ⟨Ss_4, Sa_5, g6, h⟩ := zb2_s h
  have hFc := va_free (wc := (zfSG cI cO To Tp Go Gp Ss_1 Sa_2 Gs Ga)) hD hS hA [19, 20, 21, 22, 3, 4] (zC_44 (cI := cI) (cB := cB) (cO := cO))
  refine zcm_v (w2 := (zfXW cI cO Xo Po Pp Go Gp No Np Qo Qp Ko Kp Lo Lp To Tp ra oo Xs Ps Pa Gs Ga Ns Na Qs Qa Ks Ka Ls La Ss_4 Sa_5 os)) (va_runV (As := [.int a0]) (rest := []) ⟨hx, hb, hml, hown, hts⟩ (c_X4_addPlain l D cI cB cO To Tp Go Gp Ss_1 Sa_2 Gs Ga a0 _ _ _ g6) (cwV 1 hts gX5_fewestWithOneMore_X4_addPlain rfl rfl rfl kV_X4_addPlain ⟨Nat.le_trans (Nat.le_of_ble_eq_true rfl) hRf, Nat.le_trans (Nat.le_of_ble_eq_true rfl) hRl⟩) (zpreV hK hP hD hS hE hFc [19, 20, 21, 22, 3, 4] (zC_44 (cI := cI) (cB := cB) (cO := cO)) rfl 19 (ci := 4) rfl rfl [.int a0]) rfl rfl hl.1 rfl (lv_room (Nat.le_of_ble_eq_true rfl)) dX5_fewestWithOneMore_16 ⟨Nat.zero_le _, Nat.zero_le _⟩) hS hFc (fun H1 t h1 h2 h3 => zM_44 (cI := cI) (cB := cB) (cO := cO) hP hD h1 h2 h3) (fun H locs hP hD hS => ?_)
  clear hFc
  refine lv_aload_n hx hb dX5_fewestWithOneMore_19 rfl (lv_at hl 0 rfl) ?_
  refine va_get (D := D) (ci := 5) (v := .ref To) (C := RX5) (T := TX5) (N := 13) hx hb hts inX5 hown hK hP 0 rfl rfl 7 (by decide) lk45 (fun _ h9 => h9) rfl dX5_fewestWithOneMore_20 ?_
  refine lv_aload_n hx hb dX5_fewestWithOneMore_23 rfl (lv_at hl 0 rfl) ?_
  refine va_get (D := D) (ci := 5) (v := .ref ra) (C := RX5) (T := TX5) (N := 13) hx hb hts inX5 hown hK hP 0 rfl rfl 9 (by decide) lk55 (fun _ h9 => h9) rfl dX5_fewestWithOneMore_24 ?_
  refine lv_iconst (v := (0 : Int32)) hx hb dX5_fewestWithOneMore_27 (by decide) ?_
  obtain ⟨Ss_7, Sa_8, os_9, g10, h⟩ := zb3_s h
  have hFc := va_free (wc := (zfLK cI cO To Tp Go Gp ra oo Ss_4 Sa_5 Gs Ga os)) hD hS hA [19, 20, 21, 22, 3, 4, 23, 24, 25, 26, 27, 28, 29, 30, 31, 32] (zC_42 (cI := cI) (cB := cB) (cO := cO))
  refine zcm_v (w2 := (zfXW cI cO Xo Po Pp Go Gp No Np Qo Qp Ko Kp Lo Lp To Tp ra oo Xs Ps Pa Gs Ga Ns Na Qs Qa Ks Ka Ls La Ss_7 Sa_8 os_9)) (va_runS (As := [.ref To, .ref ra, .int (0 : Int32)]) (rest := []) ⟨hx, hb, hml, hown, hts⟩ (c_X5_look_0 l D cI cB cO To Tp Go Gp ra oo Ss_4 Sa_5 Gs Ga os _ _ _ _ g10) (va_cwS 3 hts gX5_fewestWithOneMore_X5_look rfl rfl rfl kS_X5_look ⟨Nat.le_trans (Nat.le_of_ble_eq_true rfl) hRf, Nat.le_trans (Nat.le_of_ble_eq_true rfl) hRl⟩) (zpreS hK hP hD hS hE hFc [19, 20, 21, 22, 3, 4, 23, 24, 25, 26, 27, 28, 29, 30, 31, 32] (zC_42 (cI := cI) (cB := cB) (cO := cO)) rfl [.ref To, .ref ra, .int (0 : Int32)]) rfl rfl hl.1 rfl (lv_room (Nat.le_of_ble_eq_true rfl)) dX5_fewestWithOneMore_28 ⟨Nat.zero_le _, Nat.zero_le _⟩) hS hFc (fun H1 t h1 h2 h3 => zM_42 (cI := cI) (cB := cB) (cO := cO) hP hD h1 h2 h3) (fun H locs hP hD hS => ?_)
  clear hFc
  refine lv_aload_n hx hb dX5_fewestWithOneMore_31 rfl (lv_at hl 0 rfl) ?_
  refine va_get (D := D) (ci := 5) (v := .ref (oo 0)) (C := RX5) (T := TX5) (N := 13) hx hb hts inX5 hown hK hP 0 rfl rfl 8 (by decide) lk51 (fun _ h9 => h9) rfl dX5_fewestWithOneMore_32 ?_
  refine va_getN (D := D) (ci := 1) (v := .int ((os_9 0) 1)) (C := RX1) (T := TX1) (N := 9) hx hb hts inX1 hown hK hP 24 rfl rfl 1 (by decide) lk173 (fun _ h9 => h9) rfl dX5_fewestWithOneMore_35 ?_
  cases zend h
  exact hq hP hD hS dX5_fewestWithOneMore_38
set_option maxHeartbeats 4000000 in
set_option maxRecDepth 100000 in
theorem c_X5_add (l : Launch) (D : va_G) (cI cB cO : ClassId) (Xo : Nat) (Po : Nat) (Pp : Nat → Nat) (Go : Nat) (Gp : Nat → Nat) (No : Nat) (Np : Nat → Nat) (Qo : Nat) (Qp : Nat → Nat) (Ko : Nat) (Kp : Nat → Nat) (Lo : Nat) (Lp : Nat → Nat) (To : Nat) (Tp : Nat → Nat) (ra : Nat) (oo : Nat → Nat) (Xs : Nat → Int32) (Ps : Nat → Int32) (Pa : Nat → Nat → Int32) (Gs : Nat → Int32) (Ga : Nat → Nat → Int32) (Ns : Nat → Int32) (Na : Nat → Nat → Int32) (Qs : Nat → Int32) (Qa : Nat → Nat → Int32) (Ks : Nat → Int32) (Ka : Nat → Nat → Int32) (Ls : Nat → Int32) (La : Nat → Nat → Int32) (Ts : Nat → Int32) (Ta : Nat → Nat → Int32) (os : Nat → Nat → Int32)  (rv : Int32) (Xs' : Nat → Int32) (Ts' : Nat → Int32) (Ta' : Nat → Nat → Int32) (os' : Nat → Nat → Int32) (sz : Nat) (h : fX5_add Xs Gs Ga Ns Na Ts Ta os = some (rv, Xs', Ts', Ta', os')) : Met l yX5_add wsX5_add ({ frames := 13, cells := 0, slots := 0, locals := 347 } : Room) (va_Pc [.ref Xo] (zPre D (zTY cI cB cO) (zfXW cI cO Xo Po Pp Go Gp No Np Qo Qp Ko Kp Lo Lp To Tp ra oo Xs Ps Pa Gs Ga Ns Na Qs Qa Ks Ka Ls La Ts Ta os) sz)) (va_Qi (fun r (_ : Unit) => r = rv) (fun _ => zPost D (zTY cI cB cO) (zfXW cI cO Xo Po Pp Go Gp No Np Qo Qp Ko Kp Lo Lp To Tp ra oo Xs' Ps Pa Gs Ga Ns Na Qs Qa Ks Ka Ls La Ts' Ta' os') (va_A (zfXW cI cO Xo Po Pp Go Gp No Np Qo Qp Ko Kp Lo Lp To Tp ra oo Xs Ps Pa Gs Ga Ns Na Qs Qa Ks Ka Ls La Ts Ta os) sz)) (va_A (zfXW cI cO Xo Po Pp Go Gp No Np Qo Qp Ko Kp Lo Lp To Tp ra oo Xs Ps Pa Gs Ga Ns Na Qs Qa Ks Ka Ls La Ts Ta os) sz)) 0 0 (va_A (zfXW cI cO Xo Po Pp Go Gp No Np Qo Qp Ko Kp Lo Lp To Tp ra oo Xs Ps Pa Gs Ga Ns Na Qs Qa Ks Ka Ls La Ts Ta os) sz) := by
  unfold fX5_add at h
  refine zmet_i (cc := cX5_add) (maxL := 2) (by decide) rfl (Nat.le_of_ble_eq_true rfl) rfl rfl ?_
  intro p e s m args below meth c R Q A ls hx hb hts hown hml hK hP hD hE hA hS hRf hRl hl hq
  have hown : s.vm.findClass RX5 = some m.cls := hown
  have hl : lv_has ls 2 [(0, .ref Xo)] := hl
  have inX5 : ∀ w ∈ u_ws RX5 TX5 13, w ∈ wsX5_add := by decide +kernel
  have lk95 : (Cond.fieldLink RX5 95 "PegField" "reads" "I").before args s = true := hts _ (by decide +kernel)
  have lk194 : (Cond.fieldLink RX5 194 "PegField" "adds" "I").before args s = true := hts _ (by decide +kernel)
  have lk92 : (Cond.fieldLink RX5 92 "PegField" "isLooked" "Z").before args s = true := hts _ (by decide +kernel)
  have lk28 : (Cond.fieldLink RX5 28 "PegField" "now" "LPegField$State;").before args s = true := hts _ (by decide +kernel)
  refine lv_aload_n hx hb dX5_add_0 rfl (lv_at hl 0 rfl) ?_
  refine va_get (D := D) (ci := 5) (v := .int (Xs 11)) (C := RX5) (T := TX5) (N := 13) hx hb hts inX5 hown hK hP 0 rfl rfl 11 (by decide) lk95 (fun _ h9 => h9) rfl dX5_add_1 ?_
  refine lv_if_eq (tgt := 16) hx hb dX5_add_4 (by decide) (fun c1 => ?_) (fun c1 => ?_)
  · have h := zif_t c1 h
    refine lv_bipush (v := (-103 : Int32)) hx hb dX5_add_16 (by decide) ?_
    cases zend h
    exact hq hP hD hS dX5_add_18
  · have h := zif_f c1 h
    refine lv_aload_n hx hb dX5_add_7 rfl (lv_at hl 0 rfl) ?_
    refine va_get (D := D) (ci := 5) (v := .int (Xs 12)) (C := RX5) (T := TX5) (N := 13) hx hb hts inX5 hown hK hP 0 rfl rfl 12 (by decide) lk194 (fun _ h9 => h9) rfl dX5_add_8 ?_
    refine lv_bipush (v := (12 : Int32)) hx hb dX5_add_11 (by decide) ?_
    refine lv_icmp_lt (tgt := 19) hx hb dX5_add_13 (by decide) (fun c2 => ?_) (fun c2 => ?_)
    · have h := zif_t c2 h
      refine lv_aload_n hx hb dX5_add_19 rfl (lv_at hl 0 rfl) ?_
      refine lv_dup hx hb dX5_add_20 rfl ?_
      refine va_get (D := D) (ci := 5) (v := .int (Xs 12)) (C := RX5) (T := TX5) (N := 13) hx hb hts inX5 hown hK hP 0 rfl rfl 12 (by decide) lk194 (fun _ h9 => h9) rfl dX5_add_21 ?_
      refine lv_iconst (v := (1 : Int32)) hx hb dX5_add_24 (by decide) ?_
      refine lv_iadd hx hb dX5_add_25 ?_
      refine va_put (D := D) (ci := 5) (v := .int ((Xs 12) + (1 : Int32))) (ty := .int) (C := RX5) (T := TX5) (N := 13) hx hb hts inX5 tyX5 tyX5_ok nmX5 hown hK hP hD hS 0 rfl rfl 12 (by decide) lk194 (fun _ h9 => h9) rfl (by decide +kernel) rfl rfl (Nat.le_of_ble_eq_true rfl) dX5_add_26 (fun H locs hP hD hS => ?_)
      have hset : ∀ v9 : Int32, (zfXW cI cO Xo Po Pp Go Gp No Np Qo Qp Ko Kp Lo Lp To Tp ra oo Xs Ps Pa Gs Ga Ns Na Qs Qa Ks Ka Ls La Ts Ta os).set 0 (Xo, .inr (5, ([.ref Po, .ref Go, .ref No, .ref Qo, .ref Ko, .ref Lo, .int (Xs 6), .ref To, .ref (oo 0), .ref ra, .int (Xs 10), .int (Xs 11), .int (Xs 12)] : List Value).set 12 (.int v9))) = (zfXW cI cO Xo Po Pp Go Gp No Np Qo Qp Ko Kp Lo Lp To Tp ra oo (upd Xs 12 v9) Ps Pa Gs Ga Ns Na Qs Qa Ks Ka Ls La Ts Ta os) := fun _ => rfl
      obtain ⟨Xs_3, eXs_3, hP, hD⟩ : ∃ y9, y9 = (upd Xs 12 ((Xs 12) + (1 : Int32))) ∧ va_P D vwCl (zfXW cI cO Xo Po Pp Go Gp No Np Qo Qp Ko Kp Lo Lp To Tp ra oo y9 Ps Pa Gs Ga Ns Na Qs Qa Ks Ka Ls La Ts Ta os) H ∧ va_D A (zfXW cI cO Xo Po Pp Go Gp No Np Qo Qp Ko Kp Lo Lp To Tp ra oo y9 Ps Pa Gs Ga Ns Na Qs Qa Ks Ka Ls La Ts Ta os) := ⟨_, rfl, zsetP (hset _) hP, zsetD (hset _) hD⟩
      have h := zlt_s h eXs_3
      clear hset
      refine lv_aload_n hx hb dX5_add_29 rfl (lv_at hl 0 rfl) ?_
      refine lv_iconst (v := (0 : Int32)) hx hb dX5_add_30 (by decide) ?_
      refine va_put (D := D) (ci := 5) (v := .int (0 : Int32)) (ty := .boolean) (C := RX5) (T := TX5) (N := 13) hx hb hts inX5 tyX5 tyX5_ok nmX5 hown hK hP hD hS 0 rfl rfl 10 (by decide) lk92 (fun _ h9 => h9) rfl (by decide +kernel) (by decide) (by decide) (Nat.le_of_ble_eq_true rfl) dX5_add_31 (fun H locs hP hD hS => ?_)
      have hset : ∀ v9 : Int32, (zfXW cI cO Xo Po Pp Go Gp No Np Qo Qp Ko Kp Lo Lp To Tp ra oo Xs_3 Ps Pa Gs Ga Ns Na Qs Qa Ks Ka Ls La Ts Ta os).set 0 (Xo, .inr (5, ([.ref Po, .ref Go, .ref No, .ref Qo, .ref Ko, .ref Lo, .int (Xs_3 6), .ref To, .ref (oo 0), .ref ra, .int (Xs_3 10), .int (Xs_3 11), .int (Xs_3 12)] : List Value).set 10 (.int v9))) = (zfXW cI cO Xo Po Pp Go Gp No Np Qo Qp Ko Kp Lo Lp To Tp ra oo (upd Xs_3 10 v9) Ps Pa Gs Ga Ns Na Qs Qa Ks Ka Ls La Ts Ta os) := fun _ => rfl
      obtain ⟨Xs_4, eXs_4, hP, hD⟩ : ∃ y9, y9 = (upd Xs_3 10 (0 : Int32)) ∧ va_P D vwCl (zfXW cI cO Xo Po Pp Go Gp No Np Qo Qp Ko Kp Lo Lp To Tp ra oo y9 Ps Pa Gs Ga Ns Na Qs Qa Ks Ka Ls La Ts Ta os) H ∧ va_D A (zfXW cI cO Xo Po Pp Go Gp No Np Qo Qp Ko Kp Lo Lp To Tp ra oo y9 Ps Pa Gs Ga Ns Na Qs Qa Ks Ka Ls La Ts Ta os) := ⟨_, rfl, zsetP (hset _) hP, zsetD (hset _) hD⟩
      have h := zlt_s h eXs_4
      clear hset
      refine lv_iconst (v := (0 : Int32)) hx hb dX5_add_34 (by decide) ?_
      refine lv_istore_n (lv' := [(1, .int (0 : Int32)), (0, .ref Xo)]) hx hb dX5_add_35 rfl hl (by decide) rfl (fun ls hl => ?_)
      obtain ⟨y5, i16, h1y5, h2y5⟩ := zbs_s h
      clear h
      have KX62 : ∀ (x1_62x36 : Int32) (Ts_62x36 : Nat → Int32) (Ta_62x36 : Nat → Nat → Int32) (os_62x36 : Nat → Nat → Int32), y5 = (.inl (x1_62x36, Ts_62x36, Ta_62x36, os_62x36)) → ∀ (H : Heap) (locs : List Loc) (ls : Array Slot), va_P D vwCl (zfXW cI cO Xo Po Pp Go Gp No Np Qo Qp Ko Kp Lo Lp To Tp ra oo Xs_4 Ps Pa Gs Ga Ns Na Qs Qa Ks Ka Ls La Ts_62x36 Ta_62x36 os_62x36) H → va_D A (zfXW cI cO Xo Po Pp Go Gp No Np Qo Qp Ko Kp Lo Lp To Tp ra oo Xs_4 Ps Pa Gs Ga Ns Na Qs Qa Ks Ka Ls La Ts_62x36 Ta_62x36 os_62x36) → va_S A s.heap H locs → lv_has ls 2 [(1, .int x1_62x36)] → W p l e R s m args below meth c H locs 0 0 Q (F0 m 62 ls []) := by
        intro x1_62x36 Ts_62x36 Ta_62x36 os_62x36 ey5 H locs ls hP hD hS hl
        have h := h1y5 _ ey5
        simp only [zu4] at h
        refine lv_iload_n hx hb dX5_add_62 rfl (lv_at hl 0 rfl) ?_
        cases zend h
        exact hq hP hD hS dX5_add_63
      have KX70 : ∀ (Ts_70x36 : Nat → Int32) (Ta_70x36 : Nat → Nat → Int32) (os_70x36 : Nat → Nat → Int32), y5 = (.inr (Ts_70x36, Ta_70x36, os_70x36)) → ∀ (H : Heap) (locs : List Loc) (ls : Array Slot), va_P D vwCl (zfXW cI cO Xo Po Pp Go Gp No Np Qo Qp Ko Kp Lo Lp To Tp ra oo Xs_4 Ps Pa Gs Ga Ns Na Qs Qa Ks Ka Ls La Ts_70x36 Ta_70x36 os_70x36) H → va_D A (zfXW cI cO Xo Po Pp Go Gp No Np Qo Qp Ko Kp Lo Lp To Tp ra oo Xs_4 Ps Pa Gs Ga Ns Na Qs Qa Ks Ka Ls La Ts_70x36 Ta_70x36 os_70x36) → va_S A s.heap H locs → lv_has ls 2 [] → W p l e R s m args below meth c H locs 0 0 Q (F0 m 70 ls []) := by
        intro Ts_70x36 Ta_70x36 os_70x36 ey5 H locs ls hP hD hS hl
        have h := h2y5 _ ey5
        simp only [zu3] at h
        refine lv_iconst (v := (-1 : Int32)) hx hb dX5_add_70 (by decide) ?_
        cases zend h
        exact hq hP hD hS dX5_add_71
      refine zi4_ind (P := (fun (x1_36h : Int32) (Ts_36h : Nat → Int32) (Ta_36h : Nat → Nat → Int32) (os_36h : Nat → Nat → Int32) => ∀ (H : Heap) (locs : List Loc) (ls : Array Slot), va_P D vwCl (zfXW cI cO Xo Po Pp Go Gp No Np Qo Qp Ko Kp Lo Lp To Tp ra oo Xs_4 Ps Pa Gs Ga Ns Na Qs Qa Ks Ka Ls La Ts_36h Ta_36h os_36h) H → va_D A (zfXW cI cO Xo Po Pp Go Gp No Np Qo Qp Ko Kp Lo Lp To Tp ra oo Xs_4 Ps Pa Gs Ga Ns Na Qs Qa Ks Ka Ls La Ts_36h Ta_36h os_36h) → va_S A s.heap H locs → lv_has ls 2 [(0, .ref Xo), (1, .int x1_36h)] → W p l e R s m args below meth c H locs 0 0 Q (F0 m 36 ls []))) ?_ i16 _ _ _ hP hD hS (lv_sub hl [1, 0] rfl)
      clear i16 hP hD hS hl
      intro x1_36h Ts_36h Ta_36h os_36h z36 h zl36 zr36 H locs ls hP hD hS hl
      refine lv_iload_n hx hb dX5_add_36 rfl (lv_at hl 1 rfl) ?_
      refine lv_bipush (v := (12 : Int32)) hx hb dX5_add_37 (by decide) ?_
      refine lv_icmp_ge (tgt := 70) hx hb dX5_add_39 (by decide) (fun c6 => ?_) (fun c6 => ?_)
      · have h := zif_t c6 h
        exact KX70 _ _ _ (zr36 _ (zend h).symm).symm _ _ _ hP hD hS (lv_sub hl [] rfl)
      · have h := zif_f c6 h
        refine lv_aload_n hx hb dX5_add_42 rfl (lv_at hl 0 rfl) ?_
        refine va_get (D := D) (ci := 5) (v := .ref No) (C := RX5) (T := TX5) (N := 13) hx hb hts inX5 hown hK hP 0 rfl rfl 2 (by decide) lk28 (fun _ h9 => h9) rfl dX5_add_43 ?_
        refine lv_iload_n hx hb dX5_add_46 rfl (lv_at hl 1 rfl) ?_
        obtain ⟨r7, g8, h⟩ := zb1_s h
        have hFc := va_free (wc := (zfSG cI cO No Np Go Gp Ns Na Gs Ga)) hD hS hA [5, 6, 7, 8, 3, 4] (zC_14 (cI := cI) (cB := cB) (cO := cO))
        refine zcp_i (va_runV (As := [.int x1_36h]) (rest := []) ⟨hx, hb, hml, hown, hts⟩ (c_X4_isEmptyHole l D cI cB cO No Np Go Gp Ns Na Gs Ga x1_36h _ _ g8) (cwV 1 hts gX5_add_X4_isEmptyHole rfl rfl rfl kV_X4_isEmptyHole ⟨Nat.le_trans (Nat.le_of_ble_eq_true rfl) hRf, Nat.le_trans (Nat.le_of_ble_eq_true rfl) hRl⟩) (zpreV hK hP hD hS hE hFc [5, 6, 7, 8, 3, 4] (zC_14 (cI := cI) (cB := cB) (cO := cO)) rfl 5 (ci := 4) rfl rfl [.int x1_36h]) rfl rfl hl.1 rfl (lv_room (Nat.le_of_ble_eq_true rfl)) dX5_add_47 ⟨Nat.zero_le _, Nat.zero_le _⟩) hP hD hS hFc [5, 6, 7, 8, 3, 4] (zC_14 (cI := cI) (cB := cB) (cO := cO)) (fun H locs hP hS => ?_)
        clear hFc
        obtain ⟨J64, eJ64, h⟩ := zjn_s h
        have K64 : ∀ (Ts_64 : Nat → Int32) (Ta_64 : Nat → Nat → Int32) (os_64 : Nat → Nat → Int32), J64 Ts_64 Ta_64 os_64 = some z36 → ∀ (H : Heap) (locs : List Loc) (ls : Array Slot), va_P D vwCl (zfXW cI cO Xo Po Pp Go Gp No Np Qo Qp Ko Kp Lo Lp To Tp ra oo Xs_4 Ps Pa Gs Ga Ns Na Qs Qa Ks Ka Ls La Ts_64 Ta_64 os_64) H → va_D A (zfXW cI cO Xo Po Pp Go Gp No Np Qo Qp Ko Kp Lo Lp To Tp ra oo Xs_4 Ps Pa Gs Ga Ns Na Qs Qa Ks Ka Ls La Ts_64 Ta_64 os_64) → va_S A s.heap H locs → lv_has ls 2 [(0, .ref Xo), (1, .int x1_36h)] → W p l e R s m args below meth c H locs 0 0 Q (F0 m 64 ls []) := by
          subst eJ64
          intro Ts_64 Ta_64 os_64 h H locs ls hP hD hS hl
          refine lv_iinc (v := (x1_36h + (1 : Int32))) (lv' := [(1, .int (x1_36h + (1 : Int32))), (0, .ref Xo)]) hx hb dX5_add_64 hl (k := 1) rfl rfl (by decide) rfl (fun ls hl => ?_)
          refine lv_goto (tgt := 36) hx hb dX5_add_67 (by decide) ?_
          exact zl36 _ _ _ _ (zend h).symm _ _ _ hP hD hS (lv_sub hl [1, 0] rfl)
        clear eJ64
        refine lv_if_eq (tgt := 64) hx hb dX5_add_50 (by decide) (fun c9 => ?_) (fun c9 => ?_)
        · have h := zif_t c9 h
          exact K64 _ _ _ h _ _ _ hP hD hS (lv_sub hl [0, 1] rfl)
        · have h := zif_f c9 h
          refine lv_aload_n hx hb dX5_add_53 rfl (lv_at hl 0 rfl) ?_
          refine lv_iload_n hx hb dX5_add_54 rfl (lv_at hl 1 rfl) ?_
          obtain ⟨r10, Ts_11, Ta_12, os_13, g14, h⟩ := zb4_s h
          have hFc := va_free (wc := (zfXW cI cO Xo Po Pp Go Gp No Np Qo Qp Ko Kp Lo Lp To Tp ra oo Xs_4 Ps Pa Gs Ga Ns Na Qs Qa Ks Ka Ls La Ts_36h Ta_36h os_36h)) hD hS hA [0, 1, 2, 3, 4, 5, 6, 7, 8, 9, 10, 11, 12, 13, 14, 15, 16, 17, 18, 19, 20, 21, 22, 23, 24, 25, 26, 27, 28, 29, 30, 31, 32] (zC_45 (cI := cI) (cB := cB) (cO := cO))
          refine zcm_i (w2 := (zfXW cI cO Xo Po Pp Go Gp No Np Qo Qp Ko Kp Lo Lp To Tp ra oo Xs_4 Ps Pa Gs Ga Ns Na Qs Qa Ks Ka Ls La Ts_11 Ta_12 os_13)) (va_runV (As := [.int x1_36h]) (rest := []) ⟨hx, hb, hml, hown, hts⟩ (c_X5_fewestWithOneMore l D cI cB cO Xo Po Pp Go Gp No Np Qo Qp Ko Kp Lo Lp To Tp ra oo Xs_4 Ps Pa Gs Ga Ns Na Qs Qa Ks Ka Ls La Ts_36h Ta_36h os_36h x1_36h _ _ _ _ _ g14) (cwV 1 hts gX5_add_X5_fewestWithOneMore rfl rfl rfl kV_X5_fewestWithOneMore ⟨Nat.le_trans (Nat.le_of_ble_eq_true rfl) hRf, Nat.le_trans (Nat.le_of_ble_eq_true rfl) hRl⟩) (zpreV hK hP hD hS hE hFc [0, 1, 2, 3, 4, 5, 6, 7, 8, 9, 10, 11, 12, 13, 14, 15, 16, 17, 18, 19, 20, 21, 22, 23, 24, 25, 26, 27, 28, 29, 30, 31, 32] (zC_45 (cI := cI) (cB := cB) (cO := cO)) rfl 0 (ci := 5) rfl rfl [.int x1_36h]) rfl rfl hl.1 rfl (lv_room (Nat.le_of_ble_eq_true rfl)) dX5_add_55 ⟨Nat.zero_le _, Nat.zero_le _⟩) hS hFc (fun H1 t h1 h2 h3 => zM_45 (cI := cI) (cB := cB) (cO := cO) hP hD h1 h2 h3) (fun H locs hP hD hS => ?_)
          clear hFc
          refine lv_iconst (v := (1 : Int32)) hx hb dX5_add_58 (by decide) ?_
          refine lv_icmp_ne (tgt := 64) hx hb dX5_add_59 (by decide) (fun c15 => ?_) (fun c15 => ?_)
          · have h := zif_f c15 h
            exact K64 _ _ _ h _ _ _ hP hD hS (lv_sub hl [0, 1] rfl)
          · have h := zif_t c15 h
            exact KX62 _ _ _ _ (zr36 _ (zend h).symm).symm _ _ _ hP hD hS (lv_sub hl [1] rfl)
    · have h := zif_f c2 h
      refine lv_bipush (v := (-103 : Int32)) hx hb dX5_add_16 (by decide) ?_
      cases zend h
      exact hq hP hD hS dX5_add_18
set_option maxHeartbeats 4000000 in
set_option maxRecDepth 100000 in
theorem c_X5_mean (l : Launch) (D : va_G) (cI cB cO : ClassId) (Xo : Nat) (Po : Nat) (Pp : Nat → Nat) (Go : Nat) (Gp : Nat → Nat) (No : Nat) (Np : Nat → Nat) (Qo : Nat) (Qp : Nat → Nat) (Ko : Nat) (Kp : Nat → Nat) (Lo : Nat) (Lp : Nat → Nat) (To : Nat) (Tp : Nat → Nat) (ra : Nat) (oo : Nat → Nat) (Xs : Nat → Int32) (Ps : Nat → Int32) (Pa : Nat → Nat → Int32) (Gs : Nat → Int32) (Ga : Nat → Nat → Int32) (Ns : Nat → Int32) (Na : Nat → Nat → Int32) (Qs : Nat → Int32) (Qa : Nat → Nat → Int32) (Ks : Nat → Int32) (Ka : Nat → Nat → Int32) (Ls : Nat → Int32) (La : Nat → Nat → Int32) (Ts : Nat → Int32) (Ta : Nat → Nat → Int32) (os : Nat → Nat → Int32)  (rv : Int32) (Xs' : Nat → Int32) (Ts' : Nat → Int32) (Ta' : Nat → Nat → Int32) (os' : Nat → Nat → Int32) (sz : Nat) (h : fX5_mean Xs Gs Ga Ns Na Ts Ta os = some (rv, Xs', Ts', Ta', os')) : Met l yX5_mean wsX5_mean ({ frames := 13, cells := 0, slots := 0, locals := 346 } : Room) (va_Pc [.ref Xo] (zPre D (zTY cI cB cO) (zfXW cI cO Xo Po Pp Go Gp No Np Qo Qp Ko Kp Lo Lp To Tp ra oo Xs Ps Pa Gs Ga Ns Na Qs Qa Ks Ka Ls La Ts Ta os) sz)) (va_Qi (fun r (_ : Unit) => r = rv) (fun _ => zPost D (zTY cI cB cO) (zfXW cI cO Xo Po Pp Go Gp No Np Qo Qp Ko Kp Lo Lp To Tp ra oo Xs' Ps Pa Gs Ga Ns Na Qs Qa Ks Ka Ls La Ts' Ta' os') (va_A (zfXW cI cO Xo Po Pp Go Gp No Np Qo Qp Ko Kp Lo Lp To Tp ra oo Xs Ps Pa Gs Ga Ns Na Qs Qa Ks Ka Ls La Ts Ta os) sz)) (va_A (zfXW cI cO Xo Po Pp Go Gp No Np Qo Qp Ko Kp Lo Lp To Tp ra oo Xs Ps Pa Gs Ga Ns Na Qs Qa Ks Ka Ls La Ts Ta os) sz)) 0 0 (va_A (zfXW cI cO Xo Po Pp Go Gp No Np Qo Qp Ko Kp Lo Lp To Tp ra oo Xs Ps Pa Gs Ga Ns Na Qs Qa Ks Ka Ls La Ts Ta os) sz) := by
  unfold fX5_mean at h
  refine zmet_i (cc := cX5_mean) (maxL := 1) (by decide) rfl (Nat.le_of_ble_eq_true rfl) rfl rfl ?_
  intro p e s m args below meth c R Q A ls hx hb hts hown hml hK hP hD hE hA hS hRf hRl hl hq
  have hown : s.vm.findClass RX5 = some m.cls := hown
  have hl : lv_has ls 1 [(0, .ref Xo)] := hl
  have inX5 : ∀ w ∈ u_ws RX5 TX5 13, w ∈ wsX5_mean := by decide +kernel
  have lk95 : (Cond.fieldLink RX5 95 "PegField" "reads" "I").before args s = true := hts _ (by decide +kernel)
  have lk51 : (Cond.fieldLink RX5 51 "PegField" "outlook" "LPegField$Outcome;").before args s = true := hts _ (by decide +kernel)
  have inX1 : ∀ w ∈ u_ws RX1 TX1 9, w ∈ wsX5_mean := by decide +kernel
  have lk200 : (Cond.fieldLinkNest RX5 200 "PegField$Outcome" "mean" "I" "PegField").before args s = true := hE.2.use (by decide +kernel)
  refine lv_aload_n hx hb dX5_mean_0 rfl (lv_at hl 0 rfl) ?_
  refine va_get (D := D) (ci := 5) (v := .int (Xs 11)) (C := RX5) (T := TX5) (N := 13) hx hb hts inX5 hown hK hP 0 rfl rfl 11 (by decide) lk95 (fun _ h9 => h9) rfl dX5_mean_1 ?_
  refine lv_if_ne (tgt := 10) hx hb dX5_mean_4 (by decide) (fun c1 => ?_) (fun c1 => ?_)
  · have h := zif_f c1 h
    refine lv_aload_n hx hb dX5_mean_10 rfl (lv_at hl 0 rfl) ?_
    obtain ⟨Xs_2, Ts_3, Ta_4, os_5, g6, h⟩ := zb4_s h
    have hFc := va_free (wc := (zfXW cI cO Xo Po Pp Go Gp No Np Qo Qp Ko Kp Lo Lp To Tp ra oo Xs Ps Pa Gs Ga Ns Na Qs Qa Ks Ka Ls La Ts Ta os)) hD hS hA [0, 1, 2, 3, 4, 5, 6, 7, 8, 9, 10, 11, 12, 13, 14, 15, 16, 17, 18, 19, 20, 21, 22, 23, 24, 25, 26, 27, 28, 29, 30, 31, 32] (zC_43 (cI := cI) (cB := cB) (cO := cO))
    refine zcm_v (w2 := (zfXW cI cO Xo Po Pp Go Gp No Np Qo Qp Ko Kp Lo Lp To Tp ra oo Xs_2 Ps Pa Gs Ga Ns Na Qs Qa Ks Ka Ls La Ts_3 Ta_4 os_5)) (va_runV (As := []) (rest := []) ⟨hx, hb, hml, hown, hts⟩ (c_X5_lookAhead l D cI cB cO Xo Po Pp Go Gp No Np Qo Qp Ko Kp Lo Lp To Tp ra oo Xs Ps Pa Gs Ga Ns Na Qs Qa Ks Ka Ls La Ts Ta os _ _ _ _ _ g6) (cwV 0 hts gX5_mean_X5_lookAhead rfl rfl rfl kV_X5_lookAhead ⟨Nat.le_trans (Nat.le_of_ble_eq_true rfl) hRf, Nat.le_trans (Nat.le_of_ble_eq_true rfl) hRl⟩) (zpreV hK hP hD hS hE hFc [0, 1, 2, 3, 4, 5, 6, 7, 8, 9, 10, 11, 12, 13, 14, 15, 16, 17, 18, 19, 20, 21, 22, 23, 24, 25, 26, 27, 28, 29, 30, 31, 32] (zC_43 (cI := cI) (cB := cB) (cO := cO)) rfl 0 (ci := 5) rfl rfl []) rfl rfl hl.1 rfl (lv_room (Nat.le_of_ble_eq_true rfl)) dX5_mean_11 ⟨Nat.zero_le _, Nat.zero_le _⟩) hS hFc (fun H1 t h1 h2 h3 => zM_43 (cI := cI) (cB := cB) (cO := cO) hP hD h1 h2 h3) (fun H locs hP hD hS => ?_)
    clear hFc
    refine lv_aload_n hx hb dX5_mean_14 rfl (lv_at hl 0 rfl) ?_
    refine va_get (D := D) (ci := 5) (v := .ref (oo 0)) (C := RX5) (T := TX5) (N := 13) hx hb hts inX5 hown hK hP 0 rfl rfl 8 (by decide) lk51 (fun _ h9 => h9) rfl dX5_mean_15 ?_
    refine va_getN (D := D) (ci := 1) (v := .int ((os_5 0) 8)) (C := RX1) (T := TX1) (N := 9) hx hb hts inX1 hown hK hP 24 rfl rfl 8 (by decide) lk200 (fun _ h9 => h9) rfl dX5_mean_18 ?_
    cases zend h
    exact hq hP hD hS dX5_mean_21
  · have h := zif_t c1 h
    refine lv_bipush (v := (-103 : Int32)) hx hb dX5_mean_7 (by decide) ?_
    cases zend h
    exact hq hP hD hS dX5_mean_9
set_option maxHeartbeats 4000000 in
set_option maxRecDepth 100000 in
theorem c_X5_runs (l : Launch) (D : va_G) (cI cB cO : ClassId) (Xo : Nat) (Po : Nat) (Pp : Nat → Nat) (Go : Nat) (Gp : Nat → Nat) (No : Nat) (Np : Nat → Nat) (Qo : Nat) (Qp : Nat → Nat) (Ko : Nat) (Kp : Nat → Nat) (Lo : Nat) (Lp : Nat → Nat) (To : Nat) (Tp : Nat → Nat) (ra : Nat) (oo : Nat → Nat) (Xs : Nat → Int32) (Ps : Nat → Int32) (Pa : Nat → Nat → Int32) (Gs : Nat → Int32) (Ga : Nat → Nat → Int32) (Ns : Nat → Int32) (Na : Nat → Nat → Int32) (Qs : Nat → Int32) (Qa : Nat → Nat → Int32) (Ks : Nat → Int32) (Ka : Nat → Nat → Int32) (Ls : Nat → Int32) (La : Nat → Nat → Int32) (Ts : Nat → Int32) (Ta : Nat → Nat → Int32) (os : Nat → Nat → Int32) (a0 : Int32) (a1 : Int32) (a2 : Int32) (rv : Int32) (Ts' : Nat → Int32) (Ta' : Nat → Nat → Int32) (sz : Nat) (h : fX5_runs Xs Gs Ga Ns Na Ts Ta a0 a1 a2 = some (rv, Ts', Ta')) : Met l yX5_runs wsX5_runs ({ frames := 5, cells := 0, slots := 0, locals := 115 } : Room) (va_Pc [.ref Xo, .int a0, .int a1, .int a2] (zPre D (zTY cI cB cO) (zfXW cI cO Xo Po Pp Go Gp No Np Qo Qp Ko Kp Lo Lp To Tp ra oo Xs Ps Pa Gs Ga Ns Na Qs Qa Ks Ka Ls La Ts Ta os) sz)) (va_Qi (fun r (_ : Unit) => r = rv) (fun _ => zPost D (zTY cI cB cO) (zfXW cI cO Xo Po Pp Go Gp No Np Qo Qp Ko Kp Lo Lp To Tp ra oo Xs Ps Pa Gs Ga Ns Na Qs Qa Ks Ka Ls La Ts' Ta' os) (va_A (zfXW cI cO Xo Po Pp Go Gp No Np Qo Qp Ko Kp Lo Lp To Tp ra oo Xs Ps Pa Gs Ga Ns Na Qs Qa Ks Ka Ls La Ts Ta os) sz)) (va_A (zfXW cI cO Xo Po Pp Go Gp No Np Qo Qp Ko Kp Lo Lp To Tp ra oo Xs Ps Pa Gs Ga Ns Na Qs Qa Ks Ka Ls La Ts Ta os) sz)) 0 0 (va_A (zfXW cI cO Xo Po Pp Go Gp No Np Qo Qp Ko Kp Lo Lp To Tp ra oo Xs Ps Pa Gs Ga Ns Na Qs Qa Ks Ka Ls La Ts Ta os) sz) := by
  unfold fX5_runs at h
  refine zmet_i (cc := cX5_runs) (maxL := 11) (by decide) rfl (Nat.le_of_ble_eq_true rfl) rfl rfl ?_
  intro p e s m args below meth c R Q A ls hx hb hts hown hml hK hP hD hE hA hS hRf hRl hl hq
  have hown : s.vm.findClass RX5 = some m.cls := hown
  have hl : lv_has ls 11 [(0, .ref Xo), (1, .int a0), (2, .int a1), (3, .int a2)] := hl
  have inX5 : ∀ w ∈ u_ws RX5 TX5 13, w ∈ wsX5_runs := by decide +kernel
  have lk95 : (Cond.fieldLink RX5 95 "PegField" "reads" "I").before args s = true := hts _ (by decide +kernel)
  have lk45 : (Cond.fieldLink RX5 45 "PegField" "thought" "LPegField$State;").before args s = true := hts _ (by decide +kernel)
  have lk28 : (Cond.fieldLink RX5 28 "PegField" "now" "LPegField$State;").before args s = true := hts _ (by decide +kernel)
  have inX4 : ∀ w ∈ u_ws RX4 TX4 8, w ∈ wsX5_runs := by decide +kernel
  have lk150 : (Cond.fieldLinkNest RX5 150 "PegField$State" "onBoard" "I" "PegField").before args s = true := hE.2.use (by decide +kernel)
  refine lv_iload_n hx hb dX5_runs_0 rfl (lv_at hl 1 rfl) ?_
  refine lv_iconst (v := (1 : Int32)) hx hb dX5_runs_1 (by decide) ?_
  refine lv_icmp_lt (tgt := 24) hx hb dX5_runs_2 (by decide) (fun c1 => ?_) (fun c1 => ?_)
  · have h := zif_t c1 h
    refine lv_bipush (v := (-102 : Int32)) hx hb dX5_runs_24 (by decide) ?_
    cases zend h
    exact hq hP hD hS dX5_runs_26
  · have h := zif_f c1 h
    refine lv_iload_n hx hb dX5_runs_5 rfl (lv_at hl 1 rfl) ?_
    refine lv_bipush (v := (40 : Int32)) hx hb dX5_runs_6 (by decide) ?_
    refine lv_icmp_gt (tgt := 24) hx hb dX5_runs_8 (by decide) (fun c2 => ?_) (fun c2 => ?_)
    · have h := zif_t c2 h
      refine lv_bipush (v := (-102 : Int32)) hx hb dX5_runs_24 (by decide) ?_
      cases zend h
      exact hq hP hD hS dX5_runs_26
    · have h := zif_f c2 h
      refine lv_iload_n hx hb dX5_runs_11 rfl (lv_at hl 2 rfl) ?_
      refine lv_if_lt (tgt := 24) hx hb dX5_runs_12 (by decide) (fun c3 => ?_) (fun c3 => ?_)
      · have h := zif_t c3 h
        refine lv_bipush (v := (-102 : Int32)) hx hb dX5_runs_24 (by decide) ?_
        cases zend h
        exact hq hP hD hS dX5_runs_26
      · have h := zif_f c3 h
        refine lv_iload_n hx hb dX5_runs_15 rfl (lv_at hl 3 rfl) ?_
        refine lv_if_lt (tgt := 24) hx hb dX5_runs_16 (by decide) (fun c4 => ?_) (fun c4 => ?_)
        · have h := zif_t c4 h
          refine lv_bipush (v := (-102 : Int32)) hx hb dX5_runs_24 (by decide) ?_
          cases zend h
          exact hq hP hD hS dX5_runs_26
        · have h := zif_f c4 h
          refine lv_iload_n hx hb dX5_runs_19 rfl (lv_at hl 3 rfl) ?_
          refine lv_iconst (v := (2 : Int32)) hx hb dX5_runs_20 (by decide) ?_
          refine lv_icmp_le (tgt := 27) hx hb dX5_runs_21 (by decide) (fun c5 => ?_) (fun c5 => ?_)
          · have h := zif_t c5 h
            refine lv_aload_n hx hb dX5_runs_27 rfl (lv_at hl 0 rfl) ?_
            refine va_get (D := D) (ci := 5) (v := .int (Xs 11)) (C := RX5) (T := TX5) (N := 13) hx hb hts inX5 hown hK hP 0 rfl rfl 11 (by decide) lk95 (fun _ h9 => h9) rfl dX5_runs_28 ?_
            refine lv_if_ne (tgt := 37) hx hb dX5_runs_31 (by decide) (fun c6 => ?_) (fun c6 => ?_)
            · have h := zif_f c6 h
              refine lv_iload_n hx hb dX5_runs_37 rfl (lv_at hl 2 rfl) ?_
              refine lv_i2l (v := (a1).toInt64) hx hb dX5_runs_38 rfl ?_
              refine lv_topl (fun x4_7 ex4_7 => ?_)
              have h := zlt_s h ex4_7
              refine lv_lstore (lv' := [(4, .long x4_7), (0, .ref Xo), (1, .int a0), (2, .int a1), (3, .int a2)]) hx hb dX5_runs_39 hl (by decide) rfl (fun ls hl => ?_)
              refine lv_iconst (v := (0 : Int32)) hx hb dX5_runs_41 (by decide) ?_
              refine lv_istore (lv' := [(6, .int (0 : Int32)), (4, .long x4_7), (0, .ref Xo), (1, .int a0), (2, .int a1), (3, .int a2)]) hx hb dX5_runs_42 hl (by decide) rfl (fun ls hl => ?_)
              refine lv_iconst (v := (0 : Int32)) hx hb dX5_runs_44 (by decide) ?_
              refine lv_istore (lv' := [(7, .int (0 : Int32)), (6, .int (0 : Int32)), (4, .long x4_7), (0, .ref Xo), (1, .int a0), (2, .int a1), (3, .int a2)]) hx hb dX5_runs_45 hl (by decide) rfl (fun ls hl => ?_)
              refine lv_iconst (v := (0 : Int32)) hx hb dX5_runs_47 (by decide) ?_
              refine lv_istore (lv' := [(8, .int (0 : Int32)), (7, .int (0 : Int32)), (6, .int (0 : Int32)), (4, .long x4_7), (0, .ref Xo), (1, .int a0), (2, .int a1), (3, .int a2)]) hx hb dX5_runs_48 hl (by decide) rfl (fun ls hl => ?_)
              obtain ⟨x4_154x50, x6_154x50, x7_154x50, Ts_154x50, Ta_154x50, i31, h⟩ := zb5_s h
              have KX154 : ∀ (H : Heap) (locs : List Loc) (ls : Array Slot), va_P D vwCl (zfXW cI cO Xo Po Pp Go Gp No Np Qo Qp Ko Kp Lo Lp To Tp ra oo Xs Ps Pa Gs Ga Ns Na Qs Qa Ks Ka Ls La Ts_154x50 Ta_154x50 os) H → va_D A (zfXW cI cO Xo Po Pp Go Gp No Np Qo Qp Ko Kp Lo Lp To Tp ra oo Xs Ps Pa Gs Ga Ns Na Qs Qa Ks Ka Ls La Ts_154x50 Ta_154x50 os) → va_S A s.heap H locs → lv_has ls 11 [(3, .int a2), (4, .long x4_154x50), (6, .int x6_154x50), (7, .int x7_154x50)] → W p l e R s m args below meth c H locs 0 0 Q (F0 m 154 ls []) := by
                intro H locs ls hP hD hS hl
                refine lv_iload_n hx hb dX5_runs_154 rfl (lv_at hl 0 rfl) ?_
                refine lv_if_ne (tgt := 163) hx hb dX5_runs_155 (by decide) (fun c29 => ?_) (fun c29 => ?_)
                · have h := zif_f c29 h
                  refine lv_iload_n hx hb dX5_runs_163 rfl (lv_at hl 0 rfl) ?_
                  refine lv_iconst (v := (1 : Int32)) hx hb dX5_runs_164 (by decide) ?_
                  refine lv_icmp_ne (tgt := 173) hx hb dX5_runs_165 (by decide) (fun c30 => ?_) (fun c30 => ?_)
                  · have h := zif_f c30 h
                    refine lv_lload hx hb dX5_runs_173 (lv_at hl 1 rfl) ?_
                    refine lv_l2i (v := (x4_154x50).toInt32) hx hb dX5_runs_175 rfl ?_
                    cases zend h
                    exact hq hP hD hS dX5_runs_176
                  · have h := zif_t c30 h
                    refine lv_iload hx hb dX5_runs_168 (lv_at hl 3 rfl) ?_
                    refine lv_goto (tgt := 176) hx hb dX5_runs_170 (by decide) ?_
                    cases zend h
                    exact hq hP hD hS dX5_runs_176
                · have h := zif_t c29 h
                  refine lv_iload hx hb dX5_runs_158 (lv_at hl 2 rfl) ?_
                  refine lv_goto (tgt := 176) hx hb dX5_runs_160 (by decide) ?_
                  cases zend h
                  exact hq hP hD hS dX5_runs_176
              clear h
              refine zi6_ind (P := (fun (x4_50h : Int64) (x6_50h : Int32) (x7_50h : Int32) (x8_50h : Int32) (Ts_50h : Nat → Int32) (Ta_50h : Nat → Nat → Int32) => ∀ (H : Heap) (locs : List Loc) (ls : Array Slot), va_P D vwCl (zfXW cI cO Xo Po Pp Go Gp No Np Qo Qp Ko Kp Lo Lp To Tp ra oo Xs Ps Pa Gs Ga Ns Na Qs Qa Ks Ka Ls La Ts_50h Ta_50h os) H → va_D A (zfXW cI cO Xo Po Pp Go Gp No Np Qo Qp Ko Kp Lo Lp To Tp ra oo Xs Ps Pa Gs Ga Ns Na Qs Qa Ks Ka Ls La Ts_50h Ta_50h os) → va_S A s.heap H locs → lv_has ls 11 [(0, .ref Xo), (1, .int a0), (3, .int a2), (4, .long x4_50h), (6, .int x6_50h), (7, .int x7_50h), (8, .int x8_50h)] → W p l e R s m args below meth c H locs 0 0 Q (F0 m 50 ls []))) ?_ i31 _ _ _ hP hD hS (lv_sub hl [4, 5, 7, 3, 2, 1, 0] rfl)
              clear i31 hP hD hS hl
              intro x4_50h x6_50h x7_50h x8_50h Ts_50h Ta_50h z50 h zl50 zr50 H locs ls hP hD hS hl
              refine lv_iload hx hb dX5_runs_50 (lv_at hl 6 rfl) ?_
              refine lv_iload_n hx hb dX5_runs_52 rfl (lv_at hl 1 rfl) ?_
              refine lv_icmp_ge (tgt := 154) hx hb dX5_runs_53 (by decide) (fun c9 => ?_) (fun c9 => ?_)
              · have h := zif_t c9 h
                cases zr50 _ (zend h).symm
                exact KX154 _ _ _ hP hD hS (lv_sub hl [2, 3, 4, 5] rfl)
              · have h := zif_f c9 h
                refine lv_aload_n hx hb dX5_runs_56 rfl (lv_at hl 0 rfl) ?_
                refine va_get (D := D) (ci := 5) (v := .ref To) (C := RX5) (T := TX5) (N := 13) hx hb hts inX5 hown hK hP 0 rfl rfl 7 (by decide) lk45 (fun _ h9 => h9) rfl dX5_runs_57 ?_
                refine lv_aload_n hx hb dX5_runs_60 rfl (lv_at hl 0 rfl) ?_
                refine va_get (D := D) (ci := 5) (v := .ref No) (C := RX5) (T := TX5) (N := 13) hx hb hts inX5 hown hK hP 0 rfl rfl 2 (by decide) lk28 (fun _ h9 => h9) rfl dX5_runs_61 ?_
                obtain ⟨Ss_10, Sa_11, g12, h⟩ := zb2_s h
                have hFc := va_free (wc := (zfSS cI cO To Tp Go No Np Ts_50h Ta_50h Ns Na)) hD hS hA [19, 20, 21, 22, 5, 6, 7, 8] (zC_41 (cI := cI) (cB := cB) (cO := cO))
                refine zcm_v (w2 := (zfXW cI cO Xo Po Pp Go Gp No Np Qo Qp Ko Kp Lo Lp To Tp ra oo Xs Ps Pa Gs Ga Ns Na Qs Qa Ks Ka Ls La Ss_10 Sa_11 os)) (va_runV (As := [.ref No]) (rest := []) ⟨hx, hb, hml, hown, hts⟩ (c_X4_copyFrom l D cI cB cO To Tp Go No Np Ts_50h Ta_50h Ns Na _ _ _ g12) (cwV 1 hts gX5_runs_X4_copyFrom rfl rfl rfl kV_X4_copyFrom ⟨Nat.le_trans (Nat.le_of_ble_eq_true rfl) hRf, Nat.le_trans (Nat.le_of_ble_eq_true rfl) hRl⟩) (zpreV hK hP hD hS hE hFc [19, 20, 21, 22, 5, 6, 7, 8] (zC_41 (cI := cI) (cB := cB) (cO := cO)) rfl 19 (ci := 4) rfl rfl [.ref No]) rfl rfl hl.1 rfl (lv_room (Nat.le_of_ble_eq_true rfl)) dX5_runs_64 ⟨Nat.zero_le _, Nat.zero_le _⟩) hS hFc (fun H1 t h1 h2 h3 => zM_41 (cI := cI) (cB := cB) (cO := cO) hP hD h1 h2 h3) (fun H locs hP hD hS => ?_)
                clear hFc
                refine lv_aload_n hx hb dX5_runs_67 rfl (lv_at hl 0 rfl) ?_
                refine va_get (D := D) (ci := 5) (v := .ref To) (C := RX5) (T := TX5) (N := 13) hx hb hts inX5 hown hK hP 0 rfl rfl 7 (by decide) lk45 (fun _ h9 => h9) rfl dX5_runs_68 ?_
                obtain ⟨r13, g14, h⟩ := zb1_s h
                have hFc := va_free (wc := (zfSG cI cO To Tp Go Gp Ss_10 Sa_11 Gs Ga)) hD hS hA [19, 20, 21, 22, 3, 4] (zC_47 (cI := cI) (cB := cB) (cO := cO))
                refine zcp_i (va_runV (As := []) (rest := []) ⟨hx, hb, hml, hown, hts⟩ (c_X4_choices l D cI cB cO To Tp Go Gp Ss_10 Sa_11 Gs Ga _ _ g14) (cwV 0 hts gX5_runs_X4_choices rfl rfl rfl kV_X4_choices ⟨Nat.le_trans (Nat.le_of_ble_eq_true rfl) hRf, Nat.le_trans (Nat.le_of_ble_eq_true rfl) hRl⟩) (zpreV hK hP hD hS hE hFc [19, 20, 21, 22, 3, 4] (zC_47 (cI := cI) (cB := cB) (cO := cO)) rfl 19 (ci := 4) rfl rfl []) rfl rfl hl.1 rfl (lv_room (Nat.le_of_ble_eq_true rfl)) dX5_runs_71 ⟨Nat.zero_le _, Nat.zero_le _⟩) hP hD hS hFc [19, 20, 21, 22, 3, 4] (zC_47 (cI := cI) (cB := cB) (cO := cO)) (fun H locs hP hS => ?_)
                clear hFc
                refine lv_istore (lv' := [(9, .int r13), (0, .ref Xo), (1, .int a0), (3, .int a2), (4, .long x4_50h), (6, .int x6_50h), (7, .int x7_50h), (8, .int x8_50h)]) hx hb dX5_runs_74 hl (by decide) rfl (fun ls hl => ?_)
                refine lv_iconst (v := (0 : Int32)) hx hb dX5_runs_76 (by decide) ?_
                refine lv_istore (lv' := [(10, .int (0 : Int32)), (9, .int r13), (0, .ref Xo), (1, .int a0), (3, .int a2), (4, .long x4_50h), (6, .int x6_50h), (7, .int x7_50h), (8, .int x8_50h)]) hx hb dX5_runs_77 hl (by decide) rfl (fun ls hl => ?_)
                obtain ⟨x4_134x79, x6_134x79, Ts_134x79, Ta_134x79, i28, h⟩ := zb4_s h
                have KX134 : ∀ (H : Heap) (locs : List Loc) (ls : Array Slot), va_P D vwCl (zfXW cI cO Xo Po Pp Go Gp No Np Qo Qp Ko Kp Lo Lp To Tp ra oo Xs Ps Pa Gs Ga Ns Na Qs Qa Ks Ka Ls La Ts_134x79 Ta_134x79 os) H → va_D A (zfXW cI cO Xo Po Pp Go Gp No Np Qo Qp Ko Kp Lo Lp To Tp ra oo Xs Ps Pa Gs Ga Ns Na Qs Qa Ks Ka Ls La Ts_134x79 Ta_134x79 os) → va_S A s.heap H locs → lv_has ls 11 [(0, .ref Xo), (1, .int a0), (3, .int a2), (4, .long x4_134x79), (6, .int x6_134x79), (7, .int x7_50h), (8, .int x8_50h)] → W p l e R s m args below meth c H locs 0 0 Q (F0 m 134 ls []) := by
                  intro H locs ls hP hD hS hl
                  refine lv_aload_n hx hb dX5_runs_134 rfl (lv_at hl 0 rfl) ?_
                  refine va_get (D := D) (ci := 5) (v := .ref To) (C := RX5) (T := TX5) (N := 13) hx hb hts inX5 hown hK hP 0 rfl rfl 7 (by decide) lk45 (fun _ h9 => h9) rfl dX5_runs_135 ?_
                  refine va_getN (D := D) (ci := 4) (v := .int (Ts_134x79 3)) (C := RX4) (T := TX4) (N := 8) hx hb hts inX4 hown hK hP 19 rfl rfl 3 (by decide) lk150 (fun _ h9 => h9) rfl dX5_runs_138 ?_
                  refine lv_iconst (v := (1 : Int32)) hx hb dX5_runs_141 (by decide) ?_
                  obtain ⟨x7_148, j26, h⟩ := zb1_s h
                  have K148 : ∀ (H : Heap) (locs : List Loc) (ls : Array Slot), va_P D vwCl (zfXW cI cO Xo Po Pp Go Gp No Np Qo Qp Ko Kp Lo Lp To Tp ra oo Xs Ps Pa Gs Ga Ns Na Qs Qa Ks Ka Ls La Ts_134x79 Ta_134x79 os) H → va_D A (zfXW cI cO Xo Po Pp Go Gp No Np Qo Qp Ko Kp Lo Lp To Tp ra oo Xs Ps Pa Gs Ga Ns Na Qs Qa Ks Ka Ls La Ts_134x79 Ta_134x79 os) → va_S A s.heap H locs → lv_has ls 11 [(0, .ref Xo), (1, .int a0), (3, .int a2), (4, .long x4_134x79), (6, .int x6_134x79), (7, .int x7_148), (8, .int x8_50h)] → W p l e R s m args below meth c H locs 0 0 Q (F0 m 148 ls []) := by
                    intro H locs ls hP hD hS hl
                    refine lv_iinc (v := (x8_50h + (1 : Int32))) (lv' := [(8, .int (x8_50h + (1 : Int32))), (0, .ref Xo), (1, .int a0), (3, .int a2), (4, .long x4_134x79), (6, .int x6_134x79), (7, .int x7_148)]) hx hb dX5_runs_148 hl (k := 6) rfl rfl (by decide) rfl (fun ls hl => ?_)
                    refine lv_goto (tgt := 50) hx hb dX5_runs_151 (by decide) ?_
                    exact zl50 _ _ _ _ _ _ (zend h).symm _ _ _ hP hD hS (lv_sub hl [1, 2, 3, 4, 5, 6, 0] rfl)
                  clear h
                  have h := j26
                  clear j26
                  refine lv_icmp_ne (tgt := 148) hx hb dX5_runs_142 (by decide) (fun c27 => ?_) (fun c27 => ?_)
                  · have h := zif_f c27 h
                    cases zend h
                    exact K148 _ _ _ hP hD hS (lv_sub hl [0, 1, 2, 3, 4, 5, 6] rfl)
                  · have h := zif_t c27 h
                    refine lv_iinc (v := (x7_50h + (1 : Int32))) (lv' := [(7, .int (x7_50h + (1 : Int32))), (0, .ref Xo), (1, .int a0), (3, .int a2), (4, .long x4_134x79), (6, .int x6_134x79), (8, .int x8_50h)]) hx hb dX5_runs_145 hl (k := 5) rfl rfl (by decide) rfl (fun ls hl => ?_)
                    cases zend h
                    exact K148 _ _ _ hP hD hS (lv_sub hl [1, 2, 3, 4, 5, 0, 6] rfl)
                clear h
                refine zi6_ind (P := (fun (x4_79h : Int64) (x6_79h : Int32) (x9_79h : Int32) (x10_79h : Int32) (Ts_79h : Nat → Int32) (Ta_79h : Nat → Nat → Int32) => ∀ (H : Heap) (locs : List Loc) (ls : Array Slot), va_P D vwCl (zfXW cI cO Xo Po Pp Go Gp No Np Qo Qp Ko Kp Lo Lp To Tp ra oo Xs Ps Pa Gs Ga Ns Na Qs Qa Ks Ka Ls La Ts_79h Ta_79h os) H → va_D A (zfXW cI cO Xo Po Pp Go Gp No Np Qo Qp Ko Kp Lo Lp To Tp ra oo Xs Ps Pa Gs Ga Ns Na Qs Qa Ks Ka Ls La Ts_79h Ta_79h os) → va_S A s.heap H locs → lv_has ls 11 [(0, .ref Xo), (1, .int a0), (3, .int a2), (4, .long x4_79h), (6, .int x6_79h), (7, .int x7_50h), (8, .int x8_50h), (9, .int x9_79h), (10, .int x10_79h)] → W p l e R s m args below meth c H locs 0 0 Q (F0 m 79 ls []))) ?_ i28 _ _ _ hP hD hS (lv_sub hl [2, 3, 4, 5, 6, 7, 8, 1, 0] rfl)
                clear i28 hP hD hS hl
                intro x4_79h x6_79h x9_79h x10_79h Ts_79h Ta_79h z79 h zl79 zr79 H locs ls hP hD hS hl
                refine lv_iload hx hb dX5_runs_79 (lv_at hl 8 rfl) ?_
                refine lv_bipush (v := (7 : Int32)) hx hb dX5_runs_81 (by decide) ?_
                refine lv_icmp_ge (tgt := 134) hx hb dX5_runs_83 (by decide) (fun c16 => ?_) (fun c16 => ?_)
                · have h := zif_t c16 h
                  cases zr79 _ (zend h).symm
                  exact KX134 _ _ _ hP hD hS (lv_sub hl [0, 1, 2, 3, 4, 5, 6] rfl)
                · have h := zif_f c16 h
                  refine lv_iload hx hb dX5_runs_86 (lv_at hl 7 rfl) ?_
                  refine lv_if_le (tgt := 134) hx hb dX5_runs_88 (by decide) (fun c17 => ?_) (fun c17 => ?_)
                  · have h := zif_t c17 h
                    cases zr79 _ (zend h).symm
                    exact KX134 _ _ _ hP hD hS (lv_sub hl [0, 1, 2, 3, 4, 5, 6] rfl)
                  · have h := zif_f c17 h
                    refine lv_lload hx hb dX5_runs_91 (lv_at hl 3 rfl) ?_
                    obtain ⟨r18, g19, h⟩ := zb1_s h
                    have hFc := va_free (wc := ([] : va_W)) hD hS hA [] rfl
                    refine zcp_l (va_runS (As := [.long x4_79h]) (rest := []) ⟨hx, hb, hml, hown, hts⟩ (c_X5_nextSeed l D cI cB cO x4_79h _ _ g19) (va_cwS 1 hts gX5_runs_X5_nextSeed rfl rfl rfl kS_X5_nextSeed ⟨Nat.le_trans (Nat.le_of_ble_eq_true rfl) hRf, Nat.le_trans (Nat.le_of_ble_eq_true rfl) hRl⟩) (zpreS hK hP hD hS hE hFc [] (rfl) rfl [.long x4_79h]) rfl rfl hl.1 rfl (lv_room (Nat.le_of_ble_eq_true rfl)) dX5_runs_93 ⟨Nat.zero_le _, Nat.zero_le _⟩) hP hD hS hFc [] (rfl) (fun H locs hP hS => ?_)
                    clear hFc
                    refine lv_lstore (lv' := [(4, .long r18), (0, .ref Xo), (1, .int a0), (3, .int a2), (6, .int x6_79h), (7, .int x7_50h), (8, .int x8_50h), (9, .int x9_79h), (10, .int x10_79h)]) hx hb dX5_runs_96 hl (by decide) rfl (fun ls hl => ?_)
                    refine lv_aload_n hx hb dX5_runs_98 rfl (lv_at hl 1 rfl) ?_
                    refine va_get (D := D) (ci := 5) (v := .ref To) (C := RX5) (T := TX5) (N := 13) hx hb hts inX5 hown hK hP 0 rfl rfl 7 (by decide) lk45 (fun _ h9 => h9) rfl dX5_runs_99 ?_
                    refine lv_lload hx hb dX5_runs_102 (lv_at hl 0 rfl) ?_
                    refine lv_ldc2 (v := (65536 : Int64)) hx hb hown (hts (.constantLong RX5 219 (65536)) (by decide +kernel)) dX5_runs_104 ?_
                    refine lv_ldiv hx hb dX5_runs_107 (by decide) ?_
                    refine lv_iload hx hb dX5_runs_108 (lv_at hl 7 rfl) ?_
                    refine lv_i2l (v := (x9_79h).toInt64) hx hb dX5_runs_110 rfl ?_
                    obtain ⟨z20, h⟩ := zck_s h
                    refine lv_lrem hx hb dX5_runs_111 (znl_s z20) ?_
                    refine lv_l2i (v := (((r18 / (65536 : Int64)) - (r18 / (65536 : Int64)) / (x9_79h).toInt64 * (x9_79h).toInt64)).toInt32) hx hb dX5_runs_112 rfl ?_
                    obtain ⟨Ss_21, Sa_22, g23, h⟩ := zb2_s h
                    have hFc := va_free (wc := (zfSG cI cO To Tp Go Gp Ts_79h Ta_79h Gs Ga)) hD hS hA [19, 20, 21, 22, 3, 4] (zC_44 (cI := cI) (cB := cB) (cO := cO))
                    refine zcm_v (w2 := (zfXW cI cO Xo Po Pp Go Gp No Np Qo Qp Ko Kp Lo Lp To Tp ra oo Xs Ps Pa Gs Ga Ns Na Qs Qa Ks Ka Ls La Ss_21 Sa_22 os)) (va_runV (As := [.int (((r18 / (65536 : Int64)) - (r18 / (65536 : Int64)) / (x9_79h).toInt64 * (x9_79h).toInt64)).toInt32]) (rest := []) ⟨hx, hb, hml, hown, hts⟩ (c_X4_leapByChoice l D cI cB cO To Tp Go Gp Ts_79h Ta_79h Gs Ga ((((r18 / (65536 : Int64)) - (r18 / (65536 : Int64)) / (x9_79h).toInt64 * (x9_79h).toInt64)).toInt32) _ _ _ g23) (cwV 1 hts gX5_runs_X4_leapByChoice rfl rfl rfl kV_X4_leapByChoice ⟨Nat.le_trans (Nat.le_of_ble_eq_true rfl) hRf, Nat.le_trans (Nat.le_of_ble_eq_true rfl) hRl⟩) (zpreV hK hP hD hS hE hFc [19, 20, 21, 22, 3, 4] (zC_44 (cI := cI) (cB := cB) (cO := cO)) rfl 19 (ci := 4) rfl rfl [.int (((r18 / (65536 : Int64)) - (r18 / (65536 : Int64)) / (x9_79h).toInt64 * (x9_79h).toInt64)).toInt32]) rfl rfl hl.1 rfl (lv_room (Nat.le_of_ble_eq_true rfl)) dX5_runs_113 ⟨Nat.zero_le _, Nat.zero_le _⟩) hS hFc (fun H1 t h1 h2 h3 => zM_44 (cI := cI) (cB := cB) (cO := cO) hP hD h1 h2 h3) (fun H locs hP hD hS => ?_)
                    clear hFc
                    refine lv_iinc (v := (x6_79h + (1 : Int32))) (lv' := [(6, .int (x6_79h + (1 : Int32))), (4, .long r18), (0, .ref Xo), (1, .int a0), (3, .int a2), (7, .int x7_50h), (8, .int x8_50h), (9, .int x9_79h), (10, .int x10_79h)]) hx hb dX5_runs_116 hl (k := 4) rfl rfl (by decide) rfl (fun ls hl => ?_)
                    refine lv_aload_n hx hb dX5_runs_119 rfl (lv_at hl 2 rfl) ?_
                    refine va_get (D := D) (ci := 5) (v := .ref To) (C := RX5) (T := TX5) (N := 13) hx hb hts inX5 hown hK hP 0 rfl rfl 7 (by decide) lk45 (fun _ h9 => h9) rfl dX5_runs_120 ?_
                    obtain ⟨r24, g25, h⟩ := zb1_s h
                    have hFc := va_free (wc := (zfSG cI cO To Tp Go Gp Ss_21 Sa_22 Gs Ga)) hD hS hA [19, 20, 21, 22, 3, 4] (zC_47 (cI := cI) (cB := cB) (cO := cO))
                    refine zcp_i (va_runV (As := []) (rest := []) ⟨hx, hb, hml, hown, hts⟩ (c_X4_choices l D cI cB cO To Tp Go Gp Ss_21 Sa_22 Gs Ga _ _ g25) (cwV 0 hts gX5_runs_X4_choices rfl rfl rfl kV_X4_choices ⟨Nat.le_trans (Nat.le_of_ble_eq_true rfl) hRf, Nat.le_trans (Nat.le_of_ble_eq_true rfl) hRl⟩) (zpreV hK hP hD hS hE hFc [19, 20, 21, 22, 3, 4] (zC_47 (cI := cI) (cB := cB) (cO := cO)) rfl 19 (ci := 4) rfl rfl []) rfl rfl hl.1 rfl (lv_room (Nat.le_of_ble_eq_true rfl)) dX5_runs_123 ⟨Nat.zero_le _, Nat.zero_le _⟩) hP hD hS hFc [19, 20, 21, 22, 3, 4] (zC_47 (cI := cI) (cB := cB) (cO := cO)) (fun H locs hP hS => ?_)
                    clear hFc
                    refine lv_istore (lv' := [(9, .int r24), (6, .int (x6_79h + (1 : Int32))), (4, .long r18), (0, .ref Xo), (1, .int a0), (3, .int a2), (7, .int x7_50h), (8, .int x8_50h), (10, .int x10_79h)]) hx hb dX5_runs_126 hl (by decide) rfl (fun ls hl => ?_)
                    refine lv_iinc (v := (x10_79h + (1 : Int32))) (lv' := [(10, .int (x10_79h + (1 : Int32))), (9, .int r24), (6, .int (x6_79h + (1 : Int32))), (4, .long r18), (0, .ref Xo), (1, .int a0), (3, .int a2), (7, .int x7_50h), (8, .int x8_50h)]) hx hb dX5_runs_128 hl (k := 8) rfl rfl (by decide) rfl (fun ls hl => ?_)
                    refine lv_goto (tgt := 79) hx hb dX5_runs_131 (by decide) ?_
                    exact zl79 _ _ _ _ _ _ (zend h).symm _ _ _ hP hD hS (lv_sub hl [4, 5, 6, 3, 2, 7, 8, 1, 0] rfl)
            · have h := zif_t c6 h
              refine lv_bipush (v := (-103 : Int32)) hx hb dX5_runs_34 (by decide) ?_
              cases zend h
              exact hq hP hD hS dX5_runs_36
          · have h := zif_f c5 h
            refine lv_bipush (v := (-102 : Int32)) hx hb dX5_runs_24 (by decide) ?_
            cases zend h
            exact hq hP hD hS dX5_runs_26
set_option maxHeartbeats 4000000 in
set_option maxRecDepth 100000 in
theorem c_X5_count (l : Launch) (D : va_G) (cI cB cO : ClassId) (Xo : Nat) (Po : Nat) (Pp : Nat → Nat) (Go : Nat) (Gp : Nat → Nat) (No : Nat) (Np : Nat → Nat) (Qo : Nat) (Qp : Nat → Nat) (Ko : Nat) (Kp : Nat → Nat) (Lo : Nat) (Lp : Nat → Nat) (To : Nat) (Tp : Nat → Nat) (ra : Nat) (oo : Nat → Nat) (Xs : Nat → Int32) (Ps : Nat → Int32) (Pa : Nat → Nat → Int32) (Gs : Nat → Int32) (Ga : Nat → Nat → Int32) (Ns : Nat → Int32) (Na : Nat → Nat → Int32) (Qs : Nat → Int32) (Qa : Nat → Nat → Int32) (Ks : Nat → Int32) (Ka : Nat → Nat → Int32) (Ls : Nat → Int32) (La : Nat → Nat → Int32) (Ts : Nat → Int32) (Ta : Nat → Nat → Int32) (os : Nat → Nat → Int32) (a0 : Int32) (rv : Int32) (sz : Nat) (h : fX5_count Xs Ps Gs Ga Ns Na Qs a0 = some rv) : Met l yX5_count wsX5_count ({ frames := 5, cells := 0, slots := 0, locals := 115 } : Room) (va_Pc [.ref Xo, .int a0] (zPre D (zTY cI cB cO) (zfXW cI cO Xo Po Pp Go Gp No Np Qo Qp Ko Kp Lo Lp To Tp ra oo Xs Ps Pa Gs Ga Ns Na Qs Qa Ks Ka Ls La Ts Ta os) sz)) (va_Qi (fun r (_ : Unit) => r = rv) (fun _ => zPost D (zTY cI cB cO) (zfXW cI cO Xo Po Pp Go Gp No Np Qo Qp Ko Kp Lo Lp To Tp ra oo Xs Ps Pa Gs Ga Ns Na Qs Qa Ks Ka Ls La Ts Ta os) (va_A (zfXW cI cO Xo Po Pp Go Gp No Np Qo Qp Ko Kp Lo Lp To Tp ra oo Xs Ps Pa Gs Ga Ns Na Qs Qa Ks Ka Ls La Ts Ta os) sz)) (va_A (zfXW cI cO Xo Po Pp Go Gp No Np Qo Qp Ko Kp Lo Lp To Tp ra oo Xs Ps Pa Gs Ga Ns Na Qs Qa Ks Ka Ls La Ts Ta os) sz)) 0 0 (va_A (zfXW cI cO Xo Po Pp Go Gp No Np Qo Qp Ko Kp Lo Lp To Tp ra oo Xs Ps Pa Gs Ga Ns Na Qs Qa Ks Ka Ls La Ts Ta os) sz) := by
  unfold fX5_count at h
  refine zmet_i (cc := cX5_count) (maxL := 2) (by decide) rfl (Nat.le_of_ble_eq_true rfl) rfl rfl ?_
  intro p e s m args below meth c R Q A ls hx hb hts hown hml hK hP hD hE hA hS hRf hRl hl hq
  have hown : s.vm.findClass RX5 = some m.cls := hown
  have hl : lv_has ls 2 [(0, .ref Xo), (1, .int a0)] := hl
  have inX5 : ∀ w ∈ u_ws RX5 TX5 13, w ∈ wsX5_count := by decide +kernel
  have lk19 : (Cond.fieldLink RX5 19 "PegField" "grid" "LPegField$Grid;").before args s = true := hts _ (by decide +kernel)
  have inX0 : ∀ w ∈ u_ws RX0 TX0 4, w ∈ wsX5_count := by decide +kernel
  have lk228 : (Cond.fieldLinkNest RX5 228 "PegField$Grid" "rows" "I" "PegField").before args s = true := hE.2.use (by decide +kernel)
  have lk231 : (Cond.fieldLinkNest RX5 231 "PegField$Grid" "columns" "I" "PegField").before args s = true := hE.2.use (by decide +kernel)
  have lk28 : (Cond.fieldLink RX5 28 "PegField" "now" "LPegField$State;").before args s = true := hts _ (by decide +kernel)
  have inX4 : ∀ w ∈ u_ws RX4 TX4 8, w ∈ wsX5_count := by decide +kernel
  have lk159 : (Cond.fieldLinkNest RX5 159 "PegField$State" "holes" "I" "PegField").before args s = true := hE.2.use (by decide +kernel)
  have lk98 : (Cond.fieldLinkNest RX5 98 "PegField$State" "pegs" "I" "PegField").before args s = true := hE.2.use (by decide +kernel)
  have lk150 : (Cond.fieldLinkNest RX5 150 "PegField$State" "onBoard" "I" "PegField").before args s = true := hE.2.use (by decide +kernel)
  have lk140 : (Cond.fieldLinkNest RX5 140 "PegField$State" "jumps" "I" "PegField").before args s = true := hE.2.use (by decide +kernel)
  have lk35 : (Cond.fieldLink RX5 35 "PegField" "seen" "LPegField$Seen;").before args s = true := hts _ (by decide +kernel)
  have inX3 : ∀ w ∈ u_ws RX3 TX3 3, w ∈ wsX5_count := by decide +kernel
  have lk87 : (Cond.fieldLinkNest RX5 87 "PegField$Seen" "size" "I" "PegField").before args s = true := hE.2.use (by decide +kernel)
  have lk12 : (Cond.fieldLink RX5 12 "PegField" "page" "LPegField$Page;").before args s = true := hts _ (by decide +kernel)
  have inX2 : ∀ w ∈ u_ws RX2 TX2 2, w ∈ wsX5_count := by decide +kernel
  have lk63 : (Cond.fieldLinkNest RX5 63 "PegField$Page" "size" "I" "PegField").before args s = true := hE.2.use (by decide +kernel)
  have lk95 : (Cond.fieldLink RX5 95 "PegField" "reads" "I").before args s = true := hts _ (by decide +kernel)
  have lk194 : (Cond.fieldLink RX5 194 "PegField" "adds" "I").before args s = true := hts _ (by decide +kernel)
  refine lv_iload_n hx hb dX5_count_0 rfl (lv_at hl 1 rfl) ?_
  by_cases c1 : a0 = (0 : Int32)
  · have h := zif_t c1 h
    refine lv_tableIn (tgt := 60) (off := 59) hx hb dX5_count_1 (by rw [c1]; decide) (by rw [c1]; decide) (by rw [c1]; rfl) (by decide) ?_
    refine lv_aload_n hx hb dX5_count_60 rfl (lv_at hl 0 rfl) ?_
    refine va_get (D := D) (ci := 5) (v := .ref Go) (C := RX5) (T := TX5) (N := 13) hx hb hts inX5 hown hK hP 0 rfl rfl 1 (by decide) lk19 (fun _ h9 => h9) rfl dX5_count_61 ?_
    refine va_getN (D := D) (ci := 0) (v := .int (Gs 0)) (C := RX0) (T := TX0) (N := 4) hx hb hts inX0 hown hK hP 3 rfl rfl 0 (by decide) lk228 (fun _ h9 => h9) rfl dX5_count_64 ?_
    cases zend h
    exact hq hP hD hS dX5_count_67
  · have h := zif_f c1 h
    by_cases c2 : a0 = (1 : Int32)
    · have h := zif_t c2 h
      refine lv_tableIn (tgt := 68) (off := 67) hx hb dX5_count_1 (by rw [c2]; decide) (by rw [c2]; decide) (by rw [c2]; rfl) (by decide) ?_
      refine lv_aload_n hx hb dX5_count_68 rfl (lv_at hl 0 rfl) ?_
      refine va_get (D := D) (ci := 5) (v := .ref Go) (C := RX5) (T := TX5) (N := 13) hx hb hts inX5 hown hK hP 0 rfl rfl 1 (by decide) lk19 (fun _ h9 => h9) rfl dX5_count_69 ?_
      refine va_getN (D := D) (ci := 0) (v := .int (Gs 1)) (C := RX0) (T := TX0) (N := 4) hx hb hts inX0 hown hK hP 3 rfl rfl 1 (by decide) lk231 (fun _ h9 => h9) rfl dX5_count_72 ?_
      cases zend h
      exact hq hP hD hS dX5_count_75
    · have h := zif_f c2 h
      by_cases c3 : a0 = (2 : Int32)
      · have h := zif_t c3 h
        refine lv_tableIn (tgt := 76) (off := 75) hx hb dX5_count_1 (by rw [c3]; decide) (by rw [c3]; decide) (by rw [c3]; rfl) (by decide) ?_
        refine lv_aload_n hx hb dX5_count_76 rfl (lv_at hl 0 rfl) ?_
        refine va_get (D := D) (ci := 5) (v := .ref No) (C := RX5) (T := TX5) (N := 13) hx hb hts inX5 hown hK hP 0 rfl rfl 2 (by decide) lk28 (fun _ h9 => h9) rfl dX5_count_77 ?_
        refine va_getN (D := D) (ci := 4) (v := .int (Ns 1)) (C := RX4) (T := TX4) (N := 8) hx hb hts inX4 hown hK hP 5 rfl rfl 1 (by decide) lk159 (fun _ h9 => h9) rfl dX5_count_80 ?_
        obtain ⟨r4, g5, h⟩ := zb1_s h
        have hFc := va_free (wc := ([] : va_W)) hD hS hA [] rfl
        refine zcp_i (va_runS (As := [.int (Ns 1)]) (rest := []) ⟨hx, hb, hml, hown, hts⟩ (c_J6_bitCount_0f7a4 l D cI cB cO (Ns 1) _ _ g5) (va_cwS 1 hts gX5_count_J6_bitCount_0f7a4 rfl rfl rfl kS_J6_bitCount_0f7a4 ⟨Nat.le_trans (Nat.le_of_ble_eq_true rfl) hRf, Nat.le_trans (Nat.le_of_ble_eq_true rfl) hRl⟩) (zpreS hK hP hD hS hE hFc [] (rfl) rfl [.int (Ns 1)]) rfl rfl hl.1 rfl (lv_room (Nat.le_of_ble_eq_true rfl)) dX5_count_83 ⟨Nat.zero_le _, Nat.zero_le _⟩) hP hD hS hFc [] (rfl) (fun H locs hP hS => ?_)
        clear hFc
        cases zend h
        exact hq hP hD hS dX5_count_86
      · have h := zif_f c3 h
        by_cases c6 : a0 = (3 : Int32)
        · have h := zif_t c6 h
          refine lv_tableIn (tgt := 87) (off := 86) hx hb dX5_count_1 (by rw [c6]; decide) (by rw [c6]; decide) (by rw [c6]; rfl) (by decide) ?_
          refine lv_aload_n hx hb dX5_count_87 rfl (lv_at hl 0 rfl) ?_
          refine va_get (D := D) (ci := 5) (v := .ref No) (C := RX5) (T := TX5) (N := 13) hx hb hts inX5 hown hK hP 0 rfl rfl 2 (by decide) lk28 (fun _ h9 => h9) rfl dX5_count_88 ?_
          refine va_getN (D := D) (ci := 4) (v := .int (Ns 2)) (C := RX4) (T := TX4) (N := 8) hx hb hts inX4 hown hK hP 5 rfl rfl 2 (by decide) lk98 (fun _ h9 => h9) rfl dX5_count_91 ?_
          cases zend h
          exact hq hP hD hS dX5_count_94
        · have h := zif_f c6 h
          by_cases c7 : a0 = (4 : Int32)
          · have h := zif_t c7 h
            refine lv_tableIn (tgt := 95) (off := 94) hx hb dX5_count_1 (by rw [c7]; decide) (by rw [c7]; decide) (by rw [c7]; rfl) (by decide) ?_
            refine lv_aload_n hx hb dX5_count_95 rfl (lv_at hl 0 rfl) ?_
            refine va_get (D := D) (ci := 5) (v := .ref No) (C := RX5) (T := TX5) (N := 13) hx hb hts inX5 hown hK hP 0 rfl rfl 2 (by decide) lk28 (fun _ h9 => h9) rfl dX5_count_96 ?_
            refine va_getN (D := D) (ci := 4) (v := .int (Ns 3)) (C := RX4) (T := TX4) (N := 8) hx hb hts inX4 hown hK hP 5 rfl rfl 3 (by decide) lk150 (fun _ h9 => h9) rfl dX5_count_99 ?_
            cases zend h
            exact hq hP hD hS dX5_count_102
          · have h := zif_f c7 h
            by_cases c8 : a0 = (5 : Int32)
            · have h := zif_t c8 h
              refine lv_tableIn (tgt := 103) (off := 102) hx hb dX5_count_1 (by rw [c8]; decide) (by rw [c8]; decide) (by rw [c8]; rfl) (by decide) ?_
              refine lv_aload_n hx hb dX5_count_103 rfl (lv_at hl 0 rfl) ?_
              refine va_get (D := D) (ci := 5) (v := .ref No) (C := RX5) (T := TX5) (N := 13) hx hb hts inX5 hown hK hP 0 rfl rfl 2 (by decide) lk28 (fun _ h9 => h9) rfl dX5_count_104 ?_
              obtain ⟨r9, g10, h⟩ := zb1_s h
              have hFc := va_free (wc := (zfSG cI cO No Np Go Gp Ns Na Gs Ga)) hD hS hA [5, 6, 7, 8, 3, 4] (zC_14 (cI := cI) (cB := cB) (cO := cO))
              refine zcp_i (va_runV (As := []) (rest := []) ⟨hx, hb, hml, hown, hts⟩ (c_X4_choices l D cI cB cO No Np Go Gp Ns Na Gs Ga _ _ g10) (cwV 0 hts gX5_count_X4_choices rfl rfl rfl kV_X4_choices ⟨Nat.le_trans (Nat.le_of_ble_eq_true rfl) hRf, Nat.le_trans (Nat.le_of_ble_eq_true rfl) hRl⟩) (zpreV hK hP hD hS hE hFc [5, 6, 7, 8, 3, 4] (zC_14 (cI := cI) (cB := cB) (cO := cO)) rfl 5 (ci := 4) rfl rfl []) rfl rfl hl.1 rfl (lv_room (Nat.le_of_ble_eq_true rfl)) dX5_count_107 ⟨Nat.zero_le _, Nat.zero_le _⟩) hP hD hS hFc [5, 6, 7, 8, 3, 4] (zC_14 (cI := cI) (cB := cB) (cO := cO)) (fun H locs hP hS => ?_)
              clear hFc
              cases zend h
              exact hq hP hD hS dX5_count_110
            · have h := zif_f c8 h
              by_cases c11 : a0 = (6 : Int32)
              · have h := zif_t c11 h
                refine lv_tableIn (tgt := 111) (off := 110) hx hb dX5_count_1 (by rw [c11]; decide) (by rw [c11]; decide) (by rw [c11]; rfl) (by decide) ?_
                refine lv_aload_n hx hb dX5_count_111 rfl (lv_at hl 0 rfl) ?_
                refine va_get (D := D) (ci := 5) (v := .ref No) (C := RX5) (T := TX5) (N := 13) hx hb hts inX5 hown hK hP 0 rfl rfl 2 (by decide) lk28 (fun _ h9 => h9) rfl dX5_count_112 ?_
                refine va_getN (D := D) (ci := 4) (v := .int (Ns 4)) (C := RX4) (T := TX4) (N := 8) hx hb hts inX4 hown hK hP 5 rfl rfl 4 (by decide) lk140 (fun _ h9 => h9) rfl dX5_count_115 ?_
                cases zend h
                exact hq hP hD hS dX5_count_118
              · have h := zif_f c11 h
                by_cases c12 : a0 = (7 : Int32)
                · have h := zif_t c12 h
                  refine lv_tableIn (tgt := 119) (off := 118) hx hb dX5_count_1 (by rw [c12]; decide) (by rw [c12]; decide) (by rw [c12]; rfl) (by decide) ?_
                  refine lv_aload_n hx hb dX5_count_119 rfl (lv_at hl 0 rfl) ?_
                  refine va_get (D := D) (ci := 5) (v := .ref Qo) (C := RX5) (T := TX5) (N := 13) hx hb hts inX5 hown hK hP 0 rfl rfl 3 (by decide) lk35 (fun _ h9 => h9) rfl dX5_count_120 ?_
                  refine va_getN (D := D) (ci := 3) (v := .int (Qs 2)) (C := RX3) (T := TX3) (N := 3) hx hb hts inX3 hown hK hP 9 rfl rfl 2 (by decide) lk87 (fun _ h9 => h9) rfl dX5_count_123 ?_
                  cases zend h
                  exact hq hP hD hS dX5_count_126
                · have h := zif_f c12 h
                  by_cases c13 : a0 = (8 : Int32)
                  · have h := zif_t c13 h
                    refine lv_tableIn (tgt := 127) (off := 126) hx hb dX5_count_1 (by rw [c13]; decide) (by rw [c13]; decide) (by rw [c13]; rfl) (by decide) ?_
                    refine lv_aload_n hx hb dX5_count_127 rfl (lv_at hl 0 rfl) ?_
                    refine va_get (D := D) (ci := 5) (v := .ref Po) (C := RX5) (T := TX5) (N := 13) hx hb hts inX5 hown hK hP 0 rfl rfl 0 (by decide) lk12 (fun _ h9 => h9) rfl dX5_count_128 ?_
                    refine va_getN (D := D) (ci := 2) (v := .int (Ps 1)) (C := RX2) (T := TX2) (N := 2) hx hb hts inX2 hown hK hP 1 rfl rfl 1 (by decide) lk63 (fun _ h9 => h9) rfl dX5_count_131 ?_
                    cases zend h
                    exact hq hP hD hS dX5_count_134
                  · have h := zif_f c13 h
                    by_cases c14 : a0 = (9 : Int32)
                    · have h := zif_t c14 h
                      refine lv_tableIn (tgt := 135) (off := 134) hx hb dX5_count_1 (by rw [c14]; decide) (by rw [c14]; decide) (by rw [c14]; rfl) (by decide) ?_
                      refine lv_aload_n hx hb dX5_count_135 rfl (lv_at hl 0 rfl) ?_
                      refine va_get (D := D) (ci := 5) (v := .int (Xs 11)) (C := RX5) (T := TX5) (N := 13) hx hb hts inX5 hown hK hP 0 rfl rfl 11 (by decide) lk95 (fun _ h9 => h9) rfl dX5_count_136 ?_
                      cases zend h
                      exact hq hP hD hS dX5_count_139
                    · have h := zif_f c14 h
                      by_cases c15 : a0 = (10 : Int32)
                      · have h := zif_t c15 h
                        refine lv_tableIn (tgt := 140) (off := 139) hx hb dX5_count_1 (by rw [c15]; decide) (by rw [c15]; decide) (by rw [c15]; rfl) (by decide) ?_
                        refine lv_aload_n hx hb dX5_count_140 rfl (lv_at hl 0 rfl) ?_
                        refine va_get (D := D) (ci := 5) (v := .int (Xs 12)) (C := RX5) (T := TX5) (N := 13) hx hb hts inX5 hown hK hP 0 rfl rfl 12 (by decide) lk194 (fun _ h9 => h9) rfl dX5_count_141 ?_
                        cases zend h
                        exact hq hP hD hS dX5_count_144
                      · have h := zif_f c15 h
                        have nc1 := zne_i (k := 0) (0 : Int32) (by decide) c1
                        have nc2 := zne_i (k := 1) (1 : Int32) (by decide) c2
                        have nc3 := zne_i (k := 2) (2 : Int32) (by decide) c3
                        have nc6 := zne_i (k := 3) (3 : Int32) (by decide) c6
                        have nc7 := zne_i (k := 4) (4 : Int32) (by decide) c7
                        have nc8 := zne_i (k := 5) (5 : Int32) (by decide) c8
                        have nc11 := zne_i (k := 6) (6 : Int32) (by decide) c11
                        have nc12 := zne_i (k := 7) (7 : Int32) (by decide) c12
                        have nc13 := zne_i (k := 8) (8 : Int32) (by decide) c13
                        have nc14 := zne_i (k := 9) (9 : Int32) (by decide) c14
                        have nc15 := zne_i (k := 10) (10 : Int32) (by decide) c15
                        refine lv_tableOut (tgt := 145) hx hb dX5_count_1 (by omega) (by decide) ?_
                        refine lv_bipush (v := (-102 : Int32)) hx hb dX5_count_145 (by decide) ?_
                        cases zend h
                        exact hq hP hD hS dX5_count_147
set_option maxHeartbeats 4000000 in
set_option maxRecDepth 100000 in
theorem c_X5_digest (l : Launch) (D : va_G) (cI cB cO : ClassId) (Xo : Nat) (Po : Nat) (Pp : Nat → Nat) (Go : Nat) (Gp : Nat → Nat) (No : Nat) (Np : Nat → Nat) (Qo : Nat) (Qp : Nat → Nat) (Ko : Nat) (Kp : Nat → Nat) (Lo : Nat) (Lp : Nat → Nat) (To : Nat) (Tp : Nat → Nat) (ra : Nat) (oo : Nat → Nat) (Xs : Nat → Int32) (Ps : Nat → Int32) (Pa : Nat → Nat → Int32) (Gs : Nat → Int32) (Ga : Nat → Nat → Int32) (Ns : Nat → Int32) (Na : Nat → Nat → Int32) (Qs : Nat → Int32) (Qa : Nat → Nat → Int32) (Ks : Nat → Int32) (Ka : Nat → Nat → Int32) (Ls : Nat → Int32) (La : Nat → Nat → Int32) (Ts : Nat → Int32) (Ta : Nat → Nat → Int32) (os : Nat → Nat → Int32)  (rv : Int64) (Xs' : Nat → Int32) (Ts' : Nat → Int32) (Ta' : Nat → Nat → Int32) (os' : Nat → Nat → Int32) (sz : Nat) (h : fX5_digest Xs Ps Pa Gs Ga Ns Na Qs Qa Ts Ta os = some (rv, Xs', Ts', Ta', os')) : Met l yX5_digest wsX5_digest ({ frames := 14, cells := 0, slots := 0, locals := 367 } : Room) (va_Pc [.ref Xo] (zPre D (zTY cI cB cO) (zfXW cI cO Xo Po Pp Go Gp No Np Qo Qp Ko Kp Lo Lp To Tp ra oo Xs Ps Pa Gs Ga Ns Na Qs Qa Ks Ka Ls La Ts Ta os) sz)) (va_Ql (fun r (_ : Unit) => r = rv) (fun _ => zPost D (zTY cI cB cO) (zfXW cI cO Xo Po Pp Go Gp No Np Qo Qp Ko Kp Lo Lp To Tp ra oo Xs' Ps Pa Gs Ga Ns Na Qs Qa Ks Ka Ls La Ts' Ta' os') (va_A (zfXW cI cO Xo Po Pp Go Gp No Np Qo Qp Ko Kp Lo Lp To Tp ra oo Xs Ps Pa Gs Ga Ns Na Qs Qa Ks Ka Ls La Ts Ta os) sz)) (va_A (zfXW cI cO Xo Po Pp Go Gp No Np Qo Qp Ko Kp Lo Lp To Tp ra oo Xs Ps Pa Gs Ga Ns Na Qs Qa Ks Ka Ls La Ts Ta os) sz)) 0 0 (va_A (zfXW cI cO Xo Po Pp Go Gp No Np Qo Qp Ko Kp Lo Lp To Tp ra oo Xs Ps Pa Gs Ga Ns Na Qs Qa Ks Ka Ls La Ts Ta os) sz) := by
  unfold fX5_digest at h
  refine zmet_l (cc := cX5_digest) (maxL := 5) (by decide) rfl (Nat.le_of_ble_eq_true rfl) rfl rfl ?_
  intro p e s m args below meth c R Q A ls hx hb hts hown hml hK hP hD hE hA hS hRf hRl hl hq
  have hown : s.vm.findClass RX5 = some m.cls := hown
  have hl : lv_has ls 5 [(0, .ref Xo)] := hl
  have inX5 : ∀ w ∈ u_ws RX5 TX5 13, w ∈ wsX5_digest := by decide +kernel
  have lk28 : (Cond.fieldLink RX5 28 "PegField" "now" "LPegField$State;").before args s = true := hts _ (by decide +kernel)
  have inX4 : ∀ w ∈ u_ws RX4 TX4 8, w ∈ wsX5_digest := by decide +kernel
  have lk98 : (Cond.fieldLinkNest RX5 98 "PegField$State" "pegs" "I" "PegField").before args s = true := hE.2.use (by decide +kernel)
  have lk19 : (Cond.fieldLink RX5 19 "PegField" "grid" "LPegField$Grid;").before args s = true := hts _ (by decide +kernel)
  have inX0 : ∀ w ∈ u_ws RX0 TX0 4, w ∈ wsX5_digest := by decide +kernel
  have lk241 : (Cond.fieldLinkNest RX5 241 "PegField$Grid" "places" "I" "PegField").before args s = true := hE.2.use (by decide +kernel)
  have lk95 : (Cond.fieldLink RX5 95 "PegField" "reads" "I").before args s = true := hts _ (by decide +kernel)
  have lk12 : (Cond.fieldLink RX5 12 "PegField" "page" "LPegField$Page;").before args s = true := hts _ (by decide +kernel)
  have inX2 : ∀ w ∈ u_ws RX2 TX2 2, w ∈ wsX5_digest := by decide +kernel
  have lk63 : (Cond.fieldLinkNest RX5 63 "PegField$Page" "size" "I" "PegField").before args s = true := hE.2.use (by decide +kernel)
  refine lv_ldc2 (v := (1307 : Int64)) hx hb hown (hts (.constantLong RX5 234 (1307)) (by decide +kernel)) dX5_digest_0 ?_
  refine lv_lstore_n (lv' := [(1, .long (1307 : Int64)), (0, .ref Xo)]) hx hb dX5_digest_3 rfl hl (by decide) rfl (fun ls hl => ?_)
  refine lv_iconst (v := (0 : Int32)) hx hb dX5_digest_4 (by decide) ?_
  refine lv_istore_n (lv' := [(3, .int (0 : Int32)), (1, .long (1307 : Int64)), (0, .ref Xo)]) hx hb dX5_digest_5 rfl hl (by decide) rfl (fun ls hl => ?_)
  obtain ⟨x1_53x6, i63, h⟩ := zb1_s h
  have KX53 : ∀ (H : Heap) (locs : List Loc) (ls : Array Slot), va_P D vwCl (zfXW cI cO Xo Po Pp Go Gp No Np Qo Qp Ko Kp Lo Lp To Tp ra oo Xs Ps Pa Gs Ga Ns Na Qs Qa Ks Ka Ls La Ts Ta os) H → va_D A (zfXW cI cO Xo Po Pp Go Gp No Np Qo Qp Ko Kp Lo Lp To Tp ra oo Xs Ps Pa Gs Ga Ns Na Qs Qa Ks Ka Ls La Ts Ta os) → va_S A s.heap H locs → lv_has ls 5 [(0, .ref Xo), (1, .long x1_53x6)] → W p l e R s m args below meth c H locs 0 0 Q (F0 m 53 ls []) := by
    intro H locs ls hP hD hS hl
    refine lv_iconst (v := (0 : Int32)) hx hb dX5_digest_53 (by decide) ?_
    refine lv_istore_n (lv' := [(3, .int (0 : Int32)), (0, .ref Xo), (1, .long x1_53x6)]) hx hb dX5_digest_54 rfl hl (by decide) rfl (fun ls hl => ?_)
    obtain ⟨x1_100x55, i62, h⟩ := zb1_s h
    have KX100 : ∀ (H : Heap) (locs : List Loc) (ls : Array Slot), va_P D vwCl (zfXW cI cO Xo Po Pp Go Gp No Np Qo Qp Ko Kp Lo Lp To Tp ra oo Xs Ps Pa Gs Ga Ns Na Qs Qa Ks Ka Ls La Ts Ta os) H → va_D A (zfXW cI cO Xo Po Pp Go Gp No Np Qo Qp Ko Kp Lo Lp To Tp ra oo Xs Ps Pa Gs Ga Ns Na Qs Qa Ks Ka Ls La Ts Ta os) → va_S A s.heap H locs → lv_has ls 5 [(0, .ref Xo), (1, .long x1_100x55)] → W p l e R s m args below meth c H locs 0 0 Q (F0 m 100 ls []) := by
      intro H locs ls hP hD hS hl
      refine lv_aload_n hx hb dX5_digest_100 rfl (lv_at hl 0 rfl) ?_
      refine va_get (D := D) (ci := 5) (v := .int (Xs 11)) (C := RX5) (T := TX5) (N := 13) hx hb hts inX5 hown hK hP 0 rfl rfl 11 (by decide) lk95 (fun _ h9 => h9) rfl dX5_digest_101 ?_
      obtain ⟨x1_171, Xs_171, Ts_171, Ta_171, os_171, j29, h⟩ := zb5_s h
      have K171 : ∀ (H : Heap) (locs : List Loc) (ls : Array Slot), va_P D vwCl (zfXW cI cO Xo Po Pp Go Gp No Np Qo Qp Ko Kp Lo Lp To Tp ra oo Xs_171 Ps Pa Gs Ga Ns Na Qs Qa Ks Ka Ls La Ts_171 Ta_171 os_171) H → va_D A (zfXW cI cO Xo Po Pp Go Gp No Np Qo Qp Ko Kp Lo Lp To Tp ra oo Xs_171 Ps Pa Gs Ga Ns Na Qs Qa Ks Ka Ls La Ts_171 Ta_171 os_171) → va_S A s.heap H locs → lv_has ls 5 [(0, .ref Xo), (1, .long x1_171)] → W p l e R s m args below meth c H locs 0 0 Q (F0 m 171 ls []) := by
        intro H locs ls hP hD hS hl
        refine lv_iconst (v := (0 : Int32)) hx hb dX5_digest_171 (by decide) ?_
        refine lv_istore_n (lv' := [(3, .int (0 : Int32)), (0, .ref Xo), (1, .long x1_171)]) hx hb dX5_digest_172 rfl hl (by decide) rfl (fun ls hl => ?_)
        obtain ⟨x1_206x173, i28, h⟩ := zb1_s h
        have KX206 : ∀ (H : Heap) (locs : List Loc) (ls : Array Slot), va_P D vwCl (zfXW cI cO Xo Po Pp Go Gp No Np Qo Qp Ko Kp Lo Lp To Tp ra oo Xs_171 Ps Pa Gs Ga Ns Na Qs Qa Ks Ka Ls La Ts_171 Ta_171 os_171) H → va_D A (zfXW cI cO Xo Po Pp Go Gp No Np Qo Qp Ko Kp Lo Lp To Tp ra oo Xs_171 Ps Pa Gs Ga Ns Na Qs Qa Ks Ka Ls La Ts_171 Ta_171 os_171) → va_S A s.heap H locs → lv_has ls 5 [(0, .ref Xo), (1, .long x1_206x173)] → W p l e R s m args below meth c H locs 0 0 Q (F0 m 206 ls []) := by
          intro H locs ls hP hD hS hl
          refine lv_iconst (v := (0 : Int32)) hx hb dX5_digest_206 (by decide) ?_
          refine lv_istore_n (lv' := [(3, .int (0 : Int32)), (0, .ref Xo), (1, .long x1_206x173)]) hx hb dX5_digest_207 rfl hl (by decide) rfl (fun ls hl => ?_)
          obtain ⟨x1_233x208, i27, h⟩ := zb1_s h
          have KX233 : ∀ (H : Heap) (locs : List Loc) (ls : Array Slot), va_P D vwCl (zfXW cI cO Xo Po Pp Go Gp No Np Qo Qp Ko Kp Lo Lp To Tp ra oo Xs_171 Ps Pa Gs Ga Ns Na Qs Qa Ks Ka Ls La Ts_171 Ta_171 os_171) H → va_D A (zfXW cI cO Xo Po Pp Go Gp No Np Qo Qp Ko Kp Lo Lp To Tp ra oo Xs_171 Ps Pa Gs Ga Ns Na Qs Qa Ks Ka Ls La Ts_171 Ta_171 os_171) → va_S A s.heap H locs → lv_has ls 5 [(1, .long x1_233x208)] → W p l e R s m args below meth c H locs 0 0 Q (F0 m 233 ls []) := by
            intro H locs ls hP hD hS hl
            refine lv_lload_n hx hb dX5_digest_233 rfl (lv_at hl 0 rfl) ?_
            cases zend h
            exact hq hP hD hS dX5_digest_234
          clear h
          refine zi2_ind (P := (fun (x1_208h : Int64) (x3_208h : Int32) => ∀ (H : Heap) (locs : List Loc) (ls : Array Slot), va_P D vwCl (zfXW cI cO Xo Po Pp Go Gp No Np Qo Qp Ko Kp Lo Lp To Tp ra oo Xs_171 Ps Pa Gs Ga Ns Na Qs Qa Ks Ka Ls La Ts_171 Ta_171 os_171) H → va_D A (zfXW cI cO Xo Po Pp Go Gp No Np Qo Qp Ko Kp Lo Lp To Tp ra oo Xs_171 Ps Pa Gs Ga Ns Na Qs Qa Ks Ka Ls La Ts_171 Ta_171 os_171) → va_S A s.heap H locs → lv_has ls 5 [(0, .ref Xo), (1, .long x1_208h), (3, .int x3_208h)] → W p l e R s m args below meth c H locs 0 0 Q (F0 m 208 ls []))) ?_ i27 _ _ _ hP hD hS (lv_sub hl [1, 2, 0] rfl)
          clear i27 hP hD hS hl
          intro x1_208h x3_208h z208 h zl208 zr208 H locs ls hP hD hS hl
          refine lv_iload_n hx hb dX5_digest_208 rfl (lv_at hl 2 rfl) ?_
          refine lv_bipush (v := (10 : Int32)) hx hb dX5_digest_209 (by decide) ?_
          refine lv_icmp_gt (tgt := 233) hx hb dX5_digest_211 (by decide) (fun c23 => ?_) (fun c23 => ?_)
          · have h := zif_t c23 h
            cases zr208 _ (zend h).symm
            exact KX233 _ _ _ hP hD hS (lv_sub hl [1] rfl)
          · have h := zif_f c23 h
            refine lv_ldc2 (v := (31 : Int64)) hx hb hown (hts (.constantLong RX5 236 (31)) (by decide +kernel)) dX5_digest_214 ?_
            refine lv_lload_n hx hb dX5_digest_217 rfl (lv_at hl 1 rfl) ?_
            refine lv_lmul hx hb dX5_digest_218 ?_
            refine lv_aload_n hx hb dX5_digest_219 rfl (lv_at hl 0 rfl) ?_
            refine lv_iload_n hx hb dX5_digest_220 rfl (lv_at hl 2 rfl) ?_
            obtain ⟨r24, g25, h⟩ := zb1_s h
            have hFc := va_free (wc := (zfXW cI cO Xo Po Pp Go Gp No Np Qo Qp Ko Kp Lo Lp To Tp ra oo Xs_171 Ps Pa Gs Ga Ns Na Qs Qa Ks Ka Ls La Ts_171 Ta_171 os_171)) hD hS hA [0, 1, 2, 3, 4, 5, 6, 7, 8, 9, 10, 11, 12, 13, 14, 15, 16, 17, 18, 19, 20, 21, 22, 23, 24, 25, 26, 27, 28, 29, 30, 31, 32] (zC_52 (cI := cI) (cB := cB) (cO := cO))
            refine zcp_i (va_runV (As := [.int x3_208h]) (rest := [.long ((31 : Int64) * x1_208h)]) ⟨hx, hb, hml, hown, hts⟩ (c_X5_count l D cI cB cO Xo Po Pp Go Gp No Np Qo Qp Ko Kp Lo Lp To Tp ra oo Xs_171 Ps Pa Gs Ga Ns Na Qs Qa Ks Ka Ls La Ts_171 Ta_171 os_171 x3_208h _ _ g25) (cwV 1 hts gX5_digest_X5_count rfl rfl rfl kV_X5_count ⟨Nat.le_trans (Nat.le_of_ble_eq_true rfl) hRf, Nat.le_trans (Nat.le_of_ble_eq_true rfl) hRl⟩) (zpreV hK hP hD hS hE hFc [0, 1, 2, 3, 4, 5, 6, 7, 8, 9, 10, 11, 12, 13, 14, 15, 16, 17, 18, 19, 20, 21, 22, 23, 24, 25, 26, 27, 28, 29, 30, 31, 32] (zC_52 (cI := cI) (cB := cB) (cO := cO)) rfl 0 (ci := 5) rfl rfl [.int x3_208h]) rfl rfl hl.1 rfl (lv_room (Nat.le_of_ble_eq_true rfl)) dX5_digest_221 ⟨Nat.zero_le _, Nat.zero_le _⟩) hP hD hS hFc [0, 1, 2, 3, 4, 5, 6, 7, 8, 9, 10, 11, 12, 13, 14, 15, 16, 17, 18, 19, 20, 21, 22, 23, 24, 25, 26, 27, 28, 29, 30, 31, 32] (zC_52 (cI := cI) (cB := cB) (cO := cO)) (fun H locs hP hS => ?_)
            clear hFc
            refine lv_i2l (v := (r24).toInt64) hx hb dX5_digest_224 rfl ?_
            refine lv_ladd hx hb dX5_digest_225 ?_
            refine lv_topl (fun x1_26 ex1_26 => ?_)
            have h := zlt_s h ex1_26
            refine lv_lstore_n (lv' := [(1, .long x1_26), (0, .ref Xo), (3, .int x3_208h)]) hx hb dX5_digest_226 rfl hl (by decide) rfl (fun ls hl => ?_)
            refine lv_iinc (v := (x3_208h + (1 : Int32))) (lv' := [(3, .int (x3_208h + (1 : Int32))), (1, .long x1_26), (0, .ref Xo)]) hx hb dX5_digest_227 hl (k := 2) rfl rfl (by decide) rfl (fun ls hl => ?_)
            refine lv_goto (tgt := 208) hx hb dX5_digest_230 (by decide) ?_
            exact zl208 _ _ (zend h).symm _ _ _ hP hD hS (lv_sub hl [2, 1, 0] rfl)
        clear h
        refine zi2_ind (P := (fun (x1_173h : Int64) (x3_173h : Int32) => ∀ (H : Heap) (locs : List Loc) (ls : Array Slot), va_P D vwCl (zfXW cI cO Xo Po Pp Go Gp No Np Qo Qp Ko Kp Lo Lp To Tp ra oo Xs_171 Ps Pa Gs Ga Ns Na Qs Qa Ks Ka Ls La Ts_171 Ta_171 os_171) H → va_D A (zfXW cI cO Xo Po Pp Go Gp No Np Qo Qp Ko Kp Lo Lp To Tp ra oo Xs_171 Ps Pa Gs Ga Ns Na Qs Qa Ks Ka Ls La Ts_171 Ta_171 os_171) → va_S A s.heap H locs → lv_has ls 5 [(0, .ref Xo), (1, .long x1_173h), (3, .int x3_173h)] → W p l e R s m args below meth c H locs 0 0 Q (F0 m 173 ls []))) ?_ i28 _ _ _ hP hD hS (lv_sub hl [1, 2, 0] rfl)
        clear i28 hP hD hS hl
        intro x1_173h x3_173h z173 h zl173 zr173 H locs ls hP hD hS hl
        refine lv_iload_n hx hb dX5_digest_173 rfl (lv_at hl 2 rfl) ?_
        refine lv_aload_n hx hb dX5_digest_174 rfl (lv_at hl 0 rfl) ?_
        refine va_get (D := D) (ci := 5) (v := .ref Po) (C := RX5) (T := TX5) (N := 13) hx hb hts inX5 hown hK hP 0 rfl rfl 0 (by decide) lk12 (fun _ h9 => h9) rfl dX5_digest_175 ?_
        refine va_getN (D := D) (ci := 2) (v := .int (Ps 1)) (C := RX2) (T := TX2) (N := 2) hx hb hts inX2 hown hK hP 1 rfl rfl 1 (by decide) lk63 (fun _ h9 => h9) rfl dX5_digest_178 ?_
        refine lv_icmp_ge (tgt := 206) hx hb dX5_digest_181 (by decide) (fun c18 => ?_) (fun c18 => ?_)
        · have h := zif_t c18 h
          cases zr173 _ (zend h).symm
          exact KX206 _ _ _ hP hD hS (lv_sub hl [0, 1] rfl)
        · have h := zif_f c18 h
          refine lv_ldc2 (v := (31 : Int64)) hx hb hown (hts (.constantLong RX5 236 (31)) (by decide +kernel)) dX5_digest_184 ?_
          refine lv_lload_n hx hb dX5_digest_187 rfl (lv_at hl 1 rfl) ?_
          refine lv_lmul hx hb dX5_digest_188 ?_
          refine lv_aload_n hx hb dX5_digest_189 rfl (lv_at hl 0 rfl) ?_
          refine va_get (D := D) (ci := 5) (v := .ref Po) (C := RX5) (T := TX5) (N := 13) hx hb hts inX5 hown hK hP 0 rfl rfl 0 (by decide) lk12 (fun _ h9 => h9) rfl dX5_digest_190 ?_
          refine lv_iload_n hx hb dX5_digest_193 rfl (lv_at hl 2 rfl) ?_
          obtain ⟨r19, g20, h⟩ := zb1_s h
          have hFc := va_free (wc := (zwP cI Po Pp Ps Pa)) hD hS hA [1, 2] (zC_10 (cI := cI) (cB := cB) (cO := cO))
          refine zcp_i (va_runV (As := [.int x3_173h]) (rest := [.long ((31 : Int64) * x1_173h)]) ⟨hx, hb, hml, hown, hts⟩ (c_X2_codeAt l D cI cB cO Po Pp Ps Pa x3_173h _ _ g20) (cwV 1 hts gX5_digest_X2_codeAt rfl rfl rfl kV_X2_codeAt ⟨Nat.le_trans (Nat.le_of_ble_eq_true rfl) hRf, Nat.le_trans (Nat.le_of_ble_eq_true rfl) hRl⟩) (zpreV hK hP hD hS hE hFc [1, 2] (zC_10 (cI := cI) (cB := cB) (cO := cO)) rfl 1 (ci := 2) rfl rfl [.int x3_173h]) rfl rfl hl.1 rfl (lv_room (Nat.le_of_ble_eq_true rfl)) dX5_digest_194 ⟨Nat.zero_le _, Nat.zero_le _⟩) hP hD hS hFc [1, 2] (zC_10 (cI := cI) (cB := cB) (cO := cO)) (fun H locs hP hS => ?_)
          clear hFc
          refine lv_i2l (v := (r19).toInt64) hx hb dX5_digest_197 rfl ?_
          refine lv_ladd hx hb dX5_digest_198 ?_
          refine lv_topl (fun x1_21 ex1_21 => ?_)
          have h := zlt_s h ex1_21
          refine lv_lstore_n (lv' := [(1, .long x1_21), (0, .ref Xo), (3, .int x3_173h)]) hx hb dX5_digest_199 rfl hl (by decide) rfl (fun ls hl => ?_)
          refine lv_iinc (v := (x3_173h + (1 : Int32))) (lv' := [(3, .int (x3_173h + (1 : Int32))), (1, .long x1_21), (0, .ref Xo)]) hx hb dX5_digest_200 hl (k := 2) rfl rfl (by decide) rfl (fun ls hl => ?_)
          refine lv_goto (tgt := 173) hx hb dX5_digest_203 (by decide) ?_
          exact zl173 _ _ (zend h).symm _ _ _ hP hD hS (lv_sub hl [2, 1, 0] rfl)
      clear h
      have h := j29
      clear j29
      refine lv_if_le (tgt := 171) hx hb dX5_digest_104 (by decide) (fun c30 => ?_) (fun c30 => ?_)
      · have h := zif_t c30 h
        cases zend h
        exact K171 _ _ _ hP hD hS (lv_sub hl [0, 1] rfl)
      · have h := zif_f c30 h
        refine lv_iconst (v := (0 : Int32)) hx hb dX5_digest_107 (by decide) ?_
        refine lv_istore_n (lv' := [(3, .int (0 : Int32)), (0, .ref Xo), (1, .long x1_100x55)]) hx hb dX5_digest_108 rfl hl (by decide) rfl (fun ls hl => ?_)
        obtain ⟨x1_133x109, Xs_133x109, Ts_133x109, Ta_133x109, os_133x109, i61, h⟩ := zb5_s h
        have KX133 : ∀ (H : Heap) (locs : List Loc) (ls : Array Slot), va_P D vwCl (zfXW cI cO Xo Po Pp Go Gp No Np Qo Qp Ko Kp Lo Lp To Tp ra oo Xs_133x109 Ps Pa Gs Ga Ns Na Qs Qa Ks Ka Ls La Ts_133x109 Ta_133x109 os_133x109) H → va_D A (zfXW cI cO Xo Po Pp Go Gp No Np Qo Qp Ko Kp Lo Lp To Tp ra oo Xs_133x109 Ps Pa Gs Ga Ns Na Qs Qa Ks Ka Ls La Ts_133x109 Ta_133x109 os_133x109) → va_S A s.heap H locs → lv_has ls 5 [(0, .ref Xo), (1, .long x1_133x109)] → W p l e R s m args below meth c H locs 0 0 Q (F0 m 133 ls []) := by
          intro H locs ls hP hD hS hl
          refine lv_ldc2 (v := (31 : Int64)) hx hb hown (hts (.constantLong RX5 236 (31)) (by decide +kernel)) dX5_digest_133 ?_
          refine lv_lload_n hx hb dX5_digest_136 rfl (lv_at hl 1 rfl) ?_
          refine lv_lmul hx hb dX5_digest_137 ?_
          refine lv_aload_n hx hb dX5_digest_138 rfl (lv_at hl 0 rfl) ?_
          refine lv_iconst (v := (0 : Int32)) hx hb dX5_digest_139 (by decide) ?_
          obtain ⟨r40, Xs_41, Ts_42, Ta_43, os_44, g45, h⟩ := zb5_s h
          have hFc := va_free (wc := (zfXW cI cO Xo Po Pp Go Gp No Np Qo Qp Ko Kp Lo Lp To Tp ra oo Xs_133x109 Ps Pa Gs Ga Ns Na Qs Qa Ks Ka Ls La Ts_133x109 Ta_133x109 os_133x109)) hD hS hA [0, 1, 2, 3, 4, 5, 6, 7, 8, 9, 10, 11, 12, 13, 14, 15, 16, 17, 18, 19, 20, 21, 22, 23, 24, 25, 26, 27, 28, 29, 30, 31, 32] (zC_43 (cI := cI) (cB := cB) (cO := cO))
          refine zcm_i (w2 := (zfXW cI cO Xo Po Pp Go Gp No Np Qo Qp Ko Kp Lo Lp To Tp ra oo Xs_41 Ps Pa Gs Ga Ns Na Qs Qa Ks Ka Ls La Ts_42 Ta_43 os_44)) (va_runV (As := [.int (0 : Int32)]) (rest := [.long ((31 : Int64) * x1_133x109)]) ⟨hx, hb, hml, hown, hts⟩ (c_X5_wins l D cI cB cO Xo Po Pp Go Gp No Np Qo Qp Ko Kp Lo Lp To Tp ra oo Xs_133x109 Ps Pa Gs Ga Ns Na Qs Qa Ks Ka Ls La Ts_133x109 Ta_133x109 os_133x109 (0 : Int32) _ _ _ _ _ _ g45) (cwV 1 hts gX5_digest_X5_wins rfl rfl rfl kV_X5_wins ⟨Nat.le_trans (Nat.le_of_ble_eq_true rfl) hRf, Nat.le_trans (Nat.le_of_ble_eq_true rfl) hRl⟩) (zpreV hK hP hD hS hE hFc [0, 1, 2, 3, 4, 5, 6, 7, 8, 9, 10, 11, 12, 13, 14, 15, 16, 17, 18, 19, 20, 21, 22, 23, 24, 25, 26, 27, 28, 29, 30, 31, 32] (zC_43 (cI := cI) (cB := cB) (cO := cO)) rfl 0 (ci := 5) rfl rfl [.int (0 : Int32)]) rfl rfl hl.1 rfl (lv_room (Nat.le_of_ble_eq_true rfl)) dX5_digest_140 ⟨Nat.zero_le _, Nat.zero_le _⟩) hS hFc (fun H1 t h1 h2 h3 => zM_43 (cI := cI) (cB := cB) (cO := cO) hP hD h1 h2 h3) (fun H locs hP hD hS => ?_)
          clear hFc
          refine lv_i2l (v := (r40).toInt64) hx hb dX5_digest_143 rfl ?_
          refine lv_ladd hx hb dX5_digest_144 ?_
          refine lv_topl (fun x1_46 ex1_46 => ?_)
          have h := zlt_s h ex1_46
          refine lv_lstore_n (lv' := [(1, .long x1_46), (0, .ref Xo)]) hx hb dX5_digest_145 rfl hl (by decide) rfl (fun ls hl => ?_)
          refine lv_ldc2 (v := (31 : Int64)) hx hb hown (hts (.constantLong RX5 236 (31)) (by decide +kernel)) dX5_digest_146 ?_
          refine lv_lload_n hx hb dX5_digest_149 rfl (lv_at hl 0 rfl) ?_
          refine lv_lmul hx hb dX5_digest_150 ?_
          refine lv_aload_n hx hb dX5_digest_151 rfl (lv_at hl 1 rfl) ?_
          refine lv_iconst (v := (1 : Int32)) hx hb dX5_digest_152 (by decide) ?_
          obtain ⟨r47, Xs_48, Ts_49, Ta_50, os_51, g52, h⟩ := zb5_s h
          have hFc := va_free (wc := (zfXW cI cO Xo Po Pp Go Gp No Np Qo Qp Ko Kp Lo Lp To Tp ra oo Xs_41 Ps Pa Gs Ga Ns Na Qs Qa Ks Ka Ls La Ts_42 Ta_43 os_44)) hD hS hA [0, 1, 2, 3, 4, 5, 6, 7, 8, 9, 10, 11, 12, 13, 14, 15, 16, 17, 18, 19, 20, 21, 22, 23, 24, 25, 26, 27, 28, 29, 30, 31, 32] (zC_43 (cI := cI) (cB := cB) (cO := cO))
          refine zcm_i (w2 := (zfXW cI cO Xo Po Pp Go Gp No Np Qo Qp Ko Kp Lo Lp To Tp ra oo Xs_48 Ps Pa Gs Ga Ns Na Qs Qa Ks Ka Ls La Ts_49 Ta_50 os_51)) (va_runV (As := [.int (1 : Int32)]) (rest := [.long ((31 : Int64) * x1_46)]) ⟨hx, hb, hml, hown, hts⟩ (c_X5_wins l D cI cB cO Xo Po Pp Go Gp No Np Qo Qp Ko Kp Lo Lp To Tp ra oo Xs_41 Ps Pa Gs Ga Ns Na Qs Qa Ks Ka Ls La Ts_42 Ta_43 os_44 (1 : Int32) _ _ _ _ _ _ g52) (cwV 1 hts gX5_digest_X5_wins rfl rfl rfl kV_X5_wins ⟨Nat.le_trans (Nat.le_of_ble_eq_true rfl) hRf, Nat.le_trans (Nat.le_of_ble_eq_true rfl) hRl⟩) (zpreV hK hP hD hS hE hFc [0, 1, 2, 3, 4, 5, 6, 7, 8, 9, 10, 11, 12, 13, 14, 15, 16, 17, 18, 19, 20, 21, 22, 23, 24, 25, 26, 27, 28, 29, 30, 31, 32] (zC_43 (cI := cI) (cB := cB) (cO := cO)) rfl 0 (ci := 5) rfl rfl [.int (1 : Int32)]) rfl rfl hl.1 rfl (lv_room (Nat.le_of_ble_eq_true rfl)) dX5_digest_153 ⟨Nat.zero_le _, Nat.zero_le _⟩) hS hFc (fun H1 t h1 h2 h3 => zM_43 (cI := cI) (cB := cB) (cO := cO) hP hD h1 h2 h3) (fun H locs hP hD hS => ?_)
          clear hFc
          refine lv_i2l (v := (r47).toInt64) hx hb dX5_digest_156 rfl ?_
          refine lv_ladd hx hb dX5_digest_157 ?_
          refine lv_topl (fun x1_53 ex1_53 => ?_)
          have h := zlt_s h ex1_53
          refine lv_lstore_n (lv' := [(1, .long x1_53), (0, .ref Xo)]) hx hb dX5_digest_158 rfl hl (by decide) rfl (fun ls hl => ?_)
          refine lv_ldc2 (v := (31 : Int64)) hx hb hown (hts (.constantLong RX5 236 (31)) (by decide +kernel)) dX5_digest_159 ?_
          refine lv_lload_n hx hb dX5_digest_162 rfl (lv_at hl 0 rfl) ?_
          refine lv_lmul hx hb dX5_digest_163 ?_
          refine lv_aload_n hx hb dX5_digest_164 rfl (lv_at hl 1 rfl) ?_
          obtain ⟨r54, Xs_55, Ts_56, Ta_57, os_58, g59, h⟩ := zb5_s h
          have hFc := va_free (wc := (zfXW cI cO Xo Po Pp Go Gp No Np Qo Qp Ko Kp Lo Lp To Tp ra oo Xs_48 Ps Pa Gs Ga Ns Na Qs Qa Ks Ka Ls La Ts_49 Ta_50 os_51)) hD hS hA [0, 1, 2, 3, 4, 5, 6, 7, 8, 9, 10, 11, 12, 13, 14, 15, 16, 17, 18, 19, 20, 21, 22, 23, 24, 25, 26, 27, 28, 29, 30, 31, 32] (zC_43 (cI := cI) (cB := cB) (cO := cO))
          refine zcm_i (w2 := (zfXW cI cO Xo Po Pp Go Gp No Np Qo Qp Ko Kp Lo Lp To Tp ra oo Xs_55 Ps Pa Gs Ga Ns Na Qs Qa Ks Ka Ls La Ts_56 Ta_57 os_58)) (va_runV (As := []) (rest := [.long ((31 : Int64) * x1_53)]) ⟨hx, hb, hml, hown, hts⟩ (c_X5_mean l D cI cB cO Xo Po Pp Go Gp No Np Qo Qp Ko Kp Lo Lp To Tp ra oo Xs_48 Ps Pa Gs Ga Ns Na Qs Qa Ks Ka Ls La Ts_49 Ta_50 os_51 _ _ _ _ _ _ g59) (cwV 0 hts gX5_digest_X5_mean rfl rfl rfl kV_X5_mean ⟨Nat.le_trans (Nat.le_of_ble_eq_true rfl) hRf, Nat.le_trans (Nat.le_of_ble_eq_true rfl) hRl⟩) (zpreV hK hP hD hS hE hFc [0, 1, 2, 3, 4, 5, 6, 7, 8, 9, 10, 11, 12, 13, 14, 15, 16, 17, 18, 19, 20, 21, 22, 23, 24, 25, 26, 27, 28, 29, 30, 31, 32] (zC_43 (cI := cI) (cB := cB) (cO := cO)) rfl 0 (ci := 5) rfl rfl []) rfl rfl hl.1 rfl (lv_room (Nat.le_of_ble_eq_true rfl)) dX5_digest_165 ⟨Nat.zero_le _, Nat.zero_le _⟩) hS hFc (fun H1 t h1 h2 h3 => zM_43 (cI := cI) (cB := cB) (cO := cO) hP hD h1 h2 h3) (fun H locs hP hD hS => ?_)
          clear hFc
          refine lv_i2l (v := (r54).toInt64) hx hb dX5_digest_168 rfl ?_
          refine lv_ladd hx hb dX5_digest_169 ?_
          refine lv_topl (fun x1_60 ex1_60 => ?_)
          have h := zlt_s h ex1_60
          refine lv_lstore_n (lv' := [(1, .long x1_60), (0, .ref Xo)]) hx hb dX5_digest_170 rfl hl (by decide) rfl (fun ls hl => ?_)
          cases zend h
          exact K171 _ _ _ hP hD hS (lv_sub hl [1, 0] rfl)
        clear h
        refine zi6_ind (P := (fun (x1_109h : Int64) (x3_109h : Int32) (Xs_109h : Nat → Int32) (Ts_109h : Nat → Int32) (Ta_109h : Nat → Nat → Int32) (os_109h : Nat → Nat → Int32) => ∀ (H : Heap) (locs : List Loc) (ls : Array Slot), va_P D vwCl (zfXW cI cO Xo Po Pp Go Gp No Np Qo Qp Ko Kp Lo Lp To Tp ra oo Xs_109h Ps Pa Gs Ga Ns Na Qs Qa Ks Ka Ls La Ts_109h Ta_109h os_109h) H → va_D A (zfXW cI cO Xo Po Pp Go Gp No Np Qo Qp Ko Kp Lo Lp To Tp ra oo Xs_109h Ps Pa Gs Ga Ns Na Qs Qa Ks Ka Ls La Ts_109h Ta_109h os_109h) → va_S A s.heap H locs → lv_has ls 5 [(0, .ref Xo), (1, .long x1_109h), (3, .int x3_109h)] → W p l e R s m args below meth c H locs 0 0 Q (F0 m 109 ls []))) ?_ i61 _ _ _ hP hD hS (lv_sub hl [1, 2, 0] rfl)
        clear i61 hP hD hS hl
        intro x1_109h x3_109h Xs_109h Ts_109h Ta_109h os_109h z109 h zl109 zr109 H locs ls hP hD hS hl
        refine lv_iload_n hx hb dX5_digest_109 rfl (lv_at hl 2 rfl) ?_
        refine lv_iconst (v := (5 : Int32)) hx hb dX5_digest_110 (by decide) ?_
        refine lv_icmp_gt (tgt := 133) hx hb dX5_digest_111 (by decide) (fun c32 => ?_) (fun c32 => ?_)
        · have h := zif_t c32 h
          cases zr109 _ (zend h).symm
          exact KX133 _ _ _ hP hD hS (lv_sub hl [0, 1] rfl)
        · have h := zif_f c32 h
          refine lv_ldc2 (v := (31 : Int64)) hx hb hown (hts (.constantLong RX5 236 (31)) (by decide +kernel)) dX5_digest_114 ?_
          refine lv_lload_n hx hb dX5_digest_117 rfl (lv_at hl 1 rfl) ?_
          refine lv_lmul hx hb dX5_digest_118 ?_
          refine lv_aload_n hx hb dX5_digest_119 rfl (lv_at hl 0 rfl) ?_
          refine lv_iload_n hx hb dX5_digest_120 rfl (lv_at hl 2 rfl) ?_
          obtain ⟨r33, Xs_34, Ts_35, Ta_36, os_37, g38, h⟩ := zb5_s h
          have hFc := va_free (wc := (zfXW cI cO Xo Po Pp Go Gp No Np Qo Qp Ko Kp Lo Lp To Tp ra oo Xs_109h Ps Pa Gs Ga Ns Na Qs Qa Ks Ka Ls La Ts_109h Ta_109h os_109h)) hD hS hA [0, 1, 2, 3, 4, 5, 6, 7, 8, 9, 10, 11, 12, 13, 14, 15, 16, 17, 18, 19, 20, 21, 22, 23, 24, 25, 26, 27, 28, 29, 30, 31, 32] (zC_43 (cI := cI) (cB := cB) (cO := cO))
          refine zcm_i (w2 := (zfXW cI cO Xo Po Pp Go Gp No Np Qo Qp Ko Kp Lo Lp To Tp ra oo Xs_34 Ps Pa Gs Ga Ns Na Qs Qa Ks Ka Ls La Ts_35 Ta_36 os_37)) (va_runV (As := [.int x3_109h]) (rest := [.long ((31 : Int64) * x1_109h)]) ⟨hx, hb, hml, hown, hts⟩ (c_X5_courses l D cI cB cO Xo Po Pp Go Gp No Np Qo Qp Ko Kp Lo Lp To Tp ra oo Xs_109h Ps Pa Gs Ga Ns Na Qs Qa Ks Ka Ls La Ts_109h Ta_109h os_109h x3_109h _ _ _ _ _ _ g38) (cwV 1 hts gX5_digest_X5_courses rfl rfl rfl kV_X5_courses ⟨Nat.le_trans (Nat.le_of_ble_eq_true rfl) hRf, Nat.le_trans (Nat.le_of_ble_eq_true rfl) hRl⟩) (zpreV hK hP hD hS hE hFc [0, 1, 2, 3, 4, 5, 6, 7, 8, 9, 10, 11, 12, 13, 14, 15, 16, 17, 18, 19, 20, 21, 22, 23, 24, 25, 26, 27, 28, 29, 30, 31, 32] (zC_43 (cI := cI) (cB := cB) (cO := cO)) rfl 0 (ci := 5) rfl rfl [.int x3_109h]) rfl rfl hl.1 rfl (lv_room (Nat.le_of_ble_eq_true rfl)) dX5_digest_121 ⟨Nat.zero_le _, Nat.zero_le _⟩) hS hFc (fun H1 t h1 h2 h3 => zM_43 (cI := cI) (cB := cB) (cO := cO) hP hD h1 h2 h3) (fun H locs hP hD hS => ?_)
          clear hFc
          refine lv_i2l (v := (r33).toInt64) hx hb dX5_digest_124 rfl ?_
          refine lv_ladd hx hb dX5_digest_125 ?_
          refine lv_topl (fun x1_39 ex1_39 => ?_)
          have h := zlt_s h ex1_39
          refine lv_lstore_n (lv' := [(1, .long x1_39), (0, .ref Xo), (3, .int x3_109h)]) hx hb dX5_digest_126 rfl hl (by decide) rfl (fun ls hl => ?_)
          refine lv_iinc (v := (x3_109h + (1 : Int32))) (lv' := [(3, .int (x3_109h + (1 : Int32))), (1, .long x1_39), (0, .ref Xo)]) hx hb dX5_digest_127 hl (k := 2) rfl rfl (by decide) rfl (fun ls hl => ?_)
          refine lv_goto (tgt := 109) hx hb dX5_digest_130 (by decide) ?_
          exact zl109 _ _ _ _ _ _ (zend h).symm _ _ _ hP hD hS (lv_sub hl [2, 1, 0] rfl)
    clear h
    refine zi2_ind (P := (fun (x1_55h : Int64) (x3_55h : Int32) => ∀ (H : Heap) (locs : List Loc) (ls : Array Slot), va_P D vwCl (zfXW cI cO Xo Po Pp Go Gp No Np Qo Qp Ko Kp Lo Lp To Tp ra oo Xs Ps Pa Gs Ga Ns Na Qs Qa Ks Ka Ls La Ts Ta os) H → va_D A (zfXW cI cO Xo Po Pp Go Gp No Np Qo Qp Ko Kp Lo Lp To Tp ra oo Xs Ps Pa Gs Ga Ns Na Qs Qa Ks Ka Ls La Ts Ta os) → va_S A s.heap H locs → lv_has ls 5 [(0, .ref Xo), (1, .long x1_55h), (3, .int x3_55h)] → W p l e R s m args below meth c H locs 0 0 Q (F0 m 55 ls []))) ?_ i62 _ _ _ hP hD hS (lv_sub hl [1, 2, 0] rfl)
    clear i62 hP hD hS hl
    intro x1_55h x3_55h z55 h zl55 zr55 H locs ls hP hD hS hl
    refine lv_iload_n hx hb dX5_digest_55 rfl (lv_at hl 2 rfl) ?_
    refine lv_aload_n hx hb dX5_digest_56 rfl (lv_at hl 0 rfl) ?_
    refine va_get (D := D) (ci := 5) (v := .ref Go) (C := RX5) (T := TX5) (N := 13) hx hb hts inX5 hown hK hP 0 rfl rfl 1 (by decide) lk19 (fun _ h9 => h9) rfl dX5_digest_57 ?_
    refine va_getN (D := D) (ci := 0) (v := .int (Gs 2)) (C := RX0) (T := TX0) (N := 4) hx hb hts inX0 hown hK hP 3 rfl rfl 2 (by decide) lk241 (fun _ h9 => h9) rfl dX5_digest_60 ?_
    refine lv_icmp_ge (tgt := 100) hx hb dX5_digest_63 (by decide) (fun c10 => ?_) (fun c10 => ?_)
    · have h := zif_t c10 h
      cases zr55 _ (zend h).symm
      exact KX100 _ _ _ hP hD hS (lv_sub hl [0, 1] rfl)
    · have h := zif_f c10 h
      refine lv_ldc2 (v := (31 : Int64)) hx hb hown (hts (.constantLong RX5 236 (31)) (by decide +kernel)) dX5_digest_66 ?_
      refine lv_lload_n hx hb dX5_digest_69 rfl (lv_at hl 1 rfl) ?_
      refine lv_lmul hx hb dX5_digest_70 ?_
      refine lv_aload_n hx hb dX5_digest_71 rfl (lv_at hl 0 rfl) ?_
      refine lv_iload_n hx hb dX5_digest_72 rfl (lv_at hl 2 rfl) ?_
      refine lv_iconst (v := (0 : Int32)) hx hb dX5_digest_73 (by decide) ?_
      obtain ⟨r11, g12, h⟩ := zb1_s h
      have hFc := va_free (wc := (zfXW cI cO Xo Po Pp Go Gp No Np Qo Qp Ko Kp Lo Lp To Tp ra oo Xs Ps Pa Gs Ga Ns Na Qs Qa Ks Ka Ls La Ts Ta os)) hD hS hA [0, 1, 2, 3, 4, 5, 6, 7, 8, 9, 10, 11, 12, 13, 14, 15, 16, 17, 18, 19, 20, 21, 22, 23, 24, 25, 26, 27, 28, 29, 30, 31, 32] (zC_52 (cI := cI) (cB := cB) (cO := cO))
      refine zcp_i (va_runV (As := [.int x3_55h, .int (0 : Int32)]) (rest := [.long ((31 : Int64) * x1_55h)]) ⟨hx, hb, hml, hown, hts⟩ (c_X5_place l D cI cB cO Xo Po Pp Go Gp No Np Qo Qp Ko Kp Lo Lp To Tp ra oo Xs Ps Pa Gs Ga Ns Na Qs Qa Ks Ka Ls La Ts Ta os x3_55h (0 : Int32) _ _ g12) (cwV 2 hts gX5_digest_X5_place rfl rfl rfl kV_X5_place ⟨Nat.le_trans (Nat.le_of_ble_eq_true rfl) hRf, Nat.le_trans (Nat.le_of_ble_eq_true rfl) hRl⟩) (zpreV hK hP hD hS hE hFc [0, 1, 2, 3, 4, 5, 6, 7, 8, 9, 10, 11, 12, 13, 14, 15, 16, 17, 18, 19, 20, 21, 22, 23, 24, 25, 26, 27, 28, 29, 30, 31, 32] (zC_52 (cI := cI) (cB := cB) (cO := cO)) rfl 0 (ci := 5) rfl rfl [.int x3_55h, .int (0 : Int32)]) rfl rfl hl.1 rfl (lv_room (Nat.le_of_ble_eq_true rfl)) dX5_digest_74 ⟨Nat.zero_le _, Nat.zero_le _⟩) hP hD hS hFc [0, 1, 2, 3, 4, 5, 6, 7, 8, 9, 10, 11, 12, 13, 14, 15, 16, 17, 18, 19, 20, 21, 22, 23, 24, 25, 26, 27, 28, 29, 30, 31, 32] (zC_52 (cI := cI) (cB := cB) (cO := cO)) (fun H locs hP hS => ?_)
      clear hFc
      refine lv_i2l (v := (r11).toInt64) hx hb dX5_digest_77 rfl ?_
      refine lv_ladd hx hb dX5_digest_78 ?_
      refine lv_topl (fun x1_13 ex1_13 => ?_)
      have h := zlt_s h ex1_13
      refine lv_lstore_n (lv' := [(1, .long x1_13), (0, .ref Xo), (3, .int x3_55h)]) hx hb dX5_digest_79 rfl hl (by decide) rfl (fun ls hl => ?_)
      refine lv_ldc2 (v := (31 : Int64)) hx hb hown (hts (.constantLong RX5 236 (31)) (by decide +kernel)) dX5_digest_80 ?_
      refine lv_lload_n hx hb dX5_digest_83 rfl (lv_at hl 0 rfl) ?_
      refine lv_lmul hx hb dX5_digest_84 ?_
      refine lv_aload_n hx hb dX5_digest_85 rfl (lv_at hl 1 rfl) ?_
      refine lv_iload_n hx hb dX5_digest_86 rfl (lv_at hl 2 rfl) ?_
      refine lv_iconst (v := (1 : Int32)) hx hb dX5_digest_87 (by decide) ?_
      obtain ⟨r14, g15, h⟩ := zb1_s h
      have hFc := va_free (wc := (zfXW cI cO Xo Po Pp Go Gp No Np Qo Qp Ko Kp Lo Lp To Tp ra oo Xs Ps Pa Gs Ga Ns Na Qs Qa Ks Ka Ls La Ts Ta os)) hD hS hA [0, 1, 2, 3, 4, 5, 6, 7, 8, 9, 10, 11, 12, 13, 14, 15, 16, 17, 18, 19, 20, 21, 22, 23, 24, 25, 26, 27, 28, 29, 30, 31, 32] (zC_52 (cI := cI) (cB := cB) (cO := cO))
      refine zcp_i (va_runV (As := [.int x3_55h, .int (1 : Int32)]) (rest := [.long ((31 : Int64) * x1_13)]) ⟨hx, hb, hml, hown, hts⟩ (c_X5_place l D cI cB cO Xo Po Pp Go Gp No Np Qo Qp Ko Kp Lo Lp To Tp ra oo Xs Ps Pa Gs Ga Ns Na Qs Qa Ks Ka Ls La Ts Ta os x3_55h (1 : Int32) _ _ g15) (cwV 2 hts gX5_digest_X5_place rfl rfl rfl kV_X5_place ⟨Nat.le_trans (Nat.le_of_ble_eq_true rfl) hRf, Nat.le_trans (Nat.le_of_ble_eq_true rfl) hRl⟩) (zpreV hK hP hD hS hE hFc [0, 1, 2, 3, 4, 5, 6, 7, 8, 9, 10, 11, 12, 13, 14, 15, 16, 17, 18, 19, 20, 21, 22, 23, 24, 25, 26, 27, 28, 29, 30, 31, 32] (zC_52 (cI := cI) (cB := cB) (cO := cO)) rfl 0 (ci := 5) rfl rfl [.int x3_55h, .int (1 : Int32)]) rfl rfl hl.1 rfl (lv_room (Nat.le_of_ble_eq_true rfl)) dX5_digest_88 ⟨Nat.zero_le _, Nat.zero_le _⟩) hP hD hS hFc [0, 1, 2, 3, 4, 5, 6, 7, 8, 9, 10, 11, 12, 13, 14, 15, 16, 17, 18, 19, 20, 21, 22, 23, 24, 25, 26, 27, 28, 29, 30, 31, 32] (zC_52 (cI := cI) (cB := cB) (cO := cO)) (fun H locs hP hS => ?_)
      clear hFc
      refine lv_i2l (v := (r14).toInt64) hx hb dX5_digest_91 rfl ?_
      refine lv_ladd hx hb dX5_digest_92 ?_
      refine lv_topl (fun x1_16 ex1_16 => ?_)
      have h := zlt_s h ex1_16
      refine lv_lstore_n (lv' := [(1, .long x1_16), (0, .ref Xo), (3, .int x3_55h)]) hx hb dX5_digest_93 rfl hl (by decide) rfl (fun ls hl => ?_)
      refine lv_iinc (v := (x3_55h + (1 : Int32))) (lv' := [(3, .int (x3_55h + (1 : Int32))), (1, .long x1_16), (0, .ref Xo)]) hx hb dX5_digest_94 hl (k := 2) rfl rfl (by decide) rfl (fun ls hl => ?_)
      refine lv_goto (tgt := 55) hx hb dX5_digest_97 (by decide) ?_
      exact zl55 _ _ (zend h).symm _ _ _ hP hD hS (lv_sub hl [2, 1, 0] rfl)
  clear h
  refine zi2_ind (P := (fun (x1_6h : Int64) (x3_6h : Int32) => ∀ (H : Heap) (locs : List Loc) (ls : Array Slot), va_P D vwCl (zfXW cI cO Xo Po Pp Go Gp No Np Qo Qp Ko Kp Lo Lp To Tp ra oo Xs Ps Pa Gs Ga Ns Na Qs Qa Ks Ka Ls La Ts Ta os) H → va_D A (zfXW cI cO Xo Po Pp Go Gp No Np Qo Qp Ko Kp Lo Lp To Tp ra oo Xs Ps Pa Gs Ga Ns Na Qs Qa Ks Ka Ls La Ts Ta os) → va_S A s.heap H locs → lv_has ls 5 [(0, .ref Xo), (1, .long x1_6h), (3, .int x3_6h)] → W p l e R s m args below meth c H locs 0 0 Q (F0 m 6 ls []))) ?_ i63 _ _ _ hP hD hS (lv_sub hl [2, 1, 0] rfl)
  clear i63 hP hD hS hl
  intro x1_6h x3_6h z6 h zl6 zr6 H locs ls hP hD hS hl
  refine lv_iload_n hx hb dX5_digest_6 rfl (lv_at hl 2 rfl) ?_
  refine lv_aload_n hx hb dX5_digest_7 rfl (lv_at hl 0 rfl) ?_
  refine va_get (D := D) (ci := 5) (v := .ref No) (C := RX5) (T := TX5) (N := 13) hx hb hts inX5 hown hK hP 0 rfl rfl 2 (by decide) lk28 (fun _ h9 => h9) rfl dX5_digest_8 ?_
  refine va_getN (D := D) (ci := 4) (v := .int (Ns 2)) (C := RX4) (T := TX4) (N := 8) hx hb hts inX4 hown hK hP 5 rfl rfl 2 (by decide) lk98 (fun _ h9 => h9) rfl dX5_digest_11 ?_
  refine lv_icmp_ge (tgt := 53) hx hb dX5_digest_14 (by decide) (fun c2 => ?_) (fun c2 => ?_)
  · have h := zif_t c2 h
    cases zr6 _ (zend h).symm
    exact KX53 _ _ _ hP hD hS (lv_sub hl [0, 1] rfl)
  · have h := zif_f c2 h
    refine lv_iconst (v := (0 : Int32)) hx hb dX5_digest_17 (by decide) ?_
    refine lv_istore (lv' := [(4, .int (0 : Int32)), (0, .ref Xo), (1, .long x1_6h), (3, .int x3_6h)]) hx hb dX5_digest_18 hl (by decide) rfl (fun ls hl => ?_)
    obtain ⟨x1_47x20, i8, h⟩ := zb1_s h
    have KX47 : ∀ (H : Heap) (locs : List Loc) (ls : Array Slot), va_P D vwCl (zfXW cI cO Xo Po Pp Go Gp No Np Qo Qp Ko Kp Lo Lp To Tp ra oo Xs Ps Pa Gs Ga Ns Na Qs Qa Ks Ka Ls La Ts Ta os) H → va_D A (zfXW cI cO Xo Po Pp Go Gp No Np Qo Qp Ko Kp Lo Lp To Tp ra oo Xs Ps Pa Gs Ga Ns Na Qs Qa Ks Ka Ls La Ts Ta os) → va_S A s.heap H locs → lv_has ls 5 [(0, .ref Xo), (1, .long x1_47x20), (3, .int x3_6h)] → W p l e R s m args below meth c H locs 0 0 Q (F0 m 47 ls []) := by
      intro H locs ls hP hD hS hl
      refine lv_iinc (v := (x3_6h + (1 : Int32))) (lv' := [(3, .int (x3_6h + (1 : Int32))), (0, .ref Xo), (1, .long x1_47x20)]) hx hb dX5_digest_47 hl (k := 2) rfl rfl (by decide) rfl (fun ls hl => ?_)
      refine lv_goto (tgt := 6) hx hb dX5_digest_50 (by decide) ?_
      exact zl6 _ _ (zend h).symm _ _ _ hP hD hS (lv_sub hl [1, 2, 0] rfl)
    clear h
    refine zi2_ind (P := (fun (x1_20h : Int64) (x4_20h : Int32) => ∀ (H : Heap) (locs : List Loc) (ls : Array Slot), va_P D vwCl (zfXW cI cO Xo Po Pp Go Gp No Np Qo Qp Ko Kp Lo Lp To Tp ra oo Xs Ps Pa Gs Ga Ns Na Qs Qa Ks Ka Ls La Ts Ta os) H → va_D A (zfXW cI cO Xo Po Pp Go Gp No Np Qo Qp Ko Kp Lo Lp To Tp ra oo Xs Ps Pa Gs Ga Ns Na Qs Qa Ks Ka Ls La Ts Ta os) → va_S A s.heap H locs → lv_has ls 5 [(0, .ref Xo), (1, .long x1_20h), (3, .int x3_6h), (4, .int x4_20h)] → W p l e R s m args below meth c H locs 0 0 Q (F0 m 20 ls []))) ?_ i8 _ _ _ hP hD hS (lv_sub hl [1, 2, 3, 0] rfl)
    clear i8 hP hD hS hl
    intro x1_20h x4_20h z20 h zl20 zr20 H locs ls hP hD hS hl
    refine lv_iload hx hb dX5_digest_20 (lv_at hl 3 rfl) ?_
    refine lv_iconst (v := (4 : Int32)) hx hb dX5_digest_22 (by decide) ?_
    refine lv_icmp_gt (tgt := 47) hx hb dX5_digest_23 (by decide) (fun c4 => ?_) (fun c4 => ?_)
    · have h := zif_t c4 h
      cases zr20 _ (zend h).symm
      exact KX47 _ _ _ hP hD hS (lv_sub hl [0, 1, 2] rfl)
    · have h := zif_f c4 h
      refine lv_ldc2 (v := (31 : Int64)) hx hb hown (hts (.constantLong RX5 236 (31)) (by decide +kernel)) dX5_digest_26 ?_
      refine lv_lload_n hx hb dX5_digest_29 rfl (lv_at hl 1 rfl) ?_
      refine lv_lmul hx hb dX5_digest_30 ?_
      refine lv_aload_n hx hb dX5_digest_31 rfl (lv_at hl 0 rfl) ?_
      refine lv_iload_n hx hb dX5_digest_32 rfl (lv_at hl 2 rfl) ?_
      refine lv_iload hx hb dX5_digest_33 (lv_at hl 3 rfl) ?_
      obtain ⟨r5, g6, h⟩ := zb1_s h
      have hFc := va_free (wc := (zfXW cI cO Xo Po Pp Go Gp No Np Qo Qp Ko Kp Lo Lp To Tp ra oo Xs Ps Pa Gs Ga Ns Na Qs Qa Ks Ka Ls La Ts Ta os)) hD hS hA [0, 1, 2, 3, 4, 5, 6, 7, 8, 9, 10, 11, 12, 13, 14, 15, 16, 17, 18, 19, 20, 21, 22, 23, 24, 25, 26, 27, 28, 29, 30, 31, 32] (zC_52 (cI := cI) (cB := cB) (cO := cO))
      refine zcp_i (va_runV (As := [.int x3_6h, .int x4_20h]) (rest := [.long ((31 : Int64) * x1_20h)]) ⟨hx, hb, hml, hown, hts⟩ (c_X5_peg l D cI cB cO Xo Po Pp Go Gp No Np Qo Qp Ko Kp Lo Lp To Tp ra oo Xs Ps Pa Gs Ga Ns Na Qs Qa Ks Ka Ls La Ts Ta os x3_6h x4_20h _ _ g6) (cwV 2 hts gX5_digest_X5_peg rfl rfl rfl kV_X5_peg ⟨Nat.le_trans (Nat.le_of_ble_eq_true rfl) hRf, Nat.le_trans (Nat.le_of_ble_eq_true rfl) hRl⟩) (zpreV hK hP hD hS hE hFc [0, 1, 2, 3, 4, 5, 6, 7, 8, 9, 10, 11, 12, 13, 14, 15, 16, 17, 18, 19, 20, 21, 22, 23, 24, 25, 26, 27, 28, 29, 30, 31, 32] (zC_52 (cI := cI) (cB := cB) (cO := cO)) rfl 0 (ci := 5) rfl rfl [.int x3_6h, .int x4_20h]) rfl rfl hl.1 rfl (lv_room (Nat.le_of_ble_eq_true rfl)) dX5_digest_35 ⟨Nat.zero_le _, Nat.zero_le _⟩) hP hD hS hFc [0, 1, 2, 3, 4, 5, 6, 7, 8, 9, 10, 11, 12, 13, 14, 15, 16, 17, 18, 19, 20, 21, 22, 23, 24, 25, 26, 27, 28, 29, 30, 31, 32] (zC_52 (cI := cI) (cB := cB) (cO := cO)) (fun H locs hP hS => ?_)
      clear hFc
      refine lv_i2l (v := (r5).toInt64) hx hb dX5_digest_38 rfl ?_
      refine lv_ladd hx hb dX5_digest_39 ?_
      refine lv_topl (fun x1_7 ex1_7 => ?_)
      have h := zlt_s h ex1_7
      refine lv_lstore_n (lv' := [(1, .long x1_7), (0, .ref Xo), (3, .int x3_6h), (4, .int x4_20h)]) hx hb dX5_digest_40 rfl hl (by decide) rfl (fun ls hl => ?_)
      refine lv_iinc (v := (x4_20h + (1 : Int32))) (lv' := [(4, .int (x4_20h + (1 : Int32))), (1, .long x1_7), (0, .ref Xo), (3, .int x3_6h)]) hx hb dX5_digest_41 hl (k := 3) rfl rfl (by decide) rfl (fun ls hl => ?_)
      refine lv_goto (tgt := 20) hx hb dX5_digest_44 (by decide) ?_
      exact zl20 _ _ (zend h).symm _ _ _ hP hD hS (lv_sub hl [2, 1, 3, 0] rfl)
