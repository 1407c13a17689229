/-! the law's calls, one by one -/
set_option maxHeartbeats 4000000 in
set_option maxRecDepth 100000 in
theorem lw_c18 {p : Program} {l : Launch} {e : Env} {s : State} {m : MethodId} {below : List Frame} {meth : Method} {cc : Code} {b0 L : Nat} {xs : Nat → Int32} {D : va_G} {cI cB cO : ClassId} {Xo : Nat} {Po : Nat} {Pp : Nat → Nat} {Go : Nat} {Gp : Nat → Nat} {No : Nat} {Np : Nat → Nat} {Qo : Nat} {Qp : Nat → Nat} {Ko : Nat} {Kp : Nat → Nat} {Lo : Nat} {Lp : Nat → Nat} {To : Nat} {Tp : Nat → Nat} {ra : Nat} {oo : Nat → Nat} {Mo : Nat} {Mp : Nat → Nat} {bd i : Nat} {H : Heap} {locs : List Loc} {ls : Array Slot} (hL : L ≤ 2048) (C0 : lw_At p s m meth cc b0 L xs) (hK : va_K D vwCl (zTY cI cB cO) s) (hE : zEnv (fun q : Nat => s.heap.size ≤ q) s s.heap) (hbd : bd < 1000) (hi : i + 3 < L) (St : lw_St D cI cB cO s Xo Po Pp Go Gp No Np Qo Qp Ko Kp Lo Lp To Tp ra oo Mo Mp bd H locs) (hl : lv_has ls 4 [(3, .int (nI i)), (2, .ref Mo), (1, .ref Xo), (0, .ref b0)]) (cont : ∀ (H : Heap) (locs : List Loc) (ls : Array Slot), lw_St D cI cB cO s Xo Po Pp Go Gp No Np Qo Qp Ko Kp Lo Lp To Tp ra oo Mo Mp (bd + 1) H locs → lv_has ls 4 [(3, .int (nI i)), (2, .ref Mo), (1, .ref Xo), (0, .ref b0)] → W p l e room_1 s m #[Value.ref b0] below meth cc H locs 600000 7302250 (lw_Z below #[Value.ref b0] s) (F0 m 696 ls [])) : W p l e room_1 s m #[Value.ref b0] below meth cc H locs 600000 7302250 (lw_Z below #[Value.ref b0] s) (F0 m 590 ls []) := by
  obtain ⟨hx, hb, hr, hml, hown, hts0, hX, hbl, hlocks, hgv⟩ := C0
  have hts : ∀ w ∈ wsL_law, w.before #[Value.ref b0] s = true := fun w hw => hts0 w (wsL_law_in w hw)
  have hA : ∀ q : Nat, s.heap.size ≤ q → (fun q : Nat => s.heap.size ≤ q) q := fun _ h => h
  have hbA : ¬ (fun q : Nat => s.heap.size ≤ q) b0 := Nat.not_le.mpr hbl
  obtain ⟨r, c, n, b, Xs, Ps, Pa, Gs, Ga, Ns, Na, Qs, Qa, Ks, Ka, Ls, La, Ts, Ta, os, Ms, Mj, Ma, hbb, hV, hP, hD, hS⟩ := St
  obtain ⟨v, Ts', Ta', Mj', Ma', e1, e2, hV'⟩ := y_runs hV (show b < 2 ^ 31 by omega) Ts Ta Mj (xs (i + 1)) (xs (i + 2)) (xs (i + 3))
  refine lv_aload_n hx hb dL_law_590 rfl (lv_at hl 2 rfl) ?_
  refine lv_aload_n hx hb dL_law_591 rfl (lv_at hl 3 rfl) ?_
  refine lv_iload_n hx hb dL_law_592 rfl (lv_at hl 0 rfl) ?_
  refine lv_iconst (v := (1 : Int32)) hx hb dL_law_593 (by decide) ?_
  refine lv_iadd hx hb dL_law_594 ?_
  rw [show nI i + (1 : Int32) = nI (i + 1) from nI_add i 1]
  refine va_sld hx hb hX hbl hbA hS (vp_in_nI (show i + 1 < L by omega) (by omega)) dL_law_595 ?_
  rw [show (nI (i + 1)).toNatClampNeg = i + 1 from nI_clamp (by omega)]
  refine lv_aload_n hx hb dL_law_596 rfl (lv_at hl 3 rfl) ?_
  refine lv_iload_n hx hb dL_law_597 rfl (lv_at hl 0 rfl) ?_
  refine lv_iconst (v := (2 : Int32)) hx hb dL_law_598 (by decide) ?_
  refine lv_iadd hx hb dL_law_599 ?_
  rw [show nI i + (2 : Int32) = nI (i + 2) from nI_add i 2]
  refine va_sld hx hb hX hbl hbA hS (vp_in_nI (show i + 2 < L by omega) (by omega)) dL_law_600 ?_
  rw [show (nI (i + 2)).toNatClampNeg = i + 2 from nI_clamp (by omega)]
  refine lv_aload_n hx hb dL_law_601 rfl (lv_at hl 3 rfl) ?_
  refine lv_iload_n hx hb dL_law_602 rfl (lv_at hl 0 rfl) ?_
  refine lv_iconst (v := (3 : Int32)) hx hb dL_law_603 (by decide) ?_
  refine lv_iadd hx hb dL_law_604 ?_
  rw [show nI i + (3 : Int32) = nI (i + 3) from nI_add i 3]
  refine va_sld hx hb hX hbl hbA hS (vp_in_nI (show i + 3 < L by omega) (by omega)) dL_law_605 ?_
  rw [show (nI (i + 3)).toNatClampNeg = i + 3 from nI_clamp (by omega)]
  have hFc := va_free (wc := (zfXW cI cO Xo Po Pp Go Gp No Np Qo Qp Ko Kp Lo Lp To Tp ra oo Xs Ps Pa Gs Ga Ns Na Qs Qa Ks Ka Ls La Ts Ta os)) hD hS hA [0, 1, 2, 3, 4, 5, 6, 7, 8, 9, 10, 11, 12, 13, 14, 15, 16, 17, 18, 19, 20, 21, 22, 23, 24, 25, 26, 27, 28, 29, 30, 31, 32] (zC_LX (cI := cI) (cB := cB) (cO := cO))
  refine zcm_i (w2 := (zfLW cI cB cO Xo Po Pp Go Gp No Np Qo Qp Ko Kp Lo Lp To Tp ra oo Mo Mp Xs Ps Pa Gs Ga Ns Na Qs Qa Ks Ka Ls La Ts' Ta' os Ms Mj Ma)) (va_runV (As := [.int (xs (i + 1)), .int (xs (i + 2)), .int (xs (i + 3))]) (rest := []) ⟨hx, hb, hml, hown, hts⟩ (c_X5_runs l D cI cB cO Xo Po Pp Go Gp No Np Qo Qp Ko Kp Lo Lp To Tp ra oo Xs Ps Pa Gs Ga Ns Na Qs Qa Ks Ka Ls La Ts Ta os (xs (i + 1)) (xs (i + 2)) (xs (i + 3)) _ _ _ _ e1) (cwV 3 hts gL_law_X5_runs rfl rfl rfl kV_X5_runs ⟨Nat.le_of_ble_eq_true rfl, Nat.le_of_ble_eq_true rfl⟩) (zpreV hK hP hD hS hE hFc [0, 1, 2, 3, 4, 5, 6, 7, 8, 9, 10, 11, 12, 13, 14, 15, 16, 17, 18, 19, 20, 21, 22, 23, 24, 25, 26, 27, 28, 29, 30, 31, 32] (zC_LX (cI := cI) (cB := cB) (cO := cO)) rfl 0 (ci := 5) rfl rfl [.int (xs (i + 1)), .int (xs (i + 2)), .int (xs (i + 3))]) rfl rfl hl.1 rfl (lv_room (Nat.le_of_ble_eq_true rfl)) dL_law_606 ⟨Nat.le_of_ble_eq_true rfl, Nat.le_of_ble_eq_true rfl⟩) hS hFc (fun H1 t h1 h2 h3 => zM_LX (cI := cI) (cB := cB) (cO := cO) hP hD h1 h2 h3) (fun H locs hP hD hS => ?_)
  refine lv_aload_n hx hb dL_law_609 rfl (lv_at hl 1 rfl) ?_
  refine lv_aload_n hx hb dL_law_610 rfl (lv_at hl 3 rfl) ?_
  refine lv_iload_n hx hb dL_law_611 rfl (lv_at hl 0 rfl) ?_
  refine lv_iconst (v := (1 : Int32)) hx hb dL_law_612 (by decide) ?_
  refine lv_iadd hx hb dL_law_613 ?_
  rw [show nI i + (1 : Int32) = nI (i + 1) from nI_add i 1]
  refine va_sld hx hb hX hbl hbA hS (vp_in_nI (show i + 1 < L by omega) (by omega)) dL_law_614 ?_
  rw [show (nI (i + 1)).toNatClampNeg = i + 1 from nI_clamp (by omega)]
  refine lv_aload_n hx hb dL_law_615 rfl (lv_at hl 3 rfl) ?_
  refine lv_iload_n hx hb dL_law_616 rfl (lv_at hl 0 rfl) ?_
  refine lv_iconst (v := (2 : Int32)) hx hb dL_law_617 (by decide) ?_
  refine lv_iadd hx hb dL_law_618 ?_
  rw [show nI i + (2 : Int32) = nI (i + 2) from nI_add i 2]
  refine va_sld hx hb hX hbl hbA hS (vp_in_nI (show i + 2 < L by omega) (by omega)) dL_law_619 ?_
  rw [show (nI (i + 2)).toNatClampNeg = i + 2 from nI_clamp (by omega)]
  refine lv_aload_n hx hb dL_law_620 rfl (lv_at hl 3 rfl) ?_
  refine lv_iload_n hx hb dL_law_621 rfl (lv_at hl 0 rfl) ?_
  refine lv_iconst (v := (3 : Int32)) hx hb dL_law_622 (by decide) ?_
  refine lv_iadd hx hb dL_law_623 ?_
  rw [show nI i + (3 : Int32) = nI (i + 3) from nI_add i 3]
  refine va_sld hx hb hX hbl hbA hS (vp_in_nI (show i + 3 < L by omega) (by omega)) dL_law_624 ?_
  rw [show (nI (i + 3)).toNatClampNeg = i + 3 from nI_clamp (by omega)]
  have hFc := va_free (wc := (zwM cI cB Mo Mp Ms Mj Ma)) hD hS hA [33, 34, 35, 36, 37, 38, 39, 40, 41, 42, 43, 44, 45, 46, 47, 48, 49, 50, 51, 52, 53, 54, 55] (zC_LM (cI := cI) (cB := cB) (cO := cO))
  refine zcm_i (w2 := (zfLW cI cB cO Xo Po Pp Go Gp No Np Qo Qp Ko Kp Lo Lp To Tp ra oo Mo Mp Xs Ps Pa Gs Ga Ns Na Qs Qa Ks Ka Ls La Ts' Ta' os Ms Mj' Ma')) (va_runV (As := [.int (xs (i + 1)), .int (xs (i + 2)), .int (xs (i + 3))]) (rest := [.int v]) ⟨hx, hb, hml, hown, hts⟩ (c_X6_runs l D cI cB cO Mo Mp Ms Mj Ma (xs (i + 1)) (xs (i + 2)) (xs (i + 3)) _ _ _ _ e2) (cwV 3 hts gL_law_X6_runs rfl rfl rfl kV_X6_runs ⟨Nat.le_of_ble_eq_true rfl, Nat.le_of_ble_eq_true rfl⟩) (zpreV hK hP hD hS hE hFc [33, 34, 35, 36, 37, 38, 39, 40, 41, 42, 43, 44, 45, 46, 47, 48, 49, 50, 51, 52, 53, 54, 55] (zC_LM (cI := cI) (cB := cB) (cO := cO)) rfl 33 (ci := 6) rfl rfl [.int (xs (i + 1)), .int (xs (i + 2)), .int (xs (i + 3))]) rfl rfl hl.1 rfl (lv_room (Nat.le_of_ble_eq_true rfl)) dL_law_625 ⟨Nat.le_of_ble_eq_true rfl, Nat.le_of_ble_eq_true rfl⟩) hS hFc (fun H1 t h1 h2 h3 => zM_LM (cI := cI) (cB := cB) (cO := cO) hP hD h1 h2 h3) (fun H locs hP hD hS => ?_)
  refine lv_icmp_eq (tgt := 696) hx hb dL_law_628 (by decide) (fun _ => ?_) (fun q => absurd rfl q)
  exact cont _ _ _ ⟨r, c, n, b, Xs, Ps, Pa, Gs, Ga, Ns, Na, Qs, Qa, Ks, Ka, Ls, La, Ts', Ta', os, Ms, Mj', Ma', by omega, hV', hP, hD, hS⟩ hl
set_option maxHeartbeats 4000000 in
set_option maxRecDepth 100000 in
theorem lw_c19 {p : Program} {l : Launch} {e : Env} {s : State} {m : MethodId} {below : List Frame} {meth : Method} {cc : Code} {b0 L : Nat} {xs : Nat → Int32} {D : va_G} {cI cB cO : ClassId} {Xo : Nat} {Po : Nat} {Pp : Nat → Nat} {Go : Nat} {Gp : Nat → Nat} {No : Nat} {Np : Nat → Nat} {Qo : Nat} {Qp : Nat → Nat} {Ko : Nat} {Kp : Nat → Nat} {Lo : Nat} {Lp : Nat → Nat} {To : Nat} {Tp : Nat → Nat} {ra : Nat} {oo : Nat → Nat} {Mo : Nat} {Mp : Nat → Nat} {bd i : Nat} {H : Heap} {locs : List Loc} {ls : Array Slot} (hL : L ≤ 2048) (C0 : lw_At p s m meth cc b0 L xs) (hK : va_K D vwCl (zTY cI cB cO) s) (hE : zEnv (fun q : Nat => s.heap.size ≤ q) s s.heap) (hbd : bd < 1000) (hi : i + 3 < L) (St : lw_St D cI cB cO s Xo Po Pp Go Gp No Np Qo Qp Ko Kp Lo Lp To Tp ra oo Mo Mp bd H locs) (hl : lv_has ls 4 [(3, .int (nI i)), (2, .ref Mo), (1, .ref Xo), (0, .ref b0)]) (cont : ∀ (H : Heap) (locs : List Loc) (ls : Array Slot), lw_St D cI cB cO s Xo Po Pp Go Gp No Np Qo Qp Ko Kp Lo Lp To Tp ra oo Mo Mp (bd + 1) H locs → lv_has ls 4 [(3, .int (nI i)), (2, .ref Mo), (1, .ref Xo), (0, .ref b0)] → W p l e room_1 s m #[Value.ref b0] below meth cc H locs 600000 7302250 (lw_Z below #[Value.ref b0] s) (F0 m 696 ls [])) : W p l e room_1 s m #[Value.ref b0] below meth cc H locs 600000 7302250 (lw_Z below #[Value.ref b0] s) (F0 m 633 ls []) := by
  obtain ⟨hx, hb, hr, hml, hown, hts0, hX, hbl, hlocks, hgv⟩ := C0
  have hts : ∀ w ∈ wsL_law, w.before #[Value.ref b0] s = true := fun w hw => hts0 w (wsL_law_in w hw)
  have hA : ∀ q : Nat, s.heap.size ≤ q → (fun q : Nat => s.heap.size ≤ q) q := fun _ h => h
  have hbA : ¬ (fun q : Nat => s.heap.size ≤ q) b0 := Nat.not_le.mpr hbl
  obtain ⟨r, c, n, b, Xs, Ps, Pa, Gs, Ga, Ns, Na, Qs, Qa, Ks, Ka, Ls, La, Ts, Ta, os, Ms, Mj, Ma, hbb, hV, hP, hD, hS⟩ := St
  obtain ⟨v, Xs', Ks', Ka', Ls', La', Ms', Ma', e1, e2, hV'⟩ := y_image hV (show b < 2 ^ 31 by omega)
  refine lv_aload_n hx hb dL_law_633 rfl (lv_at hl 2 rfl) ?_
  have hFc := va_free (wc := (zfXW cI cO Xo Po Pp Go Gp No Np Qo Qp Ko Kp Lo Lp To Tp ra oo Xs Ps Pa Gs Ga Ns Na Qs Qa Ks Ka Ls La Ts Ta os)) hD hS hA [0, 1, 2, 3, 4, 5, 6, 7, 8, 9, 10, 11, 12, 13, 14, 15, 16, 17, 18, 19, 20, 21, 22, 23, 24, 25, 26, 27, 28, 29, 30, 31, 32] (zC_LX (cI := cI) (cB := cB) (cO := cO))
  refine zcm_i (w2 := (zfLW cI cB cO Xo Po Pp Go Gp No Np Qo Qp Ko Kp Lo Lp To Tp ra oo Mo Mp Xs' Ps Pa Gs Ga Ns Na Qs Qa Ks' Ka' Ls' La' Ts Ta os Ms Mj Ma)) (va_runV (As := []) (rest := []) ⟨hx, hb, hml, hown, hts⟩ (c_X5_image l D cI cB cO Xo Po Pp Go Gp No Np Qo Qp Ko Kp Lo Lp To Tp ra oo Xs Ps Pa Gs Ga Ns Na Qs Qa Ks Ka Ls La Ts Ta os _ _ _ _ _ _ _ e1) (cwV 0 hts gL_law_X5_image rfl rfl rfl kV_X5_image ⟨Nat.le_of_ble_eq_true rfl, Nat.le_of_ble_eq_true rfl⟩) (zpreV hK hP hD hS hE hFc [0, 1, 2, 3, 4, 5, 6, 7, 8, 9, 10, 11, 12, 13, 14, 15, 16, 17, 18, 19, 20, 21, 22, 23, 24, 25, 26, 27, 28, 29, 30, 31, 32] (zC_LX (cI := cI) (cB := cB) (cO := cO)) rfl 0 (ci := 5) rfl rfl []) rfl rfl hl.1 rfl (lv_room (Nat.le_of_ble_eq_true rfl)) dL_law_634 ⟨Nat.le_of_ble_eq_true rfl, Nat.le_of_ble_eq_true rfl⟩) hS hFc (fun H1 t h1 h2 h3 => zM_LX (cI := cI) (cB := cB) (cO := cO) hP hD h1 h2 h3) (fun H locs hP hD hS => ?_)
  refine lv_aload_n hx hb dL_law_637 rfl (lv_at hl 1 rfl) ?_
  have hFc := va_free (wc := (zwM cI cB Mo Mp Ms Mj Ma)) hD hS hA [33, 34, 35, 36, 37, 38, 39, 40, 41, 42, 43, 44, 45, 46, 47, 48, 49, 50, 51, 52, 53, 54, 55] (zC_LM (cI := cI) (cB := cB) (cO := cO))
  refine zcm_i (w2 := (zfLW cI cB cO Xo Po Pp Go Gp No Np Qo Qp Ko Kp Lo Lp To Tp ra oo Mo Mp Xs' Ps Pa Gs Ga Ns Na Qs Qa Ks' Ka' Ls' La' Ts Ta os Ms' Mj Ma')) (va_runV (As := []) (rest := [.int v]) ⟨hx, hb, hml, hown, hts⟩ (c_X6_image l D cI cB cO Mo Mp Ms Mj Ma _ _ _ _ e2) (cwV 0 hts gL_law_X6_image rfl rfl rfl kV_X6_image ⟨Nat.le_of_ble_eq_true rfl, Nat.le_of_ble_eq_true rfl⟩) (zpreV hK hP hD hS hE hFc [33, 34, 35, 36, 37, 38, 39, 40, 41, 42, 43, 44, 45, 46, 47, 48, 49, 50, 51, 52, 53, 54, 55] (zC_LM (cI := cI) (cB := cB) (cO := cO)) rfl 33 (ci := 6) rfl rfl []) rfl rfl hl.1 rfl (lv_room (Nat.le_of_ble_eq_true rfl)) dL_law_638 ⟨Nat.le_of_ble_eq_true rfl, Nat.le_of_ble_eq_true rfl⟩) hS hFc (fun H1 t h1 h2 h3 => zM_LM (cI := cI) (cB := cB) (cO := cO) hP hD h1 h2 h3) (fun H locs hP hD hS => ?_)
  refine lv_icmp_eq (tgt := 696) hx hb dL_law_641 (by decide) (fun _ => ?_) (fun q => absurd rfl q)
  exact cont _ _ _ ⟨r, c, n, b, Xs', Ps, Pa, Gs, Ga, Ns, Na, Qs, Qa, Ks', Ka', Ls', La', Ts, Ta, os, Ms', Mj, Ma', by omega, hV', hP, hD, hS⟩ hl
set_option maxHeartbeats 4000000 in
set_option maxRecDepth 100000 in
theorem lw_c20 {p : Program} {l : Launch} {e : Env} {s : State} {m : MethodId} {below : List Frame} {meth : Method} {cc : Code} {b0 L : Nat} {xs : Nat → Int32} {D : va_G} {cI cB cO : ClassId} {Xo : Nat} {Po : Nat} {Pp : Nat → Nat} {Go : Nat} {Gp : Nat → Nat} {No : Nat} {Np : Nat → Nat} {Qo : Nat} {Qp : Nat → Nat} {Ko : Nat} {Kp : Nat → Nat} {Lo : Nat} {Lp : Nat → Nat} {To : Nat} {Tp : Nat → Nat} {ra : Nat} {oo : Nat → Nat} {Mo : Nat} {Mp : Nat → Nat} {bd i : Nat} {H : Heap} {locs : List Loc} {ls : Array Slot} (hL : L ≤ 2048) (C0 : lw_At p s m meth cc b0 L xs) (hK : va_K D vwCl (zTY cI cB cO) s) (hE : zEnv (fun q : Nat => s.heap.size ≤ q) s s.heap) (hbd : bd < 1000) (hi : i + 3 < L) (St : lw_St D cI cB cO s Xo Po Pp Go Gp No Np Qo Qp Ko Kp Lo Lp To Tp ra oo Mo Mp bd H locs) (hl : lv_has ls 4 [(3, .int (nI i)), (2, .ref Mo), (1, .ref Xo), (0, .ref b0)]) (cont : ∀ (H : Heap) (locs : List Loc) (ls : Array Slot), lw_St D cI cB cO s Xo Po Pp Go Gp No Np Qo Qp Ko Kp Lo Lp To Tp ra oo Mo Mp (bd + 1) H locs → lv_has ls 4 [(3, .int (nI i)), (2, .ref Mo), (1, .ref Xo), (0, .ref b0)] → W p l e room_1 s m #[Value.ref b0] below meth cc H locs 600000 7302250 (lw_Z below #[Value.ref b0] s) (F0 m 696 ls [])) : W p l e room_1 s m #[Value.ref b0] below meth cc H locs 600000 7302250 (lw_Z below #[Value.ref b0] s) (F0 m 646 ls []) := by
  obtain ⟨hx, hb, hr, hml, hown, hts0, hX, hbl, hlocks, hgv⟩ := C0
  have hts : ∀ w ∈ wsL_law, w.before #[Value.ref b0] s = true := fun w hw => hts0 w (wsL_law_in w hw)
  have hA : ∀ q : Nat, s.heap.size ≤ q → (fun q : Nat => s.heap.size ≤ q) q := fun _ h => h
  have hbA : ¬ (fun q : Nat => s.heap.size ≤ q) b0 := Nat.not_le.mpr hbl
  obtain ⟨r, c, n, b, Xs, Ps, Pa, Gs, Ga, Ns, Na, Qs, Qa, Ks, Ka, Ls, La, Ts, Ta, os, Ms, Mj, Ma, hbb, hV, hP, hD, hS⟩ := St
  obtain ⟨v, Xs', Ns', Na', Qs', Qa', Ms', Ma', e1, e2, hV'⟩ := y_restore hV (show b < 2 ^ 31 by omega)
  refine lv_aload_n hx hb dL_law_646 rfl (lv_at hl 2 rfl) ?_
  have hFc := va_free (wc := (zfXW cI cO Xo Po Pp Go Gp No Np Qo Qp Ko Kp Lo Lp To Tp ra oo Xs Ps Pa Gs Ga Ns Na Qs Qa Ks Ka Ls La Ts Ta os)) hD hS hA [0, 1, 2, 3, 4, 5, 6, 7, 8, 9, 10, 11, 12, 13, 14, 15, 16, 17, 18, 19, 20, 21, 22, 23, 24, 25, 26, 27, 28, 29, 30, 31, 32] (zC_LX (cI := cI) (cB := cB) (cO := cO))
  refine zcm_i (w2 := (zfLW cI cB cO Xo Po Pp Go Gp No Np Qo Qp Ko Kp Lo Lp To Tp ra oo Mo Mp Xs' Ps Pa Gs Ga Ns' Na' Qs' Qa' Ks Ka Ls La Ts Ta os Ms Mj Ma)) (va_runV (As := []) (rest := []) ⟨hx, hb, hml, hown, hts⟩ (c_X5_restore l D cI cB cO Xo Po Pp Go Gp No Np Qo Qp Ko Kp Lo Lp To Tp ra oo Xs Ps Pa Gs Ga Ns Na Qs Qa Ks Ka Ls La Ts Ta os _ _ _ _ _ _ _ e1) (cwV 0 hts gL_law_X5_restore rfl rfl rfl kV_X5_restore ⟨Nat.le_of_ble_eq_true rfl, Nat.le_of_ble_eq_true rfl⟩) (zpreV hK hP hD hS hE hFc [0, 1, 2, 3, 4, 5, 6, 7, 8, 9, 10, 11, 12, 13, 14, 15, 16, 17, 18, 19, 20, 21, 22, 23, 24, 25, 26, 27, 28, 29, 30, 31, 32] (zC_LX (cI := cI) (cB := cB) (cO := cO)) rfl 0 (ci := 5) rfl rfl []) rfl rfl hl.1 rfl (lv_room (Nat.le_of_ble_eq_true rfl)) dL_law_647 ⟨Nat.le_of_ble_eq_true rfl, Nat.le_of_ble_eq_true rfl⟩) hS hFc (fun H1 t h1 h2 h3 => zM_LX (cI := cI) (cB := cB) (cO := cO) hP hD h1 h2 h3) (fun H locs hP hD hS => ?_)
  refine lv_aload_n hx hb dL_law_650 rfl (lv_at hl 1 rfl) ?_
  have hFc := va_free (wc := (zwM cI cB Mo Mp Ms Mj Ma)) hD hS hA [33, 34, 35, 36, 37, 38, 39, 40, 41, 42, 43, 44, 45, 46, 47, 48, 49, 50, 51, 52, 53, 54, 55] (zC_LM (cI := cI) (cB := cB) (cO := cO))
  refine zcm_i (w2 := (zfLW cI cB cO Xo Po Pp Go Gp No Np Qo Qp Ko Kp Lo Lp To Tp ra oo Mo Mp Xs' Ps Pa Gs Ga Ns' Na' Qs' Qa' Ks Ka Ls La Ts Ta os Ms' Mj Ma')) (va_runV (As := []) (rest := [.int v]) ⟨hx, hb, hml, hown, hts⟩ (c_X6_restore l D cI cB cO Mo Mp Ms Mj Ma _ _ _ _ e2) (cwV 0 hts gL_law_X6_restore rfl rfl rfl kV_X6_restore ⟨Nat.le_of_ble_eq_true rfl, Nat.le_of_ble_eq_true rfl⟩) (zpreV hK hP hD hS hE hFc [33, 34, 35, 36, 37, 38, 39, 40, 41, 42, 43, 44, 45, 46, 47, 48, 49, 50, 51, 52, 53, 54, 55] (zC_LM (cI := cI) (cB := cB) (cO := cO)) rfl 33 (ci := 6) rfl rfl []) rfl rfl hl.1 rfl (lv_room (Nat.le_of_ble_eq_true rfl)) dL_law_651 ⟨Nat.le_of_ble_eq_true rfl, Nat.le_of_ble_eq_true rfl⟩) hS hFc (fun H1 t h1 h2 h3 => zM_LM (cI := cI) (cB := cB) (cO := cO) hP hD h1 h2 h3) (fun H locs hP hD hS => ?_)
  refine lv_icmp_eq (tgt := 696) hx hb dL_law_654 (by decide) (fun _ => ?_) (fun q => absurd rfl q)
  exact cont _ _ _ ⟨r, c, n, b, Xs', Ps, Pa, Gs, Ga, Ns', Na', Qs', Qa', Ks, Ka, Ls, La, Ts, Ta, os, Ms', Mj, Ma', by omega, hV', hP, hD, hS⟩ hl
set_option maxHeartbeats 4000000 in
set_option maxRecDepth 100000 in
theorem lw_c21 {p : Program} {l : Launch} {e : Env} {s : State} {m : MethodId} {below : List Frame} {meth : Method} {cc : Code} {b0 L : Nat} {xs : Nat → Int32} {D : va_G} {cI cB cO : ClassId} {Xo : Nat} {Po : Nat} {Pp : Nat → Nat} {Go : Nat} {Gp : Nat → Nat} {No : Nat} {Np : Nat → Nat} {Qo : Nat} {Qp : Nat → Nat} {Ko : Nat} {Kp : Nat → Nat} {Lo : Nat} {Lp : Nat → Nat} {To : Nat} {Tp : Nat → Nat} {ra : Nat} {oo : Nat → Nat} {Mo : Nat} {Mp : Nat → Nat} {bd i : Nat} {H : Heap} {locs : List Loc} {ls : Array Slot} (hL : L ≤ 2048) (C0 : lw_At p s m meth cc b0 L xs) (hK : va_K D vwCl (zTY cI cB cO) s) (hE : zEnv (fun q : Nat => s.heap.size ≤ q) s s.heap) (hbd : bd < 1000) (hi : i + 3 < L) (St : lw_St D cI cB cO s Xo Po Pp Go Gp No Np Qo Qp Ko Kp Lo Lp To Tp ra oo Mo Mp bd H locs) (hl : lv_has ls 4 [(3, .int (nI i)), (2, .ref Mo), (1, .ref Xo), (0, .ref b0)]) (cont : ∀ (H : Heap) (locs : List Loc) (ls : Array Slot), lw_St D cI cB cO s Xo Po Pp Go Gp No Np Qo Qp Ko Kp Lo Lp To Tp ra oo Mo Mp (bd + 1) H locs → lv_has ls 4 [(3, .int (nI i)), (2, .ref Mo), (1, .ref Xo), (0, .ref b0)] → W p l e room_1 s m #[Value.ref b0] below meth cc H locs 600000 7302250 (lw_Z below #[Value.ref b0] s) (F0 m 696 ls [])) : W p l e room_1 s m #[Value.ref b0] below meth cc H locs 600000 7302250 (lw_Z below #[Value.ref b0] s) (F0 m 659 ls []) := by
  obtain ⟨hx, hb, hr, hml, hown, hts0, hX, hbl, hlocks, hgv⟩ := C0
  have hts : ∀ w ∈ wsL_law, w.before #[Value.ref b0] s = true := fun w hw => hts0 w (wsL_law_in w hw)
  have hA : ∀ q : Nat, s.heap.size ≤ q → (fun q : Nat => s.heap.size ≤ q) q := fun _ h => h
  have hbA : ¬ (fun q : Nat => s.heap.size ≤ q) b0 := Nat.not_le.mpr hbl
  obtain ⟨r, c, n, b, Xs, Ps, Pa, Gs, Ga, Ns, Na, Qs, Qa, Ks, Ka, Ls, La, Ts, Ta, os, Ms, Mj, Ma, hbb, hV, hP, hD, hS⟩ := St
  obtain ⟨v, Ma', e1, e2, hV'⟩ := yo_count hV (xs (i + 1))
  refine lv_aload_n hx hb dL_law_659 rfl (lv_at hl 2 rfl) ?_
  refine lv_aload_n hx hb dL_law_660 rfl (lv_at hl 3 rfl) ?_
  refine lv_iload_n hx hb dL_law_661 rfl (lv_at hl 0 rfl) ?_
  refine lv_iconst (v := (1 : Int32)) hx hb dL_law_662 (by decide) ?_
  refine lv_iadd hx hb dL_law_663 ?_
  rw [show nI i + (1 : Int32) = nI (i + 1) from nI_add i 1]
  refine va_sld hx hb hX hbl hbA hS (vp_in_nI (show i + 1 < L by omega) (by omega)) dL_law_664 ?_
  rw [show (nI (i + 1)).toNatClampNeg = i + 1 from nI_clamp (by omega)]
  have hFc := va_free (wc := (zfXW cI cO Xo Po Pp Go Gp No Np Qo Qp Ko Kp Lo Lp To Tp ra oo Xs Ps Pa Gs Ga Ns Na Qs Qa Ks Ka Ls La Ts Ta os)) hD hS hA [0, 1, 2, 3, 4, 5, 6, 7, 8, 9, 10, 11, 12, 13, 14, 15, 16, 17, 18, 19, 20, 21, 22, 23, 24, 25, 26, 27, 28, 29, 30, 31, 32] (zC_LX (cI := cI) (cB := cB) (cO := cO))
  refine zcm_i (w2 := (zfLW cI cB cO Xo Po Pp Go Gp No Np Qo Qp Ko Kp Lo Lp To Tp ra oo Mo Mp Xs Ps Pa Gs Ga Ns Na Qs Qa Ks Ka Ls La Ts Ta os Ms Mj Ma)) (va_runV (As := [.int (xs (i + 1))]) (rest := []) ⟨hx, hb, hml, hown, hts⟩ (c_X5_count l D cI cB cO Xo Po Pp Go Gp No Np Qo Qp Ko Kp Lo Lp To Tp ra oo Xs Ps Pa Gs Ga Ns Na Qs Qa Ks Ka Ls La Ts Ta os (xs (i + 1)) _ _ e1) (cwV 1 hts gL_law_X5_count rfl rfl rfl kV_X5_count ⟨Nat.le_of_ble_eq_true rfl, Nat.le_of_ble_eq_true rfl⟩) (zpreV hK hP hD hS hE hFc [0, 1, 2, 3, 4, 5, 6, 7, 8, 9, 10, 11, 12, 13, 14, 15, 16, 17, 18, 19, 20, 21, 22, 23, 24, 25, 26, 27, 28, 29, 30, 31, 32] (zC_LX (cI := cI) (cB := cB) (cO := cO)) rfl 0 (ci := 5) rfl rfl [.int (xs (i + 1))]) rfl rfl hl.1 rfl (lv_room (Nat.le_of_ble_eq_true rfl)) dL_law_665 ⟨Nat.le_of_ble_eq_true rfl, Nat.le_of_ble_eq_true rfl⟩) hS hFc (fun H1 t h1 h2 h3 => zM_LX (cI := cI) (cB := cB) (cO := cO) hP hD h1 h2 h3) (fun H locs hP hD hS => ?_)
  refine lv_aload_n hx hb dL_law_668 rfl (lv_at hl 1 rfl) ?_
  refine lv_aload_n hx hb dL_law_669 rfl (lv_at hl 3 rfl) ?_
  refine lv_iload_n hx hb dL_law_670 rfl (lv_at hl 0 rfl) ?_
  refine lv_iconst (v := (1 : Int32)) hx hb dL_law_671 (by decide) ?_
  refine lv_iadd hx hb dL_law_672 ?_
  rw [show nI i + (1 : Int32) = nI (i + 1) from nI_add i 1]
  refine va_sld hx hb hX hbl hbA hS (vp_in_nI (show i + 1 < L by omega) (by omega)) dL_law_673 ?_
  rw [show (nI (i + 1)).toNatClampNeg = i + 1 from nI_clamp (by omega)]
  have hFc := va_free (wc := (zwM cI cB Mo Mp Ms Mj Ma)) hD hS hA [33, 34, 35, 36, 37, 38, 39, 40, 41, 42, 43, 44, 45, 46, 47, 48, 49, 50, 51, 52, 53, 54, 55] (zC_LM (cI := cI) (cB := cB) (cO := cO))
  refine zcm_i (w2 := (zfLW cI cB cO Xo Po Pp Go Gp No Np Qo Qp Ko Kp Lo Lp To Tp ra oo Mo Mp Xs Ps Pa Gs Ga Ns Na Qs Qa Ks Ka Ls La Ts Ta os Ms Mj Ma')) (va_runV (As := [.int (xs (i + 1))]) (rest := [.int v]) ⟨hx, hb, hml, hown, hts⟩ (c_X6_count l D cI cB cO Mo Mp Ms Mj Ma (xs (i + 1)) _ _ _ e2) (cwV 1 hts gL_law_X6_count rfl rfl rfl kV_X6_count ⟨Nat.le_of_ble_eq_true rfl, Nat.le_of_ble_eq_true rfl⟩) (zpreV hK hP hD hS hE hFc [33, 34, 35, 36, 37, 38, 39, 40, 41, 42, 43, 44, 45, 46, 47, 48, 49, 50, 51, 52, 53, 54, 55] (zC_LM (cI := cI) (cB := cB) (cO := cO)) rfl 33 (ci := 6) rfl rfl [.int (xs (i + 1))]) rfl rfl hl.1 rfl (lv_room (Nat.le_of_ble_eq_true rfl)) dL_law_674 ⟨Nat.le_of_ble_eq_true rfl, Nat.le_of_ble_eq_true rfl⟩) hS hFc (fun H1 t h1 h2 h3 => zM_LM (cI := cI) (cB := cB) (cO := cO) hP hD h1 h2 h3) (fun H locs hP hD hS => ?_)
  refine lv_icmp_eq (tgt := 696) hx hb dL_law_677 (by decide) (fun _ => ?_) (fun q => absurd rfl q)
  exact cont _ _ _ ⟨r, c, n, b, Xs, Ps, Pa, Gs, Ga, Ns, Na, Qs, Qa, Ks, Ka, Ls, La, Ts, Ta, os, Ms, Mj, Ma', by omega, hV', hP, hD, hS⟩ hl
set_option maxHeartbeats 4000000 in
set_option maxRecDepth 100000 in
theorem lw_c22 {p : Program} {l : Launch} {e : Env} {s : State} {m : MethodId} {below : List Frame} {meth : Method} {cc : Code} {b0 L : Nat} {xs : Nat → Int32} {D : va_G} {cI cB cO : ClassId} {Xo : Nat} {Po : Nat} {Pp : Nat → Nat} {Go : Nat} {Gp : Nat → Nat} {No : Nat} {Np : Nat → Nat} {Qo : Nat} {Qp : Nat → Nat} {Ko : Nat} {Kp : Nat → Nat} {Lo : Nat} {Lp : Nat → Nat} {To : Nat} {Tp : Nat → Nat} {ra : Nat} {oo : Nat → Nat} {Mo : Nat} {Mp : Nat → Nat} {bd i : Nat} {H : Heap} {locs : List Loc} {ls : Array Slot} (hL : L ≤ 2048) (C0 : lw_At p s m meth cc b0 L xs) (hK : va_K D vwCl (zTY cI cB cO) s) (hE : zEnv (fun q : Nat => s.heap.size ≤ q) s s.heap) (hbd : bd < 1000) (hi : i + 3 < L) (St : lw_St D cI cB cO s Xo Po Pp Go Gp No Np Qo Qp Ko Kp Lo Lp To Tp ra oo Mo Mp bd H locs) (hl : lv_has ls 4 [(3, .int (nI i)), (2, .ref Mo), (1, .ref Xo), (0, .ref b0)]) (cont : ∀ (H : Heap) (locs : List Loc) (ls : Array Slot), lw_St D cI cB cO s Xo Po Pp Go Gp No Np Qo Qp Ko Kp Lo Lp To Tp ra oo Mo Mp (bd + 1) H locs → lv_has ls 4 [(3, .int (nI i)), (2, .ref Mo), (1, .ref Xo), (0, .ref b0)] → W p l e room_1 s m #[Value.ref b0] below meth cc H locs 600000 7302250 (lw_Z below #[Value.ref b0] s) (F0 m 696 ls [])) : W p l e room_1 s m #[Value.ref b0] below meth cc H locs 600000 7302250 (lw_Z below #[Value.ref b0] s) (F0 m 682 ls []) := by
  obtain ⟨hx, hb, hr, hml, hown, hts0, hX, hbl, hlocks, hgv⟩ := C0
  have hts : ∀ w ∈ wsL_law, w.before #[Value.ref b0] s = true := fun w hw => hts0 w (wsL_law_in w hw)
  have hA : ∀ q : Nat, s.heap.size ≤ q → (fun q : Nat => s.heap.size ≤ q) q := fun _ h => h
  have hbA : ¬ (fun q : Nat => s.heap.size ≤ q) b0 := Nat.not_le.mpr hbl
  obtain ⟨r, c, n, b, Xs, Ps, Pa, Gs, Ga, Ns, Na, Qs, Qa, Ks, Ka, Ls, La, Ts, Ta, os, Ms, Mj, Ma, hbb, hV, hP, hD, hS⟩ := St
  obtain ⟨⟨v, Xs', Ts', Ta', os'⟩, ⟨v2, Mj', Ma'⟩, e1, e2, ev, hV'⟩ := y_digest hV (show b < 2 ^ 31 by omega) Ts Ta Mj
  change v = v2 at ev
  subst ev
  change yIV r c n b Xs' Ps Pa Gs Ga Ns Na Qs Qa Ks Ka Ls La os' Ms Ma' at hV'
  refine lv_aload_n hx hb dL_law_682 rfl (lv_at hl 2 rfl) ?_
  have hFc := va_free (wc := (zfXW cI cO Xo Po Pp Go Gp No Np Qo Qp Ko Kp Lo Lp To Tp ra oo Xs Ps Pa Gs Ga Ns Na Qs Qa Ks Ka Ls La Ts Ta os)) hD hS hA [0, 1, 2, 3, 4, 5, 6, 7, 8, 9, 10, 11, 12, 13, 14, 15, 16, 17, 18, 19, 20, 21, 22, 23, 24, 25, 26, 27, 28, 29, 30, 31, 32] (zC_LX (cI := cI) (cB := cB) (cO := cO))
  refine zcm_l (w2 := (zfLW cI cB cO Xo Po Pp Go Gp No Np Qo Qp Ko Kp Lo Lp To Tp ra oo Mo Mp Xs' Ps Pa Gs Ga Ns Na Qs Qa Ks Ka Ls La Ts' Ta' os' Ms Mj Ma)) (va_runV (As := []) (rest := []) ⟨hx, hb, hml, hown, hts⟩ (c_X5_digest l D cI cB cO Xo Po Pp Go Gp No Np Qo Qp Ko Kp Lo Lp To Tp ra oo Xs Ps Pa Gs Ga Ns Na Qs Qa Ks Ka Ls La Ts Ta os _ _ _ _ _ _ e1) (cwV 0 hts gL_law_X5_digest rfl rfl rfl kV_X5_digest ⟨Nat.le_of_ble_eq_true rfl, Nat.le_of_ble_eq_true rfl⟩) (zpreV hK hP hD hS hE hFc [0, 1, 2, 3, 4, 5, 6, 7, 8, 9, 10, 11, 12, 13, 14, 15, 16, 17, 18, 19, 20, 21, 22, 23, 24, 25, 26, 27, 28, 29, 30, 31, 32] (zC_LX (cI := cI) (cB := cB) (cO := cO)) rfl 0 (ci := 5) rfl rfl []) rfl rfl hl.1 rfl (lv_room (Nat.le_of_ble_eq_true rfl)) dL_law_683 ⟨Nat.le_of_ble_eq_true rfl, Nat.le_of_ble_eq_true rfl⟩) hS hFc (fun H1 t h1 h2 h3 => zM_LX (cI := cI) (cB := cB) (cO := cO) hP hD h1 h2 h3) (fun H locs hP hD hS => ?_)
  refine lv_aload_n hx hb dL_law_686 rfl (lv_at hl 1 rfl) ?_
  have hFc := va_free (wc := (zwM cI cB Mo Mp Ms Mj Ma)) hD hS hA [33, 34, 35, 36, 37, 38, 39, 40, 41, 42, 43, 44, 45, 46, 47, 48, 49, 50, 51, 52, 53, 54, 55] (zC_LM (cI := cI) (cB := cB) (cO := cO))
  refine zcm_l (w2 := (zfLW cI cB cO Xo Po Pp Go Gp No Np Qo Qp Ko Kp Lo Lp To Tp ra oo Mo Mp Xs' Ps Pa Gs Ga Ns Na Qs Qa Ks Ka Ls La Ts' Ta' os' Ms Mj' Ma')) (va_runV (As := []) (rest := [.long v]) ⟨hx, hb, hml, hown, hts⟩ (c_X6_digest l D cI cB cO Mo Mp Ms Mj Ma _ _ _ _ e2) (cwV 0 hts gL_law_X6_digest rfl rfl rfl kV_X6_digest ⟨Nat.le_of_ble_eq_true rfl, Nat.le_of_ble_eq_true rfl⟩) (zpreV hK hP hD hS hE hFc [33, 34, 35, 36, 37, 38, 39, 40, 41, 42, 43, 44, 45, 46, 47, 48, 49, 50, 51, 52, 53, 54, 55] (zC_LM (cI := cI) (cB := cB) (cO := cO)) rfl 33 (ci := 6) rfl rfl []) rfl rfl hl.1 rfl (lv_room (Nat.le_of_ble_eq_true rfl)) dL_law_687 ⟨Nat.le_of_ble_eq_true rfl, Nat.le_of_ble_eq_true rfl⟩) hS hFc (fun H1 t h1 h2 h3 => zM_LM (cI := cI) (cB := cB) (cO := cO) hP hD h1 h2 h3) (fun H locs hP hD hS => ?_)
  refine W.lcmp hx hb dL_law_690 ?_
  refine lv_if_eq (tgt := 696) hx hb dL_law_691 (by decide) (fun _ => ?_) (fun q => absurd (lg_self v) q)
  exact cont _ _ _ ⟨r, c, n, b, Xs', Ps, Pa, Gs, Ga, Ns, Na, Qs, Qa, Ks, Ka, Ls, La, Ts', Ta', os', Ms, Mj', Ma', by omega, hV', hP, hD, hS⟩ hl
