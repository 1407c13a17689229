/-! the law's calls, one by one -/
set_option maxHeartbeats 4000000 in
set_option maxRecDepth 100000 in
theorem lw_c12 {p : Program} {l : Launch} {e : Env} {s : State} {m : MethodId} {below : List Frame} {meth : Method} {cc : Code} {b0 L : Nat} {xs : Nat → Int32} {D : va_G} {cI cB cO : ClassId} {Xo : Nat} {Po : Nat} {Pp : Nat → Nat} {Go : Nat} {Gp : Nat → Nat} {No : Nat} {Np : Nat → Nat} {Qo : Nat} {Qp : Nat → Nat} {Ko : Nat} {Kp : Nat → Nat} {Lo : Nat} {Lp : Nat → Nat} {To : Nat} {Tp : Nat → Nat} {ra : Nat} {oo : Nat → Nat} {Mo : Nat} {Mp : Nat → Nat} {bd i : Nat} {H : Heap} {locs : List Loc} {ls : Array Slot} (hL : L ≤ 2048) (C0 : lw_At p s m meth cc b0 L xs) (hK : va_K D vwCl (zTY cI cB cO) s) (hE : zEnv (fun q : Nat => s.heap.size ≤ q) s s.heap) (hbd : bd < 1000) (hi : i + 3 < L) (St : lw_St D cI cB cO s Xo Po Pp Go Gp No Np Qo Qp Ko Kp Lo Lp To Tp ra oo Mo Mp bd H locs) (hl : lv_has ls 4 [(3, .int (nI i)), (2, .ref Mo), (1, .ref Xo), (0, .ref b0)]) (cont : ∀ (H : Heap) (locs : List Loc) (ls : Array Slot), lw_St D cI cB cO s Xo Po Pp Go Gp No Np Qo Qp Ko Kp Lo Lp To Tp ra oo Mo Mp (bd + 1) H locs → lv_has ls 4 [(3, .int (nI i)), (2, .ref Mo), (1, .ref Xo), (0, .ref b0)] → W p l e room_1 s m #[Value.ref b0] below meth cc H locs 600000 7302250 (lw_Z below #[Value.ref b0] s) (F0 m 696 ls [])) : W p l e room_1 s m #[Value.ref b0] below meth cc H locs 600000 7302250 (lw_Z below #[Value.ref b0] s) (F0 m 446 ls []) := by
  obtain ⟨hx, hb, hr, hml, hown, hts0, hX, hbl, hlocks, hgv⟩ := C0
  have hts : ∀ w ∈ wsL_law, w.before #[Value.ref b0] s = true := fun w hw => hts0 w (wsL_law_in w hw)
  have hA : ∀ q : Nat, s.heap.size ≤ q → (fun q : Nat => s.heap.size ≤ q) q := fun _ h => h
  have hbA : ¬ (fun q : Nat => s.heap.size ≤ q) b0 := Nat.not_le.mpr hbl
  obtain ⟨r, c, n, b, Xs, Ps, Pa, Gs, Ga, Ns, Na, Qs, Qa, Ks, Ka, Ls, La, Ts, Ta, os, Ms, Mj, Ma, hbb, hV, hP, hD, hS⟩ := St
  obtain ⟨v, Xs', Ts', Ta', os', Ma', e1, e2, hV', _⟩ := y_courses hV (show b < 2 ^ 31 by omega) Ts Ta (xs (i + 1))
  refine lv_aload_n hx hb dL_law_446 rfl (lv_at hl 2 rfl) ?_
  refine lv_aload_n hx hb dL_law_447 rfl (lv_at hl 3 rfl) ?_
  refine lv_iload_n hx hb dL_law_448 rfl (lv_at hl 0 rfl) ?_
  refine lv_iconst (v := (1 : Int32)) hx hb dL_law_449 (by decide) ?_
  refine lv_iadd hx hb dL_law_450 ?_
  rw [show nI i + (1 : Int32) = nI (i + 1) from nI_add i 1]
  refine va_sld hx hb hX hbl hbA hS (vp_in_nI (show i + 1 < L by omega) (by omega)) dL_law_451 ?_
  rw [show (nI (i + 1)).toNatClampNeg = i + 1 from nI_clamp (by omega)]
  have hFc := va_free (wc := (zfXW cI cO Xo Po Pp Go Gp No Np Qo Qp Ko Kp Lo Lp To Tp ra oo Xs Ps Pa Gs Ga Ns Na Qs Qa Ks Ka Ls La Ts Ta os)) hD hS hA [0, 1, 2, 3, 4, 5, 6, 7, 8, 9, 10, 11, 12, 13, 14, 15, 16, 17, 18, 19, 20, 21, 22, 23, 24, 25, 26, 27, 28, 29, 30, 31, 32] (zC_LX (cI := cI) (cB := cB) (cO := cO))
  refine zcm_i (w2 := (zfLW cI cB cO Xo Po Pp Go Gp No Np Qo Qp Ko Kp Lo Lp To Tp ra oo Mo Mp Xs' Ps Pa Gs Ga Ns Na Qs Qa Ks Ka Ls La Ts' Ta' os' Ms Mj Ma)) (va_runV (As := [.int (xs (i + 1))]) (rest := []) ⟨hx, hb, hml, hown, hts⟩ (c_X5_courses l D cI cB cO Xo Po Pp Go Gp No Np Qo Qp Ko Kp Lo Lp To Tp ra oo Xs Ps Pa Gs Ga Ns Na Qs Qa Ks Ka Ls La Ts Ta os (xs (i + 1)) _ _ _ _ _ _ e1) (cwV 1 hts gL_law_X5_courses rfl rfl rfl kV_X5_courses ⟨Nat.le_of_ble_eq_true rfl, Nat.le_of_ble_eq_true rfl⟩) (zpreV hK hP hD hS hE hFc [0, 1, 2, 3, 4, 5, 6, 7, 8, 9, 10, 11, 12, 13, 14, 15, 16, 17, 18, 19, 20, 21, 22, 23, 24, 25, 26, 27, 28, 29, 30, 31, 32] (zC_LX (cI := cI) (cB := cB) (cO := cO)) rfl 0 (ci := 5) rfl rfl [.int (xs (i + 1))]) rfl rfl hl.1 rfl (lv_room (Nat.le_of_ble_eq_true rfl)) dL_law_452 ⟨Nat.le_of_ble_eq_true rfl, Nat.le_of_ble_eq_true rfl⟩) hS hFc (fun H1 t h1 h2 h3 => zM_LX (cI := cI) (cB := cB) (cO := cO) hP hD h1 h2 h3) (fun H locs hP hD hS => ?_)
  refine lv_aload_n hx hb dL_law_455 rfl (lv_at hl 1 rfl) ?_
  refine lv_aload_n hx hb dL_law_456 rfl (lv_at hl 3 rfl) ?_
  refine lv_iload_n hx hb dL_law_457 rfl (lv_at hl 0 rfl) ?_
  refine lv_iconst (v := (1 : Int32)) hx hb dL_law_458 (by decide) ?_
  refine lv_iadd hx hb dL_law_459 ?_
  rw [show nI i + (1 : Int32) = nI (i + 1) from nI_add i 1]
  refine va_sld hx hb hX hbl hbA hS (vp_in_nI (show i + 1 < L by omega) (by omega)) dL_law_460 ?_
  rw [show (nI (i + 1)).toNatClampNeg = i + 1 from nI_clamp (by omega)]
  have hFc := va_free (wc := (zwM cI cB Mo Mp Ms Mj Ma)) hD hS hA [33, 34, 35, 36, 37, 38, 39, 40, 41, 42, 43, 44, 45, 46, 47, 48, 49, 50, 51, 52, 53, 54, 55] (zC_LM (cI := cI) (cB := cB) (cO := cO))
  refine zcm_i (w2 := (zfLW cI cB cO Xo Po Pp Go Gp No Np Qo Qp Ko Kp Lo Lp To Tp ra oo Mo Mp Xs' Ps Pa Gs Ga Ns Na Qs Qa Ks Ka Ls La Ts' Ta' os' Ms Mj Ma')) (va_runV (As := [.int (xs (i + 1))]) (rest := [.int v]) ⟨hx, hb, hml, hown, hts⟩ (c_X6_courses l D cI cB cO Mo Mp Ms Mj Ma (xs (i + 1)) _ _ _ e2) (cwV 1 hts gL_law_X6_courses rfl rfl rfl kV_X6_courses ⟨Nat.le_of_ble_eq_true rfl, Nat.le_of_ble_eq_true rfl⟩) (zpreV hK hP hD hS hE hFc [33, 34, 35, 36, 37, 38, 39, 40, 41, 42, 43, 44, 45, 46, 47, 48, 49, 50, 51, 52, 53, 54, 55] (zC_LM (cI := cI) (cB := cB) (cO := cO)) rfl 33 (ci := 6) rfl rfl [.int (xs (i + 1))]) rfl rfl hl.1 rfl (lv_room (Nat.le_of_ble_eq_true rfl)) dL_law_461 ⟨Nat.le_of_ble_eq_true rfl, Nat.le_of_ble_eq_true rfl⟩) hS hFc (fun H1 t h1 h2 h3 => zM_LM (cI := cI) (cB := cB) (cO := cO) hP hD h1 h2 h3) (fun H locs hP hD hS => ?_)
  refine lv_icmp_eq (tgt := 696) hx hb dL_law_464 (by decide) (fun _ => ?_) (fun q => absurd rfl q)
  exact cont _ _ _ ⟨r, c, n, b, Xs', Ps, Pa, Gs, Ga, Ns, Na, Qs, Qa, Ks, Ka, Ls, La, Ts', Ta', os', Ms, Mj, Ma', by omega, hV', hP, hD, hS⟩ hl
set_option maxHeartbeats 4000000 in
set_option maxRecDepth 100000 in
theorem lw_c13 {p : Program} {l : Launch} {e : Env} {s : State} {m : MethodId} {below : List Frame} {meth : Method} {cc : Code} {b0 L : Nat} {xs : Nat → Int32} {D : va_G} {cI cB cO : ClassId} {Xo : Nat} {Po : Nat} {Pp : Nat → Nat} {Go : Nat} {Gp : Nat → Nat} {No : Nat} {Np : Nat → Nat} {Qo : Nat} {Qp : Nat → Nat} {Ko : Nat} {Kp : Nat → Nat} {Lo : Nat} {Lp : Nat → Nat} {To : Nat} {Tp : Nat → Nat} {ra : Nat} {oo : Nat → Nat} {Mo : Nat} {Mp : Nat → Nat} {bd i : Nat} {H : Heap} {locs : List Loc} {ls : Array Slot} (hL : L ≤ 2048) (C0 : lw_At p s m meth cc b0 L xs) (hK : va_K D vwCl (zTY cI cB cO) s) (hE : zEnv (fun q : Nat => s.heap.size ≤ q) s s.heap) (hbd : bd < 1000) (hi : i + 3 < L) (St : lw_St D cI cB cO s Xo Po Pp Go Gp No Np Qo Qp Ko Kp Lo Lp To Tp ra oo Mo Mp bd H locs) (hl : lv_has ls 4 [(3, .int (nI i)), (2, .ref Mo), (1, .ref Xo), (0, .ref b0)]) (cont : ∀ (H : Heap) (locs : List Loc) (ls : Array Slot), lw_St D cI cB cO s Xo Po Pp Go Gp No Np Qo Qp Ko Kp Lo Lp To Tp ra oo Mo Mp (bd + 1) H locs → lv_has ls 4 [(3, .int (nI i)), (2, .ref Mo), (1, .ref Xo), (0, .ref b0)] → W p l e room_1 s m #[Value.ref b0] below meth cc H locs 600000 7302250 (lw_Z below #[Value.ref b0] s) (F0 m 696 ls [])) : W p l e room_1 s m #[Value.ref b0] below meth cc H locs 600000 7302250 (lw_Z below #[Value.ref b0] s) (F0 m 469 ls []) := by
  obtain ⟨hx, hb, hr, hml, hown, hts0, hX, hbl, hlocks, hgv⟩ := C0
  have hts : ∀ w ∈ wsL_law, w.before #[Value.ref b0] s = true := fun w hw => hts0 w (wsL_law_in w hw)
  have hA : ∀ q : Nat, s.heap.size ≤ q → (fun q : Nat => s.heap.size ≤ q) q := fun _ h => h
  have hbA : ¬ (fun q : Nat => s.heap.size ≤ q) b0 := Nat.not_le.mpr hbl
  obtain ⟨r, c, n, b, Xs, Ps, Pa, Gs, Ga, Ns, Na, Qs, Qa, Ks, Ka, Ls, La, Ts, Ta, os, Ms, Mj, Ma, hbb, hV, hP, hD, hS⟩ := St
  obtain ⟨v, Xs', Ts', Ta', os', Ma', e1, e2, hV', _⟩ := y_wins hV (show b < 2 ^ 31 by omega) Ts Ta (xs (i + 1))
  refine lv_aload_n hx hb dL_law_469 rfl (lv_at hl 2 rfl) ?_
  refine lv_aload_n hx hb dL_law_470 rfl (lv_at hl 3 rfl) ?_
  refine lv_iload_n hx hb dL_law_471 rfl (lv_at hl 0 rfl) ?_
  refine lv_iconst (v := (1 : Int32)) hx hb dL_law_472 (by decide) ?_
  refine lv_iadd hx hb dL_law_473 ?_
  rw [show nI i + (1 : Int32) = nI (i + 1) from nI_add i 1]
  refine va_sld hx hb hX hbl hbA hS (vp_in_nI (show i + 1 < L by omega) (by omega)) dL_law_474 ?_
  rw [show (nI (i + 1)).toNatClampNeg = i + 1 from nI_clamp (by omega)]
  have hFc := va_free (wc := (zfXW cI cO Xo Po Pp Go Gp No Np Qo Qp Ko Kp Lo Lp To Tp ra oo Xs Ps Pa Gs Ga Ns Na Qs Qa Ks Ka Ls La Ts Ta os)) hD hS hA [0, 1, 2, 3, 4, 5, 6, 7, 8, 9, 10, 11, 12, 13, 14, 15, 16, 17, 18, 19, 20, 21, 22, 23, 24, 25, 26, 27, 28, 29, 30, 31, 32] (zC_LX (cI := cI) (cB := cB) (cO := cO))
  refine zcm_i (w2 := (zfLW cI cB cO Xo Po Pp Go Gp No Np Qo Qp Ko Kp Lo Lp To Tp ra oo Mo Mp Xs' Ps Pa Gs Ga Ns Na Qs Qa Ks Ka Ls La Ts' Ta' os' Ms Mj Ma)) (va_runV (As := [.int (xs (i + 1))]) (rest := []) ⟨hx, hb, hml, hown, hts⟩ (c_X5_wins l D cI cB cO Xo Po Pp Go Gp No Np Qo Qp Ko Kp Lo Lp To Tp ra oo Xs Ps Pa Gs Ga Ns Na Qs Qa Ks Ka Ls La Ts Ta os (xs (i + 1)) _ _ _ _ _ _ e1) (cwV 1 hts gL_law_X5_wins rfl rfl rfl kV_X5_wins ⟨Nat.le_of_ble_eq_true rfl, Nat.le_of_ble_eq_true rfl⟩) (zpreV hK hP hD hS hE hFc [0, 1, 2, 3, 4, 5, 6, 7, 8, 9, 10, 11, 12, 13, 14, 15, 16, 17, 18, 19, 20, 21, 22, 23, 24, 25, 26, 27, 28, 29, 30, 31, 32] (zC_LX (cI := cI) (cB := cB) (cO := cO)) rfl 0 (ci := 5) rfl rfl [.int (xs (i + 1))]) rfl rfl hl.1 rfl (lv_room (Nat.le_of_ble_eq_true rfl)) dL_law_475 ⟨Nat.le_of_ble_eq_true rfl, Nat.le_of_ble_eq_true rfl⟩) hS hFc (fun H1 t h1 h2 h3 => zM_LX (cI := cI) (cB := cB) (cO := cO) hP hD h1 h2 h3) (fun H locs hP hD hS => ?_)
  refine lv_aload_n hx hb dL_law_478 rfl (lv_at hl 1 rfl) ?_
  refine lv_aload_n hx hb dL_law_479 rfl (lv_at hl 3 rfl) ?_
  refine lv_iload_n hx hb dL_law_480 rfl (lv_at hl 0 rfl) ?_
  refine lv_iconst (v := (1 : Int32)) hx hb dL_law_481 (by decide) ?_
  refine lv_iadd hx hb dL_law_482 ?_
  rw [show nI i + (1 : Int32) = nI (i + 1) from nI_add i 1]
  refine va_sld hx hb hX hbl hbA hS (vp_in_nI (show i + 1 < L by omega) (by omega)) dL_law_483 ?_
  rw [show (nI (i + 1)).toNatClampNeg = i + 1 from nI_clamp (by omega)]
  have hFc := va_free (wc := (zwM cI cB Mo Mp Ms Mj Ma)) hD hS hA [33, 34, 35, 36, 37, 38, 39, 40, 41, 42, 43, 44, 45, 46, 47, 48, 49, 50, 51, 52, 53, 54, 55] (zC_LM (cI := cI) (cB := cB) (cO := cO))
  refine zcm_i (w2 := (zfLW cI cB cO Xo Po Pp Go Gp No Np Qo Qp Ko Kp Lo Lp To Tp ra oo Mo Mp Xs' Ps Pa Gs Ga Ns Na Qs Qa Ks Ka Ls La Ts' Ta' os' Ms Mj Ma')) (va_runV (As := [.int (xs (i + 1))]) (rest := [.int v]) ⟨hx, hb, hml, hown, hts⟩ (c_X6_wins l D cI cB cO Mo Mp Ms Mj Ma (xs (i + 1)) _ _ _ e2) (cwV 1 hts gL_law_X6_wins rfl rfl rfl kV_X6_wins ⟨Nat.le_of_ble_eq_true rfl, Nat.le_of_ble_eq_true rfl⟩) (zpreV hK hP hD hS hE hFc [33, 34, 35, 36, 37, 38, 39, 40, 41, 42, 43, 44, 45, 46, 47, 48, 49, 50, 51, 52, 53, 54, 55] (zC_LM (cI := cI) (cB := cB) (cO := cO)) rfl 33 (ci := 6) rfl rfl [.int (xs (i + 1))]) rfl rfl hl.1 rfl (lv_room (Nat.le_of_ble_eq_true rfl)) dL_law_484 ⟨Nat.le_of_ble_eq_true rfl, Nat.le_of_ble_eq_true rfl⟩) hS hFc (fun H1 t h1 h2 h3 => zM_LM (cI := cI) (cB := cB) (cO := cO) hP hD h1 h2 h3) (fun H locs hP hD hS => ?_)
  refine lv_icmp_eq (tgt := 696) hx hb dL_law_487 (by decide) (fun _ => ?_) (fun q => absurd rfl q)
  exact cont _ _ _ ⟨r, c, n, b, Xs', Ps, Pa, Gs, Ga, Ns, Na, Qs, Qa, Ks, Ka, Ls, La, Ts', Ta', os', Ms, Mj, Ma', by omega, hV', hP, hD, hS⟩ hl
set_option maxHeartbeats 4000000 in
set_option maxRecDepth 100000 in
theorem lw_c14 {p : Program} {l : Launch} {e : Env} {s : State} {m : MethodId} {below : List Frame} {meth : Method} {cc : Code} {b0 L : Nat} {xs : Nat → Int32} {D : va_G} {cI cB cO : ClassId} {Xo : Nat} {Po : Nat} {Pp : Nat → Nat} {Go : Nat} {Gp : Nat → Nat} {No : Nat} {Np : Nat → Nat} {Qo : Nat} {Qp : Nat → Nat} {Ko : Nat} {Kp : Nat → Nat} {Lo : Nat} {Lp : Nat → Nat} {To : Nat} {Tp : Nat → Nat} {ra : Nat} {oo : Nat → Nat} {Mo : Nat} {Mp : Nat → Nat} {bd i : Nat} {H : Heap} {locs : List Loc} {ls : Array Slot} (hL : L ≤ 2048) (C0 : lw_At p s m meth cc b0 L xs) (hK : va_K D vwCl (zTY cI cB cO) s) (hE : zEnv (fun q : Nat => s.heap.size ≤ q) s s.heap) (hbd : bd < 1000) (hi : i + 3 < L) (St : lw_St D cI cB cO s Xo Po Pp Go Gp No Np Qo Qp Ko Kp Lo Lp To Tp ra oo Mo Mp bd H locs) (hl : lv_has ls 4 [(3, .int (nI i)), (2, .ref Mo), (1, .ref Xo), (0, .ref b0)]) (cont : ∀ (H : Heap) (locs : List Loc) (ls : Array Slot), lw_St D cI cB cO s Xo Po Pp Go Gp No Np Qo Qp Ko Kp Lo Lp To Tp ra oo Mo Mp (bd + 1) H locs → lv_has ls 4 [(3, .int (nI i)), (2, .ref Mo), (1, .ref Xo), (0, .ref b0)] → W p l e room_1 s m #[Value.ref b0] below meth cc H locs 600000 7302250 (lw_Z below #[Value.ref b0] s) (F0 m 696 ls [])) : W p l e room_1 s m #[Value.ref b0] below meth cc H locs 600000 7302250 (lw_Z below #[Value.ref b0] s) (F0 m 492 ls []) := by
  obtain ⟨hx, hb, hr, hml, hown, hts0, hX, hbl, hlocks, hgv⟩ := C0
  have hts : ∀ w ∈ wsL_law, w.before #[Value.ref b0] s = true := fun w hw => hts0 w (wsL_law_in w hw)
  have hA : ∀ q : Nat, s.heap.size ≤ q → (fun q : Nat => s.heap.size ≤ q) q := fun _ h => h
  have hbA : ¬ (fun q : Nat => s.heap.size ≤ q) b0 := Nat.not_le.mpr hbl
  obtain ⟨r, c, n, b, Xs, Ps, Pa, Gs, Ga, Ns, Na, Qs, Qa, Ks, Ka, Ls, La, Ts, Ta, os, Ms, Mj, Ma, hbb, hV, hP, hD, hS⟩ := St
  obtain ⟨v, Xs', Ts', Ta', os', Ms', Ma', e1, e2, hV'⟩ := y_add hV (show b < 2 ^ 31 by omega) Ts Ta
  refine lv_aload_n hx hb dL_law_492 rfl (lv_at hl 2 rfl) ?_
  have hFc := va_free (wc := (zfXW cI cO Xo Po Pp Go Gp No Np Qo Qp Ko Kp Lo Lp To Tp ra oo Xs Ps Pa Gs Ga Ns Na Qs Qa Ks Ka Ls La Ts Ta os)) hD hS hA [0, 1, 2, 3, 4, 5, 6, 7, 8, 9, 10, 11, 12, 13, 14, 15, 16, 17, 18, 19, 20, 21, 22, 23, 24, 25, 26, 27, 28, 29, 30, 31, 32] (zC_LX (cI := cI) (cB := cB) (cO := cO))
  refine zcm_i (w2 := (zfLW cI cB cO Xo Po Pp Go Gp No Np Qo Qp Ko Kp Lo Lp To Tp ra oo Mo Mp Xs' Ps Pa Gs Ga Ns Na Qs Qa Ks Ka Ls La Ts' Ta' os' Ms Mj Ma)) (va_runV (As := []) (rest := []) ⟨hx, hb, hml, hown, hts⟩ (c_X5_add l D cI cB cO Xo Po Pp Go Gp No Np Qo Qp Ko Kp Lo Lp To Tp ra oo Xs Ps Pa Gs Ga Ns Na Qs Qa Ks Ka Ls La Ts Ta os _ _ _ _ _ _ e1) (cwV 0 hts gL_law_X5_add rfl rfl rfl kV_X5_add ⟨Nat.le_of_ble_eq_true rfl, Nat.le_of_ble_eq_true rfl⟩) (zpreV hK hP hD hS hE hFc [0, 1, 2, 3, 4, 5, 6, 7, 8, 9, 10, 11, 12, 13, 14, 15, 16, 17, 18, 19, 20, 21, 22, 23, 24, 25, 26, 27, 28, 29, 30, 31, 32] (zC_LX (cI := cI) (cB := cB) (cO := cO)) rfl 0 (ci := 5) rfl rfl []) rfl rfl hl.1 rfl (lv_room (Nat.le_of_ble_eq_true rfl)) dL_law_493 ⟨Nat.le_of_ble_eq_true rfl, Nat.le_of_ble_eq_true rfl⟩) hS hFc (fun H1 t h1 h2 h3 => zM_LX (cI := cI) (cB := cB) (cO := cO) hP hD h1 h2 h3) (fun H locs hP hD hS => ?_)
  refine lv_aload_n hx hb dL_law_496 rfl (lv_at hl 1 rfl) ?_
  have hFc := va_free (wc := (zwM cI cB Mo Mp Ms Mj Ma)) hD hS hA [33, 34, 35, 36, 37, 38, 39, 40, 41, 42, 43, 44, 45, 46, 47, 48, 49, 50, 51, 52, 53, 54, 55] (zC_LM (cI := cI) (cB := cB) (cO := cO))
  refine zcm_i (w2 := (zfLW cI cB cO Xo Po Pp Go Gp No Np Qo Qp Ko Kp Lo Lp To Tp ra oo Mo Mp Xs' Ps Pa Gs Ga Ns Na Qs Qa Ks Ka Ls La Ts' Ta' os' Ms' Mj Ma')) (va_runV (As := []) (rest := [.int v]) ⟨hx, hb, hml, hown, hts⟩ (c_X6_add l D cI cB cO Mo Mp Ms Mj Ma _ _ _ _ e2) (cwV 0 hts gL_law_X6_add rfl rfl rfl kV_X6_add ⟨Nat.le_of_ble_eq_true rfl, Nat.le_of_ble_eq_true rfl⟩) (zpreV hK hP hD hS hE hFc [33, 34, 35, 36, 37, 38, 39, 40, 41, 42, 43, 44, 45, 46, 47, 48, 49, 50, 51, 52, 53, 54, 55] (zC_LM (cI := cI) (cB := cB) (cO := cO)) rfl 33 (ci := 6) rfl rfl []) rfl rfl hl.1 rfl (lv_room (Nat.le_of_ble_eq_true rfl)) dL_law_497 ⟨Nat.le_of_ble_eq_true rfl, Nat.le_of_ble_eq_true rfl⟩) hS hFc (fun H1 t h1 h2 h3 => zM_LM (cI := cI) (cB := cB) (cO := cO) hP hD h1 h2 h3) (fun H locs hP hD hS => ?_)
  refine lv_icmp_eq (tgt := 696) hx hb dL_law_500 (by decide) (fun _ => ?_) (fun q => absurd rfl q)
  exact cont _ _ _ ⟨r, c, n, b, Xs', Ps, Pa, Gs, Ga, Ns, Na, Qs, Qa, Ks, Ka, Ls, La, Ts', Ta', os', Ms', Mj, Ma', by omega, hV', hP, hD, hS⟩ hl
set_option maxHeartbeats 4000000 in
set_option maxRecDepth 100000 in
theorem lw_c15 {p : Program} {l : Launch} {e : Env} {s : State} {m : MethodId} {below : List Frame} {meth : Method} {cc : Code} {b0 L : Nat} {xs : Nat → Int32} {D : va_G} {cI cB cO : ClassId} {Xo : Nat} {Po : Nat} {Pp : Nat → Nat} {Go : Nat} {Gp : Nat → Nat} {No : Nat} {Np : Nat → Nat} {Qo : Nat} {Qp : Nat → Nat} {Ko : Nat} {Kp : Nat → Nat} {Lo : Nat} {Lp : Nat → Nat} {To : Nat} {Tp : Nat → Nat} {ra : Nat} {oo : Nat → Nat} {Mo : Nat} {Mp : Nat → Nat} {bd i : Nat} {H : Heap} {locs : List Loc} {ls : Array Slot} (hL : L ≤ 2048) (C0 : lw_At p s m meth cc b0 L xs) (hK : va_K D vwCl (zTY cI cB cO) s) (hE : zEnv (fun q : Nat => s.heap.size ≤ q) s s.heap) (hbd : bd < 1000) (hi : i + 3 < L) (St : lw_St D cI cB cO s Xo Po Pp Go Gp No Np Qo Qp Ko Kp Lo Lp To Tp ra oo Mo Mp bd H locs) (hl : lv_has ls 4 [(3, .int (nI i)), (2, .ref Mo), (1, .ref Xo), (0, .ref b0)]) (cont : ∀ (H : Heap) (locs : List Loc) (ls : Array Slot), lw_St D cI cB cO s Xo Po Pp Go Gp No Np Qo Qp Ko Kp Lo Lp To Tp ra oo Mo Mp (bd + 1) H locs → lv_has ls 4 [(3, .int (nI i)), (2, .ref Mo), (1, .ref Xo), (0, .ref b0)] → W p l e room_1 s m #[Value.ref b0] below meth cc H locs 600000 7302250 (lw_Z below #[Value.ref b0] s) (F0 m 696 ls [])) : W p l e room_1 s m #[Value.ref b0] below meth cc H locs 600000 7302250 (lw_Z below #[Value.ref b0] s) (F0 m 505 ls []) := by
  obtain ⟨hx, hb, hr, hml, hown, hts0, hX, hbl, hlocks, hgv⟩ := C0
  have hts : ∀ w ∈ wsL_law, w.before #[Value.ref b0] s = true := fun w hw => hts0 w (wsL_law_in w hw)
  have hA : ∀ q : Nat, s.heap.size ≤ q → (fun q : Nat => s.heap.size ≤ q) q := fun _ h => h
  have hbA : ¬ (fun q : Nat => s.heap.size ≤ q) b0 := Nat.not_le.mpr hbl
  obtain ⟨r, c, n, b, Xs, Ps, Pa, Gs, Ga, Ns, Na, Qs, Qa, Ks, Ka, Ls, La, Ts, Ta, os, Ms, Mj, Ma, hbb, hV, hP, hD, hS⟩ := St
  obtain ⟨v, Xs', Ts', Ta', os', Ma', e1, e2, hV', _⟩ := y_mean hV (show b < 2 ^ 31 by omega) Ts Ta
  refine lv_aload_n hx hb dL_law_505 rfl (lv_at hl 2 rfl) ?_
  have hFc := va_free (wc := (zfXW cI cO Xo Po Pp Go Gp No Np Qo Qp Ko Kp Lo Lp To Tp ra oo Xs Ps Pa Gs Ga Ns Na Qs Qa Ks Ka Ls La Ts Ta os)) hD hS hA [0, 1, 2, 3, 4, 5, 6, 7, 8, 9, 10, 11, 12, 13, 14, 15, 16, 17, 18, 19, 20, 21, 22, 23, 24, 25, 26, 27, 28, 29, 30, 31, 32] (zC_LX (cI := cI) (cB := cB) (cO := cO))
  refine zcm_i (w2 := (zfLW cI cB cO Xo Po Pp Go Gp No Np Qo Qp Ko Kp Lo Lp To Tp ra oo Mo Mp Xs' Ps Pa Gs Ga Ns Na Qs Qa Ks Ka Ls La Ts' Ta' os' Ms Mj Ma)) (va_runV (As := []) (rest := []) ⟨hx, hb, hml, hown, hts⟩ (c_X5_mean l D cI cB cO Xo Po Pp Go Gp No Np Qo Qp Ko Kp Lo Lp To Tp ra oo Xs Ps Pa Gs Ga Ns Na Qs Qa Ks Ka Ls La Ts Ta os _ _ _ _ _ _ e1) (cwV 0 hts gL_law_X5_mean rfl rfl rfl kV_X5_mean ⟨Nat.le_of_ble_eq_true rfl, Nat.le_of_ble_eq_true rfl⟩) (zpreV hK hP hD hS hE hFc [0, 1, 2, 3, 4, 5, 6, 7, 8, 9, 10, 11, 12, 13, 14, 15, 16, 17, 18, 19, 20, 21, 22, 23, 24, 25, 26, 27, 28, 29, 30, 31, 32] (zC_LX (cI := cI) (cB := cB) (cO := cO)) rfl 0 (ci := 5) rfl rfl []) rfl rfl hl.1 rfl (lv_room (Nat.le_of_ble_eq_true rfl)) dL_law_506 ⟨Nat.le_of_ble_eq_true rfl, Nat.le_of_ble_eq_true rfl⟩) hS hFc (fun H1 t h1 h2 h3 => zM_LX (cI := cI) (cB := cB) (cO := cO) hP hD h1 h2 h3) (fun H locs hP hD hS => ?_)
  refine lv_aload_n hx hb dL_law_509 rfl (lv_at hl 1 rfl) ?_
  have hFc := va_free (wc := (zwM cI cB Mo Mp Ms Mj Ma)) hD hS hA [33, 34, 35, 36, 37, 38, 39, 40, 41, 42, 43, 44, 45, 46, 47, 48, 49, 50, 51, 52, 53, 54, 55] (zC_LM (cI := cI) (cB := cB) (cO := cO))
  refine zcm_i (w2 := (zfLW cI cB cO Xo Po Pp Go Gp No Np Qo Qp Ko Kp Lo Lp To Tp ra oo Mo Mp Xs' Ps Pa Gs Ga Ns Na Qs Qa Ks Ka Ls La Ts' Ta' os' Ms Mj Ma')) (va_runV (As := []) (rest := [.int v]) ⟨hx, hb, hml, hown, hts⟩ (c_X6_mean l D cI cB cO Mo Mp Ms Mj Ma _ _ _ e2) (cwV 0 hts gL_law_X6_mean rfl rfl rfl kV_X6_mean ⟨Nat.le_of_ble_eq_true rfl, Nat.le_of_ble_eq_true rfl⟩) (zpreV hK hP hD hS hE hFc [33, 34, 35, 36, 37, 38, 39, 40, 41, 42, 43, 44, 45, 46, 47, 48, 49, 50, 51, 52, 53, 54, 55] (zC_LM (cI := cI) (cB := cB) (cO := cO)) rfl 33 (ci := 6) rfl rfl []) rfl rfl hl.1 rfl (lv_room (Nat.le_of_ble_eq_true rfl)) dL_law_510 ⟨Nat.le_of_ble_eq_true rfl, Nat.le_of_ble_eq_true rfl⟩) hS hFc (fun H1 t h1 h2 h3 => zM_LM (cI := cI) (cB := cB) (cO := cO) hP hD h1 h2 h3) (fun H locs hP hD hS => ?_)
  refine lv_icmp_eq (tgt := 696) hx hb dL_law_513 (by decide) (fun _ => ?_) (fun q => absurd rfl q)
  exact cont _ _ _ ⟨r, c, n, b, Xs', Ps, Pa, Gs, Ga, Ns, Na, Qs, Qa, Ks, Ka, Ls, La, Ts', Ta', os', Ms, Mj, Ma', by omega, hV', hP, hD, hS⟩ hl
set_option maxHeartbeats 4000000 in
set_option maxRecDepth 100000 in
theorem lw_c16 {p : Program} {l : Launch} {e : Env} {s : State} {m : MethodId} {below : List Frame} {meth : Method} {cc : Code} {b0 L : Nat} {xs : Nat → Int32} {D : va_G} {cI cB cO : ClassId} {Xo : Nat} {Po : Nat} {Pp : Nat → Nat} {Go : Nat} {Gp : Nat → Nat} {No : Nat} {Np : Nat → Nat} {Qo : Nat} {Qp : Nat → Nat} {Ko : Nat} {Kp : Nat → Nat} {Lo : Nat} {Lp : Nat → Nat} {To : Nat} {Tp : Nat → Nat} {ra : Nat} {oo : Nat → Nat} {Mo : Nat} {Mp : Nat → Nat} {bd i : Nat} {H : Heap} {locs : List Loc} {ls : Array Slot} (hL : L ≤ 2048) (C0 : lw_At p s m meth cc b0 L xs) (hK : va_K D vwCl (zTY cI cB cO) s) (hE : zEnv (fun q : Nat => s.heap.size ≤ q) s s.heap) (hbd : bd < 1000) (hi : i + 3 < L) (St : lw_St D cI cB cO s Xo Po Pp Go Gp No Np Qo Qp Ko Kp Lo Lp To Tp ra oo Mo Mp bd H locs) (hl : lv_has ls 4 [(3, .int (nI i)), (2, .ref Mo), (1, .ref Xo), (0, .ref b0)]) (cont : ∀ (H : Heap) (locs : List Loc) (ls : Array Slot), lw_St D cI cB cO s Xo Po Pp Go Gp No Np Qo Qp Ko Kp Lo Lp To Tp ra oo Mo Mp (bd + 1) H locs → lv_has ls 4 [(3, .int (nI i)), (2, .ref Mo), (1, .ref Xo), (0, .ref b0)] → W p l e room_1 s m #[Value.ref b0] below meth cc H locs 600000 7302250 (lw_Z below #[Value.ref b0] s) (F0 m 696 ls [])) : W p l e room_1 s m #[Value.ref b0] below meth cc H locs 600000 7302250 (lw_Z below #[Value.ref b0] s) (F0 m 518 ls []) := by
  obtain ⟨hx, hb, hr, hml, hown, hts0, hX, hbl, hlocks, hgv⟩ := C0
  have hts : ∀ w ∈ wsL_law, w.before #[Value.ref b0] s = true := fun w hw => hts0 w (wsL_law_in w hw)
  have hA : ∀ q : Nat, s.heap.size ≤ q → (fun q : Nat => s.heap.size ≤ q) q := fun _ h => h
  have hbA : ¬ (fun q : Nat => s.heap.size ≤ q) b0 := Nat.not_le.mpr hbl
  obtain ⟨r, c, n, b, Xs, Ps, Pa, Gs, Ga, Ns, Na, Qs, Qa, Ks, Ka, Ls, La, Ts, Ta, os, Ms, Mj, Ma, hbb, hV, hP, hD, hS⟩ := St
  obtain ⟨v, Qs', Qa', Ms', Ma', e1, e2, hV'⟩ := yo_see hV (xs (i + 1)) (xs (i + 2)) (if (xs (i + 3)) = 0 then (0 : Int32) else 1)
  refine lv_aload_n hx hb dL_law_518 rfl (lv_at hl 2 rfl) ?_
  refine lv_aload_n hx hb dL_law_519 rfl (lv_at hl 3 rfl) ?_
  refine lv_iload_n hx hb dL_law_520 rfl (lv_at hl 0 rfl) ?_
  refine lv_iconst (v := (1 : Int32)) hx hb dL_law_521 (by decide) ?_
  refine lv_iadd hx hb dL_law_522 ?_
  rw [show nI i + (1 : Int32) = nI (i + 1) from nI_add i 1]
  refine va_sld hx hb hX hbl hbA hS (vp_in_nI (show i + 1 < L by omega) (by omega)) dL_law_523 ?_
  rw [show (nI (i + 1)).toNatClampNeg = i + 1 from nI_clamp (by omega)]
  refine lv_aload_n hx hb dL_law_524 rfl (lv_at hl 3 rfl) ?_
  refine lv_iload_n hx hb dL_law_525 rfl (lv_at hl 0 rfl) ?_
  refine lv_iconst (v := (2 : Int32)) hx hb dL_law_526 (by decide) ?_
  refine lv_iadd hx hb dL_law_527 ?_
  rw [show nI i + (2 : Int32) = nI (i + 2) from nI_add i 2]
  refine va_sld hx hb hX hbl hbA hS (vp_in_nI (show i + 2 < L by omega) (by omega)) dL_law_528 ?_
  rw [show (nI (i + 2)).toNatClampNeg = i + 2 from nI_clamp (by omega)]
  refine lv_aload_n hx hb dL_law_529 rfl (lv_at hl 3 rfl) ?_
  refine lv_iload_n hx hb dL_law_530 rfl (lv_at hl 0 rfl) ?_
  refine lv_iconst (v := (3 : Int32)) hx hb dL_law_531 (by decide) ?_
  refine lv_iadd hx hb dL_law_532 ?_
  rw [show nI i + (3 : Int32) = nI (i + 3) from nI_add i 3]
  refine va_sld hx hb hX hbl hbA hS (vp_in_nI (show i + 3 < L by omega) (by omega)) dL_law_533 ?_
  rw [show (nI (i + 3)).toNatClampNeg = i + 3 from nI_clamp (by omega)]
  have hbz : ∀ (k : W p l e room_1 s m #[Value.ref b0] below meth cc H locs 600000 7302250 (lw_Z below #[Value.ref b0] s) (F0 m 542 ls [.int (if (xs (i + 3)) = 0 then (0 : Int32) else 1), .int (xs (i + 2)), .int (xs (i + 1)), .ref Xo])), W p l e room_1 s m #[Value.ref b0] below meth cc H locs 600000 7302250 (lw_Z below #[Value.ref b0] s) (F0 m 534 ls [.int (xs (i + 3)), .int (xs (i + 2)), .int (xs (i + 1)), .ref Xo]) := by
    intro k
    refine lv_if_eq (tgt := 541) hx hb dL_law_534 (by decide) (fun h0 => ?_) (fun h0 => ?_)
    · rw [if_pos h0] at k
      exact lv_iconst (v := (0 : Int32)) hx hb dL_law_541 (by decide) k
    · rw [if_neg h0] at k
      exact lv_iconst (v := (1 : Int32)) hx hb dL_law_537 (by decide) (lv_goto (tgt := 542) hx hb dL_law_538 (by decide) k)
  refine hbz ?_
  have hFc := va_free (wc := (zfXW cI cO Xo Po Pp Go Gp No Np Qo Qp Ko Kp Lo Lp To Tp ra oo Xs Ps Pa Gs Ga Ns Na Qs Qa Ks Ka Ls La Ts Ta os)) hD hS hA [0, 1, 2, 3, 4, 5, 6, 7, 8, 9, 10, 11, 12, 13, 14, 15, 16, 17, 18, 19, 20, 21, 22, 23, 24, 25, 26, 27, 28, 29, 30, 31, 32] (zC_LX (cI := cI) (cB := cB) (cO := cO))
  refine zcm_i (w2 := (zfLW cI cB cO Xo Po Pp Go Gp No Np Qo Qp Ko Kp Lo Lp To Tp ra oo Mo Mp Xs Ps Pa Gs Ga Ns Na Qs' Qa' Ks Ka Ls La Ts Ta os Ms Mj Ma)) (va_runV (As := [.int (xs (i + 1)), .int (xs (i + 2)), .int (if (xs (i + 3)) = 0 then (0 : Int32) else 1)]) (rest := []) ⟨hx, hb, hml, hown, hts⟩ (c_X5_see l D cI cB cO Xo Po Pp Go Gp No Np Qo Qp Ko Kp Lo Lp To Tp ra oo Xs Ps Pa Gs Ga Ns Na Qs Qa Ks Ka Ls La Ts Ta os (xs (i + 1)) (xs (i + 2)) (if (xs (i + 3)) = 0 then (0 : Int32) else 1) _ _ _ _ e1) (cwV 3 hts gL_law_X5_see rfl rfl rfl kV_X5_see ⟨Nat.le_of_ble_eq_true rfl, Nat.le_of_ble_eq_true rfl⟩) (zpreV hK hP hD hS hE hFc [0, 1, 2, 3, 4, 5, 6, 7, 8, 9, 10, 11, 12, 13, 14, 15, 16, 17, 18, 19, 20, 21, 22, 23, 24, 25, 26, 27, 28, 29, 30, 31, 32] (zC_LX (cI := cI) (cB := cB) (cO := cO)) rfl 0 (ci := 5) rfl rfl [.int (xs (i + 1)), .int (xs (i + 2)), .int (if (xs (i + 3)) = 0 then (0 : Int32) else 1)]) rfl rfl hl.1 rfl (lv_room (Nat.le_of_ble_eq_true rfl)) dL_law_542 ⟨Nat.le_of_ble_eq_true rfl, Nat.le_of_ble_eq_true rfl⟩) hS hFc (fun H1 t h1 h2 h3 => zM_LX (cI := cI) (cB := cB) (cO := cO) hP hD h1 h2 h3) (fun H locs hP hD hS => ?_)
  refine lv_aload_n hx hb dL_law_545 rfl (lv_at hl 1 rfl) ?_
  refine lv_aload_n hx hb dL_law_546 rfl (lv_at hl 3 rfl) ?_
  refine lv_iload_n hx hb dL_law_547 rfl (lv_at hl 0 rfl) ?_
  refine lv_iconst (v := (1 : Int32)) hx hb dL_law_548 (by decide) ?_
  refine lv_iadd hx hb dL_law_549 ?_
  rw [show nI i + (1 : Int32) = nI (i + 1) from nI_add i 1]
  refine va_sld hx hb hX hbl hbA hS (vp_in_nI (show i + 1 < L by omega) (by omega)) dL_law_550 ?_
  rw [show (nI (i + 1)).toNatClampNeg = i + 1 from nI_clamp (by omega)]
  refine lv_aload_n hx hb dL_law_551 rfl (lv_at hl 3 rfl) ?_
  refine lv_iload_n hx hb dL_law_552 rfl (lv_at hl 0 rfl) ?_
  refine lv_iconst (v := (2 : Int32)) hx hb dL_law_553 (by decide) ?_
  refine lv_iadd hx hb dL_law_554 ?_
  rw [show nI i + (2 : Int32) = nI (i + 2) from nI_add i 2]
  refine va_sld hx hb hX hbl hbA hS (vp_in_nI (show i + 2 < L by omega) (by omega)) dL_law_555 ?_
  rw [show (nI (i + 2)).toNatClampNeg = i + 2 from nI_clamp (by omega)]
  refine lv_aload_n hx hb dL_law_556 rfl (lv_at hl 3 rfl) ?_
  refine lv_iload_n hx hb dL_law_557 rfl (lv_at hl 0 rfl) ?_
  refine lv_iconst (v := (3 : Int32)) hx hb dL_law_558 (by decide) ?_
  refine lv_iadd hx hb dL_law_559 ?_
  rw [show nI i + (3 : Int32) = nI (i + 3) from nI_add i 3]
  refine va_sld hx hb hX hbl hbA hS (vp_in_nI (show i + 3 < L by omega) (by omega)) dL_law_560 ?_
  rw [show (nI (i + 3)).toNatClampNeg = i + 3 from nI_clamp (by omega)]
  have hbz : ∀ (k : W p l e room_1 s m #[Value.ref b0] below meth cc H locs 600000 7302250 (lw_Z below #[Value.ref b0] s) (F0 m 569 ls [.int (if (xs (i + 3)) = 0 then (0 : Int32) else 1), .int (xs (i + 2)), .int (xs (i + 1)), .ref Mo, .int v])), W p l e room_1 s m #[Value.ref b0] below meth cc H locs 600000 7302250 (lw_Z below #[Value.ref b0] s) (F0 m 561 ls [.int (xs (i + 3)), .int (xs (i + 2)), .int (xs (i + 1)), .ref Mo, .int v]) := by
    intro k
    refine lv_if_eq (tgt := 568) hx hb dL_law_561 (by decide) (fun h0 => ?_) (fun h0 => ?_)
    · rw [if_pos h0] at k
      exact lv_iconst (v := (0 : Int32)) hx hb dL_law_568 (by decide) k
    · rw [if_neg h0] at k
      exact lv_iconst (v := (1 : Int32)) hx hb dL_law_564 (by decide) (lv_goto (tgt := 569) hx hb dL_law_565 (by decide) k)
  refine hbz ?_
  have hFc := va_free (wc := (zwM cI cB Mo Mp Ms Mj Ma)) hD hS hA [33, 34, 35, 36, 37, 38, 39, 40, 41, 42, 43, 44, 45, 46, 47, 48, 49, 50, 51, 52, 53, 54, 55] (zC_LM (cI := cI) (cB := cB) (cO := cO))
  refine zcm_i (w2 := (zfLW cI cB cO Xo Po Pp Go Gp No Np Qo Qp Ko Kp Lo Lp To Tp ra oo Mo Mp Xs Ps Pa Gs Ga Ns Na Qs' Qa' Ks Ka Ls La Ts Ta os Ms' Mj Ma')) (va_runV (As := [.int (xs (i + 1)), .int (xs (i + 2)), .int (if (xs (i + 3)) = 0 then (0 : Int32) else 1)]) (rest := [.int v]) ⟨hx, hb, hml, hown, hts⟩ (c_X6_see l D cI cB cO Mo Mp Ms Mj Ma (xs (i + 1)) (xs (i + 2)) (if (xs (i + 3)) = 0 then (0 : Int32) else 1) _ _ _ _ e2) (cwV 3 hts gL_law_X6_see rfl rfl rfl kV_X6_see ⟨Nat.le_of_ble_eq_true rfl, Nat.le_of_ble_eq_true rfl⟩) (zpreV hK hP hD hS hE hFc [33, 34, 35, 36, 37, 38, 39, 40, 41, 42, 43, 44, 45, 46, 47, 48, 49, 50, 51, 52, 53, 54, 55] (zC_LM (cI := cI) (cB := cB) (cO := cO)) rfl 33 (ci := 6) rfl rfl [.int (xs (i + 1)), .int (xs (i + 2)), .int (if (xs (i + 3)) = 0 then (0 : Int32) else 1)]) rfl rfl hl.1 rfl (lv_room (Nat.le_of_ble_eq_true rfl)) dL_law_569 ⟨Nat.le_of_ble_eq_true rfl, Nat.le_of_ble_eq_true rfl⟩) hS hFc (fun H1 t h1 h2 h3 => zM_LM (cI := cI) (cB := cB) (cO := cO) hP hD h1 h2 h3) (fun H locs hP hD hS => ?_)
  refine lv_icmp_eq (tgt := 696) hx hb dL_law_572 (by decide) (fun _ => ?_) (fun q => absurd rfl q)
  exact cont _ _ _ ⟨r, c, n, b, Xs, Ps, Pa, Gs, Ga, Ns, Na, Qs', Qa', Ks, Ka, Ls, La, Ts, Ta, os, Ms', Mj, Ma', by omega, hV', hP, hD, hS⟩ hl
set_option maxHeartbeats 4000000 in
set_option maxRecDepth 100000 in
theorem lw_c17 {p : Program} {l : Launch} {e : Env} {s : State} {m : MethodId} {below : List Frame} {meth : Method} {cc : Code} {b0 L : Nat} {xs : Nat → Int32} {D : va_G} {cI cB cO : ClassId} {Xo : Nat} {Po : Nat} {Pp : Nat → Nat} {Go : Nat} {Gp : Nat → Nat} {No : Nat} {Np : Nat → Nat} {Qo : Nat} {Qp : Nat → Nat} {Ko : Nat} {Kp : Nat → Nat} {Lo : Nat} {Lp : Nat → Nat} {To : Nat} {Tp : Nat → Nat} {ra : Nat} {oo : Nat → Nat} {Mo : Nat} {Mp : Nat → Nat} {bd i : Nat} {H : Heap} {locs : List Loc} {ls : Array Slot} (hL : L ≤ 2048) (C0 : lw_At p s m meth cc b0 L xs) (hK : va_K D vwCl (zTY cI cB cO) s) (hE : zEnv (fun q : Nat => s.heap.size ≤ q) s s.heap) (hbd : bd < 1000) (hi : i + 3 < L) (St : lw_St D cI cB cO s Xo Po Pp Go Gp No Np Qo Qp Ko Kp Lo Lp To Tp ra oo Mo Mp bd H locs) (hl : lv_has ls 4 [(3, .int (nI i)), (2, .ref Mo), (1, .ref Xo), (0, .ref b0)]) (cont : ∀ (H : Heap) (locs : List Loc) (ls : Array Slot), lw_St D cI cB cO s Xo Po Pp Go Gp No Np Qo Qp Ko Kp Lo Lp To Tp ra oo Mo Mp (bd + 1) H locs → lv_has ls 4 [(3, .int (nI i)), (2, .ref Mo), (1, .ref Xo), (0, .ref b0)] → W p l e room_1 s m #[Value.ref b0] below meth cc H locs 600000 7302250 (lw_Z below #[Value.ref b0] s) (F0 m 696 ls [])) : W p l e room_1 s m #[Value.ref b0] below meth cc H locs 600000 7302250 (lw_Z below #[Value.ref b0] s) (F0 m 577 ls []) := by
  obtain ⟨hx, hb, hr, hml, hown, hts0, hX, hbl, hlocks, hgv⟩ := C0
  have hts : ∀ w ∈ wsL_law, w.before #[Value.ref b0] s = true := fun w hw => hts0 w (wsL_law_in w hw)
  have hA : ∀ q : Nat, s.heap.size ≤ q → (fun q : Nat => s.heap.size ≤ q) q := fun _ h => h
  have hbA : ¬ (fun q : Nat => s.heap.size ≤ q) b0 := Nat.not_le.mpr hbl
  obtain ⟨r, c, n, b, Xs, Ps, Pa, Gs, Ga, Ns, Na, Qs, Qa, Ks, Ka, Ls, La, Ts, Ta, os, Ms, Mj, Ma, hbb, hV, hP, hD, hS⟩ := St
  obtain ⟨v, Qs', Ms', e1, e2, hV'⟩ := yo_forget hV
  refine lv_aload_n hx hb dL_law_577 rfl (lv_at hl 2 rfl) ?_
  have hFc := va_free (wc := (zfXW cI cO Xo Po Pp Go Gp No Np Qo Qp Ko Kp Lo Lp To Tp ra oo Xs Ps Pa Gs Ga Ns Na Qs Qa Ks Ka Ls La Ts Ta os)) hD hS hA [0, 1, 2, 3, 4, 5, 6, 7, 8, 9, 10, 11, 12, 13, 14, 15, 16, 17, 18, 19, 20, 21, 22, 23, 24, 25, 26, 27, 28, 29, 30, 31, 32] (zC_LX (cI := cI) (cB := cB) (cO := cO))
  refine zcm_i (w2 := (zfLW cI cB cO Xo Po Pp Go Gp No Np Qo Qp Ko Kp Lo Lp To Tp ra oo Mo Mp Xs Ps Pa Gs Ga Ns Na Qs' Qa Ks Ka Ls La Ts Ta os Ms Mj Ma)) (va_runV (As := []) (rest := []) ⟨hx, hb, hml, hown, hts⟩ (c_X5_forget l D cI cB cO Xo Po Pp Go Gp No Np Qo Qp Ko Kp Lo Lp To Tp ra oo Xs Ps Pa Gs Ga Ns Na Qs Qa Ks Ka Ls La Ts Ta os _ _ _ e1) (cwV 0 hts gL_law_X5_forget rfl rfl rfl kV_X5_forget ⟨Nat.le_of_ble_eq_true rfl, Nat.le_of_ble_eq_true rfl⟩) (zpreV hK hP hD hS hE hFc [0, 1, 2, 3, 4, 5, 6, 7, 8, 9, 10, 11, 12, 13, 14, 15, 16, 17, 18, 19, 20, 21, 22, 23, 24, 25, 26, 27, 28, 29, 30, 31, 32] (zC_LX (cI := cI) (cB := cB) (cO := cO)) rfl 0 (ci := 5) rfl rfl []) rfl rfl hl.1 rfl (lv_room (Nat.le_of_ble_eq_true rfl)) dL_law_578 ⟨Nat.le_of_ble_eq_true rfl, Nat.le_of_ble_eq_true rfl⟩) hS hFc (fun H1 t h1 h2 h3 => zM_LX (cI := cI) (cB := cB) (cO := cO) hP hD h1 h2 h3) (fun H locs hP hD hS => ?_)
  refine lv_aload_n hx hb dL_law_581 rfl (lv_at hl 1 rfl) ?_
  have hFc := va_free (wc := (zwM cI cB Mo Mp Ms Mj Ma)) hD hS hA [33, 34, 35, 36, 37, 38, 39, 40, 41, 42, 43, 44, 45, 46, 47, 48, 49, 50, 51, 52, 53, 54, 55] (zC_LM (cI := cI) (cB := cB) (cO := cO))
  refine zcm_i (w2 := (zfLW cI cB cO Xo Po Pp Go Gp No Np Qo Qp Ko Kp Lo Lp To Tp ra oo Mo Mp Xs Ps Pa Gs Ga Ns Na Qs' Qa Ks Ka Ls La Ts Ta os Ms' Mj Ma)) (va_runV (As := []) (rest := [.int v]) ⟨hx, hb, hml, hown, hts⟩ (c_X6_forget l D cI cB cO Mo Mp Ms Mj Ma _ _ _ e2) (cwV 0 hts gL_law_X6_forget rfl rfl rfl kV_X6_forget ⟨Nat.le_of_ble_eq_true rfl, Nat.le_of_ble_eq_true rfl⟩) (zpreV hK hP hD hS hE hFc [33, 34, 35, 36, 37, 38, 39, 40, 41, 42, 43, 44, 45, 46, 47, 48, 49, 50, 51, 52, 53, 54, 55] (zC_LM (cI := cI) (cB := cB) (cO := cO)) rfl 33 (ci := 6) rfl rfl []) rfl rfl hl.1 rfl (lv_room (Nat.le_of_ble_eq_true rfl)) dL_law_582 ⟨Nat.le_of_ble_eq_true rfl, Nat.le_of_ble_eq_true rfl⟩) hS hFc (fun H1 t h1 h2 h3 => zM_LM (cI := cI) (cB := cB) (cO := cO) hP hD h1 h2 h3) (fun H locs hP hD hS => ?_)
  refine lv_icmp_eq (tgt := 696) hx hb dL_law_585 (by decide) (fun _ => ?_) (fun q => absurd rfl q)
  exact cont _ _ _ ⟨r, c, n, b, Xs, Ps, Pa, Gs, Ga, Ns, Na, Qs', Qa, Ks, Ka, Ls, La, Ts, Ta, os, Ms', Mj, Ma, by omega, hV', hP, hD, hS⟩ hl
