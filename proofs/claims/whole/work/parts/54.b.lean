/-! the law's calls, one by one -/
set_option maxHeartbeats 4000000 in
set_option maxRecDepth 100000 in
theorem lw_c6 {p : Program} {l : Launch} {e : Env} {s : State} {m : MethodId} {below : List Frame} {meth : Method} {cc : Code} {b0 L : Nat} {xs : Nat → Int32} {D : va_G} {cI cB cO : ClassId} {Xo : Nat} {Po : Nat} {Pp : Nat → Nat} {Go : Nat} {Gp : Nat → Nat} {No : Nat} {Np : Nat → Nat} {Qo : Nat} {Qp : Nat → Nat} {Ko : Nat} {Kp : Nat → Nat} {Lo : Nat} {Lp : Nat → Nat} {To : Nat} {Tp : Nat → Nat} {ra : Nat} {oo : Nat → Nat} {Mo : Nat} {Mp : Nat → Nat} {bd i : Nat} {H : Heap} {locs : List Loc} {ls : Array Slot} (hL : L ≤ 2048) (C0 : lw_At p s m meth cc b0 L xs) (hK : va_K D vwCl (zTY cI cB cO) s) (hE : zEnv (fun q : Nat => s.heap.size ≤ q) s s.heap) (hbd : bd < 1000) (hi : i + 3 < L) (St : lw_St D cI cB cO s Xo Po Pp Go Gp No Np Qo Qp Ko Kp Lo Lp To Tp ra oo Mo Mp bd H locs) (hl : lv_has ls 4 [(3, .int (nI i)), (2, .ref Mo), (1, .ref Xo), (0, .ref b0)]) (cont : ∀ (H : Heap) (locs : List Loc) (ls : Array Slot), lw_St D cI cB cO s Xo Po Pp Go Gp No Np Qo Qp Ko Kp Lo Lp To Tp ra oo Mo Mp (bd + 1) H locs → lv_has ls 4 [(3, .int (nI i)), (2, .ref Mo), (1, .ref Xo), (0, .ref b0)] → W p l e room_1 s m #[Value.ref b0] below meth cc H locs 600000 7302250 (lw_Z below #[Value.ref b0] s) (F0 m 696 ls [])) : W p l e room_1 s m #[Value.ref b0] below meth cc H locs 600000 7302250 (lw_Z below #[Value.ref b0] s) (F0 m 268 ls []) := by
  obtain ⟨hx, hb, hr, hml, hown, hts0, hX, hbl, hlocks, hgv⟩ := C0
  have hts : ∀ w ∈ wsL_law, w.before #[Value.ref b0] s = true := fun w hw => hts0 w (wsL_law_in w hw)
  have hA : ∀ q : Nat, s.heap.size ≤ q → (fun q : Nat => s.heap.size ≤ q) q := fun _ h => h
  have hbA : ¬ (fun q : Nat => s.heap.size ≤ q) b0 := Nat.not_le.mpr hbl
  obtain ⟨r, c, n, b, Xs, Ps, Pa, Gs, Ga, Ns, Na, Qs, Qa, Ks, Ka, Ls, La, Ts, Ta, os, Ms, Mj, Ma, hbb, hV, hP, hD, hS⟩ := St
  obtain ⟨v, Ma', e1, e2, fr⟩ := y_place hV.1 hV.2.1 hV.2.2.1 hV.2.2.2.1 (xs (i + 1)) (xs (i + 2))
  have hV' := yI_a hV fr
  refine lv_aload_n hx hb dL_law_268 rfl (lv_at hl 2 rfl) ?_
  refine lv_aload_n hx hb dL_law_269 rfl (lv_at hl 3 rfl) ?_
  refine lv_iload_n hx hb dL_law_270 rfl (lv_at hl 0 rfl) ?_
  refine lv_iconst (v := (1 : Int32)) hx hb dL_law_271 (by decide) ?_
  refine lv_iadd hx hb dL_law_272 ?_
  rw [show nI i + (1 : Int32) = nI (i + 1) from nI_add i 1]
  refine va_sld hx hb hX hbl hbA hS (vp_in_nI (show i + 1 < L by omega) (by omega)) dL_law_273 ?_
  rw [show (nI (i + 1)).toNatClampNeg = i + 1 from nI_clamp (by omega)]
  refine lv_aload_n hx hb dL_law_274 rfl (lv_at hl 3 rfl) ?_
  refine lv_iload_n hx hb dL_law_275 rfl (lv_at hl 0 rfl) ?_
  refine lv_iconst (v := (2 : Int32)) hx hb dL_law_276 (by decide) ?_
  refine lv_iadd hx hb dL_law_277 ?_
  rw [show nI i + (2 : Int32) = nI (i + 2) from nI_add i 2]
  refine va_sld hx hb hX hbl hbA hS (vp_in_nI (show i + 2 < L by omega) (by omega)) dL_law_278 ?_
  rw [show (nI (i + 2)).toNatClampNeg = i + 2 from nI_clamp (by omega)]
  have hFc := va_free (wc := (zfXW cI cO Xo Po Pp Go Gp No Np Qo Qp Ko Kp Lo Lp To Tp ra oo Xs Ps Pa Gs Ga Ns Na Qs Qa Ks Ka Ls La Ts Ta os)) hD hS hA [0, 1, 2, 3, 4, 5, 6, 7, 8, 9, 10, 11, 12, 13, 14, 15, 16, 17, 18, 19, 20, 21, 22, 23, 24, 25, 26, 27, 28, 29, 30, 31, 32] (zC_LX (cI := cI) (cB := cB) (cO := cO))
  refine zcm_i (w2 := (zfLW cI cB cO Xo Po Pp Go Gp No Np Qo Qp Ko Kp Lo Lp To Tp ra oo Mo Mp Xs Ps Pa Gs Ga Ns Na Qs Qa Ks Ka Ls La Ts Ta os Ms Mj Ma)) (va_runV (As := [.int (xs (i + 1)), .int (xs (i + 2))]) (rest := []) ⟨hx, hb, hml, hown, hts⟩ (c_X5_place l D cI cB cO Xo Po Pp Go Gp No Np Qo Qp Ko Kp Lo Lp To Tp ra oo Xs Ps Pa Gs Ga Ns Na Qs Qa Ks Ka Ls La Ts Ta os (xs (i + 1)) (xs (i + 2)) _ _ e1) (cwV 2 hts gL_law_X5_place rfl rfl rfl kV_X5_place ⟨Nat.le_of_ble_eq_true rfl, Nat.le_of_ble_eq_true rfl⟩) (zpreV hK hP hD hS hE hFc [0, 1, 2, 3, 4, 5, 6, 7, 8, 9, 10, 11, 12, 13, 14, 15, 16, 17, 18, 19, 20, 21, 22, 23, 24, 25, 26, 27, 28, 29, 30, 31, 32] (zC_LX (cI := cI) (cB := cB) (cO := cO)) rfl 0 (ci := 5) rfl rfl [.int (xs (i + 1)), .int (xs (i + 2))]) rfl rfl hl.1 rfl (lv_room (Nat.le_of_ble_eq_true rfl)) dL_law_279 ⟨Nat.le_of_ble_eq_true rfl, Nat.le_of_ble_eq_true rfl⟩) hS hFc (fun H1 t h1 h2 h3 => zM_LX (cI := cI) (cB := cB) (cO := cO) hP hD h1 h2 h3) (fun H locs hP hD hS => ?_)
  refine lv_aload_n hx hb dL_law_282 rfl (lv_at hl 1 rfl) ?_
  refine lv_aload_n hx hb dL_law_283 rfl (lv_at hl 3 rfl) ?_
  refine lv_iload_n hx hb dL_law_284 rfl (lv_at hl 0 rfl) ?_
  refine lv_iconst (v := (1 : Int32)) hx hb dL_law_285 (by decide) ?_
  refine lv_iadd hx hb dL_law_286 ?_
  rw [show nI i + (1 : Int32) = nI (i + 1) from nI_add i 1]
  refine va_sld hx hb hX hbl hbA hS (vp_in_nI (show i + 1 < L by omega) (by omega)) dL_law_287 ?_
  rw [show (nI (i + 1)).toNatClampNeg = i + 1 from nI_clamp (by omega)]
  refine lv_aload_n hx hb dL_law_288 rfl (lv_at hl 3 rfl) ?_
  refine lv_iload_n hx hb dL_law_289 rfl (lv_at hl 0 rfl) ?_
  refine lv_iconst (v := (2 : Int32)) hx hb dL_law_290 (by decide) ?_
  refine lv_iadd hx hb dL_law_291 ?_
  rw [show nI i + (2 : Int32) = nI (i + 2) from nI_add i 2]
  refine va_sld hx hb hX hbl hbA hS (vp_in_nI (show i + 2 < L by omega) (by omega)) dL_law_292 ?_
  rw [show (nI (i + 2)).toNatClampNeg = i + 2 from nI_clamp (by omega)]
  have hFc := va_free (wc := (zwM cI cB Mo Mp Ms Mj Ma)) hD hS hA [33, 34, 35, 36, 37, 38, 39, 40, 41, 42, 43, 44, 45, 46, 47, 48, 49, 50, 51, 52, 53, 54, 55] (zC_LM (cI := cI) (cB := cB) (cO := cO))
  refine zcm_i (w2 := (zfLW cI cB cO Xo Po Pp Go Gp No Np Qo Qp Ko Kp Lo Lp To Tp ra oo Mo Mp Xs Ps Pa Gs Ga Ns Na Qs Qa Ks Ka Ls La Ts Ta os Ms Mj Ma')) (va_runV (As := [.int (xs (i + 1)), .int (xs (i + 2))]) (rest := [.int v]) ⟨hx, hb, hml, hown, hts⟩ (c_X6_place l D cI cB cO Mo Mp Ms Mj Ma (xs (i + 1)) (xs (i + 2)) _ _ _ e2) (cwV 2 hts gL_law_X6_place rfl rfl rfl kV_X6_place ⟨Nat.le_of_ble_eq_true rfl, Nat.le_of_ble_eq_true rfl⟩) (zpreV hK hP hD hS hE hFc [33, 34, 35, 36, 37, 38, 39, 40, 41, 42, 43, 44, 45, 46, 47, 48, 49, 50, 51, 52, 53, 54, 55] (zC_LM (cI := cI) (cB := cB) (cO := cO)) rfl 33 (ci := 6) rfl rfl [.int (xs (i + 1)), .int (xs (i + 2))]) rfl rfl hl.1 rfl (lv_room (Nat.le_of_ble_eq_true rfl)) dL_law_293 ⟨Nat.le_of_ble_eq_true rfl, Nat.le_of_ble_eq_true rfl⟩) hS hFc (fun H1 t h1 h2 h3 => zM_LM (cI := cI) (cB := cB) (cO := cO) hP hD h1 h2 h3) (fun H locs hP hD hS => ?_)
  refine lv_icmp_eq (tgt := 696) hx hb dL_law_296 (by decide) (fun _ => ?_) (fun q => absurd rfl q)
  exact cont _ _ _ ⟨r, c, n, b, Xs, Ps, Pa, Gs, Ga, Ns, Na, Qs, Qa, Ks, Ka, Ls, La, Ts, Ta, os, Ms, Mj, Ma', by omega, hV', hP, hD, hS⟩ hl
set_option maxHeartbeats 4000000 in
set_option maxRecDepth 100000 in
theorem lw_c7 {p : Program} {l : Launch} {e : Env} {s : State} {m : MethodId} {below : List Frame} {meth : Method} {cc : Code} {b0 L : Nat} {xs : Nat → Int32} {D : va_G} {cI cB cO : ClassId} {Xo : Nat} {Po : Nat} {Pp : Nat → Nat} {Go : Nat} {Gp : Nat → Nat} {No : Nat} {Np : Nat → Nat} {Qo : Nat} {Qp : Nat → Nat} {Ko : Nat} {Kp : Nat → Nat} {Lo : Nat} {Lp : Nat → Nat} {To : Nat} {Tp : Nat → Nat} {ra : Nat} {oo : Nat → Nat} {Mo : Nat} {Mp : Nat → Nat} {bd i : Nat} {H : Heap} {locs : List Loc} {ls : Array Slot} (hL : L ≤ 2048) (C0 : lw_At p s m meth cc b0 L xs) (hK : va_K D vwCl (zTY cI cB cO) s) (hE : zEnv (fun q : Nat => s.heap.size ≤ q) s s.heap) (hbd : bd < 1000) (hi : i + 3 < L) (St : lw_St D cI cB cO s Xo Po Pp Go Gp No Np Qo Qp Ko Kp Lo Lp To Tp ra oo Mo Mp bd H locs) (hl : lv_has ls 4 [(3, .int (nI i)), (2, .ref Mo), (1, .ref Xo), (0, .ref b0)]) (cont : ∀ (H : Heap) (locs : List Loc) (ls : Array Slot), lw_St D cI cB cO s Xo Po Pp Go Gp No Np Qo Qp Ko Kp Lo Lp To Tp ra oo Mo Mp (bd + 1) H locs → lv_has ls 4 [(3, .int (nI i)), (2, .ref Mo), (1, .ref Xo), (0, .ref b0)] → W p l e room_1 s m #[Value.ref b0] below meth cc H locs 600000 7302250 (lw_Z below #[Value.ref b0] s) (F0 m 696 ls [])) : W p l e room_1 s m #[Value.ref b0] below meth cc H locs 600000 7302250 (lw_Z below #[Value.ref b0] s) (F0 m 301 ls []) := by
  obtain ⟨hx, hb, hr, hml, hown, hts0, hX, hbl, hlocks, hgv⟩ := C0
  have hts : ∀ w ∈ wsL_law, w.before #[Value.ref b0] s = true := fun w hw => hts0 w (wsL_law_in w hw)
  have hA : ∀ q : Nat, s.heap.size ≤ q → (fun q : Nat => s.heap.size ≤ q) q := fun _ h => h
  have hbA : ¬ (fun q : Nat => s.heap.size ≤ q) b0 := Nat.not_le.mpr hbl
  obtain ⟨r, c, n, b, Xs, Ps, Pa, Gs, Ga, Ns, Na, Qs, Qa, Ks, Ka, Ls, La, Ts, Ta, os, Ms, Mj, Ma, hbb, hV, hP, hD, hS⟩ := St
  obtain ⟨v, Xs', Ns', Na', Ms', Ma', e1, e2, hV'⟩ := y_jump hV (xs (i + 1)) (xs (i + 2))
  refine lv_aload_n hx hb dL_law_301 rfl (lv_at hl 2 rfl) ?_
  refine lv_aload_n hx hb dL_law_302 rfl (lv_at hl 3 rfl) ?_
  refine lv_iload_n hx hb dL_law_303 rfl (lv_at hl 0 rfl) ?_
  refine lv_iconst (v := (1 : Int32)) hx hb dL_law_304 (by decide) ?_
  refine lv_iadd hx hb dL_law_305 ?_
  rw [show nI i + (1 : Int32) = nI (i + 1) from nI_add i 1]
  refine va_sld hx hb hX hbl hbA hS (vp_in_nI (show i + 1 < L by omega) (by omega)) dL_law_306 ?_
  rw [show (nI (i + 1)).toNatClampNeg = i + 1 from nI_clamp (by omega)]
  refine lv_aload_n hx hb dL_law_307 rfl (lv_at hl 3 rfl) ?_
  refine lv_iload_n hx hb dL_law_308 rfl (lv_at hl 0 rfl) ?_
  refine lv_iconst (v := (2 : Int32)) hx hb dL_law_309 (by decide) ?_
  refine lv_iadd hx hb dL_law_310 ?_
  rw [show nI i + (2 : Int32) = nI (i + 2) from nI_add i 2]
  refine va_sld hx hb hX hbl hbA hS (vp_in_nI (show i + 2 < L by omega) (by omega)) dL_law_311 ?_
  rw [show (nI (i + 2)).toNatClampNeg = i + 2 from nI_clamp (by omega)]
  have hFc := va_free (wc := (zfXW cI cO Xo Po Pp Go Gp No Np Qo Qp Ko Kp Lo Lp To Tp ra oo Xs Ps Pa Gs Ga Ns Na Qs Qa Ks Ka Ls La Ts Ta os)) hD hS hA [0, 1, 2, 3, 4, 5, 6, 7, 8, 9, 10, 11, 12, 13, 14, 15, 16, 17, 18, 19, 20, 21, 22, 23, 24, 25, 26, 27, 28, 29, 30, 31, 32] (zC_LX (cI := cI) (cB := cB) (cO := cO))
  refine zcm_i (w2 := (zfLW cI cB cO Xo Po Pp Go Gp No Np Qo Qp Ko Kp Lo Lp To Tp ra oo Mo Mp Xs' Ps Pa Gs Ga Ns' Na' Qs Qa Ks Ka Ls La Ts Ta os Ms Mj Ma)) (va_runV (As := [.int (xs (i + 1)), .int (xs (i + 2))]) (rest := []) ⟨hx, hb, hml, hown, hts⟩ (c_X5_jump l D cI cB cO Xo Po Pp Go Gp No Np Qo Qp Ko Kp Lo Lp To Tp ra oo Xs Ps Pa Gs Ga Ns Na Qs Qa Ks Ka Ls La Ts Ta os (xs (i + 1)) (xs (i + 2)) _ _ _ _ _ e1) (cwV 2 hts gL_law_X5_jump rfl rfl rfl kV_X5_jump ⟨Nat.le_of_ble_eq_true rfl, Nat.le_of_ble_eq_true rfl⟩) (zpreV hK hP hD hS hE hFc [0, 1, 2, 3, 4, 5, 6, 7, 8, 9, 10, 11, 12, 13, 14, 15, 16, 17, 18, 19, 20, 21, 22, 23, 24, 25, 26, 27, 28, 29, 30, 31, 32] (zC_LX (cI := cI) (cB := cB) (cO := cO)) rfl 0 (ci := 5) rfl rfl [.int (xs (i + 1)), .int (xs (i + 2))]) rfl rfl hl.1 rfl (lv_room (Nat.le_of_ble_eq_true rfl)) dL_law_312 ⟨Nat.le_of_ble_eq_true rfl, Nat.le_of_ble_eq_true rfl⟩) hS hFc (fun H1 t h1 h2 h3 => zM_LX (cI := cI) (cB := cB) (cO := cO) hP hD h1 h2 h3) (fun H locs hP hD hS => ?_)
  refine lv_aload_n hx hb dL_law_315 rfl (lv_at hl 1 rfl) ?_
  refine lv_aload_n hx hb dL_law_316 rfl (lv_at hl 3 rfl) ?_
  refine lv_iload_n hx hb dL_law_317 rfl (lv_at hl 0 rfl) ?_
  refine lv_iconst (v := (1 : Int32)) hx hb dL_law_318 (by decide) ?_
  refine lv_iadd hx hb dL_law_319 ?_
  rw [show nI i + (1 : Int32) = nI (i + 1) from nI_add i 1]
  refine va_sld hx hb hX hbl hbA hS (vp_in_nI (show i + 1 < L by omega) (by omega)) dL_law_320 ?_
  rw [show (nI (i + 1)).toNatClampNeg = i + 1 from nI_clamp (by omega)]
  refine lv_aload_n hx hb dL_law_321 rfl (lv_at hl 3 rfl) ?_
  refine lv_iload_n hx hb dL_law_322 rfl (lv_at hl 0 rfl) ?_
  refine lv_iconst (v := (2 : Int32)) hx hb dL_law_323 (by decide) ?_
  refine lv_iadd hx hb dL_law_324 ?_
  rw [show nI i + (2 : Int32) = nI (i + 2) from nI_add i 2]
  refine va_sld hx hb hX hbl hbA hS (vp_in_nI (show i + 2 < L by omega) (by omega)) dL_law_325 ?_
  rw [show (nI (i + 2)).toNatClampNeg = i + 2 from nI_clamp (by omega)]
  have hFc := va_free (wc := (zwM cI cB Mo Mp Ms Mj Ma)) hD hS hA [33, 34, 35, 36, 37, 38, 39, 40, 41, 42, 43, 44, 45, 46, 47, 48, 49, 50, 51, 52, 53, 54, 55] (zC_LM (cI := cI) (cB := cB) (cO := cO))
  refine zcm_i (w2 := (zfLW cI cB cO Xo Po Pp Go Gp No Np Qo Qp Ko Kp Lo Lp To Tp ra oo Mo Mp Xs' Ps Pa Gs Ga Ns' Na' Qs Qa Ks Ka Ls La Ts Ta os Ms' Mj Ma')) (va_runV (As := [.int (xs (i + 1)), .int (xs (i + 2))]) (rest := [.int v]) ⟨hx, hb, hml, hown, hts⟩ (c_X6_jump l D cI cB cO Mo Mp Ms Mj Ma (xs (i + 1)) (xs (i + 2)) _ _ _ _ e2) (cwV 2 hts gL_law_X6_jump rfl rfl rfl kV_X6_jump ⟨Nat.le_of_ble_eq_true rfl, Nat.le_of_ble_eq_true rfl⟩) (zpreV hK hP hD hS hE hFc [33, 34, 35, 36, 37, 38, 39, 40, 41, 42, 43, 44, 45, 46, 47, 48, 49, 50, 51, 52, 53, 54, 55] (zC_LM (cI := cI) (cB := cB) (cO := cO)) rfl 33 (ci := 6) rfl rfl [.int (xs (i + 1)), .int (xs (i + 2))]) rfl rfl hl.1 rfl (lv_room (Nat.le_of_ble_eq_true rfl)) dL_law_326 ⟨Nat.le_of_ble_eq_true rfl, Nat.le_of_ble_eq_true rfl⟩) hS hFc (fun H1 t h1 h2 h3 => zM_LM (cI := cI) (cB := cB) (cO := cO) hP hD h1 h2 h3) (fun H locs hP hD hS => ?_)
  refine lv_icmp_eq (tgt := 696) hx hb dL_law_329 (by decide) (fun _ => ?_) (fun q => absurd rfl q)
  exact cont _ _ _ ⟨r, c, n, b, Xs', Ps, Pa, Gs, Ga, Ns', Na', Qs, Qa, Ks, Ka, Ls, La, Ts, Ta, os, Ms', Mj, Ma', by omega, hV', hP, hD, hS⟩ hl
set_option maxHeartbeats 4000000 in
set_option maxRecDepth 100000 in
theorem lw_c8 {p : Program} {l : Launch} {e : Env} {s : State} {m : MethodId} {below : List Frame} {meth : Method} {cc : Code} {b0 L : Nat} {xs : Nat → Int32} {D : va_G} {cI cB cO : ClassId} {Xo : Nat} {Po : Nat} {Pp : Nat → Nat} {Go : Nat} {Gp : Nat → Nat} {No : Nat} {Np : Nat → Nat} {Qo : Nat} {Qp : Nat → Nat} {Ko : Nat} {Kp : Nat → Nat} {Lo : Nat} {Lp : Nat → Nat} {To : Nat} {Tp : Nat → Nat} {ra : Nat} {oo : Nat → Nat} {Mo : Nat} {Mp : Nat → Nat} {bd i : Nat} {H : Heap} {locs : List Loc} {ls : Array Slot} (hL : L ≤ 2048) (C0 : lw_At p s m meth cc b0 L xs) (hK : va_K D vwCl (zTY cI cB cO) s) (hE : zEnv (fun q : Nat => s.heap.size ≤ q) s s.heap) (hbd : bd < 1000) (hi : i + 3 < L) (St : lw_St D cI cB cO s Xo Po Pp Go Gp No Np Qo Qp Ko Kp Lo Lp To Tp ra oo Mo Mp bd H locs) (hl : lv_has ls 4 [(3, .int (nI i)), (2, .ref Mo), (1, .ref Xo), (0, .ref b0)]) (cont : ∀ (H : Heap) (locs : List Loc) (ls : Array Slot), lw_St D cI cB cO s Xo Po Pp Go Gp No Np Qo Qp Ko Kp Lo Lp To Tp ra oo Mo Mp (bd + 1) H locs → lv_has ls 4 [(3, .int (nI i)), (2, .ref Mo), (1, .ref Xo), (0, .ref b0)] → W p l e room_1 s m #[Value.ref b0] below meth cc H locs 600000 7302250 (lw_Z below #[Value.ref b0] s) (F0 m 696 ls [])) : W p l e room_1 s m #[Value.ref b0] below meth cc H locs 600000 7302250 (lw_Z below #[Value.ref b0] s) (F0 m 334 ls []) := by
  obtain ⟨hx, hb, hr, hml, hown, hts0, hX, hbl, hlocks, hgv⟩ := C0
  have hts : ∀ w ∈ wsL_law, w.before #[Value.ref b0] s = true := fun w hw => hts0 w (wsL_law_in w hw)
  have hA : ∀ q : Nat, s.heap.size ≤ q → (fun q : Nat => s.heap.size ≤ q) q := fun _ h => h
  have hbA : ¬ (fun q : Nat => s.heap.size ≤ q) b0 := Nat.not_le.mpr hbl
  obtain ⟨r, c, n, b, Xs, Ps, Pa, Gs, Ga, Ns, Na, Qs, Qa, Ks, Ka, Ls, La, Ts, Ta, os, Ms, Mj, Ma, hbb, hV, hP, hD, hS⟩ := St
  obtain ⟨v, Xs', Ns', Na', Ma', e1, e2, hV'⟩ := y_put hV (xs (i + 1)) (xs (i + 2))
  refine lv_aload_n hx hb dL_law_334 rfl (lv_at hl 2 rfl) ?_
  refine lv_aload_n hx hb dL_law_335 rfl (lv_at hl 3 rfl) ?_
  refine lv_iload_n hx hb dL_law_336 rfl (lv_at hl 0 rfl) ?_
  refine lv_iconst (v := (1 : Int32)) hx hb dL_law_337 (by decide) ?_
  refine lv_iadd hx hb dL_law_338 ?_
  rw [show nI i + (1 : Int32) = nI (i + 1) from nI_add i 1]
  refine va_sld hx hb hX hbl hbA hS (vp_in_nI (show i + 1 < L by omega) (by omega)) dL_law_339 ?_
  rw [show (nI (i + 1)).toNatClampNeg = i + 1 from nI_clamp (by omega)]
  refine lv_aload_n hx hb dL_law_340 rfl (lv_at hl 3 rfl) ?_
  refine lv_iload_n hx hb dL_law_341 rfl (lv_at hl 0 rfl) ?_
  refine lv_iconst (v := (2 : Int32)) hx hb dL_law_342 (by decide) ?_
  refine lv_iadd hx hb dL_law_343 ?_
  rw [show nI i + (2 : Int32) = nI (i + 2) from nI_add i 2]
  refine va_sld hx hb hX hbl hbA hS (vp_in_nI (show i + 2 < L by omega) (by omega)) dL_law_344 ?_
  rw [show (nI (i + 2)).toNatClampNeg = i + 2 from nI_clamp (by omega)]
  have hFc := va_free (wc := (zfXW cI cO Xo Po Pp Go Gp No Np Qo Qp Ko Kp Lo Lp To Tp ra oo Xs Ps Pa Gs Ga Ns Na Qs Qa Ks Ka Ls La Ts Ta os)) hD hS hA [0, 1, 2, 3, 4, 5, 6, 7, 8, 9, 10, 11, 12, 13, 14, 15, 16, 17, 18, 19, 20, 21, 22, 23, 24, 25, 26, 27, 28, 29, 30, 31, 32] (zC_LX (cI := cI) (cB := cB) (cO := cO))
  refine zcm_i (w2 := (zfLW cI cB cO Xo Po Pp Go Gp No Np Qo Qp Ko Kp Lo Lp To Tp ra oo Mo Mp Xs' Ps Pa Gs Ga Ns' Na' Qs Qa Ks Ka Ls La Ts Ta os Ms Mj Ma)) (va_runV (As := [.int (xs (i + 1)), .int (xs (i + 2))]) (rest := []) ⟨hx, hb, hml, hown, hts⟩ (c_X5_put l D cI cB cO Xo Po Pp Go Gp No Np Qo Qp Ko Kp Lo Lp To Tp ra oo Xs Ps Pa Gs Ga Ns Na Qs Qa Ks Ka Ls La Ts Ta os (xs (i + 1)) (xs (i + 2)) _ _ _ _ _ e1) (cwV 2 hts gL_law_X5_put rfl rfl rfl kV_X5_put ⟨Nat.le_of_ble_eq_true rfl, Nat.le_of_ble_eq_true rfl⟩) (zpreV hK hP hD hS hE hFc [0, 1, 2, 3, 4, 5, 6, 7, 8, 9, 10, 11, 12, 13, 14, 15, 16, 17, 18, 19, 20, 21, 22, 23, 24, 25, 26, 27, 28, 29, 30, 31, 32] (zC_LX (cI := cI) (cB := cB) (cO := cO)) rfl 0 (ci := 5) rfl rfl [.int (xs (i + 1)), .int (xs (i + 2))]) rfl rfl hl.1 rfl (lv_room (Nat.le_of_ble_eq_true rfl)) dL_law_345 ⟨Nat.le_of_ble_eq_true rfl, Nat.le_of_ble_eq_true rfl⟩) hS hFc (fun H1 t h1 h2 h3 => zM_LX (cI := cI) (cB := cB) (cO := cO) hP hD h1 h2 h3) (fun H locs hP hD hS => ?_)
  refine lv_aload_n hx hb dL_law_348 rfl (lv_at hl 1 rfl) ?_
  refine lv_aload_n hx hb dL_law_349 rfl (lv_at hl 3 rfl) ?_
  refine lv_iload_n hx hb dL_law_350 rfl (lv_at hl 0 rfl) ?_
  refine lv_iconst (v := (1 : Int32)) hx hb dL_law_351 (by decide) ?_
  refine lv_iadd hx hb dL_law_352 ?_
  rw [show nI i + (1 : Int32) = nI (i + 1) from nI_add i 1]
  refine va_sld hx hb hX hbl hbA hS (vp_in_nI (show i + 1 < L by omega) (by omega)) dL_law_353 ?_
  rw [show (nI (i + 1)).toNatClampNeg = i + 1 from nI_clamp (by omega)]
  refine lv_aload_n hx hb dL_law_354 rfl (lv_at hl 3 rfl) ?_
  refine lv_iload_n hx hb dL_law_355 rfl (lv_at hl 0 rfl) ?_
  refine lv_iconst (v := (2 : Int32)) hx hb dL_law_356 (by decide) ?_
  refine lv_iadd hx hb dL_law_357 ?_
  rw [show nI i + (2 : Int32) = nI (i + 2) from nI_add i 2]
  refine va_sld hx hb hX hbl hbA hS (vp_in_nI (show i + 2 < L by omega) (by omega)) dL_law_358 ?_
  rw [show (nI (i + 2)).toNatClampNeg = i + 2 from nI_clamp (by omega)]
  have hFc := va_free (wc := (zwM cI cB Mo Mp Ms Mj Ma)) hD hS hA [33, 34, 35, 36, 37, 38, 39, 40, 41, 42, 43, 44, 45, 46, 47, 48, 49, 50, 51, 52, 53, 54, 55] (zC_LM (cI := cI) (cB := cB) (cO := cO))
  refine zcm_i (w2 := (zfLW cI cB cO Xo Po Pp Go Gp No Np Qo Qp Ko Kp Lo Lp To Tp ra oo Mo Mp Xs' Ps Pa Gs Ga Ns' Na' Qs Qa Ks Ka Ls La Ts Ta os Ms Mj Ma')) (va_runV (As := [.int (xs (i + 1)), .int (xs (i + 2))]) (rest := [.int v]) ⟨hx, hb, hml, hown, hts⟩ (c_X6_put l D cI cB cO Mo Mp Ms Mj Ma (xs (i + 1)) (xs (i + 2)) _ _ _ e2) (cwV 2 hts gL_law_X6_put rfl rfl rfl kV_X6_put ⟨Nat.le_of_ble_eq_true rfl, Nat.le_of_ble_eq_true rfl⟩) (zpreV hK hP hD hS hE hFc [33, 34, 35, 36, 37, 38, 39, 40, 41, 42, 43, 44, 45, 46, 47, 48, 49, 50, 51, 52, 53, 54, 55] (zC_LM (cI := cI) (cB := cB) (cO := cO)) rfl 33 (ci := 6) rfl rfl [.int (xs (i + 1)), .int (xs (i + 2))]) rfl rfl hl.1 rfl (lv_room (Nat.le_of_ble_eq_true rfl)) dL_law_359 ⟨Nat.le_of_ble_eq_true rfl, Nat.le_of_ble_eq_true rfl⟩) hS hFc (fun H1 t h1 h2 h3 => zM_LM (cI := cI) (cB := cB) (cO := cO) hP hD h1 h2 h3) (fun H locs hP hD hS => ?_)
  refine lv_icmp_eq (tgt := 696) hx hb dL_law_362 (by decide) (fun _ => ?_) (fun q => absurd rfl q)
  exact cont _ _ _ ⟨r, c, n, b, Xs', Ps, Pa, Gs, Ga, Ns', Na', Qs, Qa, Ks, Ka, Ls, La, Ts, Ta, os, Ms, Mj, Ma', by omega, hV', hP, hD, hS⟩ hl
set_option maxHeartbeats 4000000 in
set_option maxRecDepth 100000 in
theorem lw_c9 {p : Program} {l : Launch} {e : Env} {s : State} {m : MethodId} {below : List Frame} {meth : Method} {cc : Code} {b0 L : Nat} {xs : Nat → Int32} {D : va_G} {cI cB cO : ClassId} {Xo : Nat} {Po : Nat} {Pp : Nat → Nat} {Go : Nat} {Gp : Nat → Nat} {No : Nat} {Np : Nat → Nat} {Qo : Nat} {Qp : Nat → Nat} {Ko : Nat} {Kp : Nat → Nat} {Lo : Nat} {Lp : Nat → Nat} {To : Nat} {Tp : Nat → Nat} {ra : Nat} {oo : Nat → Nat} {Mo : Nat} {Mp : Nat → Nat} {bd i : Nat} {H : Heap} {locs : List Loc} {ls : Array Slot} (hL : L ≤ 2048) (C0 : lw_At p s m meth cc b0 L xs) (hK : va_K D vwCl (zTY cI cB cO) s) (hE : zEnv (fun q : Nat => s.heap.size ≤ q) s s.heap) (hbd : bd < 1000) (hi : i + 3 < L) (St : lw_St D cI cB cO s Xo Po Pp Go Gp No Np Qo Qp Ko Kp Lo Lp To Tp ra oo Mo Mp bd H locs) (hl : lv_has ls 4 [(3, .int (nI i)), (2, .ref Mo), (1, .ref Xo), (0, .ref b0)]) (cont : ∀ (H : Heap) (locs : List Loc) (ls : Array Slot), lw_St D cI cB cO s Xo Po Pp Go Gp No Np Qo Qp Ko Kp Lo Lp To Tp ra oo Mo Mp (bd + 1) H locs → lv_has ls 4 [(3, .int (nI i)), (2, .ref Mo), (1, .ref Xo), (0, .ref b0)] → W p l e room_1 s m #[Value.ref b0] below meth cc H locs 600000 7302250 (lw_Z below #[Value.ref b0] s) (F0 m 696 ls [])) : W p l e room_1 s m #[Value.ref b0] below meth cc H locs 600000 7302250 (lw_Z below #[Value.ref b0] s) (F0 m 367 ls []) := by
  obtain ⟨hx, hb, hr, hml, hown, hts0, hX, hbl, hlocks, hgv⟩ := C0
  have hts : ∀ w ∈ wsL_law, w.before #[Value.ref b0] s = true := fun w hw => hts0 w (wsL_law_in w hw)
  have hA : ∀ q : Nat, s.heap.size ≤ q → (fun q : Nat => s.heap.size ≤ q) q := fun _ h => h
  have hbA : ¬ (fun q : Nat => s.heap.size ≤ q) b0 := Nat.not_le.mpr hbl
  obtain ⟨r, c, n, b, Xs, Ps, Pa, Gs, Ga, Ns, Na, Qs, Qa, Ks, Ka, Ls, La, Ts, Ta, os, Ms, Mj, Ma, hbb, hV, hP, hD, hS⟩ := St
  obtain ⟨v, Xs', Ns', Ms', Ma', e1, e2, hV'⟩ := y_plug hV (xs (i + 1))
  refine lv_aload_n hx hb dL_law_367 rfl (lv_at hl 2 rfl) ?_
  refine lv_aload_n hx hb dL_law_368 rfl (lv_at hl 3 rfl) ?_
  refine lv_iload_n hx hb dL_law_369 rfl (lv_at hl 0 rfl) ?_
  refine lv_iconst (v := (1 : Int32)) hx hb dL_law_370 (by decide) ?_
  refine lv_iadd hx hb dL_law_371 ?_
  rw [show nI i + (1 : Int32) = nI (i + 1) from nI_add i 1]
  refine va_sld hx hb hX hbl hbA hS (vp_in_nI (show i + 1 < L by omega) (by omega)) dL_law_372 ?_
  rw [show (nI (i + 1)).toNatClampNeg = i + 1 from nI_clamp (by omega)]
  have hFc := va_free (wc := (zfXW cI cO Xo Po Pp Go Gp No Np Qo Qp Ko Kp Lo Lp To Tp ra oo Xs Ps Pa Gs Ga Ns Na Qs Qa Ks Ka Ls La Ts Ta os)) hD hS hA [0, 1, 2, 3, 4, 5, 6, 7, 8, 9, 10, 11, 12, 13, 14, 15, 16, 17, 18, 19, 20, 21, 22, 23, 24, 25, 26, 27, 28, 29, 30, 31, 32] (zC_LX (cI := cI) (cB := cB) (cO := cO))
  refine zcm_i (w2 := (zfLW cI cB cO Xo Po Pp Go Gp No Np Qo Qp Ko Kp Lo Lp To Tp ra oo Mo Mp Xs' Ps Pa Gs Ga Ns' Na Qs Qa Ks Ka Ls La Ts Ta os Ms Mj Ma)) (va_runV (As := [.int (xs (i + 1))]) (rest := []) ⟨hx, hb, hml, hown, hts⟩ (c_X5_plug l D cI cB cO Xo Po Pp Go Gp No Np Qo Qp Ko Kp Lo Lp To Tp ra oo Xs Ps Pa Gs Ga Ns Na Qs Qa Ks Ka Ls La Ts Ta os (xs (i + 1)) _ _ _ _ e1) (cwV 1 hts gL_law_X5_plug rfl rfl rfl kV_X5_plug ⟨Nat.le_of_ble_eq_true rfl, Nat.le_of_ble_eq_true rfl⟩) (zpreV hK hP hD hS hE hFc [0, 1, 2, 3, 4, 5, 6, 7, 8, 9, 10, 11, 12, 13, 14, 15, 16, 17, 18, 19, 20, 21, 22, 23, 24, 25, 26, 27, 28, 29, 30, 31, 32] (zC_LX (cI := cI) (cB := cB) (cO := cO)) rfl 0 (ci := 5) rfl rfl [.int (xs (i + 1))]) rfl rfl hl.1 rfl (lv_room (Nat.le_of_ble_eq_true rfl)) dL_law_373 ⟨Nat.le_of_ble_eq_true rfl, Nat.le_of_ble_eq_true rfl⟩) hS hFc (fun H1 t h1 h2 h3 => zM_LX (cI := cI) (cB := cB) (cO := cO) hP hD h1 h2 h3) (fun H locs hP hD hS => ?_)
  refine lv_aload_n hx hb dL_law_376 rfl (lv_at hl 1 rfl) ?_
  refine lv_aload_n hx hb dL_law_377 rfl (lv_at hl 3 rfl) ?_
  refine lv_iload_n hx hb dL_law_378 rfl (lv_at hl 0 rfl) ?_
  refine lv_iconst (v := (1 : Int32)) hx hb dL_law_379 (by decide) ?_
  refine lv_iadd hx hb dL_law_380 ?_
  rw [show nI i + (1 : Int32) = nI (i + 1) from nI_add i 1]
  refine va_sld hx hb hX hbl hbA hS (vp_in_nI (show i + 1 < L by omega) (by omega)) dL_law_381 ?_
  rw [show (nI (i + 1)).toNatClampNeg = i + 1 from nI_clamp (by omega)]
  have hFc := va_free (wc := (zwM cI cB Mo Mp Ms Mj Ma)) hD hS hA [33, 34, 35, 36, 37, 38, 39, 40, 41, 42, 43, 44, 45, 46, 47, 48, 49, 50, 51, 52, 53, 54, 55] (zC_LM (cI := cI) (cB := cB) (cO := cO))
  refine zcm_i (w2 := (zfLW cI cB cO Xo Po Pp Go Gp No Np Qo Qp Ko Kp Lo Lp To Tp ra oo Mo Mp Xs' Ps Pa Gs Ga Ns' Na Qs Qa Ks Ka Ls La Ts Ta os Ms' Mj Ma')) (va_runV (As := [.int (xs (i + 1))]) (rest := [.int v]) ⟨hx, hb, hml, hown, hts⟩ (c_X6_plug l D cI cB cO Mo Mp Ms Mj Ma (xs (i + 1)) _ _ _ _ e2) (cwV 1 hts gL_law_X6_plug rfl rfl rfl kV_X6_plug ⟨Nat.le_of_ble_eq_true rfl, Nat.le_of_ble_eq_true rfl⟩) (zpreV hK hP hD hS hE hFc [33, 34, 35, 36, 37, 38, 39, 40, 41, 42, 43, 44, 45, 46, 47, 48, 49, 50, 51, 52, 53, 54, 55] (zC_LM (cI := cI) (cB := cB) (cO := cO)) rfl 33 (ci := 6) rfl rfl [.int (xs (i + 1))]) rfl rfl hl.1 rfl (lv_room (Nat.le_of_ble_eq_true rfl)) dL_law_382 ⟨Nat.le_of_ble_eq_true rfl, Nat.le_of_ble_eq_true rfl⟩) hS hFc (fun H1 t h1 h2 h3 => zM_LM (cI := cI) (cB := cB) (cO := cO) hP hD h1 h2 h3) (fun H locs hP hD hS => ?_)
  refine lv_icmp_eq (tgt := 696) hx hb dL_law_385 (by decide) (fun _ => ?_) (fun q => absurd rfl q)
  exact cont _ _ _ ⟨r, c, n, b, Xs', Ps, Pa, Gs, Ga, Ns', Na, Qs, Qa, Ks, Ka, Ls, La, Ts, Ta, os, Ms', Mj, Ma', by omega, hV', hP, hD, hS⟩ hl
set_option maxHeartbeats 4000000 in
set_option maxRecDepth 100000 in
theorem lw_c10 {p : Program} {l : Launch} {e : Env} {s : State} {m : MethodId} {below : List Frame} {meth : Method} {cc : Code} {b0 L : Nat} {xs : Nat → Int32} {D : va_G} {cI cB cO : ClassId} {Xo : Nat} {Po : Nat} {Pp : Nat → Nat} {Go : Nat} {Gp : Nat → Nat} {No : Nat} {Np : Nat → Nat} {Qo : Nat} {Qp : Nat → Nat} {Ko : Nat} {Kp : Nat → Nat} {Lo : Nat} {Lp : Nat → Nat} {To : Nat} {Tp : Nat → Nat} {ra : Nat} {oo : Nat → Nat} {Mo : Nat} {Mp : Nat → Nat} {bd i : Nat} {H : Heap} {locs : List Loc} {ls : Array Slot} (hL : L ≤ 2048) (C0 : lw_At p s m meth cc b0 L xs) (hK : va_K D vwCl (zTY cI cB cO) s) (hE : zEnv (fun q : Nat => s.heap.size ≤ q) s s.heap) (hbd : bd < 1000) (hi : i + 3 < L) (St : lw_St D cI cB cO s Xo Po Pp Go Gp No Np Qo Qp Ko Kp Lo Lp To Tp ra oo Mo Mp bd H locs) (hl : lv_has ls 4 [(3, .int (nI i)), (2, .ref Mo), (1, .ref Xo), (0, .ref b0)]) (cont : ∀ (H : Heap) (locs : List Loc) (ls : Array Slot), lw_St D cI cB cO s Xo Po Pp Go Gp No Np Qo Qp Ko Kp Lo Lp To Tp ra oo Mo Mp (bd + 1) H locs → lv_has ls 4 [(3, .int (nI i)), (2, .ref Mo), (1, .ref Xo), (0, .ref b0)] → W p l e room_1 s m #[Value.ref b0] below meth cc H locs 600000 7302250 (lw_Z below #[Value.ref b0] s) (F0 m 696 ls [])) : W p l e room_1 s m #[Value.ref b0] below meth cc H locs 600000 7302250 (lw_Z below #[Value.ref b0] s) (F0 m 390 ls []) := by
  obtain ⟨hx, hb, hr, hml, hown, hts0, hX, hbl, hlocks, hgv⟩ := C0
  have hts : ∀ w ∈ wsL_law, w.before #[Value.ref b0] s = true := fun w hw => hts0 w (wsL_law_in w hw)
  have hA : ∀ q : Nat, s.heap.size ≤ q → (fun q : Nat => s.heap.size ≤ q) q := fun _ h => h
  have hbA : ¬ (fun q : Nat => s.heap.size ≤ q) b0 := Nat.not_le.mpr hbl
  obtain ⟨r, c, n, b, Xs, Ps, Pa, Gs, Ga, Ns, Na, Qs, Qa, Ks, Ka, Ls, La, Ts, Ta, os, Ms, Mj, Ma, hbb, hV, hP, hD, hS⟩ := St
  obtain ⟨v, Xs', Ns', Ms', e1, e2, hV'⟩ := y_bore hV (xs (i + 1))
  refine lv_aload_n hx hb dL_law_390 rfl (lv_at hl 2 rfl) ?_
  refine lv_aload_n hx hb dL_law_391 rfl (lv_at hl 3 rfl) ?_
  refine lv_iload_n hx hb dL_law_392 rfl (lv_at hl 0 rfl) ?_
  refine lv_iconst (v := (1 : Int32)) hx hb dL_law_393 (by decide) ?_
  refine lv_iadd hx hb dL_law_394 ?_
  rw [show nI i + (1 : Int32) = nI (i + 1) from nI_add i 1]
  refine va_sld hx hb hX hbl hbA hS (vp_in_nI (show i + 1 < L by omega) (by omega)) dL_law_395 ?_
  rw [show (nI (i + 1)).toNatClampNeg = i + 1 from nI_clamp (by omega)]
  have hFc := va_free (wc := (zfXW cI cO Xo Po Pp Go Gp No Np Qo Qp Ko Kp Lo Lp To Tp ra oo Xs Ps Pa Gs Ga Ns Na Qs Qa Ks Ka Ls La Ts Ta os)) hD hS hA [0, 1, 2, 3, 4, 5, 6, 7, 8, 9, 10, 11, 12, 13, 14, 15, 16, 17, 18, 19, 20, 21, 22, 23, 24, 25, 26, 27, 28, 29, 30, 31, 32] (zC_LX (cI := cI) (cB := cB) (cO := cO))
  refine zcm_i (w2 := (zfLW cI cB cO Xo Po Pp Go Gp No Np Qo Qp Ko Kp Lo Lp To Tp ra oo Mo Mp Xs' Ps Pa Gs Ga Ns' Na Qs Qa Ks Ka Ls La Ts Ta os Ms Mj Ma)) (va_runV (As := [.int (xs (i + 1))]) (rest := []) ⟨hx, hb, hml, hown, hts⟩ (c_X5_bore l D cI cB cO Xo Po Pp Go Gp No Np Qo Qp Ko Kp Lo Lp To Tp ra oo Xs Ps Pa Gs Ga Ns Na Qs Qa Ks Ka Ls La Ts Ta os (xs (i + 1)) _ _ _ _ e1) (cwV 1 hts gL_law_X5_bore rfl rfl rfl kV_X5_bore ⟨Nat.le_of_ble_eq_true rfl, Nat.le_of_ble_eq_true rfl⟩) (zpreV hK hP hD hS hE hFc [0, 1, 2, 3, 4, 5, 6, 7, 8, 9, 10, 11, 12, 13, 14, 15, 16, 17, 18, 19, 20, 21, 22, 23, 24, 25, 26, 27, 28, 29, 30, 31, 32] (zC_LX (cI := cI) (cB := cB) (cO := cO)) rfl 0 (ci := 5) rfl rfl [.int (xs (i + 1))]) rfl rfl hl.1 rfl (lv_room (Nat.le_of_ble_eq_true rfl)) dL_law_396 ⟨Nat.le_of_ble_eq_true rfl, Nat.le_of_ble_eq_true rfl⟩) hS hFc (fun H1 t h1 h2 h3 => zM_LX (cI := cI) (cB := cB) (cO := cO) hP hD h1 h2 h3) (fun H locs hP hD hS => ?_)
  refine lv_aload_n hx hb dL_law_399 rfl (lv_at hl 1 rfl) ?_
  refine lv_aload_n hx hb dL_law_400 rfl (lv_at hl 3 rfl) ?_
  refine lv_iload_n hx hb dL_law_401 rfl (lv_at hl 0 rfl) ?_
  refine lv_iconst (v := (1 : Int32)) hx hb dL_law_402 (by decide) ?_
  refine lv_iadd hx hb dL_law_403 ?_
  rw [show nI i + (1 : Int32) = nI (i + 1) from nI_add i 1]
  refine va_sld hx hb hX hbl hbA hS (vp_in_nI (show i + 1 < L by omega) (by omega)) dL_law_404 ?_
  rw [show (nI (i + 1)).toNatClampNeg = i + 1 from nI_clamp (by omega)]
  have hFc := va_free (wc := (zwM cI cB Mo Mp Ms Mj Ma)) hD hS hA [33, 34, 35, 36, 37, 38, 39, 40, 41, 42, 43, 44, 45, 46, 47, 48, 49, 50, 51, 52, 53, 54, 55] (zC_LM (cI := cI) (cB := cB) (cO := cO))
  refine zcm_i (w2 := (zfLW cI cB cO Xo Po Pp Go Gp No Np Qo Qp Ko Kp Lo Lp To Tp ra oo Mo Mp Xs' Ps Pa Gs Ga Ns' Na Qs Qa Ks Ka Ls La Ts Ta os Ms' Mj Ma)) (va_runV (As := [.int (xs (i + 1))]) (rest := [.int v]) ⟨hx, hb, hml, hown, hts⟩ (c_X6_bore l D cI cB cO Mo Mp Ms Mj Ma (xs (i + 1)) _ _ _ e2) (cwV 1 hts gL_law_X6_bore rfl rfl rfl kV_X6_bore ⟨Nat.le_of_ble_eq_true rfl, Nat.le_of_ble_eq_true rfl⟩) (zpreV hK hP hD hS hE hFc [33, 34, 35, 36, 37, 38, 39, 40, 41, 42, 43, 44, 45, 46, 47, 48, 49, 50, 51, 52, 53, 54, 55] (zC_LM (cI := cI) (cB := cB) (cO := cO)) rfl 33 (ci := 6) rfl rfl [.int (xs (i + 1))]) rfl rfl hl.1 rfl (lv_room (Nat.le_of_ble_eq_true rfl)) dL_law_405 ⟨Nat.le_of_ble_eq_true rfl, Nat.le_of_ble_eq_true rfl⟩) hS hFc (fun H1 t h1 h2 h3 => zM_LM (cI := cI) (cB := cB) (cO := cO) hP hD h1 h2 h3) (fun H locs hP hD hS => ?_)
  refine lv_icmp_eq (tgt := 696) hx hb dL_law_408 (by decide) (fun _ => ?_) (fun q => absurd rfl q)
  exact cont _ _ _ ⟨r, c, n, b, Xs', Ps, Pa, Gs, Ga, Ns', Na, Qs, Qa, Ks, Ka, Ls, La, Ts, Ta, os, Ms', Mj, Ma, by omega, hV', hP, hD, hS⟩ hl
set_option maxHeartbeats 4000000 in
set_option maxRecDepth 100000 in
theorem lw_c11 {p : Program} {l : Launch} {e : Env} {s : State} {m : MethodId} {below : List Frame} {meth : Method} {cc : Code} {b0 L : Nat} {xs : Nat → Int32} {D : va_G} {cI cB cO : ClassId} {Xo : Nat} {Po : Nat} {Pp : Nat → Nat} {Go : Nat} {Gp : Nat → Nat} {No : Nat} {Np : Nat → Nat} {Qo : Nat} {Qp : Nat → Nat} {Ko : Nat} {Kp : Nat → Nat} {Lo : Nat} {Lp : Nat → Nat} {To : Nat} {Tp : Nat → Nat} {ra : Nat} {oo : Nat → Nat} {Mo : Nat} {Mp : Nat → Nat} {bd i : Nat} {H : Heap} {locs : List Loc} {ls : Array Slot} (hL : L ≤ 2048) (C0 : lw_At p s m meth cc b0 L xs) (hK : va_K D vwCl (zTY cI cB cO) s) (hE : zEnv (fun q : Nat => s.heap.size ≤ q) s s.heap) (hbd : bd < 1000) (hi : i + 3 < L) (St : lw_St D cI cB cO s Xo Po Pp Go Gp No Np Qo Qp Ko Kp Lo Lp To Tp ra oo Mo Mp bd H locs) (hl : lv_has ls 4 [(3, .int (nI i)), (2, .ref Mo), (1, .ref Xo), (0, .ref b0)]) (cont : ∀ (H : Heap) (locs : List Loc) (ls : Array Slot), lw_St D cI cB cO s Xo Po Pp Go Gp No Np Qo Qp Ko Kp Lo Lp To Tp ra oo Mo Mp (bd + 1) H locs → lv_has ls 4 [(3, .int (nI i)), (2, .ref Mo), (1, .ref Xo), (0, .ref b0)] → W p l e room_1 s m #[Value.ref b0] below meth cc H locs 600000 7302250 (lw_Z below #[Value.ref b0] s) (F0 m 696 ls [])) : W p l e room_1 s m #[Value.ref b0] below meth cc H locs 600000 7302250 (lw_Z below #[Value.ref b0] s) (F0 m 413 ls []) := by
  obtain ⟨hx, hb, hr, hml, hown, hts0, hX, hbl, hlocks, hgv⟩ := C0
  have hts : ∀ w ∈ wsL_law, w.before #[Value.ref b0] s = true := fun w hw => hts0 w (wsL_law_in w hw)
  have hA : ∀ q : Nat, s.heap.size ≤ q → (fun q : Nat => s.heap.size ≤ q) q := fun _ h => h
  have hbA : ¬ (fun q : Nat => s.heap.size ≤ q) b0 := Nat.not_le.mpr hbl
  obtain ⟨r, c, n, b, Xs, Ps, Pa, Gs, Ga, Ns, Na, Qs, Qa, Ks, Ka, Ls, La, Ts, Ta, os, Ms, Mj, Ma, hbb, hV, hP, hD, hS⟩ := St
  obtain ⟨v, Xs', Na', Ma', e1, e2, hV'⟩ := y_be hV (xs (i + 1)) (xs (i + 2))
  refine lv_aload_n hx hb dL_law_413 rfl (lv_at hl 2 rfl) ?_
  refine lv_aload_n hx hb dL_law_414 rfl (lv_at hl 3 rfl) ?_
  refine lv_iload_n hx hb dL_law_415 rfl (lv_at hl 0 rfl) ?_
  refine lv_iconst (v := (1 : Int32)) hx hb dL_law_416 (by decide) ?_
  refine lv_iadd hx hb dL_law_417 ?_
  rw [show nI i + (1 : Int32) = nI (i + 1) from nI_add i 1]
  refine va_sld hx hb hX hbl hbA hS (vp_in_nI (show i + 1 < L by omega) (by omega)) dL_law_418 ?_
  rw [show (nI (i + 1)).toNatClampNeg = i + 1 from nI_clamp (by omega)]
  refine lv_aload_n hx hb dL_law_419 rfl (lv_at hl 3 rfl) ?_
  refine lv_iload_n hx hb dL_law_420 rfl (lv_at hl 0 rfl) ?_
  refine lv_iconst (v := (2 : Int32)) hx hb dL_law_421 (by decide) ?_
  refine lv_iadd hx hb dL_law_422 ?_
  rw [show nI i + (2 : Int32) = nI (i + 2) from nI_add i 2]
  refine va_sld hx hb hX hbl hbA hS (vp_in_nI (show i + 2 < L by omega) (by omega)) dL_law_423 ?_
  rw [show (nI (i + 2)).toNatClampNeg = i + 2 from nI_clamp (by omega)]
  have hFc := va_free (wc := (zfXW cI cO Xo Po Pp Go Gp No Np Qo Qp Ko Kp Lo Lp To Tp ra oo Xs Ps Pa Gs Ga Ns Na Qs Qa Ks Ka Ls La Ts Ta os)) hD hS hA [0, 1, 2, 3, 4, 5, 6, 7, 8, 9, 10, 11, 12, 13, 14, 15, 16, 17, 18, 19, 20, 21, 22, 23, 24, 25, 26, 27, 28, 29, 30, 31, 32] (zC_LX (cI := cI) (cB := cB) (cO := cO))
  refine zcm_i (w2 := (zfLW cI cB cO Xo Po Pp Go Gp No Np Qo Qp Ko Kp Lo Lp To Tp ra oo Mo Mp Xs' Ps Pa Gs Ga Ns Na' Qs Qa Ks Ka Ls La Ts Ta os Ms Mj Ma)) (va_runV (As := [.int (xs (i + 1)), .int (xs (i + 2))]) (rest := []) ⟨hx, hb, hml, hown, hts⟩ (c_X5_be l D cI cB cO Xo Po Pp Go Gp No Np Qo Qp Ko Kp Lo Lp To Tp ra oo Xs Ps Pa Gs Ga Ns Na Qs Qa Ks Ka Ls La Ts Ta os (xs (i + 1)) (xs (i + 2)) _ _ _ _ e1) (cwV 2 hts gL_law_X5_be rfl rfl rfl kV_X5_be ⟨Nat.le_of_ble_eq_true rfl, Nat.le_of_ble_eq_true rfl⟩) (zpreV hK hP hD hS hE hFc [0, 1, 2, 3, 4, 5, 6, 7, 8, 9, 10, 11, 12, 13, 14, 15, 16, 17, 18, 19, 20, 21, 22, 23, 24, 25, 26, 27, 28, 29, 30, 31, 32] (zC_LX (cI := cI) (cB := cB) (cO := cO)) rfl 0 (ci := 5) rfl rfl [.int (xs (i + 1)), .int (xs (i + 2))]) rfl rfl hl.1 rfl (lv_room (Nat.le_of_ble_eq_true rfl)) dL_law_424 ⟨Nat.le_of_ble_eq_true rfl, Nat.le_of_ble_eq_true rfl⟩) hS hFc (fun H1 t h1 h2 h3 => zM_LX (cI := cI) (cB := cB) (cO := cO) hP hD h1 h2 h3) (fun H locs hP hD hS => ?_)
  refine lv_aload_n hx hb dL_law_427 rfl (lv_at hl 1 rfl) ?_
  refine lv_aload_n hx hb dL_law_428 rfl (lv_at hl 3 rfl) ?_
  refine lv_iload_n hx hb dL_law_429 rfl (lv_at hl 0 rfl) ?_
  refine lv_iconst (v := (1 : Int32)) hx hb dL_law_430 (by decide) ?_
  refine lv_iadd hx hb dL_law_431 ?_
  rw [show nI i + (1 : Int32) = nI (i + 1) from nI_add i 1]
  refine va_sld hx hb hX hbl hbA hS (vp_in_nI (show i + 1 < L by omega) (by omega)) dL_law_432 ?_
  rw [show (nI (i + 1)).toNatClampNeg = i + 1 from nI_clamp (by omega)]
  refine lv_aload_n hx hb dL_law_433 rfl (lv_at hl 3 rfl) ?_
  refine lv_iload_n hx hb dL_law_434 rfl (lv_at hl 0 rfl) ?_
  refine lv_iconst (v := (2 : Int32)) hx hb dL_law_435 (by decide) ?_
  refine lv_iadd hx hb dL_law_436 ?_
  rw [show nI i + (2 : Int32) = nI (i + 2) from nI_add i 2]
  refine va_sld hx hb hX hbl hbA hS (vp_in_nI (show i + 2 < L by omega) (by omega)) dL_law_437 ?_
  rw [show (nI (i + 2)).toNatClampNeg = i + 2 from nI_clamp (by omega)]
  have hFc := va_free (wc := (zwM cI cB Mo Mp Ms Mj Ma)) hD hS hA [33, 34, 35, 36, 37, 38, 39, 40, 41, 42, 43, 44, 45, 46, 47, 48, 49, 50, 51, 52, 53, 54, 55] (zC_LM (cI := cI) (cB := cB) (cO := cO))
  refine zcm_i (w2 := (zfLW cI cB cO Xo Po Pp Go Gp No Np Qo Qp Ko Kp Lo Lp To Tp ra oo Mo Mp Xs' Ps Pa Gs Ga Ns Na' Qs Qa Ks Ka Ls La Ts Ta os Ms Mj Ma')) (va_runV (As := [.int (xs (i + 1)), .int (xs (i + 2))]) (rest := [.int v]) ⟨hx, hb, hml, hown, hts⟩ (c_X6_be l D cI cB cO Mo Mp Ms Mj Ma (xs (i + 1)) (xs (i + 2)) _ _ _ e2) (cwV 2 hts gL_law_X6_be rfl rfl rfl kV_X6_be ⟨Nat.le_of_ble_eq_true rfl, Nat.le_of_ble_eq_true rfl⟩) (zpreV hK hP hD hS hE hFc [33, 34, 35, 36, 37, 38, 39, 40, 41, 42, 43, 44, 45, 46, 47, 48, 49, 50, 51, 52, 53, 54, 55] (zC_LM (cI := cI) (cB := cB) (cO := cO)) rfl 33 (ci := 6) rfl rfl [.int (xs (i + 1)), .int (xs (i + 2))]) rfl rfl hl.1 rfl (lv_room (Nat.le_of_ble_eq_true rfl)) dL_law_438 ⟨Nat.le_of_ble_eq_true rfl, Nat.le_of_ble_eq_true rfl⟩) hS hFc (fun H1 t h1 h2 h3 => zM_LM (cI := cI) (cB := cB) (cO := cO) hP hD h1 h2 h3) (fun H locs hP hD hS => ?_)
  refine lv_icmp_eq (tgt := 696) hx hb dL_law_441 (by decide) (fun _ => ?_) (fun q => absurd rfl q)
  exact cont _ _ _ ⟨r, c, n, b, Xs', Ps, Pa, Gs, Ga, Ns, Na', Qs, Qa, Ks, Ka, Ls, La, Ts, Ta, os, Ms, Mj, Ma', by omega, hV', hP, hD, hS⟩ hl
