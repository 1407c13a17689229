/-! the law's calls, one by one -/
/-- the law's cells between calls -/
def lw_St (D : va_G) (cI cB cO : ClassId) (s : State) (Xo : Nat) (Po : Nat) (Pp : Nat → Nat) (Go : Nat) (Gp : Nat → Nat) (No : Nat) (Np : Nat → Nat) (Qo : Nat) (Qp : Nat → Nat) (Ko : Nat) (Kp : Nat → Nat) (Lo : Nat) (Lp : Nat → Nat) (To : Nat) (Tp : Nat → Nat) (ra : Nat) (oo : Nat → Nat) (Mo : Nat) (Mp : Nat → Nat) (bd : Nat) (H : Heap) (locs : List Loc) : Prop := ∃ (r c n b : Nat) (Xs : Nat → Int32) (Ps : Nat → Int32) (Pa : Nat → Nat → Int32) (Gs : Nat → Int32) (Ga : Nat → Nat → Int32) (Ns : Nat → Int32) (Na : Nat → Nat → Int32) (Qs : Nat → Int32) (Qa : Nat → Nat → Int32) (Ks : Nat → Int32) (Ka : Nat → Nat → Int32) (Ls : Nat → Int32) (La : Nat → Nat → Int32) (Ts : Nat → Int32) (Ta : Nat → Nat → Int32) (os : Nat → Nat → Int32) (Ms : Nat → Int32) (Mj : Nat → Int64) (Ma : Nat → Nat → Int32), b ≤ bd ∧ yIV r c n b Xs Ps Pa Gs Ga Ns Na Qs Qa Ks Ka Ls La os Ms Ma ∧ va_P D vwCl (zfLW cI cB cO Xo Po Pp Go Gp No Np Qo Qp Ko Kp Lo Lp To Tp ra oo Mo Mp Xs Ps Pa Gs Ga Ns Na Qs Qa Ks Ka Ls La Ts Ta os Ms Mj Ma) H ∧ va_D (fun q : Nat => s.heap.size ≤ q) (zfLW cI cB cO Xo Po Pp Go Gp No Np Qo Qp Ko Kp Lo Lp To Tp ra oo Mo Mp Xs Ps Pa Gs Ga Ns Na Qs Qa Ks Ka Ls La Ts Ta os Ms Mj Ma) ∧ va_S (fun q : Nat => s.heap.size ≤ q) s.heap H locs
set_option maxHeartbeats 4000000 in
set_option maxRecDepth 100000 in
theorem lw_c0 {p : Program} {l : Launch} {e : Env} {s : State} {m : MethodId} {below : List Frame} {meth : Method} {cc : Code} {b0 L : Nat} {xs : Nat → Int32} {D : va_G} {cI cB cO : ClassId} {Xo : Nat} {Po : Nat} {Pp : Nat → Nat} {Go : Nat} {Gp : Nat → Nat} {No : Nat} {Np : Nat → Nat} {Qo : Nat} {Qp : Nat → Nat} {Ko : Nat} {Kp : Nat → Nat} {Lo : Nat} {Lp : Nat → Nat} {To : Nat} {Tp : Nat → Nat} {ra : Nat} {oo : Nat → Nat} {Mo : Nat} {Mp : Nat → Nat} {bd i : Nat} {H : Heap} {locs : List Loc} {ls : Array Slot} (hL : L ≤ 2048) (C0 : lw_At p s m meth cc b0 L xs) (hK : va_K D vwCl (zTY cI cB cO) s) (hE : zEnv (fun q : Nat => s.heap.size ≤ q) s s.heap) (hbd : bd < 1000) (hi : i + 3 < L) (St : lw_St D cI cB cO s Xo Po Pp Go Gp No Np Qo Qp Ko Kp Lo Lp To Tp ra oo Mo Mp bd H locs) (hl : lv_has ls 4 [(3, .int (nI i)), (2, .ref Mo), (1, .ref Xo), (0, .ref b0)]) (cont : ∀ (H : Heap) (locs : List Loc) (ls : Array Slot), lw_St D cI cB cO s Xo Po Pp Go Gp No Np Qo Qp Ko Kp Lo Lp To Tp ra oo Mo Mp (bd + 1) H locs → lv_has ls 4 [(3, .int (nI i)), (2, .ref Mo), (1, .ref Xo), (0, .ref b0)] → W p l e room_1 s m #[Value.ref b0] below meth cc H locs 600000 7302250 (lw_Z below #[Value.ref b0] s) (F0 m 696 ls [])) : W p l e room_1 s m #[Value.ref b0] below meth cc H locs 600000 7302250 (lw_Z below #[Value.ref b0] s) (F0 m 140 ls []) := by
  obtain ⟨hx, hb, hr, hml, hown, hts0, hX, hbl, hlocks, hgv⟩ := C0
  have hts : ∀ w ∈ wsL_law, w.before #[Value.ref b0] s = true := fun w hw => hts0 w (wsL_law_in w hw)
  have hA : ∀ q : Nat, s.heap.size ≤ q → (fun q : Nat => s.heap.size ≤ q) q := fun _ h => h
  have hbA : ¬ (fun q : Nat => s.heap.size ≤ q) b0 := Nat.not_le.mpr hbl
  obtain ⟨r, c, n, b, Xs, Ps, Pa, Gs, Ga, Ns, Na, Qs, Qa, Ks, Ka, Ls, La, Ts, Ta, os, Ms, Mj, Ma, hbb, hV, hP, hD, hS⟩ := St
  obtain ⟨v, Ps', Pa', Ms', Ma', e1, e2, hV'⟩ := yo_letter hV (xs (i + 1))
  refine lv_aload_n hx hb dL_law_140 rfl (lv_at hl 2 rfl) ?_
  refine lv_aload_n hx hb dL_law_141 rfl (lv_at hl 3 rfl) ?_
  refine lv_iload_n hx hb dL_law_142 rfl (lv_at hl 0 rfl) ?_
  refine lv_iconst (v := (1 : Int32)) hx hb dL_law_143 (by decide) ?_
  refine lv_iadd hx hb dL_law_144 ?_
  rw [show nI i + (1 : Int32) = nI (i + 1) from nI_add i 1]
  refine va_sld hx hb hX hbl hbA hS (vp_in_nI (show i + 1 < L by omega) (by omega)) dL_law_145 ?_
  rw [show (nI (i + 1)).toNatClampNeg = i + 1 from nI_clamp (by omega)]
  have hFc := va_free (wc := (zfXW cI cO Xo Po Pp Go Gp No Np Qo Qp Ko Kp Lo Lp To Tp ra oo Xs Ps Pa Gs Ga Ns Na Qs Qa Ks Ka Ls La Ts Ta os)) hD hS hA [0, 1, 2, 3, 4, 5, 6, 7, 8, 9, 10, 11, 12, 13, 14, 15, 16, 17, 18, 19, 20, 21, 22, 23, 24, 25, 26, 27, 28, 29, 30, 31, 32] (zC_LX (cI := cI) (cB := cB) (cO := cO))
  refine zcm_i (w2 := (zfLW cI cB cO Xo Po Pp Go Gp No Np Qo Qp Ko Kp Lo Lp To Tp ra oo Mo Mp Xs Ps' Pa' Gs Ga Ns Na Qs Qa Ks Ka Ls La Ts Ta os Ms Mj Ma)) (va_runV (As := [.int (xs (i + 1))]) (rest := []) ⟨hx, hb, hml, hown, hts⟩ (c_X5_letter l D cI cB cO Xo Po Pp Go Gp No Np Qo Qp Ko Kp Lo Lp To Tp ra oo Xs Ps Pa Gs Ga Ns Na Qs Qa Ks Ka Ls La Ts Ta os (xs (i + 1)) _ _ _ _ e1) (cwV 1 hts gL_law_X5_letter rfl rfl rfl kV_X5_letter ⟨Nat.le_of_ble_eq_true rfl, Nat.le_of_ble_eq_true rfl⟩) (zpreV hK hP hD hS hE hFc [0, 1, 2, 3, 4, 5, 6, 7, 8, 9, 10, 11, 12, 13, 14, 15, 16, 17, 18, 19, 20, 21, 22, 23, 24, 25, 26, 27, 28, 29, 30, 31, 32] (zC_LX (cI := cI) (cB := cB) (cO := cO)) rfl 0 (ci := 5) rfl rfl [.int (xs (i + 1))]) rfl rfl hl.1 rfl (lv_room (Nat.le_of_ble_eq_true rfl)) dL_law_146 ⟨Nat.le_of_ble_eq_true rfl, Nat.le_of_ble_eq_true rfl⟩) hS hFc (fun H1 t h1 h2 h3 => zM_LX (cI := cI) (cB := cB) (cO := cO) hP hD h1 h2 h3) (fun H locs hP hD hS => ?_)
  refine lv_aload_n hx hb dL_law_149 rfl (lv_at hl 1 rfl) ?_
  refine lv_aload_n hx hb dL_law_150 rfl (lv_at hl 3 rfl) ?_
  refine lv_iload_n hx hb dL_law_151 rfl (lv_at hl 0 rfl) ?_
  refine lv_iconst (v := (1 : Int32)) hx hb dL_law_152 (by decide) ?_
  refine lv_iadd hx hb dL_law_153 ?_
  rw [show nI i + (1 : Int32) = nI (i + 1) from nI_add i 1]
  refine va_sld hx hb hX hbl hbA hS (vp_in_nI (show i + 1 < L by omega) (by omega)) dL_law_154 ?_
  rw [show (nI (i + 1)).toNatClampNeg = i + 1 from nI_clamp (by omega)]
  have hFc := va_free (wc := (zwM cI cB Mo Mp Ms Mj Ma)) hD hS hA [33, 34, 35, 36, 37, 38, 39, 40, 41, 42, 43, 44, 45, 46, 47, 48, 49, 50, 51, 52, 53, 54, 55] (zC_LM (cI := cI) (cB := cB) (cO := cO))
  refine zcm_i (w2 := (zfLW cI cB cO Xo Po Pp Go Gp No Np Qo Qp Ko Kp Lo Lp To Tp ra oo Mo Mp Xs Ps' Pa' Gs Ga Ns Na Qs Qa Ks Ka Ls La Ts Ta os Ms' Mj Ma')) (va_runV (As := [.int (xs (i + 1))]) (rest := [.int v]) ⟨hx, hb, hml, hown, hts⟩ (c_X6_letter l D cI cB cO Mo Mp Ms Mj Ma (xs (i + 1)) _ _ _ _ e2) (cwV 1 hts gL_law_X6_letter rfl rfl rfl kV_X6_letter ⟨Nat.le_of_ble_eq_true rfl, Nat.le_of_ble_eq_true rfl⟩) (zpreV hK hP hD hS hE hFc [33, 34, 35, 36, 37, 38, 39, 40, 41, 42, 43, 44, 45, 46, 47, 48, 49, 50, 51, 52, 53, 54, 55] (zC_LM (cI := cI) (cB := cB) (cO := cO)) rfl 33 (ci := 6) rfl rfl [.int (xs (i + 1))]) rfl rfl hl.1 rfl (lv_room (Nat.le_of_ble_eq_true rfl)) dL_law_155 ⟨Nat.le_of_ble_eq_true rfl, Nat.le_of_ble_eq_true rfl⟩) hS hFc (fun H1 t h1 h2 h3 => zM_LM (cI := cI) (cB := cB) (cO := cO) hP hD h1 h2 h3) (fun H locs hP hD hS => ?_)
  refine lv_icmp_eq (tgt := 696) hx hb dL_law_158 (by decide) (fun _ => ?_) (fun q => absurd rfl q)
  exact cont _ _ _ ⟨r, c, n, b, Xs, Ps', Pa', Gs, Ga, Ns, Na, Qs, Qa, Ks, Ka, Ls, La, Ts, Ta, os, Ms', Mj, Ma', by omega, hV', hP, hD, hS⟩ hl
set_option maxHeartbeats 4000000 in
set_option maxRecDepth 100000 in
theorem lw_c1 {p : Program} {l : Launch} {e : Env} {s : State} {m : MethodId} {below : List Frame} {meth : Method} {cc : Code} {b0 L : Nat} {xs : Nat → Int32} {D : va_G} {cI cB cO : ClassId} {Xo : Nat} {Po : Nat} {Pp : Nat → Nat} {Go : Nat} {Gp : Nat → Nat} {No : Nat} {Np : Nat → Nat} {Qo : Nat} {Qp : Nat → Nat} {Ko : Nat} {Kp : Nat → Nat} {Lo : Nat} {Lp : Nat → Nat} {To : Nat} {Tp : Nat → Nat} {ra : Nat} {oo : Nat → Nat} {Mo : Nat} {Mp : Nat → Nat} {bd i : Nat} {H : Heap} {locs : List Loc} {ls : Array Slot} (hL : L ≤ 2048) (C0 : lw_At p s m meth cc b0 L xs) (hK : va_K D vwCl (zTY cI cB cO) s) (hE : zEnv (fun q : Nat => s.heap.size ≤ q) s s.heap) (hbd : bd < 1000) (hi : i + 3 < L) (St : lw_St D cI cB cO s Xo Po Pp Go Gp No Np Qo Qp Ko Kp Lo Lp To Tp ra oo Mo Mp bd H locs) (hl : lv_has ls 4 [(3, .int (nI i)), (2, .ref Mo), (1, .ref Xo), (0, .ref b0)]) (cont : ∀ (H : Heap) (locs : List Loc) (ls : Array Slot), lw_St D cI cB cO s Xo Po Pp Go Gp No Np Qo Qp Ko Kp Lo Lp To Tp ra oo Mo Mp (bd + 1) H locs → lv_has ls 4 [(3, .int (nI i)), (2, .ref Mo), (1, .ref Xo), (0, .ref b0)] → W p l e room_1 s m #[Value.ref b0] below meth cc H locs 600000 7302250 (lw_Z below #[Value.ref b0] s) (F0 m 696 ls [])) : W p l e room_1 s m #[Value.ref b0] below meth cc H locs 600000 7302250 (lw_Z below #[Value.ref b0] s) (F0 m 163 ls []) := by
  obtain ⟨hx, hb, hr, hml, hown, hts0, hX, hbl, hlocks, hgv⟩ := C0
  have hts : ∀ w ∈ wsL_law, w.before #[Value.ref b0] s = true := fun w hw => hts0 w (wsL_law_in w hw)
  have hA : ∀ q : Nat, s.heap.size ≤ q → (fun q : Nat => s.heap.size ≤ q) q := fun _ h => h
  have hbA : ¬ (fun q : Nat => s.heap.size ≤ q) b0 := Nat.not_le.mpr hbl
  obtain ⟨r, c, n, b, Xs, Ps, Pa, Gs, Ga, Ns, Na, Qs, Qa, Ks, Ka, Ls, La, Ts, Ta, os, Ms, Mj, Ma, hbb, hV, hP, hD, hS⟩ := St
  obtain ⟨v, Ps', Ms', e1, e2, hV'⟩ := yo_blank hV
  refine lv_aload_n hx hb dL_law_163 rfl (lv_at hl 2 rfl) ?_
  have hFc := va_free (wc := (zfXW cI cO Xo Po Pp Go Gp No Np Qo Qp Ko Kp Lo Lp To Tp ra oo Xs Ps Pa Gs Ga Ns Na Qs Qa Ks Ka Ls La Ts Ta os)) hD hS hA [0, 1, 2, 3, 4, 5, 6, 7, 8, 9, 10, 11, 12, 13, 14, 15, 16, 17, 18, 19, 20, 21, 22, 23, 24, 25, 26, 27, 28, 29, 30, 31, 32] (zC_LX (cI := cI) (cB := cB) (cO := cO))
  refine zcm_i (w2 := (zfLW cI cB cO Xo Po Pp Go Gp No Np Qo Qp Ko Kp Lo Lp To Tp ra oo Mo Mp Xs Ps' Pa Gs Ga Ns Na Qs Qa Ks Ka Ls La Ts Ta os Ms Mj Ma)) (va_runV (As := []) (rest := []) ⟨hx, hb, hml, hown, hts⟩ (c_X5_blank l D cI cB cO Xo Po Pp Go Gp No Np Qo Qp Ko Kp Lo Lp To Tp ra oo Xs Ps Pa Gs Ga Ns Na Qs Qa Ks Ka Ls La Ts Ta os _ _ _ e1) (cwV 0 hts gL_law_X5_blank rfl rfl rfl kV_X5_blank ⟨Nat.le_of_ble_eq_true rfl, Nat.le_of_ble_eq_true rfl⟩) (zpreV hK hP hD hS hE hFc [0, 1, 2, 3, 4, 5, 6, 7, 8, 9, 10, 11, 12, 13, 14, 15, 16, 17, 18, 19, 20, 21, 22, 23, 24, 25, 26, 27, 28, 29, 30, 31, 32] (zC_LX (cI := cI) (cB := cB) (cO := cO)) rfl 0 (ci := 5) rfl rfl []) rfl rfl hl.1 rfl (lv_room (Nat.le_of_ble_eq_true rfl)) dL_law_164 ⟨Nat.le_of_ble_eq_true rfl, Nat.le_of_ble_eq_true rfl⟩) hS hFc (fun H1 t h1 h2 h3 => zM_LX (cI := cI) (cB := cB) (cO := cO) hP hD h1 h2 h3) (fun H locs hP hD hS => ?_)
  refine lv_aload_n hx hb dL_law_167 rfl (lv_at hl 1 rfl) ?_
  have hFc := va_free (wc := (zwM cI cB Mo Mp Ms Mj Ma)) hD hS hA [33, 34, 35, 36, 37, 38, 39, 40, 41, 42, 43, 44, 45, 46, 47, 48, 49, 50, 51, 52, 53, 54, 55] (zC_LM (cI := cI) (cB := cB) (cO := cO))
  refine zcm_i (w2 := (zfLW cI cB cO Xo Po Pp Go Gp No Np Qo Qp Ko Kp Lo Lp To Tp ra oo Mo Mp Xs Ps' Pa Gs Ga Ns Na Qs Qa Ks Ka Ls La Ts Ta os Ms' Mj Ma)) (va_runV (As := []) (rest := [.int v]) ⟨hx, hb, hml, hown, hts⟩ (c_X6_blank l D cI cB cO Mo Mp Ms Mj Ma _ _ _ e2) (cwV 0 hts gL_law_X6_blank rfl rfl rfl kV_X6_blank ⟨Nat.le_of_ble_eq_true rfl, Nat.le_of_ble_eq_true rfl⟩) (zpreV hK hP hD hS hE hFc [33, 34, 35, 36, 37, 38, 39, 40, 41, 42, 43, 44, 45, 46, 47, 48, 49, 50, 51, 52, 53, 54, 55] (zC_LM (cI := cI) (cB := cB) (cO := cO)) rfl 33 (ci := 6) rfl rfl []) rfl rfl hl.1 rfl (lv_room (Nat.le_of_ble_eq_true rfl)) dL_law_168 ⟨Nat.le_of_ble_eq_true rfl, Nat.le_of_ble_eq_true rfl⟩) hS hFc (fun H1 t h1 h2 h3 => zM_LM (cI := cI) (cB := cB) (cO := cO) hP hD h1 h2 h3) (fun H locs hP hD hS => ?_)
  refine lv_icmp_eq (tgt := 696) hx hb dL_law_171 (by decide) (fun _ => ?_) (fun q => absurd rfl q)
  exact cont _ _ _ ⟨r, c, n, b, Xs, Ps', Pa, Gs, Ga, Ns, Na, Qs, Qa, Ks, Ka, Ls, La, Ts, Ta, os, Ms', Mj, Ma, by omega, hV', hP, hD, hS⟩ hl
set_option maxHeartbeats 4000000 in
set_option maxRecDepth 100000 in
theorem lw_c2 {p : Program} {l : Launch} {e : Env} {s : State} {m : MethodId} {below : List Frame} {meth : Method} {cc : Code} {b0 L : Nat} {xs : Nat → Int32} {D : va_G} {cI cB cO : ClassId} {Xo : Nat} {Po : Nat} {Pp : Nat → Nat} {Go : Nat} {Gp : Nat → Nat} {No : Nat} {Np : Nat → Nat} {Qo : Nat} {Qp : Nat → Nat} {Ko : Nat} {Kp : Nat → Nat} {Lo : Nat} {Lp : Nat → Nat} {To : Nat} {Tp : Nat → Nat} {ra : Nat} {oo : Nat → Nat} {Mo : Nat} {Mp : Nat → Nat} {bd i : Nat} {H : Heap} {locs : List Loc} {ls : Array Slot} (hL : L ≤ 2048) (C0 : lw_At p s m meth cc b0 L xs) (hK : va_K D vwCl (zTY cI cB cO) s) (hE : zEnv (fun q : Nat => s.heap.size ≤ q) s s.heap) (hbd : bd < 1000) (hi : i + 3 < L) (St : lw_St D cI cB cO s Xo Po Pp Go Gp No Np Qo Qp Ko Kp Lo Lp To Tp ra oo Mo Mp bd H locs) (hl : lv_has ls 4 [(3, .int (nI i)), (2, .ref Mo), (1, .ref Xo), (0, .ref b0)]) (cont : ∀ (H : Heap) (locs : List Loc) (ls : Array Slot), lw_St D cI cB cO s Xo Po Pp Go Gp No Np Qo Qp Ko Kp Lo Lp To Tp ra oo Mo Mp (bd + 1) H locs → lv_has ls 4 [(3, .int (nI i)), (2, .ref Mo), (1, .ref Xo), (0, .ref b0)] → W p l e room_1 s m #[Value.ref b0] below meth cc H locs 600000 7302250 (lw_Z below #[Value.ref b0] s) (F0 m 696 ls [])) : W p l e room_1 s m #[Value.ref b0] below meth cc H locs 600000 7302250 (lw_Z below #[Value.ref b0] s) (F0 m 176 ls []) := by
  obtain ⟨hx, hb, hr, hml, hown, hts0, hX, hbl, hlocks, hgv⟩ := C0
  have hts : ∀ w ∈ wsL_law, w.before #[Value.ref b0] s = true := fun w hw => hts0 w (wsL_law_in w hw)
  have hA : ∀ q : Nat, s.heap.size ≤ q → (fun q : Nat => s.heap.size ≤ q) q := fun _ h => h
  have hbA : ¬ (fun q : Nat => s.heap.size ≤ q) b0 := Nat.not_le.mpr hbl
  obtain ⟨r, c, n, b, Xs, Ps, Pa, Gs, Ga, Ns, Na, Qs, Qa, Ks, Ka, Ls, La, Ts, Ta, os, Ms, Mj, Ma, hbb, hV, hP, hD, hS⟩ := St
  obtain ⟨v, Ms', e1, e2, hV'⟩ := y_fault hV
  refine lv_aload_n hx hb dL_law_176 rfl (lv_at hl 2 rfl) ?_
  have hFc := va_free (wc := (zfXW cI cO Xo Po Pp Go Gp No Np Qo Qp Ko Kp Lo Lp To Tp ra oo Xs Ps Pa Gs Ga Ns Na Qs Qa Ks Ka Ls La Ts Ta os)) hD hS hA [0, 1, 2, 3, 4, 5, 6, 7, 8, 9, 10, 11, 12, 13, 14, 15, 16, 17, 18, 19, 20, 21, 22, 23, 24, 25, 26, 27, 28, 29, 30, 31, 32] (zC_LX (cI := cI) (cB := cB) (cO := cO))
  refine zcm_i (w2 := (zfLW cI cB cO Xo Po Pp Go Gp No Np Qo Qp Ko Kp Lo Lp To Tp ra oo Mo Mp Xs Ps Pa Gs Ga Ns Na Qs Qa Ks Ka Ls La Ts Ta os Ms Mj Ma)) (va_runV (As := []) (rest := []) ⟨hx, hb, hml, hown, hts⟩ (c_X5_fault l D cI cB cO Xo Po Pp Go Gp No Np Qo Qp Ko Kp Lo Lp To Tp ra oo Xs Ps Pa Gs Ga Ns Na Qs Qa Ks Ka Ls La Ts Ta os _ _ e1) (cwV 0 hts gL_law_X5_fault rfl rfl rfl kV_X5_fault ⟨Nat.le_of_ble_eq_true rfl, Nat.le_of_ble_eq_true rfl⟩) (zpreV hK hP hD hS hE hFc [0, 1, 2, 3, 4, 5, 6, 7, 8, 9, 10, 11, 12, 13, 14, 15, 16, 17, 18, 19, 20, 21, 22, 23, 24, 25, 26, 27, 28, 29, 30, 31, 32] (zC_LX (cI := cI) (cB := cB) (cO := cO)) rfl 0 (ci := 5) rfl rfl []) rfl rfl hl.1 rfl (lv_room (Nat.le_of_ble_eq_true rfl)) dL_law_177 ⟨Nat.le_of_ble_eq_true rfl, Nat.le_of_ble_eq_true rfl⟩) hS hFc (fun H1 t h1 h2 h3 => zM_LX (cI := cI) (cB := cB) (cO := cO) hP hD h1 h2 h3) (fun H locs hP hD hS => ?_)
  refine lv_aload_n hx hb dL_law_180 rfl (lv_at hl 1 rfl) ?_
  have hFc := va_free (wc := (zwM cI cB Mo Mp Ms Mj Ma)) hD hS hA [33, 34, 35, 36, 37, 38, 39, 40, 41, 42, 43, 44, 45, 46, 47, 48, 49, 50, 51, 52, 53, 54, 55] (zC_LM (cI := cI) (cB := cB) (cO := cO))
  refine zcm_i (w2 := (zfLW cI cB cO Xo Po Pp Go Gp No Np Qo Qp Ko Kp Lo Lp To Tp ra oo Mo Mp Xs Ps Pa Gs Ga Ns Na Qs Qa Ks Ka Ls La Ts Ta os Ms' Mj Ma)) (va_runV (As := []) (rest := [.int v]) ⟨hx, hb, hml, hown, hts⟩ (c_X6_fault l D cI cB cO Mo Mp Ms Mj Ma _ _ _ e2) (cwV 0 hts gL_law_X6_fault rfl rfl rfl kV_X6_fault ⟨Nat.le_of_ble_eq_true rfl, Nat.le_of_ble_eq_true rfl⟩) (zpreV hK hP hD hS hE hFc [33, 34, 35, 36, 37, 38, 39, 40, 41, 42, 43, 44, 45, 46, 47, 48, 49, 50, 51, 52, 53, 54, 55] (zC_LM (cI := cI) (cB := cB) (cO := cO)) rfl 33 (ci := 6) rfl rfl []) rfl rfl hl.1 rfl (lv_room (Nat.le_of_ble_eq_true rfl)) dL_law_181 ⟨Nat.le_of_ble_eq_true rfl, Nat.le_of_ble_eq_true rfl⟩) hS hFc (fun H1 t h1 h2 h3 => zM_LM (cI := cI) (cB := cB) (cO := cO) hP hD h1 h2 h3) (fun H locs hP hD hS => ?_)
  refine lv_icmp_eq (tgt := 696) hx hb dL_law_184 (by decide) (fun _ => ?_) (fun q => absurd rfl q)
  exact cont _ _ _ ⟨r, c, n, b, Xs, Ps, Pa, Gs, Ga, Ns, Na, Qs, Qa, Ks, Ka, Ls, La, Ts, Ta, os, Ms', Mj, Ma, by omega, hV', hP, hD, hS⟩ hl
set_option maxHeartbeats 4000000 in
set_option maxRecDepth 100000 in
theorem lw_c3 {p : Program} {l : Launch} {e : Env} {s : State} {m : MethodId} {below : List Frame} {meth : Method} {cc : Code} {b0 L : Nat} {xs : Nat → Int32} {D : va_G} {cI cB cO : ClassId} {Xo : Nat} {Po : Nat} {Pp : Nat → Nat} {Go : Nat} {Gp : Nat → Nat} {No : Nat} {Np : Nat → Nat} {Qo : Nat} {Qp : Nat → Nat} {Ko : Nat} {Kp : Nat → Nat} {Lo : Nat} {Lp : Nat → Nat} {To : Nat} {Tp : Nat → Nat} {ra : Nat} {oo : Nat → Nat} {Mo : Nat} {Mp : Nat → Nat} {bd i : Nat} {H : Heap} {locs : List Loc} {ls : Array Slot} (hL : L ≤ 2048) (C0 : lw_At p s m meth cc b0 L xs) (hK : va_K D vwCl (zTY cI cB cO) s) (hE : zEnv (fun q : Nat => s.heap.size ≤ q) s s.heap) (hbd : bd < 1000) (hi : i + 3 < L) (St : lw_St D cI cB cO s Xo Po Pp Go Gp No Np Qo Qp Ko Kp Lo Lp To Tp ra oo Mo Mp bd H locs) (hl : lv_has ls 4 [(3, .int (nI i)), (2, .ref Mo), (1, .ref Xo), (0, .ref b0)]) (cont : ∀ (H : Heap) (locs : List Loc) (ls : Array Slot), lw_St D cI cB cO s Xo Po Pp Go Gp No Np Qo Qp Ko Kp Lo Lp To Tp ra oo Mo Mp (bd + 1) H locs → lv_has ls 4 [(3, .int (nI i)), (2, .ref Mo), (1, .ref Xo), (0, .ref b0)] → W p l e room_1 s m #[Value.ref b0] below meth cc H locs 600000 7302250 (lw_Z below #[Value.ref b0] s) (F0 m 696 ls [])) : W p l e room_1 s m #[Value.ref b0] below meth cc H locs 600000 7302250 (lw_Z below #[Value.ref b0] s) (F0 m 189 ls []) := by
  obtain ⟨hx, hb, hr, hml, hown, hts0, hX, hbl, hlocks, hgv⟩ := C0
  have hts : ∀ w ∈ wsL_law, w.before #[Value.ref b0] s = true := fun w hw => hts0 w (wsL_law_in w hw)
  have hA : ∀ q : Nat, s.heap.size ≤ q → (fun q : Nat => s.heap.size ≤ q) q := fun _ h => h
  have hbA : ¬ (fun q : Nat => s.heap.size ≤ q) b0 := Nat.not_le.mpr hbl
  obtain ⟨r, c, n, b, Xs, Ps, Pa, Gs, Ga, Ns, Na, Qs, Qa, Ks, Ka, Ls, La, Ts, Ta, os, Ms, Mj, Ma, hbb, hV, hP, hD, hS⟩ := St
  obtain ⟨v, Xs', Ps', Gs', Ga', Ns', Na', Qs', Ms', Ma', r', c', n', b', e1, e2, hb', hV'⟩ := y_board hV
  refine lv_aload_n hx hb dL_law_189 rfl (lv_at hl 2 rfl) ?_
  have hFc := va_free (wc := (zfXW cI cO Xo Po Pp Go Gp No Np Qo Qp Ko Kp Lo Lp To Tp ra oo Xs Ps Pa Gs Ga Ns Na Qs Qa Ks Ka Ls La Ts Ta os)) hD hS hA [0, 1, 2, 3, 4, 5, 6, 7, 8, 9, 10, 11, 12, 13, 14, 15, 16, 17, 18, 19, 20, 21, 22, 23, 24, 25, 26, 27, 28, 29, 30, 31, 32] (zC_LX (cI := cI) (cB := cB) (cO := cO))
  refine zcm_i (w2 := (zfLW cI cB cO Xo Po Pp Go Gp No Np Qo Qp Ko Kp Lo Lp To Tp ra oo Mo Mp Xs' Ps' Pa Gs' Ga' Ns' Na' Qs' Qa Ks Ka Ls La Ts Ta os Ms Mj Ma)) (va_runV (As := []) (rest := []) ⟨hx, hb, hml, hown, hts⟩ (c_X5_board l D cI cB cO Xo Po Pp Go Gp No Np Qo Qp Ko Kp Lo Lp To Tp ra oo Xs Ps Pa Gs Ga Ns Na Qs Qa Ks Ka Ls La Ts Ta os _ _ _ _ _ _ _ _ _ e1) (cwV 0 hts gL_law_X5_board rfl rfl rfl kV_X5_board ⟨Nat.le_of_ble_eq_true rfl, Nat.le_of_ble_eq_true rfl⟩) (zpreV hK hP hD hS hE hFc [0, 1, 2, 3, 4, 5, 6, 7, 8, 9, 10, 11, 12, 13, 14, 15, 16, 17, 18, 19, 20, 21, 22, 23, 24, 25, 26, 27, 28, 29, 30, 31, 32] (zC_LX (cI := cI) (cB := cB) (cO := cO)) rfl 0 (ci := 5) rfl rfl []) rfl rfl hl.1 rfl (lv_room (Nat.le_of_ble_eq_true rfl)) dL_law_190 ⟨Nat.le_of_ble_eq_true rfl, Nat.le_of_ble_eq_true rfl⟩) hS hFc (fun H1 t h1 h2 h3 => zM_LX (cI := cI) (cB := cB) (cO := cO) hP hD h1 h2 h3) (fun H locs hP hD hS => ?_)
  refine lv_aload_n hx hb dL_law_193 rfl (lv_at hl 1 rfl) ?_
  have hFc := va_free (wc := (zwM cI cB Mo Mp Ms Mj Ma)) hD hS hA [33, 34, 35, 36, 37, 38, 39, 40, 41, 42, 43, 44, 45, 46, 47, 48, 49, 50, 51, 52, 53, 54, 55] (zC_LM (cI := cI) (cB := cB) (cO := cO))
  refine zcm_i (w2 := (zfLW cI cB cO Xo Po Pp Go Gp No Np Qo Qp Ko Kp Lo Lp To Tp ra oo Mo Mp Xs' Ps' Pa Gs' Ga' Ns' Na' Qs' Qa Ks Ka Ls La Ts Ta os Ms' Mj Ma')) (va_runV (As := []) (rest := [.int v]) ⟨hx, hb, hml, hown, hts⟩ (c_X6_board l D cI cB cO Mo Mp Ms Mj Ma _ _ _ _ e2) (cwV 0 hts gL_law_X6_board rfl rfl rfl kV_X6_board ⟨Nat.le_of_ble_eq_true rfl, Nat.le_of_ble_eq_true rfl⟩) (zpreV hK hP hD hS hE hFc [33, 34, 35, 36, 37, 38, 39, 40, 41, 42, 43, 44, 45, 46, 47, 48, 49, 50, 51, 52, 53, 54, 55] (zC_LM (cI := cI) (cB := cB) (cO := cO)) rfl 33 (ci := 6) rfl rfl []) rfl rfl hl.1 rfl (lv_room (Nat.le_of_ble_eq_true rfl)) dL_law_194 ⟨Nat.le_of_ble_eq_true rfl, Nat.le_of_ble_eq_true rfl⟩) hS hFc (fun H1 t h1 h2 h3 => zM_LM (cI := cI) (cB := cB) (cO := cO) hP hD h1 h2 h3) (fun H locs hP hD hS => ?_)
  refine lv_icmp_eq (tgt := 696) hx hb dL_law_197 (by decide) (fun _ => ?_) (fun q => absurd rfl q)
  exact cont _ _ _ ⟨r', c', n', b', Xs', Ps', Pa, Gs', Ga', Ns', Na', Qs', Qa, Ks, Ka, Ls, La, Ts, Ta, os, Ms', Mj, Ma', by omega, hV', hP, hD, hS⟩ hl
set_option maxHeartbeats 4000000 in
set_option maxRecDepth 100000 in
theorem lw_c4 {p : Program} {l : Launch} {e : Env} {s : State} {m : MethodId} {below : List Frame} {meth : Method} {cc : Code} {b0 L : Nat} {xs : Nat → Int32} {D : va_G} {cI cB cO : ClassId} {Xo : Nat} {Po : Nat} {Pp : Nat → Nat} {Go : Nat} {Gp : Nat → Nat} {No : Nat} {Np : Nat → Nat} {Qo : Nat} {Qp : Nat → Nat} {Ko : Nat} {Kp : Nat → Nat} {Lo : Nat} {Lp : Nat → Nat} {To : Nat} {Tp : Nat → Nat} {ra : Nat} {oo : Nat → Nat} {Mo : Nat} {Mp : Nat → Nat} {bd i : Nat} {H : Heap} {locs : List Loc} {ls : Array Slot} (hL : L ≤ 2048) (C0 : lw_At p s m meth cc b0 L xs) (hK : va_K D vwCl (zTY cI cB cO) s) (hE : zEnv (fun q : Nat => s.heap.size ≤ q) s s.heap) (hbd : bd < 1000) (hi : i + 3 < L) (St : lw_St D cI cB cO s Xo Po Pp Go Gp No Np Qo Qp Ko Kp Lo Lp To Tp ra oo Mo Mp bd H locs) (hl : lv_has ls 4 [(3, .int (nI i)), (2, .ref Mo), (1, .ref Xo), (0, .ref b0)]) (cont : ∀ (H : Heap) (locs : List Loc) (ls : Array Slot), lw_St D cI cB cO s Xo Po Pp Go Gp No Np Qo Qp Ko Kp Lo Lp To Tp ra oo Mo Mp (bd + 1) H locs → lv_has ls 4 [(3, .int (nI i)), (2, .ref Mo), (1, .ref Xo), (0, .ref b0)] → W p l e room_1 s m #[Value.ref b0] below meth cc H locs 600000 7302250 (lw_Z below #[Value.ref b0] s) (F0 m 696 ls [])) : W p l e room_1 s m #[Value.ref b0] below meth cc H locs 600000 7302250 (lw_Z below #[Value.ref b0] s) (F0 m 202 ls []) := by
  obtain ⟨hx, hb, hr, hml, hown, hts0, hX, hbl, hlocks, hgv⟩ := C0
  have hts : ∀ w ∈ wsL_law, w.before #[Value.ref b0] s = true := fun w hw => hts0 w (wsL_law_in w hw)
  have hA : ∀ q : Nat, s.heap.size ≤ q → (fun q : Nat => s.heap.size ≤ q) q := fun _ h => h
  have hbA : ¬ (fun q : Nat => s.heap.size ≤ q) b0 := Nat.not_le.mpr hbl
  obtain ⟨r, c, n, b, Xs, Ps, Pa, Gs, Ga, Ns, Na, Qs, Qa, Ks, Ka, Ls, La, Ts, Ta, os, Ms, Mj, Ma, hbb, hV, hP, hD, hS⟩ := St
  obtain ⟨v, Ma', e1, e2, fr⟩ := y_peg hV.1 hV.2.1 hV.2.2.1 hV.2.2.2.1 hV.2.2.2.2.2.1 (xs (i + 1)) (xs (i + 2))
  have hV' := yI_a hV fr
  refine lv_aload_n hx hb dL_law_202 rfl (lv_at hl 2 rfl) ?_
  refine lv_aload_n hx hb dL_law_203 rfl (lv_at hl 3 rfl) ?_
  refine lv_iload_n hx hb dL_law_204 rfl (lv_at hl 0 rfl) ?_
  refine lv_iconst (v := (1 : Int32)) hx hb dL_law_205 (by decide) ?_
  refine lv_iadd hx hb dL_law_206 ?_
  rw [show nI i + (1 : Int32) = nI (i + 1) from nI_add i 1]
  refine va_sld hx hb hX hbl hbA hS (vp_in_nI (show i + 1 < L by omega) (by omega)) dL_law_207 ?_
  rw [show (nI (i + 1)).toNatClampNeg = i + 1 from nI_clamp (by omega)]
  refine lv_aload_n hx hb dL_law_208 rfl (lv_at hl 3 rfl) ?_
  refine lv_iload_n hx hb dL_law_209 rfl (lv_at hl 0 rfl) ?_
  refine lv_iconst (v := (2 : Int32)) hx hb dL_law_210 (by decide) ?_
  refine lv_iadd hx hb dL_law_211 ?_
  rw [show nI i + (2 : Int32) = nI (i + 2) from nI_add i 2]
  refine va_sld hx hb hX hbl hbA hS (vp_in_nI (show i + 2 < L by omega) (by omega)) dL_law_212 ?_
  rw [show (nI (i + 2)).toNatClampNeg = i + 2 from nI_clamp (by omega)]
  have hFc := va_free (wc := (zfXW cI cO Xo Po Pp Go Gp No Np Qo Qp Ko Kp Lo Lp To Tp ra oo Xs Ps Pa Gs Ga Ns Na Qs Qa Ks Ka Ls La Ts Ta os)) hD hS hA [0, 1, 2, 3, 4, 5, 6, 7, 8, 9, 10, 11, 12, 13, 14, 15, 16, 17, 18, 19, 20, 21, 22, 23, 24, 25, 26, 27, 28, 29, 30, 31, 32] (zC_LX (cI := cI) (cB := cB) (cO := cO))
  refine zcm_i (w2 := (zfLW cI cB cO Xo Po Pp Go Gp No Np Qo Qp Ko Kp Lo Lp To Tp ra oo Mo Mp Xs Ps Pa Gs Ga Ns Na Qs Qa Ks Ka Ls La Ts Ta os Ms Mj Ma)) (va_runV (As := [.int (xs (i + 1)), .int (xs (i + 2))]) (rest := []) ⟨hx, hb, hml, hown, hts⟩ (c_X5_peg l D cI cB cO Xo Po Pp Go Gp No Np Qo Qp Ko Kp Lo Lp To Tp ra oo Xs Ps Pa Gs Ga Ns Na Qs Qa Ks Ka Ls La Ts Ta os (xs (i + 1)) (xs (i + 2)) _ _ e1) (cwV 2 hts gL_law_X5_peg rfl rfl rfl kV_X5_peg ⟨Nat.le_of_ble_eq_true rfl, Nat.le_of_ble_eq_true rfl⟩) (zpreV hK hP hD hS hE hFc [0, 1, 2, 3, 4, 5, 6, 7, 8, 9, 10, 11, 12, 13, 14, 15, 16, 17, 18, 19, 20, 21, 22, 23, 24, 25, 26, 27, 28, 29, 30, 31, 32] (zC_LX (cI := cI) (cB := cB) (cO := cO)) rfl 0 (ci := 5) rfl rfl [.int (xs (i + 1)), .int (xs (i + 2))]) rfl rfl hl.1 rfl (lv_room (Nat.le_of_ble_eq_true rfl)) dL_law_213 ⟨Nat.le_of_ble_eq_true rfl, Nat.le_of_ble_eq_true rfl⟩) hS hFc (fun H1 t h1 h2 h3 => zM_LX (cI := cI) (cB := cB) (cO := cO) hP hD h1 h2 h3) (fun H locs hP hD hS => ?_)
  refine lv_aload_n hx hb dL_law_216 rfl (lv_at hl 1 rfl) ?_
  refine lv_aload_n hx hb dL_law_217 rfl (lv_at hl 3 rfl) ?_
  refine lv_iload_n hx hb dL_law_218 rfl (lv_at hl 0 rfl) ?_
  refine lv_iconst (v := (1 : Int32)) hx hb dL_law_219 (by decide) ?_
  refine lv_iadd hx hb dL_law_220 ?_
  rw [show nI i + (1 : Int32) = nI (i + 1) from nI_add i 1]
  refine va_sld hx hb hX hbl hbA hS (vp_in_nI (show i + 1 < L by omega) (by omega)) dL_law_221 ?_
  rw [show (nI (i + 1)).toNatClampNeg = i + 1 from nI_clamp (by omega)]
  refine lv_aload_n hx hb dL_law_222 rfl (lv_at hl 3 rfl) ?_
  refine lv_iload_n hx hb dL_law_223 rfl (lv_at hl 0 rfl) ?_
  refine lv_iconst (v := (2 : Int32)) hx hb dL_law_224 (by decide) ?_
  refine lv_iadd hx hb dL_law_225 ?_
  rw [show nI i + (2 : Int32) = nI (i + 2) from nI_add i 2]
  refine va_sld hx hb hX hbl hbA hS (vp_in_nI (show i + 2 < L by omega) (by omega)) dL_law_226 ?_
  rw [show (nI (i + 2)).toNatClampNeg = i + 2 from nI_clamp (by omega)]
  have hFc := va_free (wc := (zwM cI cB Mo Mp Ms Mj Ma)) hD hS hA [33, 34, 35, 36, 37, 38, 39, 40, 41, 42, 43, 44, 45, 46, 47, 48, 49, 50, 51, 52, 53, 54, 55] (zC_LM (cI := cI) (cB := cB) (cO := cO))
  refine zcm_i (w2 := (zfLW cI cB cO Xo Po Pp Go Gp No Np Qo Qp Ko Kp Lo Lp To Tp ra oo Mo Mp Xs Ps Pa Gs Ga Ns Na Qs Qa Ks Ka Ls La Ts Ta os Ms Mj Ma')) (va_runV (As := [.int (xs (i + 1)), .int (xs (i + 2))]) (rest := [.int v]) ⟨hx, hb, hml, hown, hts⟩ (c_X6_peg l D cI cB cO Mo Mp Ms Mj Ma (xs (i + 1)) (xs (i + 2)) _ _ _ e2) (cwV 2 hts gL_law_X6_peg rfl rfl rfl kV_X6_peg ⟨Nat.le_of_ble_eq_true rfl, Nat.le_of_ble_eq_true rfl⟩) (zpreV hK hP hD hS hE hFc [33, 34, 35, 36, 37, 38, 39, 40, 41, 42, 43, 44, 45, 46, 47, 48, 49, 50, 51, 52, 53, 54, 55] (zC_LM (cI := cI) (cB := cB) (cO := cO)) rfl 33 (ci := 6) rfl rfl [.int (xs (i + 1)), .int (xs (i + 2))]) rfl rfl hl.1 rfl (lv_room (Nat.le_of_ble_eq_true rfl)) dL_law_227 ⟨Nat.le_of_ble_eq_true rfl, Nat.le_of_ble_eq_true rfl⟩) hS hFc (fun H1 t h1 h2 h3 => zM_LM (cI := cI) (cB := cB) (cO := cO) hP hD h1 h2 h3) (fun H locs hP hD hS => ?_)
  refine lv_icmp_eq (tgt := 696) hx hb dL_law_230 (by decide) (fun _ => ?_) (fun q => absurd rfl q)
  exact cont _ _ _ ⟨r, c, n, b, Xs, Ps, Pa, Gs, Ga, Ns, Na, Qs, Qa, Ks, Ka, Ls, La, Ts, Ta, os, Ms, Mj, Ma', by omega, hV', hP, hD, hS⟩ hl
set_option maxHeartbeats 4000000 in
set_option maxRecDepth 100000 in
theorem lw_c5 {p : Program} {l : Launch} {e : Env} {s : State} {m : MethodId} {below : List Frame} {meth : Method} {cc : Code} {b0 L : Nat} {xs : Nat → Int32} {D : va_G} {cI cB cO : ClassId} {Xo : Nat} {Po : Nat} {Pp : Nat → Nat} {Go : Nat} {Gp : Nat → Nat} {No : Nat} {Np : Nat → Nat} {Qo : Nat} {Qp : Nat → Nat} {Ko : Nat} {Kp : Nat → Nat} {Lo : Nat} {Lp : Nat → Nat} {To : Nat} {Tp : Nat → Nat} {ra : Nat} {oo : Nat → Nat} {Mo : Nat} {Mp : Nat → Nat} {bd i : Nat} {H : Heap} {locs : List Loc} {ls : Array Slot} (hL : L ≤ 2048) (C0 : lw_At p s m meth cc b0 L xs) (hK : va_K D vwCl (zTY cI cB cO) s) (hE : zEnv (fun q : Nat => s.heap.size ≤ q) s s.heap) (hbd : bd < 1000) (hi : i + 3 < L) (St : lw_St D cI cB cO s Xo Po Pp Go Gp No Np Qo Qp Ko Kp Lo Lp To Tp ra oo Mo Mp bd H locs) (hl : lv_has ls 4 [(3, .int (nI i)), (2, .ref Mo), (1, .ref Xo), (0, .ref b0)]) (cont : ∀ (H : Heap) (locs : List Loc) (ls : Array Slot), lw_St D cI cB cO s Xo Po Pp Go Gp No Np Qo Qp Ko Kp Lo Lp To Tp ra oo Mo Mp (bd + 1) H locs → lv_has ls 4 [(3, .int (nI i)), (2, .ref Mo), (1, .ref Xo), (0, .ref b0)] → W p l e room_1 s m #[Value.ref b0] below meth cc H locs 600000 7302250 (lw_Z below #[Value.ref b0] s) (F0 m 696 ls [])) : W p l e room_1 s m #[Value.ref b0] below meth cc H locs 600000 7302250 (lw_Z below #[Value.ref b0] s) (F0 m 235 ls []) := by
  obtain ⟨hx, hb, hr, hml, hown, hts0, hX, hbl, hlocks, hgv⟩ := C0
  have hts : ∀ w ∈ wsL_law, w.before #[Value.ref b0] s = true := fun w hw => hts0 w (wsL_law_in w hw)
  have hA : ∀ q : Nat, s.heap.size ≤ q → (fun q : Nat => s.heap.size ≤ q) q := fun _ h => h
  have hbA : ¬ (fun q : Nat => s.heap.size ≤ q) b0 := Nat.not_le.mpr hbl
  obtain ⟨r, c, n, b, Xs, Ps, Pa, Gs, Ga, Ns, Na, Qs, Qa, Ks, Ka, Ls, La, Ts, Ta, os, Ms, Mj, Ma, hbb, hV, hP, hD, hS⟩ := St
  obtain ⟨v, e1, e2⟩ := y_as hV.2.2.1 hV.2.2.2.1 (xs (i + 1)) (xs (i + 2))
  have hV' := hV
  refine lv_aload_n hx hb dL_law_235 rfl (lv_at hl 2 rfl) ?_
  refine lv_aload_n hx hb dL_law_236 rfl (lv_at hl 3 rfl) ?_
  refine lv_iload_n hx hb dL_law_237 rfl (lv_at hl 0 rfl) ?_
  refine lv_iconst (v := (1 : Int32)) hx hb dL_law_238 (by decide) ?_
  refine lv_iadd hx hb dL_law_239 ?_
  rw [show nI i + (1 : Int32) = nI (i + 1) from nI_add i 1]
  refine va_sld hx hb hX hbl hbA hS (vp_in_nI (show i + 1 < L by omega) (by omega)) dL_law_240 ?_
  rw [show (nI (i + 1)).toNatClampNeg = i + 1 from nI_clamp (by omega)]
  refine lv_aload_n hx hb dL_law_241 rfl (lv_at hl 3 rfl) ?_
  refine lv_iload_n hx hb dL_law_242 rfl (lv_at hl 0 rfl) ?_
  refine lv_iconst (v := (2 : Int32)) hx hb dL_law_243 (by decide) ?_
  refine lv_iadd hx hb dL_law_244 ?_
  rw [show nI i + (2 : Int32) = nI (i + 2) from nI_add i 2]
  refine va_sld hx hb hX hbl hbA hS (vp_in_nI (show i + 2 < L by omega) (by omega)) dL_law_245 ?_
  rw [show (nI (i + 2)).toNatClampNeg = i + 2 from nI_clamp (by omega)]
  have hFc := va_free (wc := (zfXW cI cO Xo Po Pp Go Gp No Np Qo Qp Ko Kp Lo Lp To Tp ra oo Xs Ps Pa Gs Ga Ns Na Qs Qa Ks Ka Ls La Ts Ta os)) hD hS hA [0, 1, 2, 3, 4, 5, 6, 7, 8, 9, 10, 11, 12, 13, 14, 15, 16, 17, 18, 19, 20, 21, 22, 23, 24, 25, 26, 27, 28, 29, 30, 31, 32] (zC_LX (cI := cI) (cB := cB) (cO := cO))
  refine zcm_i (w2 := (zfLW cI cB cO Xo Po Pp Go Gp No Np Qo Qp Ko Kp Lo Lp To Tp ra oo Mo Mp Xs Ps Pa Gs Ga Ns Na Qs Qa Ks Ka Ls La Ts Ta os Ms Mj Ma)) (va_runV (As := [.int (xs (i + 1)), .int (xs (i + 2))]) (rest := []) ⟨hx, hb, hml, hown, hts⟩ (c_X5_as l D cI cB cO Xo Po Pp Go Gp No Np Qo Qp Ko Kp Lo Lp To Tp ra oo Xs Ps Pa Gs Ga Ns Na Qs Qa Ks Ka Ls La Ts Ta os (xs (i + 1)) (xs (i + 2)) _ _ e1) (cwV 2 hts gL_law_X5_as rfl rfl rfl kV_X5_as ⟨Nat.le_of_ble_eq_true rfl, Nat.le_of_ble_eq_true rfl⟩) (zpreV hK hP hD hS hE hFc [0, 1, 2, 3, 4, 5, 6, 7, 8, 9, 10, 11, 12, 13, 14, 15, 16, 17, 18, 19, 20, 21, 22, 23, 24, 25, 26, 27, 28, 29, 30, 31, 32] (zC_LX (cI := cI) (cB := cB) (cO := cO)) rfl 0 (ci := 5) rfl rfl [.int (xs (i + 1)), .int (xs (i + 2))]) rfl rfl hl.1 rfl (lv_room (Nat.le_of_ble_eq_true rfl)) dL_law_246 ⟨Nat.le_of_ble_eq_true rfl, Nat.le_of_ble_eq_true rfl⟩) hS hFc (fun H1 t h1 h2 h3 => zM_LX (cI := cI) (cB := cB) (cO := cO) hP hD h1 h2 h3) (fun H locs hP hD hS => ?_)
  refine lv_aload_n hx hb dL_law_249 rfl (lv_at hl 1 rfl) ?_
  refine lv_aload_n hx hb dL_law_250 rfl (lv_at hl 3 rfl) ?_
  refine lv_iload_n hx hb dL_law_251 rfl (lv_at hl 0 rfl) ?_
  refine lv_iconst (v := (1 : Int32)) hx hb dL_law_252 (by decide) ?_
  refine lv_iadd hx hb dL_law_253 ?_
  rw [show nI i + (1 : Int32) = nI (i + 1) from nI_add i 1]
  refine va_sld hx hb hX hbl hbA hS (vp_in_nI (show i + 1 < L by omega) (by omega)) dL_law_254 ?_
  rw [show (nI (i + 1)).toNatClampNeg = i + 1 from nI_clamp (by omega)]
  refine lv_aload_n hx hb dL_law_255 rfl (lv_at hl 3 rfl) ?_
  refine lv_iload_n hx hb dL_law_256 rfl (lv_at hl 0 rfl) ?_
  refine lv_iconst (v := (2 : Int32)) hx hb dL_law_257 (by decide) ?_
  refine lv_iadd hx hb dL_law_258 ?_
  rw [show nI i + (2 : Int32) = nI (i + 2) from nI_add i 2]
  refine va_sld hx hb hX hbl hbA hS (vp_in_nI (show i + 2 < L by omega) (by omega)) dL_law_259 ?_
  rw [show (nI (i + 2)).toNatClampNeg = i + 2 from nI_clamp (by omega)]
  have hFc := va_free (wc := (zwM cI cB Mo Mp Ms Mj Ma)) hD hS hA [33, 34, 35, 36, 37, 38, 39, 40, 41, 42, 43, 44, 45, 46, 47, 48, 49, 50, 51, 52, 53, 54, 55] (zC_LM (cI := cI) (cB := cB) (cO := cO))
  refine zcm_i (w2 := (zfLW cI cB cO Xo Po Pp Go Gp No Np Qo Qp Ko Kp Lo Lp To Tp ra oo Mo Mp Xs Ps Pa Gs Ga Ns Na Qs Qa Ks Ka Ls La Ts Ta os Ms Mj Ma)) (va_runV (As := [.int (xs (i + 1)), .int (xs (i + 2))]) (rest := [.int v]) ⟨hx, hb, hml, hown, hts⟩ (c_X6_as l D cI cB cO Mo Mp Ms Mj Ma (xs (i + 1)) (xs (i + 2)) _ _ e2) (cwV 2 hts gL_law_X6_as rfl rfl rfl kV_X6_as ⟨Nat.le_of_ble_eq_true rfl, Nat.le_of_ble_eq_true rfl⟩) (zpreV hK hP hD hS hE hFc [33, 34, 35, 36, 37, 38, 39, 40, 41, 42, 43, 44, 45, 46, 47, 48, 49, 50, 51, 52, 53, 54, 55] (zC_LM (cI := cI) (cB := cB) (cO := cO)) rfl 33 (ci := 6) rfl rfl [.int (xs (i + 1)), .int (xs (i + 2))]) rfl rfl hl.1 rfl (lv_room (Nat.le_of_ble_eq_true rfl)) dL_law_260 ⟨Nat.le_of_ble_eq_true rfl, Nat.le_of_ble_eq_true rfl⟩) hS hFc (fun H1 t h1 h2 h3 => zM_LM (cI := cI) (cB := cB) (cO := cO) hP hD h1 h2 h3) (fun H locs hP hD hS => ?_)
  refine lv_icmp_eq (tgt := 696) hx hb dL_law_263 (by decide) (fun _ => ?_) (fun q => absurd rfl q)
  exact cont _ _ _ ⟨r, c, n, b, Xs, Ps, Pa, Gs, Ga, Ns, Na, Qs, Qa, Ks, Ka, Ls, La, Ts, Ta, os, Ms, Mj, Ma, by omega, hV', hP, hD, hS⟩ hl
