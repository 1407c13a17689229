/-! the law: loop, start -/
set_option maxHeartbeats 4000000 in
set_option maxRecDepth 100000 in
theorem law_loop {p : Program} {l : Launch} {e : Env} {s : State} {m : MethodId} {below : List Frame} {meth : Method} {cc : Code} {b0 L : Nat} {xs : Nat → Int32} {D : va_G} {cI cB cO : ClassId} {Xo : Nat} {Po : Nat} {Pp : Nat → Nat} {Go : Nat} {Gp : Nat → Nat} {No : Nat} {Np : Nat → Nat} {Qo : Nat} {Qp : Nat → Nat} {Ko : Nat} {Kp : Nat → Nat} {Lo : Nat} {Lp : Nat → Nat} {To : Nat} {Tp : Nat → Nat} {ra : Nat} {oo : Nat → Nat} {Mo : Nat} {Mp : Nat → Nat} (hL : L ≤ 2048) (C0 : lw_At p s m meth cc b0 L xs) (hK : va_K D vwCl (zTY cI cB cO) s) (hE : zEnv (fun q : Nat => s.heap.size ≤ q) s s.heap) : ∀ (k bd i : Nat) (H : Heap) (locs : List Loc) (ls : Array Slot), i + 4 * k = 4 * 514 → 4 * bd ≤ i → i ≤ L + 4 → lw_St D cI cB cO s Xo Po Pp Go Gp No Np Qo Qp Ko Kp Lo Lp To Tp ra oo Mo Mp bd H locs → lv_has ls 4 [(3, .int (nI i)), (2, .ref Mo), (1, .ref Xo), (0, .ref b0)] → W p l e room_1 s m #[Value.ref b0] below meth cc H locs 600000 7302250 (lw_Z below #[Value.ref b0] s) (F0 m 18 ls []) := by
  intro k
  induction k with
  | zero => intro bd i H locs ls h1 h2 h3; exact absurd h1 (by omega)
  | succ k ih =>
    intro bd i H locs ls h1 h2 h3 St hl
    obtain ⟨hx, hb, hr, hml, hown, hts0, hX, hbl, hlocks, hgv⟩ := id C0
    have hbA : ¬ (fun q : Nat => s.heap.size ≤ q) b0 := Nat.not_le.mpr hbl
    obtain ⟨r, c, n, b, Xs, Ps, Pa, Gs, Ga, Ns, Na, Qs, Qa, Ks, Ka, Ls, La, Ts, Ta, os, Ms, Mj, Ma, hbb, hV, hP, hD, hS⟩ := id St
    refine lv_iload_n hx hb dL_law_18 rfl (lv_at hl 0 rfl) ?_
    refine lv_aload_n hx hb dL_law_19 rfl (lv_at hl 3 rfl) ?_
    refine va_slen hx hb hX hbl hbA hS dL_law_20 ?_
    refine lv_iconst (v := (4 : Int32)) hx hb dL_law_21 (by decide) ?_
    refine lv_isub hx hb dL_law_22 ?_
    have hlt : (Int32.ofNat L - (4 : Int32) < nI i) ↔ L < i + 4 := by
      rw [Int32.lt_iff_toInt_lt, nI_toInt (show i < 2 ^ 31 by omega)]
      have e := pk_sub_toInt (a := L) (b := 4) (by omega) (by decide)
      have e2 : (Int32.ofNat L - (4 : Int32)).toInt = (L : Int) - 4 := e
      rw [e2]; omega
    refine lv_icmp_gt (tgt := 702) hx hb dL_law_23 (by decide) (fun q => ?_) (fun q => ?_)
    · refine lv_iconst (v := (1 : Int32)) hx hb dL_law_702 (by decide) ?_
      refine va_forget (fun q hq => hS.2.2 q hq) ?_
      exact lw_ret hx hb hr hlocks dL_law_703
    · have hi : i + 3 < L := by rw [hlt] at q; omega
      have back : ∀ (H : Heap) (locs : List Loc) (ls : Array Slot), lw_St D cI cB cO s Xo Po Pp Go Gp No Np Qo Qp Ko Kp Lo Lp To Tp ra oo Mo Mp (bd + 1) H locs → lv_has ls 4 [(3, .int (nI i)), (2, .ref Mo), (1, .ref Xo), (0, .ref b0)] → W p l e room_1 s m #[Value.ref b0] below meth cc H locs 600000 7302250 (lw_Z below #[Value.ref b0] s) (F0 m 696 ls []) := by
        intro H locs ls St hl
        have e4 : nI i + (4 : Int32) = nI (i + 4) := nI_add i 4
        refine lv_iinc (v := nI (i + 4)) (lv' := [(3, .int (nI (i + 4))), (2, .ref Mo), (1, .ref Xo), (0, .ref b0)]) hx hb dL_law_696 hl (k := 0) rfl e4 (by decide) rfl (fun ls hl => ?_)
        refine lv_goto (tgt := 18) hx hb dL_law_699 (by decide) ?_
        exact ih (bd + 1) (i + 4) H locs ls (by omega) (by omega) (by omega) St hl
      refine lv_aload_n hx hb dL_law_26 rfl (lv_at hl 3 rfl) ?_
      refine lv_iload_n hx hb dL_law_27 rfl (lv_at hl 0 rfl) ?_
      refine va_sld hx hb hX hbl hbA hS (vp_in_nI (show i < L by omega) (by omega)) dL_law_28 ?_
      refine lv_bipush (v := (31 : Int32)) hx hb dL_law_29 (by decide) ?_
      refine lv_iand hx hb dL_law_31 ?_
      obtain ⟨j, hj, ej⟩ := pk_andE (xs (nI i).toNatClampNeg) (m := 31) 5 (by decide)
      rw [ej]
      by_cases hj23 : j < 23
      · rcases (show j = 0 ∨ j = 1 ∨ j = 2 ∨ j = 3 ∨ j = 4 ∨ j = 5 ∨ j = 6 ∨ j = 7 ∨ j = 8 ∨ j = 9 ∨ j = 10 ∨ j = 11 ∨ j = 12 ∨ j = 13 ∨ j = 14 ∨ j = 15 ∨ j = 16 ∨ j = 17 ∨ j = 18 ∨ j = 19 ∨ j = 20 ∨ j = 21 ∨ j = 22 by omega) with rfl | rfl | rfl | rfl | rfl | rfl | rfl | rfl | rfl | rfl | rfl | rfl | rfl | rfl | rfl | rfl | rfl | rfl | rfl | rfl | rfl | rfl | rfl
        · refine lv_tableIn (off := 108) (tgt := 140) hx hb dL_law_32 (by decide) (by decide) rfl (by decide) ?_
          exact lw_c0 hL C0 hK hE (show bd < 1000 by omega) hi St hl back
        · refine lv_tableIn (off := 131) (tgt := 163) hx hb dL_law_32 (by decide) (by decide) rfl (by decide) ?_
          exact lw_c1 hL C0 hK hE (show bd < 1000 by omega) hi St hl back
        · refine lv_tableIn (off := 144) (tgt := 176) hx hb dL_law_32 (by decide) (by decide) rfl (by decide) ?_
          exact lw_c2 hL C0 hK hE (show bd < 1000 by omega) hi St hl back
        · refine lv_tableIn (off := 157) (tgt := 189) hx hb dL_law_32 (by decide) (by decide) rfl (by decide) ?_
          exact lw_c3 hL C0 hK hE (show bd < 1000 by omega) hi St hl back
        · refine lv_tableIn (off := 170) (tgt := 202) hx hb dL_law_32 (by decide) (by decide) rfl (by decide) ?_
          exact lw_c4 hL C0 hK hE (show bd < 1000 by omega) hi St hl back
        · refine lv_tableIn (off := 203) (tgt := 235) hx hb dL_law_32 (by decide) (by decide) rfl (by decide) ?_
          exact lw_c5 hL C0 hK hE (show bd < 1000 by omega) hi St hl back
        · refine lv_tableIn (off := 236) (tgt := 268) hx hb dL_law_32 (by decide) (by decide) rfl (by decide) ?_
          exact lw_c6 hL C0 hK hE (show bd < 1000 by omega) hi St hl back
        · refine lv_tableIn (off := 269) (tgt := 301) hx hb dL_law_32 (by decide) (by decide) rfl (by decide) ?_
          exact lw_c7 hL C0 hK hE (show bd < 1000 by omega) hi St hl back
        · refine lv_tableIn (off := 302) (tgt := 334) hx hb dL_law_32 (by decide) (by decide) rfl (by decide) ?_
          exact lw_c8 hL C0 hK hE (show bd < 1000 by omega) hi St hl back
        · refine lv_tableIn (off := 335) (tgt := 367) hx hb dL_law_32 (by decide) (by decide) rfl (by decide) ?_
          exact lw_c9 hL C0 hK hE (show bd < 1000 by omega) hi St hl back
        · refine lv_tableIn (off := 358) (tgt := 390) hx hb dL_law_32 (by decide) (by decide) rfl (by decide) ?_
          exact lw_c10 hL C0 hK hE (show bd < 1000 by omega) hi St hl back
        · refine lv_tableIn (off := 381) (tgt := 413) hx hb dL_law_32 (by decide) (by decide) rfl (by decide) ?_
          exact lw_c11 hL C0 hK hE (show bd < 1000 by omega) hi St hl back
        · refine lv_tableIn (off := 414) (tgt := 446) hx hb dL_law_32 (by decide) (by decide) rfl (by decide) ?_
          exact lw_c12 hL C0 hK hE (show bd < 1000 by omega) hi St hl back
        · refine lv_tableIn (off := 437) (tgt := 469) hx hb dL_law_32 (by decide) (by decide) rfl (by decide) ?_
          exact lw_c13 hL C0 hK hE (show bd < 1000 by omega) hi St hl back
        · refine lv_tableIn (off := 460) (tgt := 492) hx hb dL_law_32 (by decide) (by decide) rfl (by decide) ?_
          exact lw_c14 hL C0 hK hE (show bd < 1000 by omega) hi St hl back
        · refine lv_tableIn (off := 473) (tgt := 505) hx hb dL_law_32 (by decide) (by decide) rfl (by decide) ?_
          exact lw_c15 hL C0 hK hE (show bd < 1000 by omega) hi St hl back
        · refine lv_tableIn (off := 486) (tgt := 518) hx hb dL_law_32 (by decide) (by decide) rfl (by decide) ?_
          exact lw_c16 hL C0 hK hE (show bd < 1000 by omega) hi St hl back
        · refine lv_tableIn (off := 545) (tgt := 577) hx hb dL_law_32 (by decide) (by decide) rfl (by decide) ?_
          exact lw_c17 hL C0 hK hE (show bd < 1000 by omega) hi St hl back
        · refine lv_tableIn (off := 558) (tgt := 590) hx hb dL_law_32 (by decide) (by decide) rfl (by decide) ?_
          exact lw_c18 hL C0 hK hE (show bd < 1000 by omega) hi St hl back
        · refine lv_tableIn (off := 601) (tgt := 633) hx hb dL_law_32 (by decide) (by decide) rfl (by decide) ?_
          exact lw_c19 hL C0 hK hE (show bd < 1000 by omega) hi St hl back
        · refine lv_tableIn (off := 614) (tgt := 646) hx hb dL_law_32 (by decide) (by decide) rfl (by decide) ?_
          exact lw_c20 hL C0 hK hE (show bd < 1000 by omega) hi St hl back
        · refine lv_tableIn (off := 627) (tgt := 659) hx hb dL_law_32 (by decide) (by decide) rfl (by decide) ?_
          exact lw_c21 hL C0 hK hE (show bd < 1000 by omega) hi St hl back
        · refine lv_tableIn (off := 650) (tgt := 682) hx hb dL_law_32 (by decide) (by decide) rfl (by decide) ?_
          exact lw_c22 hL C0 hK hE (show bd < 1000 by omega) hi St hl back
      · refine lv_tableOut (tgt := 696) hx hb dL_law_32 (Or.inr ?_) (by decide) ?_
        · rw [nI_toInt (show j < 2 ^ 31 by omega)]; omega
        · refine back _ _ _ ?_ hl
          exact ⟨r, c, n, b, Xs, Ps, Pa, Gs, Ga, Ns, Na, Qs, Qa, Ks, Ka, Ls, La, Ts, Ta, os, Ms, Mj, Ma, by omega, hV, hP, hD, hS⟩
