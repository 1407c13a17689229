/-! pure: jump, courses, wins, mean -/
theorem zbs_x {α β ρ : Type} {o : Option (α ⊕ β)} {k1 : α → Option ρ} {k2 : β → Option ρ} {R : ρ → Prop} (P : α ⊕ β → Prop) (h : ∃ z, o = some z ∧ P z) (h1 : ∀ a, P (.inl a) → ∃ r, k1 a = some r ∧ R r) (h2 : ∀ b, P (.inr b) → ∃ r, k2 b = some r ∧ R r) : ∃ r, zbs o k1 k2 = some r ∧ R r := by
  obtain ⟨z, e, hz⟩ := h
  rw [e]
  cases z with
  | inl a => exact h1 a hz
  | inr b => exact h2 b hz
theorem y_dir {r c n : Nat} {s gs : Nat → Int32} {a ga : Nat → Nat → Int32} (hB : yB r c) (hG : yG r c gs ga) (hS : yS (r * c) n s a) {p t : Nat} (hp : p < n) (ht : t < r * c) : ∃ v, fX4_directionTo s a gs ga (nI p) (nI t) = some v ∧ ((v = -1 ∧ ytj c n (a 5) (a 6) (s 1) p t = none) ∨ ∃ d m, d < 8 ∧ v = nI d ∧ yd r c n (a 5) (a 6) (s 1) p d = some (t, m)) := by
  have h12 := hB.2.2.2.2
  unfold fX4_directionTo
  refine zbs_x (fun z => (∃ d m, d < 8 ∧ z = .inl (nI d) ∧ yd r c n (a 5) (a 6) (s 1) p d = some (t, m)) ∨ (z = .inr () ∧ ∀ d, d < 8 → ∀ m, yd r c n (a 5) (a 6) (s 1) p d ≠ some (t, m))) ?_ ?_ ?_
  · refine zf1 (fun k x => x = nI k ∧ ∀ d, d < k → ∀ m, yd r c n (a 5) (a 6) (s 1) p d ≠ some (t, m)) _ 8 ?_ ?_ 0 (Nat.zero_le _) ⟨rfl, fun d hd => absurd hd (Nat.not_lt_zero d)⟩
    · rintro k x hk ⟨rfl, h1⟩
      rw [if_neg (y8g hk), zjn_e, if_neg (y_nIm t (by omega)), y_target hB hG hS hp hk, zb1_e, nI_1]
      cases hx : yd r c n (a 5) (a 6) (s 1) p k with
      | none =>
        rw [show yI (Option.map Prod.fst (none : Option (Nat × Nat))) = -1 from rfl, if_neg (y_mnI t (by omega))]
        refine Or.inl ⟨_, rfl, rfl, fun d hd m => ?_⟩
        by_cases e : d = k
        · subst e; rw [hx]; intro q; cases q
        · exact h1 d (by omega) m
      | some x =>
        obtain ⟨t', m'⟩ := x
        have hl := (yd_lt hx).1
        change t' < r * c at hl
        rw [show yI (Option.map Prod.fst (some (t', m'))) = nI t' from rfl]
        by_cases e : t' = t
        · subst e
          rw [if_pos rfl]
          exact Or.inr ⟨_, rfl, Or.inl ⟨k, m', hk, rfl, hx⟩⟩
        · rw [if_neg (fun q => e (y_i (by omega) (by omega) q))]
          refine Or.inl ⟨_, rfl, rfl, fun d hd m => ?_⟩
          by_cases e2 : d = k
          · subst e2
            rw [hx]
            intro q
            exact e (congrArg Prod.fst (Option.some.inj q))
          · exact h1 d (by omega) m
    · rintro x ⟨rfl, h1⟩
      rw [if_pos y8p]
      exact ⟨_, rfl, Or.inr ⟨rfl, h1⟩⟩
  · rintro v (⟨d, m, h1, h2, h3⟩ | ⟨h1, _⟩)
    · exact ⟨_, rfl, Or.inr ⟨d, m, h1, Sum.inl.inj h2, h3⟩⟩
    · cases h1
  · rintro v (⟨d, m, h1, h2, h3⟩ | ⟨_, h1⟩)
    · cases h2
    · refine ⟨_, rfl, Or.inl ⟨rfl, ?_⟩⟩
      cases hx : ytj c n (a 5) (a 6) (s 1) p t with
      | none => rfl
      | some x =>
        exfalso
        have hm := yJ_in ht hx
        have ex := ytj_t hx
        rw [← yJ_d hB hS.2.2.2.1 hp] at hm
        obtain ⟨d, d1, d2⟩ := List.mem_filterMap.mp hm
        obtain ⟨t', m'⟩ := x
        change t' = t at ex
        rw [ex] at d2
        exact h1 d (List.mem_range.mp d1) m' d2
theorem y_jump {r c n b : Nat} {Xs Ps : Nat → Int32} {Pa : Nat → Nat → Int32} {Gs : Nat → Int32} {Ga : Nat → Nat → Int32} {Ns : Nat → Int32} {Na : Nat → Nat → Int32} {Qs : Nat → Int32} {Qa : Nat → Nat → Int32} {Ks : Nat → Int32} {Ka : Nat → Nat → Int32} {Ls : Nat → Int32} {La : Nat → Nat → Int32} {os : Nat → Nat → Int32} {Ms : Nat → Int32} {Ma : Nat → Nat → Int32} (h : yIV r c n b Xs Ps Pa Gs Ga Ns Na Qs Qa Ks Ka Ls La os Ms Ma) (x w : Int32) : ∃ v X' N' A' M' B', fX5_jump Xs Gs Ga Ns Na x w = some (v, X', N', A') ∧ fX6_jump Ms Ma x w = some (v, M', B') ∧ yIV r c n b X' Ps Pa Gs Ga N' A' Qs Qa Ks Ka Ls La os M' B' := by
  have hV := h.1
  have hG := h.2.1
  have hM := h.2.2.1
  have hS := h.2.2.2.1
  have hn := hS.1.2.1
  have h12 := yV_12 hV
  unfold fX5_jump fX6_jump
  rw [y_isPeg hS.1.1 hn, zb1_e, y_mIsPeg hM.2.2.2.2 hn, zb1_e]
  cases hp : zin x n with
  | false => rw [yb_f, if_pos rfl, if_pos rfl]; exact ⟨_, _, _, _, _, _, rfl, rfl, h⟩
  | true =>
    obtain ⟨p, hp', rfl⟩ := y_zinE hp (by omega)
    have hB := yV_n hV (by omega)
    rw [yb_t, if_neg n10, if_neg n10, y_has hG.2.2.1 h12, zb1_e, y_mIsPlace hM.2.2.1 hM.2.2.2.1 h12, zb1_e]
    cases hw : zin w (r * c) with
    | false => rw [yb_f, if_pos rfl, if_pos rfl]; exact ⟨_, _, _, _, _, _, rfl, rfl, h⟩
    | true =>
      obtain ⟨t, ht, rfl⟩ := y_zinE hw (by omega)
      have hMM := yVS_M hM hS
      obtain ⟨B, hB', B1, B2⟩ := y_putDeep (s := Ms) (a := Ma) hM.2.2.2.2 hn
      have hMB : yM r c n (Ns 1) (Na 5) Ms B := yM_c hMM (B1 5 (by decide))
      have hR : yR n 0 (Na 6) B := fun j hj => (B2 j hj).trans (hS.2.2.2.2.2.2 j hj)
      have hJ : fX6_isJump Ms B (0 : Int32) (nI p) (nI t) = some (yb (ytj c n (Na 5) (Na 6) (Ns 1) p t).isSome) := y_isJump (d := 0) hB hMB hR hS.1.2.2.2.1 (by decide) hp' ht
      obtain ⟨v, hv, hv2⟩ := y_dir hB hG hS.1 hp' ht
      obtain ⟨j, hj, ej⟩ := hS.2.2.1
      have ej2 : Ms 7 = nI j := hS.2.2.2.2.1.trans ej
      rw [yb_t, if_neg n10, if_neg n10, hv, zb1_e, hB', zb1_e, hJ, zb1_e]
      rcases hv2 with ⟨rfl, hno⟩ | ⟨d, m, hd, rfl, hx⟩
      · rw [if_pos rfl, hno]
        exact ⟨_, _, _, _, _, _, rfl, rfl, yI_a h (fun i hi => B1 i (by omega))⟩
      · have hxm := yd_in hB hS.1.2.2.2.1 hp' hd hx
        have htj := (yJ_mem hxm).2
        change ytj c n (Na 5) (Na 6) (Ns 1) p t = some (t, m) at htj
        rw [if_neg (y_nIm d (by omega)), htj]
        show ∃ v X' N' A' M' B', _ = some (v, X', N', A') ∧ (if (1 : Int32) = 0 then _ else _) = some (v, M', B') ∧ _
        rw [if_neg n10, ej, ej2]
        by_cases hj9 : j < 999
        · rw [if_pos (show nI j < 999 from nI_lt (b := 999) hj9 (by decide)), if_neg (show ¬ nI j = 999 from fun e => by have := y_i (b := 999) (by omega) (by decide) e; omega)]
          obtain ⟨l1, s', a', l2, l3, l4, l5, l6, l7, l8, l9, _, _⟩ := y_leap hB hG hS.1 hp' hd hx
          obtain ⟨C, hC, C1, C2, C3⟩ := y_goDeep (d := 0) hB hMB hR hS.1.2.2.2.1 (by decide) hp' hxm
          have hC' : fX6_goDeep Ms B (0 : Int32) (nI p) (nI t) = some C := hC
          rw [l1, zb1_e, l2, zb2_e, zlt_e, zlt_e, hC', zb1_e, hM.2.2.2.2]
          have hloop : ∃ z, zi2 (fun (x3_58h : Int32) (Ma_58h : Nat → Nat → Int32) => if nI n ≤ x3_58h then some (.inr Ma_58h) else zck (zin ((8 : Int32) + x3_58h) 72) (zck (zin x3_58h 8) (zlt (va_up Ma_58h 6 (upd (Ma_58h 6) (x3_58h).toNatClampNeg ((Ma_58h 17) (((8 : Int32) + x3_58h)).toNatClampNeg))) (fun (Ma_19 : Nat → Nat → Int32) => some (.inl ((x3_58h + (1 : Int32)), Ma_19)))))) (0 : Int32) C = some z ∧ (∀ i, i ≠ 6 → z i = C i) ∧ ∀ q, q < n → z 6 q = C 17 (8 + q) := by
            refine zf2 (fun k x A => x = nI k ∧ (∀ i, i ≠ 6 → A i = C i) ∧ ∀ q, q < k → A 6 q = C 17 (8 + q)) _ n ?_ ?_ 0 (Nat.zero_le _) ⟨rfl, fun _ _ => rfl, fun q hq => absurd hq (Nat.not_lt_zero q)⟩
            · rintro k x A hk ⟨rfl, h1, h2⟩
              have e8 : (8 : Int32) + nI k = nI (8 + k) := by rw [show (8 : Int32) = nI 8 from rfl, nI_add]
              refine Or.inl ?_
              rw [if_neg (nI_ge hk (by omega)), e8, y_zin (show 8 + k < 72 by omega) (by decide), zck_e, y_zin (show k < 8 by omega) (by decide), zck_e, zlt_e, nI_clamp (show k < 2 ^ 31 by omega), nI_clamp (show 8 + k < 2 ^ 31 by omega), nI_1]
              refine ⟨_, _, rfl, rfl, fun i hi => by rw [y_vn hi]; exact h1 i hi, fun q hq => ?_⟩
              rw [y_vu]
              by_cases e : q = k
              · subst e; rw [y_uu, h1 17 (by decide)]
              · rw [y_un e]; exact h2 q (by omega)
            · rintro x A ⟨rfl, h1, h2⟩
              exact ⟨A, by rw [if_pos (nI_le (Nat.le_refl n) (by omega))], h1, h2⟩
          obtain ⟨D, hD, D1, D2⟩ := hloop
          rw [hD, zb1_e, zlt_e]
          have hcnt : fX6_onBoard (upd Ms 7 (nI j + 1)) D (1 : Int32) = some (nI (yc n (a' 6))) := by
            have := y_onBoard (s := upd Ms 7 (nI j + 1)) (a := D) (n := n) (d := 1) (by rw [y_un (by decide)]; exact hM.2.2.2.2) hn (by decide)
            rw [yc_congr (h' := a' 6) (fun q hq => by rw [D1 17 (by decide), l8]; exact C3 q hq)] at this
            exact this
          rw [hcnt, zb1_e, y_un (show (3 : Nat) ≠ 4 by decide), l3.2.2.2.2.2]
          refine ⟨_, _, _, _, _, _, rfl, rfl, yIV_f h (fun i hi => y_un hi) (fun i _ i7 => y_un i7) (fun i _ i6 hi => by rw [D1 i i6, C1 i (by omega), B1 i (by omega)]) ?_ (Or.inl y_uu)⟩
          refine ⟨?_, ?_, ⟨j + 1, by omega, ?_⟩, ?_, ?_, fun q hq => ?_, fun q hq => ?_⟩
          · obtain ⟨z2, z3, z4, z5, z6, z7⟩ := l3
            exact ⟨by rw [y_un (by decide)]; exact z2, z3, z4, z5, z6, by rw [y_un (by decide)]; exact z7⟩
          · rw [y_un (by decide), l4]; exact hS.2.1
          · rw [y_uu, l6, ej, nI_1]
          · rw [y_un (by decide), y_un (by decide), l4]; exact hS.2.2.2.1
          · rw [y_uu, y_uu, l6, ej]
          · rw [D1 5 (by decide), C1 5 (by decide), B1 5 (by decide), l7]; exact hS.2.2.2.2.2.1 q hq
          · rw [D2 q hq, l8]; exact C3 q hq
        · have e9 : j = 999 := by omega
          subst e9
          rw [if_neg (show ¬ nI 999 < 999 by decide), if_pos (show nI 999 = 999 from rfl)]
          exact ⟨_, _, _, _, _, _, rfl, rfl, yI_a h (fun i hi => B1 i (by omega))⟩
theorem y_courses {r c n b : Nat} {Xs Ps : Nat → Int32} {Pa : Nat → Nat → Int32} {Gs : Nat → Int32} {Ga : Nat → Nat → Int32} {Ns : Nat → Int32} {Na : Nat → Nat → Int32} {Qs : Nat → Int32} {Qa : Nat → Nat → Int32} {Ks : Nat → Int32} {Ka : Nat → Nat → Int32} {Ls : Nat → Int32} {La : Nat → Nat → Int32} {os : Nat → Nat → Int32} {Ms : Nat → Int32} {Ma : Nat → Nat → Int32} (h : yIV r c n b Xs Ps Pa Gs Ga Ns Na Qs Qa Ks Ka Ls La os Ms Ma) (hb : b < 2 ^ 31) (Ts : Nat → Int32) (Ta : Nat → Nat → Int32) (x : Int32) : ∃ v X' T' U' os' B', fX5_courses Xs Gs Ga Ns Na Ts Ta os x = some (v, X', T', U', os') ∧ fX6_courses Ms Ma x = some (v, B') ∧ yIV r c n b X' Ps Pa Gs Ga Ns Na Qs Qa Ks Ka Ls La os' Ms B' ∧ (n ≠ 0 → zin x 6 = true → fX6_coursesNow Ms Ma x = some (v, B')) := by
  have hV := h.1
  have hG := h.2.1
  have hM := h.2.2.1
  have hS := h.2.2.2.1
  have hO := h.2.2.2.2.2.2.2.2
  have hn := hS.1.2.1
  have hnb := yV_b hV
  unfold fX5_courses fX6_courses
  rw [y_rle (N := 5) rfl, y_w (N := 5) rfl, zb1_e]
  cases hx : zin x (5 + 1) with
  | false => rw [yb_f, if_pos rfl, if_neg (by decide)]; exact ⟨_, _, _, _, _, _, rfl, rfl, h, fun _ q => by cases q⟩
  | true =>
    rw [yb_t, if_neg n10, if_pos rfl, hM.1, hM.2.2.2.2]
    by_cases n0 : n = 0
    · have b0 : b = 0 := by omega
      subst n0; subst b0; rw [if_pos (show nI 0 = 0 from rfl), if_pos (show nI 0 = 0 from rfl)]
      exact ⟨_, _, _, _, _, _, rfl, rfl, h, fun q => absurd rfl q⟩
    · have hB := yV_n hV (by omega)
      rw [if_neg (nI_ne0 (show 0 < b by omega) hb), if_neg (nI_ne0 (show 0 < n by omega) (by omega))]
      obtain ⟨z, hz, z1, z2, z3⟩ := y_lookAhead (Ts := Ts) (Ta := Ta) hB hG hS.1 hO
      obtain ⟨y, hy, y1, y2⟩ := y_coursesNow hB (yVS_M hM hS) hS.1.2.2.2.1 hS.2.2.2.2.2.2 x
      obtain ⟨v, B⟩ := y
      obtain ⟨X', T', U', os'⟩ := z
      change v = _ at y1
      change yE (os' 0) _ at z3
      change X' 10 = 1 at z1
      rw [hz, zb4_e, hy, zb2_e, z3 1 (by decide), z3 2 (by decide), z3 3 (by decide), z3 4 (by decide), z3 5 (by decide), z3 6 (by decide)]
      refine ⟨v, X', T', U', os', B, ?_, rfl, yIV_f h z2 (fun _ _ _ => rfl) (fun i _ _ hi => y2 i hi) ?_ (Or.inr ⟨z1, z3⟩), fun _ _ => rfl⟩
      · rw [y1]
        unfold ycw
        repeat' split
        all_goals rfl
      · have f5 : B 5 = Ma 5 := y2 5 (by omega)
        have f6 : B 6 = Ma 6 := y2 6 (by omega)
        rw [f5, f6]
        exact hS
theorem y_wins {r c n b : Nat} {Xs Ps : Nat → Int32} {Pa : Nat → Nat → Int32} {Gs : Nat → Int32} {Ga : Nat → Nat → Int32} {Ns : Nat → Int32} {Na : Nat → Nat → Int32} {Qs : Nat → Int32} {Qa : Nat → Nat → Int32} {Ks : Nat → Int32} {Ka : Nat → Nat → Int32} {Ls : Nat → Int32} {La : Nat → Nat → Int32} {os : Nat → Nat → Int32} {Ms : Nat → Int32} {Ma : Nat → Nat → Int32} (h : yIV r c n b Xs Ps Pa Gs Ga Ns Na Qs Qa Ks Ka Ls La os Ms Ma) (hb : b < 2 ^ 31) (Ts : Nat → Int32) (Ta : Nat → Nat → Int32) (x : Int32) : ∃ v X' T' U' os' B', fX5_wins Xs Gs Ga Ns Na Ts Ta os x = some (v, X', T', U', os') ∧ fX6_wins Ms Ma x = some (v, B') ∧ yIV r c n b X' Ps Pa Gs Ga Ns Na Qs Qa Ks Ka Ls La os' Ms B' ∧ (n ≠ 0 → zin x 2 = true → fX6_winsNow Ms Ma x = some (v, B')) := by
  have hV := h.1
  have hG := h.2.1
  have hM := h.2.2.1
  have hS := h.2.2.2.1
  have hO := h.2.2.2.2.2.2.2.2
  have hn := hS.1.2.1
  have hnb := yV_b hV
  unfold fX5_wins fX6_wins
  rw [y_rle (N := 1) rfl, y_w (N := 1) rfl, zb1_e]
  cases hx : zin x (1 + 1) with
  | false => rw [yb_f, if_pos rfl, if_neg (by decide)]; exact ⟨_, _, _, _, _, _, rfl, rfl, h, fun _ q => by cases q⟩
  | true =>
    rw [yb_t, if_neg n10, if_pos rfl, hM.1, hM.2.2.2.2]
    by_cases n0 : n = 0
    · have b0 : b = 0 := by omega
      subst n0; subst b0; rw [if_pos (show nI 0 = 0 from rfl), if_pos (show nI 0 = 0 from rfl)]
      exact ⟨_, _, _, _, _, _, rfl, rfl, h, fun q => absurd rfl q⟩
    · have hB := yV_n hV (by omega)
      rw [if_neg (nI_ne0 (show 0 < b by omega) hb), if_neg (nI_ne0 (show 0 < n by omega) (by omega))]
      obtain ⟨z, hz, z1, z2, z3⟩ := y_lookAhead (Ts := Ts) (Ta := Ta) hB hG hS.1 hO
      obtain ⟨y, hy, y1, y2⟩ := y_winsNow hB (yVS_M hM hS) hS.1.2.2.2.1 hS.2.2.2.2.2.2 x
      obtain ⟨v, B⟩ := y
      obtain ⟨X', T', U', os'⟩ := z
      change v = _ at y1
      change yE (os' 0) _ at z3
      change X' 10 = 1 at z1
      rw [hz, zb4_e, hy, zb2_e, z3 7 (by decide)]
      refine ⟨v, X', T', U', os', B, ?_, rfl, yIV_f h z2 (fun _ _ _ => rfl) (fun i _ _ hi => y2 i hi) ?_ (Or.inr ⟨z1, z3⟩), fun _ _ => rfl⟩
      · rw [y1]
        unfold yww
        repeat' split
        all_goals rfl
      · have f5 : B 5 = Ma 5 := y2 5 (by omega)
        have f6 : B 6 = Ma 6 := y2 6 (by omega)
        rw [f5, f6]
        exact hS
theorem y_mean {r c n b : Nat} {Xs Ps : Nat → Int32} {Pa : Nat → Nat → Int32} {Gs : Nat → Int32} {Ga : Nat → Nat → Int32} {Ns : Nat → Int32} {Na : Nat → Nat → Int32} {Qs : Nat → Int32} {Qa : Nat → Nat → Int32} {Ks : Nat → Int32} {Ka : Nat → Nat → Int32} {Ls : Nat → Int32} {La : Nat → Nat → Int32} {os : Nat → Nat → Int32} {Ms : Nat → Int32} {Ma : Nat → Nat → Int32} (h : yIV r c n b Xs Ps Pa Gs Ga Ns Na Qs Qa Ks Ka Ls La os Ms Ma) (hb : b < 2 ^ 31) (Ts : Nat → Int32) (Ta : Nat → Nat → Int32) : ∃ v X' T' U' os' B', fX5_mean Xs Gs Ga Ns Na Ts Ta os = some (v, X', T', U', os') ∧ fX6_mean Ms Ma = some (v, B') ∧ yIV r c n b X' Ps Pa Gs Ga Ns Na Qs Qa Ks Ka Ls La os' Ms B' ∧ (n ≠ 0 → fX6_meanNow Ms Ma = some (v, B')) := by
  have hV := h.1
  have hG := h.2.1
  have hM := h.2.2.1
  have hS := h.2.2.2.1
  have hO := h.2.2.2.2.2.2.2.2
  have hn := hS.1.2.1
  have hnb := yV_b hV
  unfold fX5_mean fX6_mean
  rw [hM.1, hM.2.2.2.2]
  by_cases n0 : n = 0
  · have b0 : b = 0 := by omega
    subst n0; subst b0; rw [if_pos (show nI 0 = 0 from rfl), if_pos (show nI 0 = 0 from rfl)]
    exact ⟨_, _, _, _, _, _, rfl, rfl, h, fun q => absurd rfl q⟩
  · have hB := yV_n hV (by omega)
    rw [if_neg (nI_ne0 (show 0 < b by omega) hb), if_neg (nI_ne0 (show 0 < n by omega) (by omega))]
    obtain ⟨z, hz, z1, z2, z3⟩ := y_lookAhead (Ts := Ts) (Ta := Ta) hB hG hS.1 hO
    obtain ⟨y, hy, y1, y2⟩ := y_meanNow hB (yVS_M hM hS) hS.1.2.2.2.1 hS.2.2.2.2.2.2
    obtain ⟨v, B⟩ := y
    obtain ⟨X', T', U', os'⟩ := z
    change v = _ at y1
    change yE (os' 0) _ at z3
    change X' 10 = 1 at z1
    rw [hz, zb4_e, hy, zb2_e, z3 8 (by decide), ← y1]
    refine ⟨v, X', T', U', os', B, rfl, rfl, yIV_f h z2 (fun _ _ _ => rfl) (fun i _ _ hi => y2 i hi) ?_ (Or.inr ⟨z1, z3⟩), fun _ => rfl⟩
    have f5 : B 5 = Ma 5 := y2 5 (by omega)
    have f6 : B 6 = Ma 6 := y2 6 (by omega)
    rw [f5, f6]
    exact hS
