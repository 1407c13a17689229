/-! pure: one more peg; add -/
theorem yS_add {pl n : Nat} {s : Nat → Int32} {a : Nat → Nat → Int32} (hpl : pl ≤ 12) (hS : yS pl n s a) (hn : n + 1 ≤ 8) {k : Nat} (hk : k < 5) : yS pl (n + 1) (upd s 2 (nI (n + 1))) (va_up (va_up a 5 (upd (a 5) n (nI k))) 6 (upd (a 6) n (-1))) := by
  obtain ⟨h2, hn8, hk5, hH, h7, h3⟩ := hS
  have eh : ∀ p, p < n → upd (a 6) n (-1) p = a 6 p := fun p hp => y_un (by omega)
  refine ⟨y_uu, hn, fun p hp => ?_, ?_, fun q hq => ?_, ?_⟩
  · rw [y_vn (by decide), y_vu]
    by_cases e : p = n
    · rw [e, y_uu]; exact ⟨k, hk, rfl⟩
    · rw [y_un e]; exact hk5 p (by omega)
  · rw [y_vu]
    refine ⟨fun p hp => ?_, fun p p' hp hp' e hm => ?_⟩
    · by_cases e : p = n
      · rw [e, y_uu]; exact Or.inl rfl
      · rw [y_un e]; exact hH.1 p (by omega)
    · by_cases e1 : p = n
      · rw [e1, y_uu] at hm; exact absurd rfl hm
      · by_cases e2 : p' = n
        · rw [e, e2, y_uu] at hm; exact absurd rfl hm
        · rw [y_un e1, y_un e2] at e
          rw [y_un e1] at hm
          exact hH.2 p p' (by omega) (by omega) e hm
  · rw [y_vn (by decide), y_vn (by decide), y_vu, h7 q hq]
    show yn n (a 6) (nI q) = (if upd (a 6) n (-1) n = nI q then nI n else yn n (upd (a 6) n (-1)) (nI q))
    rw [y_uu, if_neg (y_mnI q (by omega)), yn_congr eh]
  · rw [y_vu, y_un (by decide), h3]
    show _ = nI (yc n (upd (a 6) n (-1)) + (if upd (a 6) n (-1) n = -1 then 0 else 1))
    rw [y_uu, if_pos rfl, yc_congr eh, Nat.add_zero]
theorem y_addPeg {r c pl n : Nat} {s gs : Nat → Int32} {a ga : Nat → Nat → Int32} (hG : yG r c gs ga) (h12 : r * c ≤ 12) (hpl : pl ≤ r * c) (hS : yS pl n s a) (hn : n + 1 ≤ 8) {k q : Nat} (hk : k < 5) (hq : q < pl) (hfree : yn n (a 6) (nI q) = -1) : ∃ s' a', fX4_addPeg s a gs (nI k) (nI q) = some (s', a') ∧ yS pl (n + 1) s' a' ∧ s' 1 = s 1 ∧ s' 4 = s 4 ∧ a' 5 = upd (a 5) n (nI k) ∧ a' 6 = upd (a 6) n (nI q) := by
  have S1 := yS_add (k := k) (by omega) hS hn hk
  unfold fX4_addPeg
  rw [if_neg (y_nIm k (by omega)), hS.1, if_neg (nI_pos (show n < 2 ^ 31 by omega)), if_pos (show nI n < 8 from nI_lt (b := 8) (by omega) (by decide)), zlt_e, zlt_e, y_zin (show n < 8 by omega) (by decide), zck_e, zlt_e, zck_e, zlt_e, nI_clamp (show n < 2 ^ 31 by omega), nI_1, y_vn (show (6 : Nat) ≠ 5 by decide), y_set hG h12 S1.1 hn (show n < n + 1 by omega) (show q < r * c by omega), zb2_e]
  have f6 : va_up (va_up a 5 (upd (a 5) n (nI k))) 6 (upd (a 6) n (-1)) 6 = upd (a 6) n (-1) := y_vu
  have S2 := yS_set (p := n) (t := q) (by omega) S1 (by omega) hq (by rw [f6, y_uu]) (by
    rw [f6]
    show (if upd (a 6) n (-1) n = nI q then nI n else yn n (upd (a 6) n (-1)) (nI q)) = -1
    rw [y_uu, if_neg (y_mnI q (by omega)), yn_congr (h' := a 6) (fun p hp => y_un (by omega)), hfree])
  refine ⟨_, _, rfl, S2, ?_, ?_, ?_, ?_⟩
  · rw [y_un (by decide), y_un (by decide)]
  · rw [y_un (by decide), y_un (by decide)]
  · rw [y_vn (by decide), y_vn (by decide), y_vn (by decide), y_vu]
  · rw [y_vn (by decide), y_vu, f6]
    funext j
    by_cases e : j = n
    · rw [e, y_uu, y_uu]
    · rw [y_un e, y_un e, y_un e]
theorem y_fewest {r c n : Nat} {Gs Ns Ts : Nat → Int32} {Ga Na Ta os : Nat → Nat → Int32} (hB : yB r c) (hG : yG r c Gs Ga) (hS : yS (r * c) n Ns Na) (hn : n + 1 ≤ 8) {q : Nat} (hq : q < r * c) (hfree : yn n (Na 6) (nI q) = -1) : ∃ T U O, fX5_fewestWithOneMore Gs Ga Ns Na Ts Ta os (nI q) = some (yOut r c (n + 1) (upd (Na 5) n 0) (Ns 1) 8 (upd (Na 6) n (nI q)) 1, T, U, O) := by
  have h12 := hB.2.2.2.2
  unfold fX5_fewestWithOneMore
  obtain ⟨z, hz, z1, z2, z3, z4, z5, z6, z7⟩ := y_copy Ts Ta Ns Na
  obtain ⟨S, A⟩ := z
  change ∀ p, p < 8 → A 5 p = Na 5 p at z5
  change ∀ p, p < 8 → A 6 p = Na 6 p at z6
  change S 1 = Ns 1 at z1
  have hS' : yS (r * c) n S A := yS_c hS z2 z3 (fun p hp => z5 p (by omega)) (fun p hp => z6 p (by omega)) (fun j hj => z7 j (by omega))
  obtain ⟨s', a', e1, e2, e3, e4, e5, e6⟩ := y_addPeg hG h12 (Nat.le_refl _) hS' hn (show 0 < 5 by decide) hq (by rw [yn_congr (h' := Na 6) (fun p hp => z6 p (by omega))]; exact hfree)
  have e1' : fX4_addPlain S A Gs (nI q) = some (s', a') := by
    unfold fX4_addPlain
    rw [show fX4_addPeg S A Gs (0 : Int32) (nI q) = some (s', a') from e1, zb2_e]
  obtain ⟨w, hw, w1, w2, w3, w4⟩ := y_look_0 hB hG e2 (by have := yc_le (n + 1) (a' 6); omega) os
  obtain ⟨w1', w2', w3'⟩ := w
  change yE (w3' 0) _ at w4
  rw [hz, zb2_e, e1', zb2_e, hw, zb3_e, w4 1 (by decide)]
  have e : yOut r c (n + 1) (a' 5) (s' 1) 8 (a' 6) = yOut r c (n + 1) (upd (Na 5) n 0) (Ns 1) 8 (upd (Na 6) n (nI q)) := by
    rw [e3, z1]
    refine yOut_c hn (fun p hp => ?_) 8 _ _ (fun p hp => ?_)
    · rw [e5]
      by_cases e : p = n
      · rw [e, y_uu, y_uu]; rfl
      · rw [y_un e, y_un e]; exact z5 p (by omega)
    · rw [e6]
      by_cases e : p = n
      · rw [e, y_uu, y_uu]
      · rw [y_un e, y_un e]; exact z6 p (by omega)
  rw [e]
  exact ⟨_, _, _, rfl⟩
/-- whether one more peg there lets but one be left -/
def yone (r c n : Nat) (hb : Int32) (kd h : Nat → Int32) (q : Nat) : Bool := (ybit hb q && decide (yn n h (nI q) = -1)) && decide (yOut r c (n + 1) (upd kd n 0) hb 8 (upd h n (nI q)) 1 = 1)
def yfst (g : Nat → Bool) (N : Nat) (v : Int32) : Prop := (∃ q, q < N ∧ g q = true ∧ (∀ j, j < q → g j = false) ∧ v = nI q) ∨ (v = -1 ∧ ∀ j, j < N → g j = false)
theorem yfst_u {g : Nat → Bool} {N : Nat} {v w : Int32} (h1 : yfst g N v) (h2 : yfst g N w) : v = w := by
  rcases h1 with ⟨q, q1, q2, q3, rfl⟩ | ⟨rfl, q1⟩ <;> rcases h2 with ⟨p, p1, p2, p3, rfl⟩ | ⟨rfl, p1'⟩
  · rcases Nat.lt_trichotomy p q with e | e | e
    · have := q3 p e; rw [p2] at this; cases this
    · rw [e]
    · have := p3 q e; rw [q2] at this; cases this
  · have := p1' q q1; rw [q2] at this; cases this
  · have := q1 p p1; rw [p2] at this; cases this
  · rfl
theorem zbs_x4 {A0 A1 A2 A3 B0 B1 B2 ρ : Type} {o : Option ((A0 × A1 × A2 × A3) ⊕ (B0 × B1 × B2))} {k1 : A0 → A1 → A2 → A3 → Option ρ} {k2 : B0 → B1 → B2 → Option ρ} {R : ρ → Prop} (P : (A0 × A1 × A2 × A3) ⊕ (B0 × B1 × B2) → Prop) (h : ∃ z, o = some z ∧ P z) (h1 : ∀ a b c d, P (.inl (a, b, c, d)) → ∃ r, k1 a b c d = some r ∧ R r) (h2 : ∀ a b c, P (.inr (a, b, c)) → ∃ r, k2 a b c = some r ∧ R r) : ∃ r, zbs o (fun q_ => zu4 k1 q_) (fun q_ => zu3 k2 q_) = some r ∧ R r := by
  refine zbs_x P h ?_ ?_
  · rintro ⟨a, b, c, d⟩ hp; exact h1 a b c d hp
  · rintro ⟨a, b, c⟩ hp; exact h2 a b c hp
theorem y_add {r c n b : Nat} {Xs Ps : Nat → Int32} {Pa : Nat → Nat → Int32} {Gs : Nat → Int32} {Ga : Nat → Nat → Int32} {Ns : Nat → Int32} {Na : Nat → Nat → Int32} {Qs : Nat → Int32} {Qa : Nat → Nat → Int32} {Ks : Nat → Int32} {Ka : Nat → Nat → Int32} {Ls : Nat → Int32} {La : Nat → Nat → Int32} {os : Nat → Nat → Int32} {Ms : Nat → Int32} {Ma : Nat → Nat → Int32} (h : yIV r c n b Xs Ps Pa Gs Ga Ns Na Qs Qa Ks Ka Ls La os Ms Ma) (hb : b < 2 ^ 31) (Ts : Nat → Int32) (Ta : Nat → Nat → Int32) : ∃ v X' T' U' os' M' B', fX5_add Xs Gs Ga Ns Na Ts Ta os = some (v, X', T', U', os') ∧ fX6_add Ms Ma = some (v, M', B') ∧ yIV r c n b X' Ps Pa Gs Ga Ns Na Qs Qa Ks Ka Ls La os' M' B' := by
  have hV := h.1
  have hG := h.2.1
  have hM := h.2.2.1
  have hS := h.2.2.2.1
  obtain ⟨e, he, ex, em⟩ := h.2.2.2.2.1
  have hn := hS.1.2.1
  have hn7 := yV_7 hV
  have h12 := yV_12 hV
  have hnb := yV_b hV
  unfold fX5_add fX6_add
  rw [hM.1, hM.2.2.2.2]
  by_cases n0 : n = 0
  · have b0 : b = 0 := by omega
    subst n0
    subst b0
    rw [if_pos (show nI 0 = 0 from rfl), if_pos (show nI 0 = 0 from rfl)]
    exact ⟨_, _, _, _, _, _, _, rfl, rfl, h⟩
  have hB := yV_n hV (by omega)
  rw [if_neg (nI_ne0 (show 0 < b by omega) hb), if_neg (nI_ne0 (show 0 < n by omega) (by omega)), ex, em]
  by_cases e12 : e = 12
  · subst e12
    rw [if_neg (show ¬ nI 12 < 12 by decide), if_pos (show nI 12 = 12 from rfl)]
    exact ⟨_, _, _, _, _, _, _, rfl, rfl, h⟩
  rw [if_pos (show nI e < 12 from nI_lt (b := 12) (by omega) (by decide)), if_neg (show ¬ nI e = 12 from fun q => e12 (y_i (b := 12) (by omega) (by decide) q)), zlt_e, zlt_e, zlt_e, nI_1]
  generalize hg : yone r c n (Ns 1) (Na 5) (Na 6) = g
  have C : ∃ z : Int32 × (Nat → Int32) × (Nat → Int32) × (Nat → Nat → Int32) × (Nat → Nat → Int32), zbs (zi4 (fun (x1_36h : Int32) (Ts_36h : Nat → Int32) (Ta_36h : Nat → Nat → Int32) (os_36h : Nat → Nat → Int32) => if (12 : Int32) ≤ x1_36h then some (.inr (.inr (Ts_36h, Ta_36h, os_36h))) else zb1 (fX4_isEmptyHole Ns Na Gs x1_36h) (fun (r7 : Int32) => zjn (fun (Ts_64 : Nat → Int32) (Ta_64 : Nat → Nat → Int32) (os_64 : Nat → Nat → Int32) => some (.inl ((x1_36h + (1 : Int32)), Ts_64, Ta_64, os_64))) (fun J64 => if r7 = 0 then J64 Ts_36h Ta_36h os_36h else zb4 (fX5_fewestWithOneMore Gs Ga Ns Na Ts_36h Ta_36h os_36h x1_36h) (fun (r10 : Int32) (Ts_11 : Nat → Int32) (Ta_12 : Nat → Nat → Int32) (os_13 : Nat → Nat → Int32) => if r10 = (1 : Int32) then some (.inr (.inl (x1_36h, Ts_11, Ta_12, os_13))) else J64 Ts_11 Ta_12 os_13)))) (0 : Int32) Ts Ta os) (fun (q_ : Int32 × (Nat → Int32) × (Nat → Nat → Int32) × (Nat → Nat → Int32)) => zu4 (fun (x1_62x36 : Int32) (Ts_62x36 : Nat → Int32) (Ta_62x36 : Nat → Nat → Int32) (os_62x36 : Nat → Nat → Int32) => some (x1_62x36, (upd (upd Xs 12 (nI (e + 1))) 10 0), Ts_62x36, Ta_62x36, os_62x36)) q_) (fun (q_ : (Nat → Int32) × (Nat → Nat → Int32) × (Nat → Nat → Int32)) => zu3 (fun (Ts_70x36 : Nat → Int32) (Ta_70x36 : Nat → Nat → Int32) (os_70x36 : Nat → Nat → Int32) => some ((-1 : Int32), (upd (upd Xs 12 (nI (e + 1))) 10 0), Ts_70x36, Ta_70x36, os_70x36)) q_) = some z ∧ yfst g (r * c) z.1 ∧ z.2.1 = upd (upd Xs 12 (nI (e + 1))) 10 0 := by
    refine zbs_x4 (fun z => match z with | .inl a => ∃ q, q < r * c ∧ g q = true ∧ (∀ j, j < q → g j = false) ∧ a.1 = nI q | .inr _ => ∀ j, j < r * c → g j = false) ?_ ?_ ?_
    · refine zf4 (fun k x T U O => x = nI k ∧ ∀ j, j < k → j < r * c → g j = false) _ 12 ?_ ?_ 0 (Nat.zero_le _) ⟨rfl, fun j hj => absurd hj (Nat.not_lt_zero j)⟩
      · rintro k x T U O hk ⟨rfl, h1⟩
        rw [if_neg (y12g hk)]
        by_cases hkp : k < r * c
        · rw [y_empty hG h12 hS.1 hkp, zb1_e, zjn_e, nI_1]
          cases hbt : (ybit (Ns 1) k && decide (yn n (Na 6) (nI k) = -1)) with
          | false =>
            rw [yb_f, if_pos rfl]
            refine Or.inl ⟨_, _, _, _, rfl, rfl, fun j hj hj2 => ?_⟩
            by_cases e : j = k
            · rw [e, ← hg]; unfold yone; rw [hbt]; rfl
            · exact h1 j (by omega) hj2
          | true =>
            have hbt2 := hbt
            rw [Bool.and_eq_true, decide_eq_true_eq] at hbt2
            obtain ⟨T', U', O', hf⟩ := y_fewest (Ts := T) (Ta := U) (os := O) hB hG hS.1 (by omega) hkp hbt2.2
            rw [yb_t, if_neg n10, hf, zb4_e]
            by_cases h1' : yOut r c (n + 1) (upd (Na 5) n 0) (Ns 1) 8 (upd (Na 6) n (nI k)) 1 = 1
            · rw [if_pos h1']
              refine Or.inr ⟨_, rfl, k, hkp, ?_, fun j hj => h1 j hj (by omega), rfl⟩
              rw [← hg]; unfold yone; rw [hbt, decide_eq_true h1']; rfl
            · rw [if_neg h1']
              refine Or.inl ⟨_, _, _, _, rfl, rfl, fun j hj hj2 => ?_⟩
              by_cases e : j = k
              · rw [e, ← hg]; unfold yone; rw [hbt, decide_eq_false h1']; rfl
              · exact h1 j (by omega) hj2
        · have hno : fX4_isEmptyHole Ns Na Gs (nI k) = some 0 := by
            unfold fX4_isEmptyHole
            rw [y_has hG.2.2.1 h12, zb1_e, y_zinK (by omega) hkp, yb_f, if_pos rfl]
          rw [hno, zb1_e, zjn_e, if_pos rfl, nI_1]
          exact Or.inl ⟨_, _, _, _, rfl, rfl, fun j hj hj2 => h1 j (by omega) hj2⟩
      · rintro x T U O ⟨rfl, h1⟩
        rw [if_pos y12p]
        exact ⟨_, rfl, fun j hj => h1 j (by omega) hj⟩
    · rintro x T U O ⟨q, q1, q2, q3, q4⟩
      exact ⟨_, rfl, Or.inl ⟨q, q1, q2, q3, q4⟩, rfl⟩
    · rintro T U O h1
      exact ⟨_, rfl, Or.inr ⟨rfl, h1⟩, rfl⟩
  obtain ⟨⟨v, X', T', U', os'⟩, hC, c1, c2⟩ := C
  change yfst g (r * c) v at c1
  change X' = _ at c2
  have D : ∃ z, fX6_addNow (upd Ms 8 (nI (e + 1))) Ma = some z ∧ yfst g (r * c) z.1 ∧ (∀ i, i ≠ 4 → z.2.1 i = upd Ms 8 (nI (e + 1)) i) ∧ z.2.1 4 = nI n ∧ (∀ i, i ≠ 5 → i ≠ 6 → (i < 17 ∨ 27 < i) → z.2.2 i = Ma i) ∧ (∀ p, p < n → z.2.2 5 p = Ma 5 p) ∧ ∀ p, p < n → z.2.2 6 p = Ma 6 p := by
    unfold fX6_addNow
    refine zb3_x (fun z => yfst g (r * c) z.1 ∧ (∀ i, i ≠ 4 → z.2.1 i = upd Ms 8 (nI (e + 1)) i) ∧ z.2.1 4 = nI n ∧ (∀ i, i ≠ 5 → i ≠ 6 → (i < 17 ∨ 27 < i) → z.2.2 i = Ma i) ∧ (∀ p, p < n → z.2.2 5 p = Ma 5 p) ∧ ∀ p, p < n → z.2.2 6 p = Ma 6 p) ?_ (fun a b c hp => ⟨_, rfl, hp⟩)
    refine zf4 (fun k x y M A => (∀ i, i ≠ 4 → M i = upd Ms 8 (nI (e + 1)) i) ∧ M 4 = nI n ∧ (∀ i, i ≠ 5 → i ≠ 6 → (i < 17 ∨ 27 < i) → A i = Ma i) ∧ (∀ p, p < n → A 5 p = Ma 5 p) ∧ (∀ p, p < n → A 6 p = Ma 6 p) ∧ y = nI k ∧ ((x = -1 ∧ ∀ j, j < k → g j = false) ∨ ∃ q, q < k ∧ g q = true ∧ (∀ j, j < q → g j = false) ∧ x = nI q)) _ (r * c) ?_ ?_ 0 (Nat.zero_le _) ⟨fun _ _ => rfl, by rw [y_un (by decide)]; exact hM.2.2.2.2, fun _ _ _ _ => rfl, fun _ _ => rfl, fun _ _ => rfl, rfl, Or.inl ⟨rfl, fun j hj => absurd hj (Nat.not_lt_zero j)⟩⟩
    · rintro k x y M A hk ⟨m1, m2, a1, a2, a3, rfl, hx⟩
      have M1 : M 1 = nI r := by rw [m1 1 (by decide), y_un (by decide)]; exact hM.2.2.1
      have M2 : M 2 = nI c := by rw [m1 2 (by decide), y_un (by decide)]; exact hM.2.2.2.1
      have M3 : M 3 = Ns 1 := by rw [m1 3 (by decide), y_un (by decide)]; exact hS.2.2.2.1
      rw [y_places M1 M2, zb1_e, if_neg (nI_ge hk (by omega))]
      rcases hx with ⟨rfl, h1⟩ | ⟨q, q1, q2, q3, rfl⟩
      · rw [if_pos rfl]
        obtain ⟨B, hB', B1⟩ := y_mempty (s := M) (a := A) (h := Na 6) m2 hn (fun p hp => (a3 p hp).trans (hS.2.2.2.2.2.2 p hp)) k
        rw [hB', zb2_e, M3, nI_1]
        have b1 : ∀ i, i ≠ 5 → i ≠ 6 → (i < 17 ∨ 27 < i) → B i = Ma i := fun i i5 i6 hi => (B1 i hi).trans (a1 i i5 i6 hi)
        have b2 : ∀ p, p < n → B 5 p = Ma 5 p := fun p hp => by rw [B1 5 (by omega)]; exact a2 p hp
        have b3 : ∀ p, p < n → B 6 p = Ma 6 p := fun p hp => by rw [B1 6 (by omega)]; exact a3 p hp
        cases hbt : (ybit (Ns 1) k && decide (yn n (Na 6) (nI k) = -1)) with
        | false =>
          rw [yb_f, if_pos rfl, zb3_e]
          refine Or.inl ⟨_, _, _, _, rfl, m1, m2, b1, b2, b3, rfl, Or.inl ⟨rfl, fun j hj => ?_⟩⟩
          by_cases e : j = k
          · rw [e, ← hg]; unfold yone; rw [hbt]; rfl
          · exact h1 j (by omega)
        | true =>
          have hbt2 := hbt
          rw [Bool.and_eq_true, decide_eq_true_eq] at hbt2
          rw [yb_t, if_neg n10, m2, y_zin (show n < 8 by omega) (by decide), zck_e, zlt_e, zck_e, zlt_e, zlt_e, nI_clamp (show n < 2 ^ 31 by omega), nI_1]
          generalize eE : va_up (va_up B 5 (upd (B 5) n 0)) 6 (upd (va_up B 5 (upd (B 5) n 0) 6) n (nI k)) = E
          have E5 : E 5 = upd (B 5) n 0 := by rw [← eE, y_vn (by decide), y_vu]
          have E6 : E 6 = upd (B 6) n (nI k) := by rw [← eE, y_vu, y_vn (by decide)]
          have Ek : ∀ i, i ≠ 5 → i ≠ 6 → E i = B i := fun i i5 i6 => by rw [← eE, y_vn i6, y_vn i5]
          generalize eF : upd M 4 (nI (n + 1)) = F
          have F4 : F 4 = nI (n + 1) := by rw [← eF, y_uu]
          have Fk : ∀ i, i ≠ 4 → F i = M i := fun i hi => by rw [← eF, y_un hi]
          have k5 : ∀ p, p < n + 1 → E 5 p = upd (Na 5) n 0 p := fun p hp => by
            rw [E5]
            by_cases e : p = n
            · rw [e, y_uu, y_uu]
            · rw [y_un e, y_un e]; exact (b2 p (by omega)).trans (hS.2.2.2.2.2.1 p (by omega))
          have k6 : ∀ p, p < n + 1 → E 6 p = upd (Na 6) n (nI k) p := fun p hp => by
            rw [E6]
            by_cases e : p = n
            · rw [e, y_uu, y_uu]
            · rw [y_un e, y_un e]; exact (b3 p (by omega)).trans (hS.2.2.2.2.2.2 p (by omega))
          obtain ⟨s', a', _, e2, e3, _, e5, e6⟩ := y_addPeg hG h12 (Nat.le_refl _) hS.1 (by omega) (show 0 < 5 by decide) hk hbt2.2
          have hMF : yM r c (n + 1) (Ns 1) (upd (Na 5) n 0) F E := by
            refine ⟨by rw [Fk 1 (by decide)]; exact M1, by rw [Fk 2 (by decide)]; exact M2, by rw [Fk 3 (by decide)]; exact M3, F4, by omega, k5, ?_⟩
            have := e2.2.2.1
            rw [e5] at this
            exact this
          have hHF : yH (r * c) (n + 1) (upd (Na 6) n (nI k)) := by
            have := e2.2.2.2.1
            rw [e6] at this
            exact this
          obtain ⟨⟨w, W⟩, hw, w1, w2⟩ := y_coursesNow hB hMF hHF k6 (0 : Int32)
          change w = yOut r c (n + 1) (upd (Na 5) n 0) (Ns 1) 8 (upd (Na 6) n (nI k)) 1 at w1
          change ∀ i, i < 17 ∨ 27 < i → W i = E i at w2
          rw [hw, zb2_e, yif, zb1_e, zlt_e, zb3_e, w1, F4, nI_pred]
          refine Or.inl ⟨_, _, _, _, rfl, fun i hi => by rw [y_un hi, Fk i hi]; exact m1 i hi, y_uu, fun i i5 i6 hi => by rw [w2 i hi, Ek i i5 i6]; exact b1 i i5 i6 hi, fun p hp => ?_, fun p hp => ?_, rfl, ?_⟩
          · rw [w2 5 (by omega), E5, y_un (by omega)]; exact b2 p hp
          · rw [w2 6 (by omega), E6, y_un (by omega)]; exact b3 p hp
          · by_cases h1' : yOut r c (n + 1) (upd (Na 5) n 0) (Ns 1) 8 (upd (Na 6) n (nI k)) 1 = 1
            · rw [if_pos h1']
              refine Or.inr ⟨k, by omega, ?_, h1, rfl⟩
              rw [← hg]; unfold yone; rw [hbt, decide_eq_true h1']; rfl
            · rw [if_neg h1']
              refine Or.inl ⟨rfl, fun j hj => ?_⟩
              by_cases e : j = k
              · rw [e, ← hg]; unfold yone; rw [hbt, decide_eq_false h1']; rfl
              · exact h1 j (by omega)
      · rw [if_neg (y_nIm q (by omega))]
        exact Or.inr ⟨_, rfl, Or.inl ⟨q, by omega, q2, q3, rfl⟩, m1, m2, a1, a2, a3⟩
    · rintro x y M A ⟨m1, m2, a1, a2, a3, rfl, hx⟩
      have M1 : M 1 = nI r := by rw [m1 1 (by decide), y_un (by decide)]; exact hM.2.2.1
      have M2 : M 2 = nI c := by rw [m1 2 (by decide), y_un (by decide)]; exact hM.2.2.2.1
      rw [y_places M1 M2, zb1_e, if_pos (nI_le (Nat.le_refl _) (by omega))]
      refine ⟨_, rfl, ?_, m1, m2, a1, a2, a3⟩
      rcases hx with ⟨rfl, h1⟩ | ⟨q, q1, q2, q3, rfl⟩
      · exact Or.inr ⟨rfl, h1⟩
      · exact Or.inl ⟨q, q1, q2, q3, rfl⟩
  obtain ⟨⟨v', M', B'⟩, hD, d1, d2, d3, d4, d5, d6⟩ := D
  change yfst g (r * c) v' at d1
  change ∀ i, i ≠ 4 → M' i = _ at d2
  change M' 4 = nI n at d3
  change ∀ i, i ≠ 5 → i ≠ 6 → (i < 17 ∨ 27 < i) → B' i = Ma i at d4
  have ev := yfst_u c1 d1
  subst ev
  rw [hC, hD, zb3_e]
  have X10 : X' 10 = 0 := by rw [c2, y_uu]
  have X12 : X' 12 = nI (e + 1) := by rw [c2, y_un (by decide), y_uu]
  have Xk : ∀ i, i ≠ 10 → i ≠ 12 → X' i = Xs i := fun i i1 i2 => by rw [c2, y_un i1, y_un i2]
  have Mk : ∀ i, i ≠ 8 → M' i = Ms i := fun i i8 => by
    by_cases i4 : i = 4
    · rw [i4, d3, hM.2.2.2.2]
    · rw [d2 i i4, y_un i8]
  have M8 : M' 8 = nI (e + 1) := by rw [d2 8 (by decide), y_uu]
  obtain ⟨h1, h2, h3, h4, h5, h6, h7, h8, h9⟩ := h
  refine ⟨_, _, _, _, _, _, _, rfl, rfl, h1, h2, ?_, ?_, ⟨e + 1, by omega, X12, M8⟩, ?_, ?_, ?_, Or.inl X10⟩
  · unfold yVM at *
    rw [Xk 11 (by decide) (by decide), Mk 0 (by decide), Mk 1 (by decide), Mk 2 (by decide), Mk 4 (by decide)]
    exact h3
  · rw [Mk 3 (by decide), Mk 7 (by decide)]
    exact ⟨h4.1, h4.2.1, h4.2.2.1, h4.2.2.2.1, h4.2.2.2.2.1, fun p hp => (d5 p hp).trans (h4.2.2.2.2.2.1 p hp), fun p hp => (d6 p hp).trans (h4.2.2.2.2.2.2 p hp)⟩
  · rw [Mk 9 (by decide), d4 10 (by decide) (by decide) (by omega), d4 11 (by decide) (by decide) (by omega), d4 12 (by decide) (by decide) (by omega)]; exact h6
  · rw [Mk 13 (by decide), d4 14 (by decide) (by decide) (by omega)]; exact h7
  · unfold yVK at *
    rw [Xk 6 (by decide) (by decide), Mk 29 (by decide), Mk 30 (by decide), Mk 31 (by decide), Mk 32 (by decide), Mk 33 (by decide), d4 34 (by decide) (by decide) (by omega), d4 35 (by decide) (by decide) (by omega), d4 36 (by decide) (by decide) (by omega), d4 37 (by decide) (by decide) (by omega), d4 38 (by decide) (by decide) (by omega)]
    exact h8
