/-! pure: digest -/
theorem zp23 {A0 A1 B0 B1 B2 ρ σ : Type} {f : A0 → A1 → Option ((A0 × A1) ⊕ ρ)} {g : B0 → B1 → B2 → Option ((B0 × B1 × B2) ⊕ σ)} (I : Nat → A0 → A1 → B0 → B1 → B2 → Prop) (R : ρ → σ → Prop) (N : Nat) (hs : ∀ k a0 a1 b0 b1 b2, k < N → I k a0 a1 b0 b1 b2 → ∃ v w, f a0 a1 = some v ∧ g b0 b1 b2 = some w ∧ ∃ c0 c1 d0 d1 d2, v = .inl (c0, c1) ∧ w = .inl (d0, d1, d2) ∧ I (k + 1) c0 c1 d0 d1 d2) (hr : ∀ a0 a1 b0 b1 b2, I N a0 a1 b0 b1 b2 → ∃ r s, f a0 a1 = some (.inr r) ∧ g b0 b1 b2 = some (.inr s) ∧ R r s) (k : Nat) (hk : k ≤ N) {a0 : A0} {a1 : A1} {b0 : B0} {b1 : B1} {b2 : B2} (h0 : I k a0 a1 b0 b1 b2) : ∃ r s, zi2 f a0 a1 = some r ∧ zi3 g b0 b1 b2 = some s ∧ R r s := by
  have key : ∀ (m k : Nat) (a0 : A0) (a1 : A1) (b0 : B0) (b1 : B1) (b2 : B2), k + m = N → I k a0 a1 b0 b1 b2 → ∃ r s, zi2 f a0 a1 = some r ∧ zi3 g b0 b1 b2 = some s ∧ R r s := by
    intro m
    induction m with
    | zero =>
      intro k a0 a1 b0 b1 b2 hk h
      have hk : k = N := by omega
      subst hk
      obtain ⟨r, s, h1, h2, h3⟩ := hr a0 a1 b0 b1 b2 h
      exact ⟨r, s, zi2_r h1, zi3_r h2, h3⟩
    | succ m ih =>
      intro k a0 a1 b0 b1 b2 hk h
      obtain ⟨v, w, h1, h2, c0, c1, d0, d1, d2, e1, e2, h3⟩ := hs k a0 a1 b0 b1 b2 (by omega) h
      subst e1
      subst e2
      obtain ⟨r, s, h4, h5, h6⟩ := ih (k + 1) c0 c1 d0 d1 d2 (by omega) h3
      exact ⟨r, s, zi2_l h1 h4, zi3_l h2 h5, h6⟩
  exact key (N - k) k a0 a1 b0 b1 b2 (by omega) h0
theorem zp22 {A0 A1 B0 B1 ρ σ : Type} {f : A0 → A1 → Option ((A0 × A1) ⊕ ρ)} {g : B0 → B1 → Option ((B0 × B1) ⊕ σ)} (I : Nat → A0 → A1 → B0 → B1 → Prop) (R : ρ → σ → Prop) (N : Nat) (hs : ∀ k a0 a1 b0 b1, k < N → I k a0 a1 b0 b1 → ∃ v w, f a0 a1 = some v ∧ g b0 b1 = some w ∧ ∃ c0 c1 d0 d1, v = .inl (c0, c1) ∧ w = .inl (d0, d1) ∧ I (k + 1) c0 c1 d0 d1) (hr : ∀ a0 a1 b0 b1, I N a0 a1 b0 b1 → ∃ r s, f a0 a1 = some (.inr r) ∧ g b0 b1 = some (.inr s) ∧ R r s) (k : Nat) (hk : k ≤ N) {a0 : A0} {a1 : A1} {b0 : B0} {b1 : B1} (h0 : I k a0 a1 b0 b1) : ∃ r s, zi2 f a0 a1 = some r ∧ zi2 g b0 b1 = some s ∧ R r s := by
  have key : ∀ (m k : Nat) (a0 : A0) (a1 : A1) (b0 : B0) (b1 : B1), k + m = N → I k a0 a1 b0 b1 → ∃ r s, zi2 f a0 a1 = some r ∧ zi2 g b0 b1 = some s ∧ R r s := by
    intro m
    induction m with
    | zero =>
      intro k a0 a1 b0 b1 hk h
      have hk : k = N := by omega
      subst hk
      obtain ⟨r, s, h1, h2, h3⟩ := hr a0 a1 b0 b1 h
      exact ⟨r, s, zi2_r h1, zi2_r h2, h3⟩
    | succ m ih =>
      intro k a0 a1 b0 b1 hk h
      obtain ⟨v, w, h1, h2, c0, c1, d0, d1, e1, e2, h3⟩ := hs k a0 a1 b0 b1 (by omega) h
      subst e1
      subst e2
      obtain ⟨r, s, h4, h5, h6⟩ := ih (k + 1) c0 c1 d0 d1 (by omega) h3
      exact ⟨r, s, zi2_l h1 h4, zi2_l h2 h5, h6⟩
  exact key (N - k) k a0 a1 b0 b1 (by omega) h0
theorem zp63 {A0 A1 A2 A3 A4 A5 B0 B1 B2 ρ σ : Type} {f : A0 → A1 → A2 → A3 → A4 → A5 → Option ((A0 × A1 × A2 × A3 × A4 × A5) ⊕ ρ)} {g : B0 → B1 → B2 → Option ((B0 × B1 × B2) ⊕ σ)} (I : Nat → A0 → A1 → A2 → A3 → A4 → A5 → B0 → B1 → B2 → Prop) (R : ρ → σ → Prop) (N : Nat) (hs : ∀ k a0 a1 a2 a3 a4 a5 b0 b1 b2, k < N → I k a0 a1 a2 a3 a4 a5 b0 b1 b2 → ∃ v w, f a0 a1 a2 a3 a4 a5 = some v ∧ g b0 b1 b2 = some w ∧ ∃ c0 c1 c2 c3 c4 c5 d0 d1 d2, v = .inl (c0, c1, c2, c3, c4, c5) ∧ w = .inl (d0, d1, d2) ∧ I (k + 1) c0 c1 c2 c3 c4 c5 d0 d1 d2) (hr : ∀ a0 a1 a2 a3 a4 a5 b0 b1 b2, I N a0 a1 a2 a3 a4 a5 b0 b1 b2 → ∃ r s, f a0 a1 a2 a3 a4 a5 = some (.inr r) ∧ g b0 b1 b2 = some (.inr s) ∧ R r s) (k : Nat) (hk : k ≤ N) {a0 : A0} {a1 : A1} {a2 : A2} {a3 : A3} {a4 : A4} {a5 : A5} {b0 : B0} {b1 : B1} {b2 : B2} (h0 : I k a0 a1 a2 a3 a4 a5 b0 b1 b2) : ∃ r s, zi6 f a0 a1 a2 a3 a4 a5 = some r ∧ zi3 g b0 b1 b2 = some s ∧ R r s := by
  have key : ∀ (m k : Nat) (a0 : A0) (a1 : A1) (a2 : A2) (a3 : A3) (a4 : A4) (a5 : A5) (b0 : B0) (b1 : B1) (b2 : B2), k + m = N → I k a0 a1 a2 a3 a4 a5 b0 b1 b2 → ∃ r s, zi6 f a0 a1 a2 a3 a4 a5 = some r ∧ zi3 g b0 b1 b2 = some s ∧ R r s := by
    intro m
    induction m with
    | zero =>
      intro k a0 a1 a2 a3 a4 a5 b0 b1 b2 hk h
      have hk : k = N := by omega
      subst hk
      obtain ⟨r, s, h1, h2, h3⟩ := hr a0 a1 a2 a3 a4 a5 b0 b1 b2 h
      exact ⟨r, s, zi6_r h1, zi3_r h2, h3⟩
    | succ m ih =>
      intro k a0 a1 a2 a3 a4 a5 b0 b1 b2 hk h
      obtain ⟨v, w, h1, h2, c0, c1, c2, c3, c4, c5, d0, d1, d2, e1, e2, h3⟩ := hs k a0 a1 a2 a3 a4 a5 b0 b1 b2 (by omega) h
      subst e1
      subst e2
      obtain ⟨r, s, h4, h5, h6⟩ := ih (k + 1) c0 c1 c2 c3 c4 c5 d0 d1 d2 (by omega) h3
      exact ⟨r, s, zi6_l h1 h4, zi3_l h2 h5, h6⟩
  exact key (N - k) k a0 a1 a2 a3 a4 a5 b0 b1 b2 (by omega) h0
theorem zq12 {A0 B0 B1 ρ σ : Type} {o1 : Option (A0)} {o2 : Option (B0 × B1)} {k1 : A0 → Option ρ} {k2 : B0 → B1 → Option σ} {R : ρ → σ → Prop} (P : A0 → B0 → B1 → Prop) (h : ∃ v w, o1 = some v ∧ o2 = some w ∧ P v w.1 w.2) (hk : ∀ a0 b0 b1, P a0 b0 b1 → ∃ r s, k1 a0 = some r ∧ k2 b0 b1 = some s ∧ R r s) : ∃ r s, zb1 o1 k1 = some r ∧ zb2 o2 k2 = some s ∧ R r s := by
  obtain ⟨v, w, e1, e2, hp⟩ := h
  rw [e1, e2]
  exact hk _ _ _ hp
theorem zq11 {A0 B0 ρ σ : Type} {o1 : Option (A0)} {o2 : Option (B0)} {k1 : A0 → Option ρ} {k2 : B0 → Option σ} {R : ρ → σ → Prop} (P : A0 → B0 → Prop) (h : ∃ v w, o1 = some v ∧ o2 = some w ∧ P v w) (hk : ∀ a0 b0, P a0 b0 → ∃ r s, k1 a0 = some r ∧ k2 b0 = some s ∧ R r s) : ∃ r s, zb1 o1 k1 = some r ∧ zb1 o2 k2 = some s ∧ R r s := by
  obtain ⟨v, w, e1, e2, hp⟩ := h
  rw [e1, e2]
  exact hk _ _ hp
theorem zq52 {A0 A1 A2 A3 A4 B0 B1 ρ σ : Type} {o1 : Option (A0 × A1 × A2 × A3 × A4)} {o2 : Option (B0 × B1)} {k1 : A0 → A1 → A2 → A3 → A4 → Option ρ} {k2 : B0 → B1 → Option σ} {R : ρ → σ → Prop} (P : A0 → A1 → A2 → A3 → A4 → B0 → B1 → Prop) (h : ∃ v w, o1 = some v ∧ o2 = some w ∧ P v.1 v.2.1 v.2.2.1 v.2.2.2.1 v.2.2.2.2 w.1 w.2) (hk : ∀ a0 a1 a2 a3 a4 b0 b1, P a0 a1 a2 a3 a4 b0 b1 → ∃ r s, k1 a0 a1 a2 a3 a4 = some r ∧ k2 b0 b1 = some s ∧ R r s) : ∃ r s, zb5 o1 k1 = some r ∧ zb2 o2 k2 = some s ∧ R r s := by
  obtain ⟨v, w, e1, e2, hp⟩ := h
  rw [e1, e2]
  exact hk _ _ _ _ _ _ _ hp
theorem y_mix (J : Nat → Int64) (v : Int64) : fX6_mix J v = some (va_up J 39 ((31 : Int64) * J 39 + v)) := by
  unfold fX6_mix
  rw [zlt_e]
theorem y_placeNow {r c n b : Nat} {xb : Int32} {Gs Ns Ms : Nat → Int32} {Ga Na Ma : Nat → Nat → Int32} (hV : yV r c n b) (hG : yG r c Gs Ga) (hM : yVM r c n b xb Ms) (hS : yVS r c n Ns Na (Ms 3) (Ms 7) (Ma 5) (Ma 6)) {q w : Nat} (hq : q < r * c) (hw : w < 2) : ∃ v B', fX5_place Gs Ns Na (nI q) (nI w) = some v ∧ fX6_placeNow Ms Ma (nI q) (nI w) = some (v, B') ∧ ∀ i, i < 17 ∨ 27 < i → B' i = Ma i := by
  have h12 := yV_12 hV
  obtain ⟨v, B, h1, h2, h3⟩ := y_place hV hG hM hS (nI q) (nI w)
  unfold fX6_place at h2
  rw [y_mIsPlace hM.2.2.1 hM.2.2.2.1 h12, zb1_e, y_zin hq (by omega), yb_t, if_neg n10, y_w (N := 1) rfl, zb1_e, y_zin (show w < 1 + 1 by omega) (by decide), yb_t, if_neg n10] at h2
  obtain ⟨a0, a1, e1, e2⟩ := zb2_s h2
  refine ⟨v, B, h1, ?_, h3⟩
  rw [e1]
  exact e2
theorem y2g {k : Nat} (h : k < 2) : ¬ (2 : Int32) ≤ nI k := nI_ge (b := 2) h (by omega)
theorem y2p : (2 : Int32) ≤ nI 2 := by decide
theorem y_digest {r c n b : Nat} {Xs Ps : Nat → Int32} {Pa : Nat → Nat → Int32} {Gs : Nat → Int32} {Ga : Nat → Nat → Int32} {Ns : Nat → Int32} {Na : Nat → Nat → Int32} {Qs : Nat → Int32} {Qa : Nat → Nat → Int32} {Ks : Nat → Int32} {Ka : Nat → Nat → Int32} {Ls : Nat → Int32} {La : Nat → Nat → Int32} {os : Nat → Nat → Int32} {Ms : Nat → Int32} {Ma : Nat → Nat → Int32} (h : yIV r c n b Xs Ps Pa Gs Ga Ns Na Qs Qa Ks Ka Ls La os Ms Ma) (hb : b < 2 ^ 31) (Ts : Nat → Int32) (Ta : Nat → Nat → Int32) (Mj : Nat → Int64) : ∃ v w, fX5_digest Xs Ps Pa Gs Ga Ns Na Qs Qa Ts Ta os = some v ∧ fX6_digest Ms Mj Ma = some w ∧ v.1 = w.1 ∧ yIV r c n b v.2.1 Ps Pa Gs Ga Ns Na Qs Qa Ks Ka Ls La v.2.2.2.2 Ms w.2.2 := by
  have hV := h.1
  have hG := h.2.1
  have hM := h.2.2.1
  have hN2 := h.2.2.2.1.1.1
  have hn := h.2.2.2.1.1.2.1
  have hn7 := yV_7 hV
  have h12 := yV_12 hV
  have hnb := yV_b hV
  unfold fX5_digest fX6_digest
  rw [zlt_e, hN2, hG.2.2.1, hM.1, hM.2.2.2.2]
  refine zq12 (fun x J A => x = J 39 ∧ yIV r c n b Xs Ps Pa Gs Ga Ns Na Qs Qa Ks Ka Ls La os Ms A) ?_ ?_
  · refine zp23 (fun k x x3 y J A => x = J 39 ∧ x3 = nI k ∧ y = nI k ∧ yIV r c n b Xs Ps Pa Gs Ga Ns Na Qs Qa Ks Ka Ls La os Ms A) _ n ?_ ?_ 0 (Nat.zero_le _) ⟨y_vu.symm, rfl, rfl, h⟩
    · rintro p x x3 y J A hp ⟨hx, rfl, rfl, hA⟩
      rw [if_neg (nI_ge hp (by omega)), if_neg (nI_ge hp (by omega)), nI_1]
      refine zq12 (fun x J A => x = J 39 ∧ yIV r c n b Xs Ps Pa Gs Ga Ns Na Qs Qa Ks Ka Ls La os Ms A) ?_ ?_
      · refine zp23 (fun k x x3 y J A => x = J 39 ∧ x3 = nI k ∧ y = nI k ∧ yIV r c n b Xs Ps Pa Gs Ga Ns Na Qs Qa Ks Ka Ls La os Ms A) _ 5 ?_ ?_ 0 (Nat.zero_le _) ⟨hx, rfl, rfl, hA⟩
        · rintro w x x3 y J A hw ⟨hx, rfl, rfl, hA⟩
          obtain ⟨v, B, e1, e2, e3⟩ := y_pegNow hA.1 hA.2.1 hA.2.2.1 hA.2.2.2.1 hA.2.2.2.2.2.1 hp hw
          rw [if_neg (show ¬ (4 : Int32) < nI w from nI_nlt (b := w) (a := 4) (by omega) (by decide)), if_neg (show ¬ (5 : Int32) ≤ nI w from nI_ge (b := 5) hw (by decide)), e1, zb1_e, zlt_e, e2, zb2_e, y_mix, zb1_e, nI_1, hx]
          exact ⟨_, _, rfl, rfl, _, _, _, _, _, rfl, rfl, y_vu.symm, rfl, rfl, yI_a hA e3⟩
        · rintro x x3 y J A ⟨hx, rfl, rfl, hA⟩
          rw [if_pos (show (4 : Int32) < nI 5 by decide), if_pos (show (5 : Int32) ≤ nI 5 by decide)]
          exact ⟨_, _, rfl, rfl, hx, hA⟩
      · rintro x J A ⟨hx, hA⟩
        exact ⟨_, _, rfl, rfl, _, _, _, _, _, rfl, rfl, hx, rfl, rfl, hA⟩
    · rintro x x3 y J A ⟨hx, rfl, rfl, hA⟩
      rw [if_pos (nI_le (Nat.le_refl n) (by omega)), if_pos (nI_le (Nat.le_refl n) (by omega))]
      exact ⟨_, _, rfl, rfl, hx, hA⟩
  rintro x J A ⟨hx, hA⟩
  refine zq12 (fun x J A => x = J 39 ∧ yIV r c n b Xs Ps Pa Gs Ga Ns Na Qs Qa Ks Ka Ls La os Ms A) ?_ ?_
  · refine zp23 (fun k x x3 y J A => x = J 39 ∧ x3 = nI k ∧ y = nI k ∧ yIV r c n b Xs Ps Pa Gs Ga Ns Na Qs Qa Ks Ka Ls La os Ms A) _ (r * c) ?_ ?_ 0 (Nat.zero_le _) ⟨hx, rfl, rfl, hA⟩
    · rintro q x x3 y J A hq ⟨hx, rfl, rfl, hA⟩
      obtain ⟨v, B, e1, e2, e3⟩ := y_placeNow hA.1 hA.2.1 hA.2.2.1 hA.2.2.2.1 hq (show 0 < 2 by decide)
      have hB := yI_a hA e3
      obtain ⟨v', B', f1, f2, f3⟩ := y_placeNow hB.1 hB.2.1 hB.2.2.1 hB.2.2.2.1 hq (show 1 < 2 by decide)
      have g0 : fX5_place Gs Ns Na (nI q) (0 : Int32) = some v := e1
      have g1 : fX5_place Gs Ns Na (nI q) (1 : Int32) = some v' := f1
      have m0 : fX6_placeNow Ms A (nI q) (0 : Int32) = some (v, B) := e2
      have m1 : fX6_placeNow Ms B (nI q) (0 + 1 : Int32) = some (v', B') := f2
      rw [if_neg (nI_ge hq (by omega)), y_places hM.2.2.1 hM.2.2.2.1, zb1_e, if_neg (nI_ge hq (by omega)), g0, zb1_e, zlt_e, g1, zb1_e, zlt_e, nI_1, hx]
      have inner : zi3 (fun (x2_59h : Int32) (Mj_59h : Nat → Int64) (Ma_59h : Nat → Nat → Int32) => if (2 : Int32) ≤ x2_59h then some (.inr (Mj_59h, Ma_59h)) else zb2 (fX6_placeNow Ms Ma_59h (nI q) x2_59h) (fun (r18 : Int32) (Ma_19 : Nat → Nat → Int32) => zb1 (fX6_mix Mj_59h ((r18).toInt64)) (fun (Mj_21 : Nat → Int64) => some (.inl ((x2_59h + (1 : Int32)), Mj_21, Ma_19))))) (0 : Int32) J A = some (va_up (va_up J 39 ((31 : Int64) * J 39 + v.toInt64)) 39 ((31 : Int64) * (va_up J 39 ((31 : Int64) * J 39 + v.toInt64)) 39 + v'.toInt64), B') := by
        refine zi3_l (a0' := 0 + 1) (a1' := va_up J 39 ((31 : Int64) * J 39 + v.toInt64)) (a2' := B) ?_ (zi3_l (a0' := 0 + 1 + 1) (a1' := va_up (va_up J 39 ((31 : Int64) * J 39 + v.toInt64)) 39 ((31 : Int64) * (va_up J 39 ((31 : Int64) * J 39 + v.toInt64)) 39 + v'.toInt64)) (a2' := B') ?_ (zi3_r ?_))
        · rw [if_neg (show ¬ (2 : Int32) ≤ 0 by decide), m0, zb2_e, y_mix, zb1_e]
        · rw [if_neg (show ¬ (2 : Int32) ≤ 0 + 1 by decide), m1, zb2_e, y_mix, zb1_e]
        · rw [if_pos (show (2 : Int32) ≤ 0 + 1 + 1 by decide)]
      rw [inner, zb2_e]
      refine ⟨_, _, rfl, rfl, _, _, _, _, _, rfl, rfl, ?_, rfl, rfl, yI_a hB f3⟩
      rw [y_vu, y_vu]
    · rintro x x3 y J A ⟨hx, rfl, rfl, hA⟩
      rw [y_places hM.2.2.1 hM.2.2.2.1, zb1_e, if_pos (nI_le (Nat.le_refl _) (by omega)), if_pos (nI_le (Nat.le_refl _) (by omega))]
      exact ⟨_, _, rfl, rfl, hx, hA⟩
  rintro x J A ⟨hx, hA⟩
  refine zq52 (fun x X T U O J A => x = J 39 ∧ yIV r c n b X Ps Pa Gs Ga Ns Na Qs Qa Ks Ka Ls La O Ms A) ?_ ?_
  · by_cases n0 : n = 0
    · have b0 : b = 0 := by omega
      rw [n0, b0, if_pos (show nI 0 ≤ 0 by decide), if_pos (show nI 0 ≤ 0 by decide)]
      refine ⟨_, _, rfl, rfl, hx, ?_⟩
      rw [n0, b0] at hA
      exact hA
    · rw [if_neg (nI_nle (show 0 < b by omega) hb), if_neg (nI_nle (show 0 < n by omega) (by omega))]
      unfold fX6_mixBoard
      have M : ∃ v w, zi6 (fun (x1_109h : Int64) (x3_109h : Int32) (Xs_109h : Nat → Int32) (Ts_109h : Nat → Int32) (Ta_109h : Nat → Nat → Int32) (os_109h : Nat → Nat → Int32) => if (5 : Int32) < x3_109h then some (.inr (x1_109h, Xs_109h, Ts_109h, Ta_109h, os_109h)) else zb5 (fX5_courses Xs_109h Gs Ga Ns Na Ts_109h Ta_109h os_109h x3_109h) (fun (r33 : Int32) (Xs_34 : Nat → Int32) (Ts_35 : Nat → Int32) (Ta_36 : Nat → Nat → Int32) (os_37 : Nat → Nat → Int32) => zlt (((31 : Int64) * x1_109h) + (r33).toInt64) (fun (x1_39 : Int64) => some (.inl (x1_39, (x3_109h + (1 : Int32)), Xs_34, Ts_35, Ta_36, os_37))))) x (0 : Int32) Xs Ts Ta os = some v ∧ zi3 (fun (x1_2h : Int32) (Mj_2h : Nat → Int64) (Ma_2h : Nat → Nat → Int32) => if (6 : Int32) ≤ x1_2h then some (.inr (Mj_2h, Ma_2h)) else zb2 (fX6_coursesNow Ms Ma_2h x1_2h) (fun (r3 : Int32) (Ma_4 : Nat → Nat → Int32) => zb1 (fX6_mix Mj_2h ((r3).toInt64)) (fun (Mj_6 : Nat → Int64) => some (.inl ((x1_2h + (1 : Int32)), Mj_6, Ma_4))))) (0 : Int32) J A = some w ∧ v.1 = w.1 39 ∧ yIV r c n b v.2.1 Ps Pa Gs Ga Ns Na Qs Qa Ks Ka Ls La v.2.2.2.2 Ms w.2 := by
        refine zp63 (fun k x x3 X T U O y J A => x = J 39 ∧ x3 = nI k ∧ y = nI k ∧ yIV r c n b X Ps Pa Gs Ga Ns Na Qs Qa Ks Ka Ls La O Ms A) _ 6 ?_ ?_ 0 (Nat.zero_le _) ⟨hx, rfl, rfl, hA⟩
        · rintro k x x3 X T U O y J A hk ⟨hx, rfl, rfl, hA⟩
          obtain ⟨v, X', T', U', O', B, e1, _, e3, e4⟩ := y_courses hA hb T U (nI k)
          rw [if_neg (show ¬ (5 : Int32) < nI k from nI_nlt (b := k) (a := 5) (by omega) (by decide)), if_neg (y6g hk), e1, zb5_e, zlt_e, e4 n0 (y_zin hk (by decide)), zb2_e, y_mix, zb1_e, nI_1, hx]
          exact ⟨_, _, rfl, rfl, _, _, _, _, _, _, _, _, _, rfl, rfl, y_vu.symm, rfl, rfl, e3⟩
        · rintro x x3 X T U O y J A ⟨hx, rfl, rfl, hA⟩
          rw [if_pos (show (5 : Int32) < nI 6 by decide), if_pos y6p]
          exact ⟨_, _, rfl, rfl, hx, hA⟩
      obtain ⟨⟨x1, X1, T1, U1, O1⟩, ⟨J1, A1⟩, m1, m2, m3, m4⟩ := M
      change x1 = J1 39 at m3
      change yIV r c n b X1 Ps Pa Gs Ga Ns Na Qs Qa Ks Ka Ls La O1 Ms A1 at m4
      obtain ⟨v2, X2, T2, U2, O2, A2, w1, _, w3, w4⟩ := y_wins m4 hb T1 U1 0
      obtain ⟨v3, X3, T3, U3, O3, A3, s1, _, s3, s4⟩ := y_wins w3 hb T2 U2 1
      obtain ⟨v4, X4, T4, U4, O4, A4, q1, _, q3, q4⟩ := y_mean s3 hb T3 U3
      rw [m1, zb5_e, m2, zb2_e, w1, zb5_e, zlt_e, w4 n0 (by decide), zb2_e, y_mix, zb1_e, s1, zb5_e, zlt_e, s4 n0 (by decide), zb2_e, y_mix, zb1_e, q1, zb5_e, zlt_e, q4 n0, zb2_e, y_mix, zb1_e, zb2_e, m3]
      refine ⟨_, _, rfl, rfl, ?_, q3⟩
      simp only [y_vu]
  rintro x X T U O J A ⟨hx, hA⟩
  obtain ⟨l, cd, hP, hMg⟩ := yVP_g hA.2.2.2.2.2.2.1
  have hl := hP.1
  rw [hP.2.1, hMg.2.1]
  refine zq11 (fun x J => x = J 39) ?_ ?_
  · refine zp22 (fun k x x3 y J => x = J 39 ∧ x3 = nI k ∧ y = nI k) _ l ?_ ?_ 0 (Nat.zero_le _) ⟨hx, rfl, rfl⟩
    · rintro k x x3 y J hk ⟨hx, rfl, rfl⟩
      rw [if_neg (nI_ge hk (by omega)), if_neg (nI_ge hk (by omega)), y_codeAt hP (show k < 100 by omega), zb1_e, zlt_e, y_zin (show k < 18 by omega) (by decide), zck_e, nI_clamp (show k < 2 ^ 31 by omega), (hMg.2.2.1 k hk).1, y_mix, zb1_e, nI_1, hx, show yco l cd k = nI (cd k) from if_pos hk]
      exact ⟨_, _, rfl, rfl, _, _, _, _, rfl, rfl, y_vu.symm, rfl, rfl⟩
    · rintro x x3 y J ⟨hx, rfl, rfl⟩
      rw [if_pos (nI_le (Nat.le_refl l) (by omega)), if_pos (nI_le (Nat.le_refl l) (by omega))]
      exact ⟨_, _, rfl, rfl, hx⟩
  rintro x J hx
  refine zq12 (fun x J A => x = J 39 ∧ yIV r c n b X Ps Pa Gs Ga Ns Na Qs Qa Ks Ka Ls La O Ms A) ?_ ?_
  · refine zp23 (fun k x x3 y J A => x = J 39 ∧ x3 = nI k ∧ y = nI k ∧ yIV r c n b X Ps Pa Gs Ga Ns Na Qs Qa Ks Ka Ls La O Ms A) _ 11 ?_ ?_ 0 (Nat.zero_le _) ⟨hx, rfl, rfl, hA⟩
    · rintro k x x3 y J A hk ⟨hx, rfl, rfl, hA⟩
      obtain ⟨v, B, e1, e2, e3⟩ := y_count hA (nI k)
      rw [if_neg (show ¬ (10 : Int32) < nI k from nI_nlt (b := k) (a := 10) (by omega) (by decide)), if_neg (show ¬ (11 : Int32) ≤ nI k from nI_ge (b := 11) hk (by decide)), e1, zb1_e, zlt_e, e2, zb2_e, y_mix, zb1_e, nI_1, hx]
      exact ⟨_, _, rfl, rfl, _, _, _, _, _, rfl, rfl, y_vu.symm, rfl, rfl, yI_a hA e3⟩
    · rintro x x3 y J A ⟨hx, rfl, rfl, hA⟩
      rw [if_pos (show (10 : Int32) < nI 11 by decide), if_pos (show (11 : Int32) ≤ nI 11 by decide)]
      exact ⟨_, _, rfl, rfl, hx, hA⟩
  rintro x J A ⟨hx, hA⟩
  exact ⟨_, _, rfl, rfl, hx, hA⟩
