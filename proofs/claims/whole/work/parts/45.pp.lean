/-! pure: image, restore, count -/
theorem y_copyQ (S : Nat → Int32) (A : Nat → Nat → Int32) (U : Nat → Int32) (V : Nat → Nat → Int32) : ∃ z, fX3_copyFrom S A U V = some z ∧ z.1 2 = U 2 ∧ (∀ p, p < 6 → z.2 0 p = V 0 p) ∧ ∀ p, p < 6 → z.2 1 p = V 1 p := by
  unfold fX3_copyFrom
  rw [zlt_e]
  refine zb1_x (fun B => (∀ p, p < 6 → B 0 p = V 0 p) ∧ ∀ p, p < 6 → B 1 p = V 1 p) ?_ ?_
  · refine zf2 (fun k j B => j = nI k ∧ (∀ p, p < k → B 0 p = V 0 p) ∧ ∀ p, p < k → B 1 p = V 1 p) _ 6 ?_ ?_ 0 (Nat.zero_le _) ⟨rfl, fun p hp => absurd hp (Nat.not_lt_zero p), fun p hp => absurd hp (Nat.not_lt_zero p)⟩
    · rintro k j B hk ⟨rfl, h1, h2⟩
      refine Or.inl ?_
      rw [if_neg (y6g hk), y_zin (show k < 6 by omega) (by decide), zck_e, zck_e, zlt_e, zck_e, zck_e, zlt_e, nI_clamp (show k < 2 ^ 31 by omega), nI_1]
      refine ⟨_, _, rfl, rfl, fun p hp => ?_, fun p hp => ?_⟩
      · rw [y_vn (by decide), y_vu]
        by_cases e : p = k
        · subst e; rw [y_uu]
        · rw [y_un e]; exact h1 p (by omega)
      · rw [y_vu]
        by_cases e : p = k
        · subst e; rw [y_uu]
        · rw [y_un e, y_vn (by decide)]; exact h2 p (by omega)
    · rintro j B ⟨rfl, h1, h2⟩
      exact ⟨_, by rw [if_pos y6p], h1, h2⟩
  · rintro B ⟨h1, h2⟩
    refine ⟨_, rfl, ?_, h1, h2⟩
    show upd S 2 (U 2) 2 = U 2
    rw [y_uu]
theorem y7g {k : Nat} (h : k < 7) : ¬ (7 : Int32) ≤ nI k := nI_ge (b := 7) h (by omega)
theorem y7p : (7 : Int32) ≤ nI 7 := by decide
theorem y_im1 (A : Nat → Nat → Int32) : ∃ z, zi2 (fun (x1_q : Int32) (Ma_q : Nat → Nat → Int32) => if (7 : Int32) ≤ x1_q then some (.inr Ma_q) else zck (zin x1_q 8) (zck (zin x1_q 8) (zlt (va_up Ma_q 34 (upd (Ma_q 34) (x1_q).toNatClampNeg ((Ma_q 5) (x1_q).toNatClampNeg))) (fun (Ma_a : Nat → Nat → Int32) => zck (zin x1_q 8) (zck (zin x1_q 8) (zlt (va_up Ma_a 35 (upd (Ma_a 35) (x1_q).toNatClampNeg ((Ma_a 6) (x1_q).toNatClampNeg))) (fun (Ma_b : Nat → Nat → Int32) => some (.inl ((x1_q + (1 : Int32)), Ma_b))))))))) (0 : Int32) A = some z ∧ (∀ i, i ≠ 34 → i ≠ 35 → z i = A i) ∧ (∀ p, p < 7 → z 34 p = A 5 p) ∧ ∀ p, p < 7 → z 35 p = A 6 p := by
  refine zf2 (fun k j B => j = nI k ∧ (∀ i, i ≠ 34 → i ≠ 35 → B i = A i) ∧ (∀ p, p < k → B 34 p = A 5 p) ∧ ∀ p, p < k → B 35 p = A 6 p) _ 7 ?_ ?_ 0 (Nat.zero_le _) ⟨rfl, fun _ _ _ => rfl, fun p hp => absurd hp (Nat.not_lt_zero p), fun p hp => absurd hp (Nat.not_lt_zero p)⟩
  · rintro k j B hk ⟨rfl, h0, h1, h2⟩
    refine Or.inl ?_
    rw [if_neg (y7g hk), y_zin (show k < 8 by omega) (by decide), zck_e, zck_e, zlt_e, zck_e, zck_e, zlt_e, nI_clamp (show k < 2 ^ 31 by omega), nI_1]
    refine ⟨_, _, rfl, rfl, fun i i1 i2 => by rw [y_vn i2, y_vn i1]; exact h0 i i1 i2, fun p hp => ?_, fun p hp => ?_⟩
    · rw [y_vn (by decide), y_vu]
      by_cases e : p = k
      · subst e; rw [y_uu, h0 5 (by decide) (by decide)]
      · rw [y_un e]; exact h1 p (by omega)
    · rw [y_vu]
      by_cases e : p = k
      · subst e; rw [y_uu, y_vn (by decide), h0 6 (by decide) (by decide)]
      · rw [y_un e, y_vn (by decide)]; exact h2 p (by omega)
  · rintro j B ⟨rfl, h0, h1, h2⟩
    exact ⟨_, by rw [if_pos y7p], h0, h1, h2⟩
theorem y_im2 (A : Nat → Nat → Int32) : ∃ z, zi2 (fun (x1_q : Int32) (Ma_q : Nat → Nat → Int32) => if (6 : Int32) ≤ x1_q then some (.inr Ma_q) else zck (zin x1_q 6) (zck (zin x1_q 6) (zlt (va_up Ma_q 36 (upd (Ma_q 36) (x1_q).toNatClampNeg ((Ma_q 10) (x1_q).toNatClampNeg))) (fun (Ma_a : Nat → Nat → Int32) => zck (zin x1_q 6) (zck (zin x1_q 6) (zlt (va_up Ma_a 37 (upd (Ma_a 37) (x1_q).toNatClampNeg ((Ma_a 11) (x1_q).toNatClampNeg))) (fun (Ma_b : Nat → Nat → Int32) => zck (zin x1_q 6) (zck (zin x1_q 6) (zlt (va_up Ma_b 38 (upd (Ma_b 38) (x1_q).toNatClampNeg ((Ma_b 12) (x1_q).toNatClampNeg))) (fun (Ma_c : Nat → Nat → Int32) => some (.inl ((x1_q + (1 : Int32)), Ma_c)))))))))))) (0 : Int32) A = some z ∧ (∀ i, i ≠ 36 → i ≠ 37 → i ≠ 38 → z i = A i) ∧ (∀ p, p < 6 → z 36 p = A 10 p) ∧ (∀ p, p < 6 → z 37 p = A 11 p) ∧ ∀ p, p < 6 → z 38 p = A 12 p := by
  refine zf2 (fun k j B => j = nI k ∧ (∀ i, i ≠ 36 → i ≠ 37 → i ≠ 38 → B i = A i) ∧ (∀ p, p < k → B 36 p = A 10 p) ∧ (∀ p, p < k → B 37 p = A 11 p) ∧ ∀ p, p < k → B 38 p = A 12 p) _ 6 ?_ ?_ 0 (Nat.zero_le _) ⟨rfl, fun _ _ _ _ => rfl, fun p hp => absurd hp (Nat.not_lt_zero p), fun p hp => absurd hp (Nat.not_lt_zero p), fun p hp => absurd hp (Nat.not_lt_zero p)⟩
  · rintro k j B hk ⟨rfl, h0, h1, h2, h3⟩
    refine Or.inl ?_
    rw [if_neg (y6g hk), y_zin (show k < 6 by omega) (by decide), zck_e, zck_e, zlt_e, zck_e, zck_e, zlt_e, zck_e, zck_e, zlt_e, nI_clamp (show k < 2 ^ 31 by omega), nI_1]
    refine ⟨_, _, rfl, rfl, fun i i1 i2 i3 => by rw [y_vn i3, y_vn i2, y_vn i1]; exact h0 i i1 i2 i3, fun p hp => ?_, fun p hp => ?_, fun p hp => ?_⟩
    · rw [y_vn (by decide), y_vn (by decide), y_vu]
      by_cases e : p = k
      · subst e; rw [y_uu, h0 10 (by decide) (by decide) (by decide)]
      · rw [y_un e]; exact h1 p (by omega)
    · rw [y_vn (by decide), y_vu]
      by_cases e : p = k
      · subst e; rw [y_uu, y_vn (by decide), h0 11 (by decide) (by decide) (by decide)]
      · rw [y_un e, y_vn (by decide)]; exact h2 p (by omega)
    · rw [y_vu]
      by_cases e : p = k
      · subst e; rw [y_uu, y_vn (by decide), y_vn (by decide), h0 12 (by decide) (by decide) (by decide)]
      · rw [y_un e, y_vn (by decide), y_vn (by decide)]; exact h3 p (by omega)
  · rintro j B ⟨rfl, h0, h1, h2, h3⟩
    exact ⟨_, by rw [if_pos y6p], h0, h1, h2, h3⟩
theorem y_re1 (A : Nat → Nat → Int32) : ∃ z, zi2 (fun (x1_q : Int32) (Ma_q : Nat → Nat → Int32) => if (7 : Int32) ≤ x1_q then some (.inr Ma_q) else zck (zin x1_q 8) (zck (zin x1_q 8) (zlt (va_up Ma_q 5 (upd (Ma_q 5) (x1_q).toNatClampNeg ((Ma_q 34) (x1_q).toNatClampNeg))) (fun (Ma_a : Nat → Nat → Int32) => zck (zin x1_q 8) (zck (zin x1_q 8) (zlt (va_up Ma_a 6 (upd (Ma_a 6) (x1_q).toNatClampNeg ((Ma_a 35) (x1_q).toNatClampNeg))) (fun (Ma_b : Nat → Nat → Int32) => some (.inl ((x1_q + (1 : Int32)), Ma_b))))))))) (0 : Int32) A = some z ∧ (∀ i, i ≠ 5 → i ≠ 6 → z i = A i) ∧ (∀ p, p < 7 → z 5 p = A 34 p) ∧ ∀ p, p < 7 → z 6 p = A 35 p := by
  refine zf2 (fun k j B => j = nI k ∧ (∀ i, i ≠ 5 → i ≠ 6 → B i = A i) ∧ (∀ p, p < k → B 5 p = A 34 p) ∧ ∀ p, p < k → B 6 p = A 35 p) _ 7 ?_ ?_ 0 (Nat.zero_le _) ⟨rfl, fun _ _ _ => rfl, fun p hp => absurd hp (Nat.not_lt_zero p), fun p hp => absurd hp (Nat.not_lt_zero p)⟩
  · rintro k j B hk ⟨rfl, h0, h1, h2⟩
    refine Or.inl ?_
    rw [if_neg (y7g hk), y_zin (show k < 8 by omega) (by decide), zck_e, zck_e, zlt_e, zck_e, zck_e, zlt_e, nI_clamp (show k < 2 ^ 31 by omega), nI_1]
    refine ⟨_, _, rfl, rfl, fun i i1 i2 => by rw [y_vn i2, y_vn i1]; exact h0 i i1 i2, fun p hp => ?_, fun p hp => ?_⟩
    · rw [y_vn (by decide), y_vu]
      by_cases e : p = k
      · subst e; rw [y_uu, h0 34 (by decide) (by decide)]
      · rw [y_un e]; exact h1 p (by omega)
    · rw [y_vu]
      by_cases e : p = k
      · subst e; rw [y_uu, y_vn (by decide), h0 35 (by decide) (by decide)]
      · rw [y_un e, y_vn (by decide)]; exact h2 p (by omega)
  · rintro j B ⟨rfl, h0, h1, h2⟩
    exact ⟨_, by rw [if_pos y7p], h0, h1, h2⟩
theorem y_re2 (A : Nat → Nat → Int32) : ∃ z, zi2 (fun (x1_q : Int32) (Ma_q : Nat → Nat → Int32) => if (6 : Int32) ≤ x1_q then some (.inr Ma_q) else zck (zin x1_q 6) (zck (zin x1_q 6) (zlt (va_up Ma_q 10 (upd (Ma_q 10) (x1_q).toNatClampNeg ((Ma_q 36) (x1_q).toNatClampNeg))) (fun (Ma_a : Nat → Nat → Int32) => zck (zin x1_q 6) (zck (zin x1_q 6) (zlt (va_up Ma_a 11 (upd (Ma_a 11) (x1_q).toNatClampNeg ((Ma_a 37) (x1_q).toNatClampNeg))) (fun (Ma_b : Nat → Nat → Int32) => zck (zin x1_q 6) (zck (zin x1_q 6) (zlt (va_up Ma_b 12 (upd (Ma_b 12) (x1_q).toNatClampNeg ((Ma_b 38) (x1_q).toNatClampNeg))) (fun (Ma_c : Nat → Nat → Int32) => some (.inl ((x1_q + (1 : Int32)), Ma_c)))))))))))) (0 : Int32) A = some z ∧ (∀ i, i ≠ 10 → i ≠ 11 → i ≠ 12 → z i = A i) ∧ (∀ p, p < 6 → z 10 p = A 36 p) ∧ (∀ p, p < 6 → z 11 p = A 37 p) ∧ ∀ p, p < 6 → z 12 p = A 38 p := by
  refine zf2 (fun k j B => j = nI k ∧ (∀ i, i ≠ 10 → i ≠ 11 → i ≠ 12 → B i = A i) ∧ (∀ p, p < k → B 10 p = A 36 p) ∧ (∀ p, p < k → B 11 p = A 37 p) ∧ ∀ p, p < k → B 12 p = A 38 p) _ 6 ?_ ?_ 0 (Nat.zero_le _) ⟨rfl, fun _ _ _ _ => rfl, fun p hp => absurd hp (Nat.not_lt_zero p), fun p hp => absurd hp (Nat.not_lt_zero p), fun p hp => absurd hp (Nat.not_lt_zero p)⟩
  · rintro k j B hk ⟨rfl, h0, h1, h2, h3⟩
    refine Or.inl ?_
    rw [if_neg (y6g hk), y_zin (show k < 6 by omega) (by decide), zck_e, zck_e, zlt_e, zck_e, zck_e, zlt_e, zck_e, zck_e, zlt_e, nI_clamp (show k < 2 ^ 31 by omega), nI_1]
    refine ⟨_, _, rfl, rfl, fun i i1 i2 i3 => by rw [y_vn i3, y_vn i2, y_vn i1]; exact h0 i i1 i2 i3, fun p hp => ?_, fun p hp => ?_, fun p hp => ?_⟩
    · rw [y_vn (by decide), y_vn (by decide), y_vu]
      by_cases e : p = k
      · subst e; rw [y_uu, h0 36 (by decide) (by decide) (by decide)]
      · rw [y_un e]; exact h1 p (by omega)
    · rw [y_vn (by decide), y_vu]
      by_cases e : p = k
      · subst e; rw [y_uu, y_vn (by decide), h0 37 (by decide) (by decide) (by decide)]
      · rw [y_un e, y_vn (by decide)]; exact h2 p (by omega)
    · rw [y_vu]
      by_cases e : p = k
      · subst e; rw [y_uu, y_vn (by decide), y_vn (by decide), h0 38 (by decide) (by decide) (by decide)]
      · rw [y_un e, y_vn (by decide), y_vn (by decide)]; exact h3 p (by omega)
  · rintro j B ⟨rfl, h0, h1, h2, h3⟩
    exact ⟨_, by rw [if_pos y6p], h0, h1, h2, h3⟩
theorem yVQ_c {Q R : Nat → Int32} {A B : Nat → Nat → Int32} {sz : Int32} {pg wh co pg' wh' co' : Nat → Int32} (h : yVQ Q A sz pg wh co) (e2 : R 2 = Q 2) (e0 : ∀ p, p < 6 → B 0 p = A 0 p) (e1 : ∀ p, p < 6 → B 1 p = A 1 p) (f1 : ∀ p, p < 6 → pg' p = pg p) (f2 : ∀ p, p < 6 → wh' p = wh p) (f3 : ∀ p, p < 6 → co' p = co p) : yVQ R B sz pg' wh' co' := by
  obtain ⟨z, hz, h1, h2, h3⟩ := h
  refine ⟨z, hz, e2.trans h1, h2, fun i hi => ?_⟩
  rw [e0 i (by omega), e1 i (by omega), f1 i (by omega), f2 i (by omega), f3 i (by omega)]
  exact h3 i hi
theorem yVS_c {r c n : Nat} {S S' : Nat → Int32} {A A' : Nat → Nat → Int32} {hol jm : Int32} {kd pl kd' pl' : Nat → Int32} (h : yVS r c n S A hol jm kd pl) (h12 : r * c ≤ 12) (e1 : S' 1 = S 1) (e2 : S' 2 = S 2) (e3 : S' 3 = S 3) (e4 : S' 4 = S 4) (e5 : ∀ p, p < 8 → A' 5 p = A 5 p) (e6 : ∀ p, p < 8 → A' 6 p = A 6 p) (e7 : ∀ q, q < 12 → A' 7 q = A 7 q) (f5 : ∀ p, p < n → kd' p = kd p) (f6 : ∀ p, p < n → pl' p = pl p) : yVS r c n S' A' hol jm kd' pl' := by
  obtain ⟨h1, h2, h3, h4, h5, h6, h7⟩ := h
  have hn := h1.2.1
  refine ⟨yS_c h1 e2 e3 (fun p hp => e5 p (by omega)) (fun p hp => e6 p (by omega)) (fun q hq => e7 q (by omega)), by rw [e1]; exact h2, by rw [e4]; exact h3, h4.trans e1.symm, h5.trans e4.symm, fun p hp => ?_, fun p hp => ?_⟩
  · rw [f5 p hp, e5 p (by omega)]; exact h6 p hp
  · rw [f6 p hp, e6 p (by omega)]; exact h7 p hp
theorem y_image {r c n b : Nat} {Xs Ps : Nat → Int32} {Pa : Nat → Nat → Int32} {Gs : Nat → Int32} {Ga : Nat → Nat → Int32} {Ns : Nat → Int32} {Na : Nat → Nat → Int32} {Qs : Nat → Int32} {Qa : Nat → Nat → Int32} {Ks : Nat → Int32} {Ka : Nat → Nat → Int32} {Ls : Nat → Int32} {La : Nat → Nat → Int32} {os : Nat → Nat → Int32} {Ms : Nat → Int32} {Ma : Nat → Nat → Int32} (h : yIV r c n b Xs Ps Pa Gs Ga Ns Na Qs Qa Ks Ka Ls La os Ms Ma) (hb : b < 2 ^ 31) : ∃ v X' K1 K2 L1 L2 M' B', fX5_image Xs Ns Na Qs Qa Ks Ka Ls La = some (v, X', K1, K2, L1, L2) ∧ fX6_image Ms Ma = some (v, M', B') ∧ yIV r c n b X' Ps Pa Gs Ga Ns Na Qs Qa K1 K2 L1 L2 os M' B' := by
  have hV := h.1
  have hM := h.2.2.1
  have hS := h.2.2.2.1
  have hQ := h.2.2.2.2.2.1
  have hn7 := yV_7 hV
  have h12 := yV_12 hV
  have hnb := yV_b hV
  unfold fX5_image fX6_image
  rw [hM.1, hM.2.2.2.2]
  by_cases n0 : n = 0
  · have b0 : b = 0 := by omega
    subst n0
    subst b0
    rw [if_pos (show nI 0 = 0 from rfl), if_pos (show nI 0 = 0 from rfl)]
    exact ⟨_, _, _, _, _, _, _, _, rfl, rfl, h⟩
  rw [if_neg (nI_ne0 (show 0 < b by omega) hb), if_neg (nI_ne0 (show 0 < n by omega) (by omega))]
  obtain ⟨⟨K1, K2⟩, hz, z1, z2, z3, z4, z5, z6, z7⟩ := y_copy Ks Ka Ns Na
  obtain ⟨⟨L1, L2⟩, hw, w2, w3, w4⟩ := y_copyQ Ls La Qs Qa
  rw [hz, zb2_e, hw, zb2_e, zlt_e, zlt_e, zlt_e, zlt_e, zlt_e, zlt_e]
  generalize eM : upd (upd (upd (upd (upd Ms 29 1) 30 (upd Ms 29 1 0)) 31 (upd (upd Ms 29 1) 30 (upd Ms 29 1 0) 3)) 32 (upd (upd (upd Ms 29 1) 30 (upd Ms 29 1 0)) 31 (upd (upd Ms 29 1) 30 (upd Ms 29 1 0) 3) 7)) 33 (upd (upd (upd (upd Ms 29 1) 30 (upd Ms 29 1 0)) 31 (upd (upd Ms 29 1) 30 (upd Ms 29 1 0) 3)) 32 (upd (upd (upd Ms 29 1) 30 (upd Ms 29 1 0)) 31 (upd (upd Ms 29 1) 30 (upd Ms 29 1 0) 3) 7) 9) = M'
  have Mk : ∀ i, i < 29 → M' i = Ms i := fun i hi => by rw [← eM, y_un (by omega), y_un (by omega), y_un (by omega), y_un (by omega), y_un (by omega)]
  have M29 : M' 29 = 1 := by rw [← eM, y_un (by omega), y_un (by omega), y_un (by omega), y_un (by omega), y_uu]
  have M30 : M' 30 = Ms 0 := by rw [← eM, y_un (by omega), y_un (by omega), y_un (by omega), y_uu, y_un (by omega)]
  have M31 : M' 31 = Ms 3 := by rw [← eM, y_un (by omega), y_un (by omega), y_uu, y_un (by omega), y_un (by omega)]
  have M32 : M' 32 = Ms 7 := by rw [← eM, y_un (by omega), y_uu, y_un (by omega), y_un (by omega), y_un (by omega)]
  have M33 : M' 33 = Ms 9 := by rw [← eM, y_uu, y_un (by omega), y_un (by omega), y_un (by omega), y_un (by omega)]
  obtain ⟨B1, hB1, p0, p1, p2⟩ := y_im1 Ma
  obtain ⟨B2, hB2, q0, q1, q2, q3⟩ := y_im2 B1
  rw [hB1, zb1_e, hB2, zb1_e]
  have Bk : ∀ i, i < 34 → B2 i = Ma i := fun i hi => by rw [q0 i (by omega) (by omega) (by omega), p0 i (by omega) (by omega)]
  refine ⟨Ns 4, _, _, _, _, _, M', B2, rfl, by rw [Mk 7 (by decide), hS.2.2.2.2.1], ?_⟩
  obtain ⟨h1, h2, h3, h4, h5, h6, h7, h8, h9⟩ := h
  refine ⟨h1, h2, ?_, ?_, ?_, ?_, ?_, Or.inr ⟨y_uu, M29, M30.trans h3.2.1, ?_, ?_⟩, ?_⟩
  · unfold yVM at *
    rw [y_un (by decide), Mk 0 (by decide), Mk 1 (by decide), Mk 2 (by decide), Mk 4 (by decide)]
    exact h3
  · rw [Mk 3 (by decide), Mk 7 (by decide), Bk 5 (by decide), Bk 6 (by decide)]; exact h4
  · rw [y_un (by decide), Mk 8 (by decide)]; exact h5
  · rw [Mk 9 (by decide), Bk 10 (by decide), Bk 11 (by decide), Bk 12 (by decide)]; exact h6
  · rw [Mk 13 (by decide), Bk 14 (by decide)]; exact h7
  · rw [M31, M32]
    refine yVS_c h4 h12 z1 z2 z3 z4 z5 z6 z7 (fun p hp => ?_) (fun p hp => ?_)
    · rw [q0 34 (by decide) (by decide) (by decide)]; exact p1 p (by omega)
    · rw [q0 35 (by decide) (by decide) (by decide)]; exact p2 p (by omega)
  · rw [M33]
    refine yVQ_c h6 w2 w3 w4 (fun p hp => ?_) (fun p hp => ?_) (fun p hp => ?_)
    · rw [q1 p hp, p0 10 (by decide) (by decide)]
    · rw [q2 p hp, p0 11 (by decide) (by decide)]
    · rw [q3 p hp, p0 12 (by decide) (by decide)]
  · rw [y_un (by decide)]; exact h9
theorem y_restore {r c n b : Nat} {Xs Ps : Nat → Int32} {Pa : Nat → Nat → Int32} {Gs : Nat → Int32} {Ga : Nat → Nat → Int32} {Ns : Nat → Int32} {Na : Nat → Nat → Int32} {Qs : Nat → Int32} {Qa : Nat → Nat → Int32} {Ks : Nat → Int32} {Ka : Nat → Nat → Int32} {Ls : Nat → Int32} {La : Nat → Nat → Int32} {os : Nat → Nat → Int32} {Ms : Nat → Int32} {Ma : Nat → Nat → Int32} (h : yIV r c n b Xs Ps Pa Gs Ga Ns Na Qs Qa Ks Ka Ls La os Ms Ma) (hb : b < 2 ^ 31) : ∃ v X' N1 N2 Q1 Q2 M' B', fX5_restore Xs Ns Na Qs Qa Ks Ka Ls La = some (v, X', N1, N2, Q1, Q2) ∧ fX6_restore Ms Ma = some (v, M', B') ∧ yIV r c n b X' Ps Pa Gs Ga N1 N2 Q1 Q2 Ks Ka Ls La os M' B' := by
  have hV := h.1
  have hM := h.2.2.1
  have hK := h.2.2.2.2.2.2.2.1
  have hn7 := yV_7 hV
  have h12 := yV_12 hV
  unfold fX5_restore fX6_restore
  rcases hK with ⟨x6, hno⟩ | ⟨x6, m29, m30, hKS, hKQ⟩
  · rw [if_pos x6]
    by_cases c29 : Ms 29 = 0
    · rw [if_pos c29]; exact ⟨_, _, _, _, _, _, _, _, rfl, rfl, h⟩
    · rcases hno with e | ⟨b', hb', e⟩
      · exact absurd e c29
      · rw [if_neg c29, if_neg (show ¬ Ms 30 = Ms 0 from fun q => by
          rw [e, hM.2.1] at q
          have := y_i (by omega) hb q
          omega)]
        exact ⟨_, _, _, _, _, _, _, _, rfl, rfl, h⟩
  rw [if_neg (by rw [x6]; exact n10), if_neg (by rw [m29]; exact n10), if_pos (m30.trans hM.2.1.symm)]
  obtain ⟨⟨N1, N2⟩, hz, z1, z2, z3, z4, z5, z6, z7⟩ := y_copy Ns Na Ks Ka
  obtain ⟨⟨Q1, Q2⟩, hw, w2, w3, w4⟩ := y_copyQ Qs Qa Ls La
  rw [hz, zb2_e, hw, zb2_e, zlt_e, zlt_e, zlt_e, zlt_e]
  generalize eM : upd (upd (upd Ms 3 (Ms 31)) 7 (upd Ms 3 (Ms 31) 32)) 9 (upd (upd Ms 3 (Ms 31)) 7 (upd Ms 3 (Ms 31) 32) 33) = M'
  have Mk : ∀ i, i ≠ 3 → i ≠ 7 → i ≠ 9 → M' i = Ms i := fun i i1 i2 i3 => by rw [← eM, y_un i3, y_un i2, y_un i1]
  have M3 : M' 3 = Ms 31 := by rw [← eM, y_un (by omega), y_un (by omega), y_uu]
  have M7 : M' 7 = Ms 32 := by rw [← eM, y_un (by omega), y_uu, y_un (by omega)]
  have M9 : M' 9 = Ms 33 := by rw [← eM, y_uu, y_un (by omega), y_un (by omega)]
  obtain ⟨B1, hB1, p0, p1, p2⟩ := y_re1 Ma
  obtain ⟨B2, hB2, q0, q1, q2, q3⟩ := y_re2 B1
  rw [hB1, zb1_e, hB2, zb1_e]
  have Bk : ∀ i, i ≠ 5 → i ≠ 6 → i ≠ 10 → i ≠ 11 → i ≠ 12 → B2 i = Ma i := fun i i1 i2 i3 i4 i5 => by rw [q0 i i3 i4 i5, p0 i i1 i2]
  change N1 1 = Ks 1 at z1
  change N1 4 = Ks 4 at z4
  refine ⟨N1 4, _, _, _, _, _, M', B2, rfl, by rw [M7, z4, hKS.2.2.2.2.1], ?_⟩
  obtain ⟨h1, h2, h3, h4, h5, h6, h7, h8, h9⟩ := h
  refine ⟨h1, h2, ?_, ?_, ?_, ?_, ?_, ?_, Or.inl y_uu⟩
  · unfold yVM at *
    rw [y_un (by decide), Mk 0 (by decide) (by decide) (by decide), Mk 1 (by decide) (by decide) (by decide), Mk 2 (by decide) (by decide) (by decide), Mk 4 (by decide) (by decide) (by decide)]
    exact h3
  · rw [M3, M7]
    refine yVS_c hKS h12 z1 z2 z3 z4 z5 z6 z7 (fun p hp => ?_) (fun p hp => ?_)
    · rw [q0 5 (by decide) (by decide) (by decide)]; exact p1 p (by omega)
    · rw [q0 6 (by decide) (by decide) (by decide)]; exact p2 p (by omega)
  · rw [y_un (by decide), Mk 8 (by decide) (by decide) (by decide)]; exact h5
  · rw [M9]
    refine yVQ_c hKQ w2 w3 w4 (fun p hp => ?_) (fun p hp => ?_) (fun p hp => ?_)
    · rw [q1 p hp, p0 36 (by decide) (by decide)]
    · rw [q2 p hp, p0 37 (by decide) (by decide)]
    · rw [q3 p hp, p0 38 (by decide) (by decide)]
  · rw [Mk 13 (by decide) (by decide) (by decide), Bk 14 (by decide) (by decide) (by decide) (by decide) (by decide)]; exact h7
  · unfold yVK at *
    rw [y_un (by decide), Mk 29 (by decide) (by decide) (by decide), Mk 30 (by decide) (by decide) (by decide), Mk 31 (by decide) (by decide) (by decide), Mk 32 (by decide) (by decide) (by decide), Mk 33 (by decide) (by decide) (by decide), Bk 34 (by decide) (by decide) (by decide) (by decide) (by decide), Bk 35 (by decide) (by decide) (by decide) (by decide) (by decide), Bk 36 (by decide) (by decide) (by decide) (by decide) (by decide), Bk 37 (by decide) (by decide) (by decide) (by decide) (by decide), Bk 38 (by decide) (by decide) (by decide) (by decide) (by decide)]
    exact h8
/-! count -/
theorem y_ch {r c n b : Nat} {s gs : Nat → Int32} {a ga : Nat → Nat → Int32} (hV : yV r c n b) (hG : yG r c gs ga) (hS : yS (r * c) n s a) : fX4_choices s a gs ga = some (nI (yLL r c n (a 5) (a 6) (s 1) n).length) := by
  by_cases n0 : n = 0
  · subst n0
    unfold fX4_choices
    rw [hS.1]
    refine (zb1_t (a0 := (0 : Int32)) (zi2_r ?_) _).trans rfl
    rw [if_pos (show nI 0 ≤ 0 by decide)]
  · exact y_choices (yV_n hV (by omega)) hG hS
theorem y_jn {r c n b : Nat} {hb : Int32} {kd h s : Nat → Int32} {a : Nat → Nat → Int32} (hV : yV r c n b) (hM : yM r c n hb kd s a) (hR : yR n 0 h a) (hH : yH (r * c) n h) : fX6_jumpsNow s a (0 : Int32) = some (nI (yLL r c n kd h hb n).length) := by
  by_cases n0 : n = 0
  · subst n0
    unfold fX6_jumpsNow
    rw [hM.2.2.2.1]
    refine (zb1_t (a0 := (0 : Int32)) (zi2_r ?_) _).trans rfl
    rw [if_pos (show nI 0 ≤ 0 by decide)]
  · exact y_jumpsNow (d := 0) (yV_n hV (by omega)) hM hR hH (by decide)
theorem y_count {r c n b : Nat} {Xs Ps : Nat → Int32} {Pa : Nat → Nat → Int32} {Gs : Nat → Int32} {Ga : Nat → Nat → Int32} {Ns : Nat → Int32} {Na : Nat → Nat → Int32} {Qs : Nat → Int32} {Qa : Nat → Nat → Int32} {Ks : Nat → Int32} {Ka : Nat → Nat → Int32} {Ls : Nat → Int32} {La : Nat → Nat → Int32} {os : Nat → Nat → Int32} {Ms : Nat → Int32} {Ma : Nat → Nat → Int32} (h : yIV r c n b Xs Ps Pa Gs Ga Ns Na Qs Qa Ks Ka Ls La os Ms Ma) (x : Int32) : ∃ v B', fX5_count Xs Ps Gs Ga Ns Na Qs x = some v ∧ fX6_howMany Ms Ma x = some (v, B') ∧ ∀ i, i < 17 ∨ 27 < i → B' i = Ma i := by
  have hV := h.1
  have hG := h.2.1
  have hM := h.2.2.1
  have hS := h.2.2.2.1
  obtain ⟨e, he, ex, em⟩ := h.2.2.2.2.1
  obtain ⟨z, hz, qz, mz, _⟩ := h.2.2.2.2.2.1
  obtain ⟨l, hl, pl, ml, _⟩ := h.2.2.2.2.2.2.1
  have hn := hS.1.2.1
  obtain ⟨B, hB', B1, B2⟩ := y_putDeep (s := Ms) (a := Ma) hM.2.2.2.2 hn
  have hMB : yM r c n (Ns 1) (Na 5) Ms B := yM_c (yVS_M hM hS) (B1 5 (by decide))
  have hR : yR n 0 (Na 6) B := fun j hj => (B2 j hj).trans (hS.2.2.2.2.2.2 j hj)
  have fr : ∀ i, i < 17 ∨ 27 < i → B i = Ma i := fun i hi => B1 i (by omega)
  obtain ⟨m, hm, hm2⟩ := hS.2.1
  unfold fX5_count fX6_howMany
  by_cases c0 : x = 0
  · subst c0
    refine ⟨_, B, by rw [if_pos rfl, hG.1], ?_, fr⟩
    rw [if_neg (show ¬ (0 : Int32) = 6 by decide), if_neg (show ¬ (0 : Int32) = 7 by decide), if_neg (show ¬ (0 : Int32) = 8 by decide), if_neg (show ¬ (0 : Int32) = 9 by decide), if_neg (show ¬ (0 : Int32) = 10 by decide), y_w (N := 5) rfl, zb1_e, show zin (0 : Int32) (5 + 1) = true by decide, yb_t, if_neg n10]
    unfold fX6_ofBoard
    rw [hB', zb1_e, if_pos rfl, hM.2.2.1, zb2_e]
  by_cases c1 : x = 1
  · subst c1
    refine ⟨_, B, by rw [if_neg (show ¬ (1 : Int32) = 0 by decide), if_pos rfl, hG.2.1], ?_, fr⟩
    rw [if_neg (show ¬ (1 : Int32) = 6 by decide), if_neg (show ¬ (1 : Int32) = 7 by decide), if_neg (show ¬ (1 : Int32) = 8 by decide), if_neg (show ¬ (1 : Int32) = 9 by decide), if_neg (show ¬ (1 : Int32) = 10 by decide), y_w (N := 5) rfl, zb1_e, show zin (1 : Int32) (5 + 1) = true by decide, yb_t, if_neg n10]
    unfold fX6_ofBoard
    rw [hB', zb1_e, if_neg (show ¬ (1 : Int32) = 0 by decide), if_pos rfl, hM.2.2.2.1, zb2_e]
  by_cases c2 : x = 2
  · subst c2
    refine ⟨_, B, by rw [if_neg (show ¬ (2 : Int32) = 0 by decide), if_neg (show ¬ (2 : Int32) = 1 by decide), if_pos rfl, hm2, y_bits hm, zb1_e], ?_, fr⟩
    rw [if_neg (show ¬ (2 : Int32) = 6 by decide), if_neg (show ¬ (2 : Int32) = 7 by decide), if_neg (show ¬ (2 : Int32) = 8 by decide), if_neg (show ¬ (2 : Int32) = 9 by decide), if_neg (show ¬ (2 : Int32) = 10 by decide), y_w (N := 5) rfl, zb1_e, show zin (2 : Int32) (5 + 1) = true by decide, yb_t, if_neg n10]
    unfold fX6_ofBoard
    rw [hB', zb1_e, if_neg (show ¬ (2 : Int32) = 0 by decide), if_neg (show ¬ (2 : Int32) = 1 by decide), if_pos rfl, hS.2.2.2.1, hm2, y_size, zb1_e, zb2_e]
  by_cases c3 : x = 3
  · subst c3
    refine ⟨_, B, by rw [if_neg (show ¬ (3 : Int32) = 0 by decide), if_neg (show ¬ (3 : Int32) = 1 by decide), if_neg (show ¬ (3 : Int32) = 2 by decide), if_pos rfl, hS.1.1], ?_, fr⟩
    rw [if_neg (show ¬ (3 : Int32) = 6 by decide), if_neg (show ¬ (3 : Int32) = 7 by decide), if_neg (show ¬ (3 : Int32) = 8 by decide), if_neg (show ¬ (3 : Int32) = 9 by decide), if_neg (show ¬ (3 : Int32) = 10 by decide), y_w (N := 5) rfl, zb1_e, show zin (3 : Int32) (5 + 1) = true by decide, yb_t, if_neg n10]
    unfold fX6_ofBoard
    rw [hB', zb1_e, if_neg (show ¬ (3 : Int32) = 0 by decide), if_neg (show ¬ (3 : Int32) = 1 by decide), if_neg (show ¬ (3 : Int32) = 2 by decide), if_pos rfl, hM.2.2.2.2, zb2_e]
  by_cases c4 : x = 4
  · subst c4
    refine ⟨_, B, by rw [if_neg (show ¬ (4 : Int32) = 0 by decide), if_neg (show ¬ (4 : Int32) = 1 by decide), if_neg (show ¬ (4 : Int32) = 2 by decide), if_neg (show ¬ (4 : Int32) = 3 by decide), if_pos rfl, hS.1.2.2.2.2.2], ?_, fr⟩
    rw [if_neg (show ¬ (4 : Int32) = 6 by decide), if_neg (show ¬ (4 : Int32) = 7 by decide), if_neg (show ¬ (4 : Int32) = 8 by decide), if_neg (show ¬ (4 : Int32) = 9 by decide), if_neg (show ¬ (4 : Int32) = 10 by decide), y_w (N := 5) rfl, zb1_e, show zin (4 : Int32) (5 + 1) = true by decide, yb_t, if_neg n10]
    unfold fX6_ofBoard
    rw [hB', zb1_e, if_neg (show ¬ (4 : Int32) = 0 by decide), if_neg (show ¬ (4 : Int32) = 1 by decide), if_neg (show ¬ (4 : Int32) = 2 by decide), if_neg (show ¬ (4 : Int32) = 3 by decide), if_pos rfl, y_onNow hM.2.2.2.2 hn hR, zb1_e, zb2_e]
  by_cases c5 : x = 5
  · subst c5
    refine ⟨_, B, by rw [if_neg (show ¬ (5 : Int32) = 0 by decide), if_neg (show ¬ (5 : Int32) = 1 by decide), if_neg (show ¬ (5 : Int32) = 2 by decide), if_neg (show ¬ (5 : Int32) = 3 by decide), if_neg (show ¬ (5 : Int32) = 4 by decide), if_pos rfl, y_ch hV hG hS.1, zb1_e], ?_, fr⟩
    rw [if_neg (show ¬ (5 : Int32) = 6 by decide), if_neg (show ¬ (5 : Int32) = 7 by decide), if_neg (show ¬ (5 : Int32) = 8 by decide), if_neg (show ¬ (5 : Int32) = 9 by decide), if_neg (show ¬ (5 : Int32) = 10 by decide), y_w (N := 5) rfl, zb1_e, show zin (5 : Int32) (5 + 1) = true by decide, yb_t, if_neg n10]
    unfold fX6_ofBoard
    rw [hB', zb1_e, if_neg (show ¬ (5 : Int32) = 0 by decide), if_neg (show ¬ (5 : Int32) = 1 by decide), if_neg (show ¬ (5 : Int32) = 2 by decide), if_neg (show ¬ (5 : Int32) = 3 by decide), if_neg (show ¬ (5 : Int32) = 4 by decide), y_jn hV hMB hR hS.1.2.2.2.1, zb1_e, zb2_e]
  by_cases c6 : x = 6
  · subst c6
    refine ⟨_, Ma, by rw [if_neg (show ¬ (6 : Int32) = 0 by decide), if_neg (show ¬ (6 : Int32) = 1 by decide), if_neg (show ¬ (6 : Int32) = 2 by decide), if_neg (show ¬ (6 : Int32) = 3 by decide), if_neg (show ¬ (6 : Int32) = 4 by decide), if_neg (show ¬ (6 : Int32) = 5 by decide), if_pos rfl], ?_, fun _ _ => rfl⟩
    rw [if_pos rfl, hS.2.2.2.2.1]
  by_cases c7 : x = 7
  · subst c7
    refine ⟨_, Ma, by rw [if_neg (show ¬ (7 : Int32) = 0 by decide), if_neg (show ¬ (7 : Int32) = 1 by decide), if_neg (show ¬ (7 : Int32) = 2 by decide), if_neg (show ¬ (7 : Int32) = 3 by decide), if_neg (show ¬ (7 : Int32) = 4 by decide), if_neg (show ¬ (7 : Int32) = 5 by decide), if_neg (show ¬ (7 : Int32) = 6 by decide), if_pos rfl], ?_, fun _ _ => rfl⟩
    rw [if_neg (show ¬ (7 : Int32) = 6 by decide), if_pos rfl, mz, qz]
  by_cases c8 : x = 8
  · subst c8
    refine ⟨_, Ma, by rw [if_neg (show ¬ (8 : Int32) = 0 by decide), if_neg (show ¬ (8 : Int32) = 1 by decide), if_neg (show ¬ (8 : Int32) = 2 by decide), if_neg (show ¬ (8 : Int32) = 3 by decide), if_neg (show ¬ (8 : Int32) = 4 by decide), if_neg (show ¬ (8 : Int32) = 5 by decide), if_neg (show ¬ (8 : Int32) = 6 by decide), if_neg (show ¬ (8 : Int32) = 7 by decide), if_pos rfl], ?_, fun _ _ => rfl⟩
    rw [if_neg (show ¬ (8 : Int32) = 6 by decide), if_neg (show ¬ (8 : Int32) = 7 by decide), if_pos rfl, ml, pl]
  by_cases c9 : x = 9
  · subst c9
    refine ⟨_, Ma, by rw [if_neg (show ¬ (9 : Int32) = 0 by decide), if_neg (show ¬ (9 : Int32) = 1 by decide), if_neg (show ¬ (9 : Int32) = 2 by decide), if_neg (show ¬ (9 : Int32) = 3 by decide), if_neg (show ¬ (9 : Int32) = 4 by decide), if_neg (show ¬ (9 : Int32) = 5 by decide), if_neg (show ¬ (9 : Int32) = 6 by decide), if_neg (show ¬ (9 : Int32) = 7 by decide), if_neg (show ¬ (9 : Int32) = 8 by decide), if_pos rfl], ?_, fun _ _ => rfl⟩
    rw [if_neg (show ¬ (9 : Int32) = 6 by decide), if_neg (show ¬ (9 : Int32) = 7 by decide), if_neg (show ¬ (9 : Int32) = 8 by decide), if_pos rfl, hM.1, hM.2.1]
  by_cases c10 : x = 10
  · subst c10
    refine ⟨_, Ma, by rw [if_neg (show ¬ (10 : Int32) = 0 by decide), if_neg (show ¬ (10 : Int32) = 1 by decide), if_neg (show ¬ (10 : Int32) = 2 by decide), if_neg (show ¬ (10 : Int32) = 3 by decide), if_neg (show ¬ (10 : Int32) = 4 by decide), if_neg (show ¬ (10 : Int32) = 5 by decide), if_neg (show ¬ (10 : Int32) = 6 by decide), if_neg (show ¬ (10 : Int32) = 7 by decide), if_neg (show ¬ (10 : Int32) = 8 by decide), if_neg (show ¬ (10 : Int32) = 9 by decide), if_pos rfl], ?_, fun _ _ => rfl⟩
    rw [if_neg (show ¬ (10 : Int32) = 6 by decide), if_neg (show ¬ (10 : Int32) = 7 by decide), if_neg (show ¬ (10 : Int32) = 8 by decide), if_neg (show ¬ (10 : Int32) = 9 by decide), if_pos rfl, ex, em]
  refine ⟨_, Ma, by rw [if_neg c0, if_neg c1, if_neg c2, if_neg c3, if_neg c4, if_neg c5, if_neg c6, if_neg c7, if_neg c8, if_neg c9, if_neg c10], ?_, fun _ _ => rfl⟩
  rw [if_neg c6, if_neg c7, if_neg c8, if_neg c9, if_neg c10, y_w (N := 5) rfl, zb1_e]
  cases hz : zin x (5 + 1) with
  | true =>
    obtain ⟨j, hj, rfl⟩ := y_zinE hz (by decide)
    exfalso
    rcases (show j = 0 ∨ j = 1 ∨ j = 2 ∨ j = 3 ∨ j = 4 ∨ j = 5 by omega) with rfl | rfl | rfl | rfl | rfl | rfl
    · exact c0 rfl
    · exact c1 rfl
    · exact c2 rfl
    · exact c3 rfl
    · exact c4 rfl
    · exact c5 rfl
  | false => rw [yb_f, if_pos rfl]
