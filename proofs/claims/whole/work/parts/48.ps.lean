/-! pure: a board is laid and read -/
noncomputable def ypchk (r c : Nat) : Bool := (List.range r).all (fun i => (List.range c).all (fun j => (List.range 8).all (fun d => decide (fX0_placeAt (fun k => if k = 0 then nI r else nI c) (nI i + zRS d) (nI j + zCS d) = some (yI (ynbN r c (i * c + j) d))))))
theorem ypchk_all : (ypchk 2 2 && ypchk 2 3 && ypchk 2 4 && ypchk 3 2 && ypchk 3 3 && ypchk 3 4 && ypchk 4 2 && ypchk 4 3) = true := by decide +kernel
theorem ypchk_ok {r c : Nat} (h : yB r c) : ypchk r c = true := by
  have h0 := ypchk_all
  simp only [Bool.and_eq_true] at h0
  obtain ⟨⟨⟨⟨⟨⟨⟨h1, h2⟩, h3⟩, h4⟩, h5⟩, h6⟩, h7⟩, h8⟩ := h0
  obtain ⟨a, b, c1, d, e⟩ := h
  rcases (show r = 2 ∨ r = 3 ∨ r = 4 by omega) with rfl | rfl | rfl
  · rcases (show c = 2 ∨ c = 3 ∨ c = 4 by omega) with rfl | rfl | rfl
    · exact h1
    · exact h2
    · exact h3
  · rcases (show c = 2 ∨ c = 3 ∨ c = 4 by omega) with rfl | rfl | rfl
    · exact h4
    · exact h5
    · exact h6
  · rcases (show c = 2 ∨ c = 3 ∨ c = 4 by omega) with rfl | rfl | rfl
    · exact h7
    · exact h8
    · omega
theorem y_placeAt {r c i j d : Nat} {s : Nat → Int32} (hB : yB r c) (h0 : s 0 = nI r) (h1 : s 1 = nI c) (hi : i < r) (hj : j < c) (hd : d < 8) : fX0_placeAt s (nI i + zRS d) (nI j + zCS d) = some (yI (ynbN r c (i * c + j) d)) := by
  have e : fX0_placeAt s (nI i + zRS d) (nI j + zCS d) = fX0_placeAt (fun k => if k = 0 then nI r else nI c) (nI i + zRS d) (nI j + zCS d) := by
    unfold fX0_placeAt
    rw [h0, h1]
    rfl
  rw [e]
  have := ypchk_ok hB
  unfold ypchk at this
  exact of_decide_eq_true (List.all_eq_true.mp (List.all_eq_true.mp (List.all_eq_true.mp this i (List.mem_range.mpr hi)) j (List.mem_range.mpr hj)) d (List.mem_range.mpr hd))
theorem y_rowcol {r c i : Nat} (hi : i < r) : i * c + c ≤ r * c := by
  have := Nat.mul_le_mul_right c (show i + 1 ≤ r by omega)
  rw [Nat.add_mul, Nat.one_mul] at this
  exact this
theorem y_layG {r c : Nat} (Gs : Nat → Int32) (Ga : Nat → Nat → Int32) (hB : yB r c) : ∃ z, fX0_lay Gs Ga (nI r) (nI c) = some z ∧ yG r c z.1 z.2 := by
  obtain ⟨hr2, hr4, hc2, hc4, h12⟩ := hB
  unfold fX0_lay
  rw [zjn_e, if_neg (nI_nle (show 0 < r by omega) (by omega)), if_neg (show ¬ (4 : Int32) < nI r from nI_nlt (a := 4) hr4 (by decide)), if_neg (nI_nle (show 0 < c by omega) (by omega)), if_neg (show ¬ (4 : Int32) < nI c from nI_nlt (a := 4) hc4 (by decide)), zb1_e, if_neg n10, pk_mul, if_pos (show nI (r * c) ≤ 12 from nI_le (b := 12) h12 (by decide)), zlt_e, zlt_e, zlt_e]
  generalize eG : upd (upd (upd Gs 0 (nI r)) 1 (nI c)) 2 (nI (r * c)) = G
  have G0 : G 0 = nI r := by rw [← eG, y_un (by decide), y_un (by decide), y_uu]
  have G1 : G 1 = nI c := by rw [← eG, y_un (by decide), y_uu]
  have G2 : G 2 = nI (r * c) := by rw [← eG, y_uu]
  rw [G0, G1]
  refine zb1_x (fun A => ∀ q d, q < r * c → d < 8 → A 3 (q * 8 + d) = yI (ynbN r c q d)) ?_ (fun A hA => ⟨_, rfl, G0, G1, G2, hA⟩)
  refine zf2 (fun i x A => x = nI i ∧ ∀ q d, q < i * c → d < 8 → A 3 (q * 8 + d) = yI (ynbN r c q d)) _ r ?_ ?_ 0 (Nat.zero_le _) ⟨rfl, fun q d hq _ => absurd hq (by rw [Nat.zero_mul]; exact Nat.not_lt_zero q)⟩
  · rintro i x A hi ⟨rfl, h1⟩
    have hrc := y_rowcol (c := c) hi
    refine Or.inl ?_
    rw [if_neg (nI_ge hi (by omega)), nI_1]
    have mid : ∃ A2, zi2 (fun (x5_69h : Int32) (Ga_69h : Nat → Nat → Int32) => if nI c ≤ x5_69h then some (.inr Ga_69h) else zb1 (zi2 (fun (x6_81h : Int32) (Ga_81h : Nat → Nat → Int32) => if (8 : Int32) ≤ x6_81h then some (.inr Ga_81h) else zck (zin x6_81h 8) (zck (zin x6_81h 8) (zb1 (fX0_placeAt G (nI i + (zRS (x6_81h).toNatClampNeg)) (x5_69h + (zCS (x6_81h).toNatClampNeg))) (fun (r14 : Int32) => zck (zin ((((nI i * nI c) + x5_69h) * (8 : Int32)) + x6_81h) 96) (zlt (va_up Ga_81h 3 (upd (Ga_81h 3) (((((nI i * nI c) + x5_69h) * (8 : Int32)) + x6_81h)).toNatClampNeg r14)) (fun (Ga_17 : Nat → Nat → Int32) => some (.inl ((x6_81h + (1 : Int32)), Ga_17)))))))) (0 : Int32) Ga_69h) (fun (Ga_137x81 : Nat → Nat → Int32) => some (.inl ((x5_69h + (1 : Int32)), Ga_137x81)))) (0 : Int32) A = some A2 ∧ ∀ q d, q < (i + 1) * c → d < 8 → A2 3 (q * 8 + d) = yI (ynbN r c q d) := by
      refine zf2 (fun j x A => x = nI j ∧ ∀ q d, q < i * c + j → d < 8 → A 3 (q * 8 + d) = yI (ynbN r c q d)) _ c ?_ ?_ 0 (Nat.zero_le _) ⟨rfl, h1⟩
      · rintro j x B hj ⟨rfl, h2⟩
        refine Or.inl ?_
        rw [if_neg (nI_ge hj (by omega)), nI_1]
        have inn : ∃ A2, zi2 (fun (x6_81h : Int32) (Ga_81h : Nat → Nat → Int32) => if (8 : Int32) ≤ x6_81h then some (.inr Ga_81h) else zck (zin x6_81h 8) (zck (zin x6_81h 8) (zb1 (fX0_placeAt G (nI i + (zRS (x6_81h).toNatClampNeg)) (nI j + (zCS (x6_81h).toNatClampNeg))) (fun (r14 : Int32) => zck (zin ((((nI i * nI c) + nI j) * (8 : Int32)) + x6_81h) 96) (zlt (va_up Ga_81h 3 (upd (Ga_81h 3) (((((nI i * nI c) + nI j) * (8 : Int32)) + x6_81h)).toNatClampNeg r14)) (fun (Ga_17 : Nat → Nat → Int32) => some (.inl ((x6_81h + (1 : Int32)), Ga_17)))))))) (0 : Int32) B = some A2 ∧ ∀ q d, q < i * c + (j + 1) → d < 8 → A2 3 (q * 8 + d) = yI (ynbN r c q d) := by
          refine zf2 (fun k x A => x = nI k ∧ (∀ q d, q < i * c + j → d < 8 → A 3 (q * 8 + d) = yI (ynbN r c q d)) ∧ ∀ d, d < k → A 3 ((i * c + j) * 8 + d) = yI (ynbN r c (i * c + j) d)) _ 8 ?_ ?_ 0 (Nat.zero_le _) ⟨rfl, h2, fun d hd => absurd hd (Nat.not_lt_zero d)⟩
          · rintro k x C hk ⟨rfl, h3, h4⟩
            refine Or.inl ?_
            have e : ((nI i * nI c) + nI j) * (8 : Int32) + nI k = nI ((i * c + j) * 8 + k) := by rw [show (8 : Int32) = nI 8 from rfl, pk_mul, nI_add, pk_mul, nI_add]
            rw [if_neg (y8g hk), y_zin (show k < 8 by omega) (by decide), zck_e, zck_e, nI_clamp (show k < 2 ^ 31 by omega), y_placeAt ⟨hr2, hr4, hc2, hc4, h12⟩ G0 G1 hi hj hk, zb1_e, e, y_zin (show (i * c + j) * 8 + k < 96 by omega) (by decide), zck_e, zlt_e, nI_clamp (show (i * c + j) * 8 + k < 2 ^ 31 by omega), nI_1]
            refine ⟨_, _, rfl, rfl, fun q d hq hd => ?_, fun d hd => ?_⟩
            · rw [y_vu, y_un (by omega)]; exact h3 q d hq hd
            · rw [y_vu]
              by_cases ed : d = k
              · rw [ed, y_uu]
              · rw [y_un (by omega)]; exact h4 d (by omega)
          · rintro x C ⟨rfl, h3, h4⟩
            refine ⟨_, by rw [if_pos y8p], fun q d hq hd => ?_⟩
            by_cases eq : q = i * c + j
            · rw [eq]; exact h4 d hd
            · exact h3 q d (by omega) hd
        obtain ⟨A2, hA2, hA3⟩ := inn
        rw [hA2, zb1_e]
        exact ⟨_, _, rfl, rfl, hA3⟩
      · rintro x B ⟨rfl, h2⟩
        refine ⟨_, by rw [if_pos (nI_le (Nat.le_refl c) (by omega))], fun q d hq hd => h2 q d ?_ hd⟩
        rw [Nat.add_mul, Nat.one_mul] at hq
        exact hq
    obtain ⟨A2, hA2, hA3⟩ := mid
    rw [hA2, zb1_e]
    exact ⟨_, _, rfl, rfl, hA3⟩
  · rintro x A ⟨rfl, h1⟩
    exact ⟨_, by rw [if_pos (nI_le (Nat.le_refl r) (by omega))], h1⟩
/-! the pegs of a page -/
def ykh (cd : Nat → Nat) : Nat → Int32
  | 0 => 0
  | k + 1 => ykh cd k ||| (if cd (3 + k) = 35 then 0 else (1 : Int32) <<< (nI k &&& 31))
def ykk (cd : Nat → Nat) : Nat → Nat → Int32
  | 0 => fun _ => 0
  | k + 1 => if (ykc (cd (3 + k))).isSome = true then upd (ykk cd k) (ypk cd k) (yKv (cd (3 + k))) else ykk cd k
def ykp (cd : Nat → Nat) : Nat → Nat → Int32
  | 0 => fun _ => 0
  | k + 1 => if (ykc (cd (3 + k))).isSome = true then upd (ykp cd k) (ypk cd k) (nI k) else ykp cd k
theorem ykh_lt (cd : Nat → Nat) : ∀ k, k ≤ 12 → ∃ m, m < 4096 ∧ ykh cd k = nI m := by
  intro k
  induction k with
  | zero => intro _; exact ⟨0, by decide, rfl⟩
  | succ k ih =>
    intro hk
    obtain ⟨m, h1, h2⟩ := ih (by omega)
    show ∃ m, m < 4096 ∧ ykh cd k ||| (if cd (3 + k) = 35 then 0 else (1 : Int32) <<< (nI k &&& 31)) = nI m
    by_cases c : cd (3 + k) = 35
    · rw [if_pos c, Int32.or_zero]; exact ⟨m, h1, h2⟩
    · rw [if_neg c, h2]; exact y_or h1 (by omega)
theorem yKv_k {x : Nat} (h : (ykc x).isSome = true) : ∃ k, k < 5 ∧ yKv x = nI k := by
  unfold yKv
  cases hk : ykc x with
  | none => rw [hk] at h; cases h
  | some k =>
    refine ⟨k, ?_, rfl⟩
    unfold ykc at hk
    repeat' split at hk
    all_goals first | (cases hk; decide) | cases hk
/-- what the places of a page that is a board are told by -/
def yPl (cd : Nat → Nat) (N : Nat) : Prop := ∀ k, k < N → (cd (3 + k) = 35 ∨ cd (3 + k) = 46 ∨ ((ykc (cd (3 + k))).isSome = true ∧ ypk cd k < 7))
theorem ypk_7 {cd : Nat → Nat} {N : Nat} (h : yPl cd N) : ∀ k, k ≤ N → ypk cd k ≤ 7 := by
  intro k
  induction k with
  | zero => intro _; exact Nat.zero_le 7
  | succ k ih =>
    intro hk
    have h1 := ih (by omega)
    show ypk cd k + (if (ykc (cd (3 + k))).isSome = true then 1 else 0) ≤ 7
    rcases h k (by omega) with e | e | ⟨_, e⟩
    · rw [e, if_neg (by decide)]; omega
    · rw [e, if_neg (by decide)]; omega
    · split <;> omega
theorem yS_ten {k n : Nat} {s : Nat → Int32} {a : Nat → Nat → Int32} (hk : k < 12) (hS : yS k n s a) : yS (k + 1) n s (va_up a 7 (upd (a 7) k (-1))) := by
  obtain ⟨h2, hn, hk5, hH, h7, h3⟩ := hS
  refine ⟨h2, hn, fun p hp => ?_, ?_, fun q hq => ?_, ?_⟩
  · rw [y_vn (by decide)]; exact hk5 p hp
  · rw [y_vn (by decide)]
    refine ⟨fun p hp => ?_, hH.2⟩
    rcases hH.1 p hp with e | ⟨q, q1, q2⟩
    · exact Or.inl e
    · exact Or.inr ⟨q, by omega, q2⟩
  · rw [y_vu, y_vn (show (6 : Nat) ≠ 7 by decide)]
    by_cases e : q = k
    · rw [e, y_uu]
      refine (yn_none fun p hp hpe => ?_).symm
      rcases hH.1 p hp with e1 | ⟨q', q1, q2⟩
      · rw [e1] at hpe; exact y_mnI k (by omega) hpe
      · rw [q2] at hpe
        have := y_i (by omega) (by omega) hpe
        omega
    · rw [y_un e]; exact h7 q (by omega)
  · rw [y_vn (by decide)]; exact h3
theorem y_readS {r c l : Nat} {S gs P : Nat → Int32} {A ga PA : Nat → Nat → Int32} {cd : Nat → Nat} (hB : yB r c) (hG : yG r c gs ga) (hP : yPg P PA l cd) (hl : l = 3 + r * c) (hpl : yPl cd (r * c)) : ∃ z, fX4_read S A gs P PA = some z ∧ yS (r * c) (ypk cd (r * c)) z.1 z.2 ∧ z.1 1 = ykh cd (r * c) ∧ z.1 4 = 0 ∧ (∀ p, p < ypk cd (r * c) → z.2 5 p = ykk cd (r * c) p) ∧ ∀ p, p < ypk cd (r * c) → z.2 6 p = ykp cd (r * c) p := by
  have h12 := hB.2.2.2.2
  unfold fX4_read
  rw [zlt_e, zlt_e, zlt_e, zlt_e]
  refine zb2_x (fun z => yS (r * c) (ypk cd (r * c)) z.1 z.2 ∧ z.1 1 = ykh cd (r * c) ∧ z.1 4 = 0 ∧ (∀ p, p < ypk cd (r * c) → z.2 5 p = ykk cd (r * c) p) ∧ ∀ p, p < ypk cd (r * c) → z.2 6 p = ykp cd (r * c) p) ?_ (fun s a h => ⟨_, rfl, h⟩)
  refine zf3 (fun k x s a => x = nI k ∧ yS (min k (r * c)) (ypk cd (min k (r * c))) s a ∧ s 1 = ykh cd (min k (r * c)) ∧ s 4 = 0 ∧ (∀ p, p < ypk cd (min k (r * c)) → a 5 p = ykk cd (min k (r * c)) p) ∧ ∀ p, p < ypk cd (min k (r * c)) → a 6 p = ykp cd (min k (r * c)) p) _ 12 ?_ ?_ 0 (Nat.zero_le _) ?_
  · rintro k x s a hk ⟨rfl, hS, h1, h4, h5, h6⟩
    refine Or.inl ?_
    rw [if_neg (y12g hk), y_zin hk (by decide), zck_e, zlt_e, nI_clamp (show k < 2 ^ 31 by omega), hG.2.2.1, nI_1]
    by_cases hkp : k < r * c
    · rw [show min k (r * c) = k by omega] at hS h1 h5 h6
      rw [if_neg (nI_ge hkp (by omega)), show min (k + 1) (r * c) = k + 1 by omega]
      have S1 := yS_ten hk hS
      generalize eA : va_up a 7 (upd (a 7) k (-1)) = a1 at S1
      have A5 : a1 5 = a 5 := by rw [← eA, y_vn (by decide)]
      have A6 : a1 6 = a 6 := by rw [← eA, y_vn (by decide)]
      have hco : yco l cd (3 + k) = nI (cd (3 + k)) := if_pos (by omega)
      have hx := ycd_126 hP (3 + k)
      rw [show (3 : Int32) + nI k = nI (3 + k) by rw [show (3 : Int32) = nI 3 from rfl, nI_add], y_codeAt hP (show 3 + k < 100 by omega), zb1_e, hco]
      have hh : ykh cd (k + 1) = ykh cd k ||| (if cd (3 + k) = 35 then 0 else (1 : Int32) <<< (nI k &&& 31)) := rfl
      have hn' : ypk cd (k + 1) = ypk cd k + (if (ykc (cd (3 + k))).isSome = true then 1 else 0) := rfl
      have hkk : ykk cd (k + 1) = if (ykc (cd (3 + k))).isSome = true then upd (ykk cd k) (ypk cd k) (yKv (cd (3 + k))) else ykk cd k := rfl
      have hkp2 : ykp cd (k + 1) = if (ykc (cd (3 + k))).isSome = true then upd (ykp cd k) (ypk cd k) (nI k) else ykp cd k := rfl
      by_cases c1 : cd (3 + k) = 35
      · have hno : (ykc (cd (3 + k))).isSome = false := by rw [c1]; rfl
        rw [if_pos c1, Int32.or_zero] at hh
        rw [hno, if_neg (by decide)] at hn' hkk hkp2
        rw [if_pos (show nI (cd (3 + k)) = 35 by rw [c1]; rfl), zb2_e]
        refine ⟨_, _, _, rfl, rfl, ?_, ?_, h4, ?_, ?_⟩
        · rw [hn']; exact S1
        · rw [hh]; exact h1
        · rw [hn', hkk, A5]; exact h5
        · rw [hn', hkp2, A6]; exact h6
      · have hne : ¬ nI (cd (3 + k)) = 35 := fun e => c1 (y_i (b := 35) (by omega) (by decide) e)
        rw [if_neg c1] at hh
        rw [if_neg hne, zlt_e, y_kindAt hP (show 3 + k < 100 by omega), zb1_e]
        cases hs : (ykc (cd (3 + k))).isSome with
        | false =>
          rw [hs, if_neg (by decide)] at hn' hkk hkp2
          have ha : fX4_addPeg (upd s 1 (s 1 ||| (1 : Int32) <<< (nI k &&& 31))) a1 gs (yKv (cd (3 + k))) (nI k) = some (upd s 1 (s 1 ||| (1 : Int32) <<< (nI k &&& 31)), a1) := by
            unfold fX4_addPeg
            rw [if_pos (yKv_m.mpr hs)]
          rw [ha, zb2_e, zb2_e]
          refine ⟨_, _, _, rfl, rfl, ?_, ?_, ?_, ?_, ?_⟩
          · rw [hn']; exact yS_1 S1 _
          · rw [hh, y_uu, h1]
          · rw [y_un (by decide)]; exact h4
          · rw [hn', hkk, A5]; exact h5
          · rw [hn', hkp2, A6]; exact h6
        | true =>
          obtain ⟨i, hi, ei⟩ := yKv_k hs
          rw [hs, if_pos rfl] at hn' hkk hkp2
          have h7 : ypk cd k < 7 := by
            rcases hpl k hkp with e | e | ⟨_, e⟩
            · exact absurd e c1
            · rw [e] at hs; cases hs
            · exact e
          have hfree : yn (ypk cd k) (a1 6) (nI k) = -1 := by
            have := S1.2.2.2.2.1 k (by omega)
            rw [← this, ← eA, y_vu, y_uu]
          obtain ⟨s', a', e1, e2, e3, e4, e5, e6⟩ := y_addPeg hG h12 (show k + 1 ≤ r * c by omega) (yS_1 S1 (s 1 ||| (1 : Int32) <<< (nI k &&& 31))) (by omega) hi (show k < k + 1 by omega) hfree
          rw [ei, e1, zb2_e, zb2_e]
          refine ⟨_, _, _, rfl, rfl, ?_, ?_, ?_, fun p hp => ?_, fun p hp => ?_⟩
          · rw [hn']; exact e2
          · rw [hh, e3, y_uu, h1]
          · rw [e4, y_un (by decide)]; exact h4
          · rw [hkk, e5, A5, ei]
            by_cases e : p = ypk cd k
            · rw [e, y_uu, y_uu]
            · rw [y_un e, y_un e]; exact h5 p (by omega)
          · rw [hkp2, e6, A6]
            by_cases e : p = ypk cd k
            · rw [e, y_uu, y_uu]
            · rw [y_un e, y_un e]; exact h6 p (by omega)
    · rw [show min k (r * c) = r * c by omega] at hS h1 h5 h6
      rw [if_pos (nI_le (by omega) (by omega)), zb2_e, show min (k + 1) (r * c) = r * c by omega]
      refine ⟨_, _, _, rfl, rfl, ?_, h1, h4, ?_, ?_⟩
      · exact yS_c hS rfl rfl (fun p _ => by rw [y_vn (by decide)]) (fun p _ => by rw [y_vn (by decide)]) (fun q hq => by rw [y_vu, y_un (by omega)])
      · rw [y_vn (by decide)]; exact h5
      · rw [y_vn (by decide)]; exact h6
  · rintro x s a ⟨rfl, hS, h1, h4, h5, h6⟩
    rw [show min 12 (r * c) = r * c by omega] at hS h1 h5 h6
    exact ⟨_, by rw [if_pos y12p], hS, h1, h4, h5, h6⟩
  · rw [Nat.zero_min]
    refine ⟨rfl, ⟨?_, Nat.zero_le 8, fun p hp => absurd hp (Nat.not_lt_zero p), ⟨fun p hp => absurd hp (Nat.not_lt_zero p), fun p p' hp => absurd hp (Nat.not_lt_zero p)⟩, fun q hq => absurd hq (Nat.not_lt_zero q), ?_⟩, ?_, ?_, fun p hp => absurd hp (Nat.not_lt_zero p), fun p hp => absurd hp (Nat.not_lt_zero p)⟩
    · rw [y_un (by decide), y_un (by decide), y_uu]; rfl
    · rw [y_un (by decide), y_uu]; rfl
    · rw [y_un (by decide), y_un (by decide), y_un (by decide), y_uu]; rfl
    · rw [y_uu]
/-- the places of a page that is a board -/
theorem yPl_of {l : Nat} {cd : Nat → Nat} {res : Nat} (hF : yFF l cd res) (hW : yWh l cd res = true) : yB (ydg (cd 0)) (ydg (cd 1)) ∧ yPl cd (ydg (cd 0) * ydg (cd 1)) ∧ 0 < ypk cd (ydg (cd 0) * ydg (cd 1)) ∧ l = 3 + ydg (cd 0) * ydg (cd 1) := by
  obtain ⟨w1, w2, w3⟩ := of_decide_eq_true hW
  have f : ∀ j, j < l → yft cd j = true := fun j hj => hF.2.1 j (by omega)
  have f0 : 0 < ydg (cd 0) := of_decide_eq_true (f 0 (by omega))
  have f1 := f 1 (by omega)
  change (decide (0 < ydg (cd 1)) && decide (ydg (cd 0) * ydg (cd 1) ≤ 12)) = true at f1
  rw [Bool.and_eq_true, decide_eq_true_eq, decide_eq_true_eq] at f1
  have d2 : ∀ x, 0 < ydg x → 2 ≤ ydg x := fun x hx => by
    unfold ydg at *
    split
    · omega
    · rename_i q; rw [if_neg q] at hx; omega
  refine ⟨⟨d2 _ f0, ydg_4 _, d2 _ f1.1, ydg_4 _, f1.2⟩, fun k hk => ?_, ?_, w1⟩
  · have := f (3 + k) (by omega)
    unfold yft at this
    rw [if_neg (by omega), if_neg (by omega), if_neg (by omega), show 3 + k - 3 = k by omega, Bool.and_eq_true, Bool.or_eq_true, Bool.or_eq_true, Bool.and_eq_true, decide_eq_true_eq, decide_eq_true_eq, beq_iff_eq, beq_iff_eq] at this
    exact this.2
  · rw [show l - 3 = ydg (cd 0) * ydg (cd 1) by omega] at w3
    exact w3
theorem y_board {r c n b : Nat} {Xs Ps : Nat → Int32} {Pa : Nat → Nat → Int32} {Gs : Nat → Int32} {Ga : Nat → Nat → Int32} {Ns : Nat → Int32} {Na : Nat → Nat → Int32} {Qs : Nat → Int32} {Qa : Nat → Nat → Int32} {Ks : Nat → Int32} {Ka : Nat → Nat → Int32} {Ls : Nat → Int32} {La : Nat → Nat → Int32} {os : Nat → Nat → Int32} {Ms : Nat → Int32} {Ma : Nat → Nat → Int32} (h : yIV r c n b Xs Ps Pa Gs Ga Ns Na Qs Qa Ks Ka Ls La os Ms Ma) : ∃ v X' P' G' H' N' A' Q' M' B' r' c' n' b', fX5_board Xs Ps Pa Gs Ga Ns Na Qs = some (v, X', P', G', H', N', A', Q') ∧ fX6_board Ms Ma = some (v, M', B') ∧ b' ≤ b + 1 ∧ yIV r' c' n' b' X' P' Pa G' H' N' A' Q' Qa Ks Ka Ls La os M' B' := by
  obtain ⟨l, cd, hP, hM⟩ := yVP_g h.2.2.2.2.2.2.1
  obtain ⟨⟨v, M⟩, hz, res, f1, hF, m1, m2⟩ := y_read hM
  change ∀ i, i ≠ 15 → i ≠ 16 → M i = Ms i at m1
  change M 15 = _ at m2
  unfold fX5_board fX6_board
  rw [y_isBoard hP hF, zb1_e, hz, zb2_e, m2]
  cases hW : yWh l cd res with
  | false =>
    rw [yb_f, if_pos rfl, if_pos rfl]
    exact ⟨_, _, _, _, _, _, _, _, _, _, r, c, n, b, rfl, rfl, by omega, yIV_m h m1⟩
  | true =>
    obtain ⟨hB, hPl, hpos, hl⟩ := yPl_of hF hW
    have d0 : 0 < ydg (cd 0) := by have := hB.1; omega
    have d1 : 0 < ydg (cd 1) := by have := hB.2.2.1; omega
    have w0 := (y_within24 (ycm_126 hM 0)).2 d0
    have w1 := (y_within24 (ycm_126 hM 1)).2 d1
    have g0 : Ma 14 0 = nI (cd 0) := (hM.2.2.1 0 (by omega)).1
    have g1 : Ma 14 1 = nI (cd 1) := (hM.2.2.1 1 (by omega)).1
    have n7 := ypk_7 hPl _ (Nat.le_refl _)
    have gk : ∀ k, k < ydg (cd 0) * ydg (cd 1) → Ma 14 (3 + k) = nI (cd (3 + k)) := fun k hk => (hM.2.2.1 (3 + k) (by omega)).1
    rw [yb_t, if_neg n10, if_neg n10, show fX2_digitAt Ps Pa (0 : Int32) = _ from y_digitAt hP (i := 0) (by decide), zb1_e, show fX2_digitAt Ps Pa (1 : Int32) = _ from y_digitAt hP (i := 1) (by decide), zb1_e]
    generalize hr' : ydg (cd 0) = r' at *
    generalize hc' : ydg (cd 1) = c' at *
    have h12 := hB.2.2.2.2
    obtain ⟨⟨G', H'⟩, hG, hG2⟩ := y_layG Gs Ga hB
    obtain ⟨⟨N', A'⟩, hR, r1, r2, r3, r4, r5⟩ := y_readS (S := Ns) (A := Na) hB hG2 hP hl hPl
    change yS (r' * c') (ypk cd (r' * c')) N' A' at r1
    change N' 1 = _ at r2
    change N' 4 = 0 at r3
    change ∀ p, p < ypk cd (r' * c') → A' 5 p = ykk cd (r' * c') p at r4
    change ∀ p, p < ypk cd (r' * c') → A' 6 p = ykp cd (r' * c') p at r5
    rw [hG, zb2_e, hR, zb2_e, zlt_e, zlt_e, zlt_e, zlt_e, zlt_e, show zin (0 : Int32) 18 = true by decide, zck_e, zlt_e, show zin (1 : Int32) 18 = true by decide, zck_e, zlt_e, zlt_e, zlt_e, show (0 : Int32).toNatClampNeg = 0 by decide, show (1 : Int32).toNatClampNeg = 1 by decide, g0, g1, w0, w1]
    generalize eM : upd (upd (upd (upd M 1 (nI r')) 2 (nI c')) 3 0) 4 0 = M0
    have z1 : M0 1 = nI r' := by rw [← eM, y_un (by decide), y_un (by decide), y_un (by decide), y_uu]
    have z2 : M0 2 = nI c' := by rw [← eM, y_un (by decide), y_un (by decide), y_uu]
    have z3 : M0 3 = 0 := by rw [← eM, y_un (by decide), y_uu]
    have z4 : M0 4 = 0 := by rw [← eM, y_uu]
    have zk : ∀ i, i ≠ 1 → i ≠ 2 → i ≠ 3 → i ≠ 4 → i ≠ 15 → i ≠ 16 → M0 i = Ms i := fun i i1 i2 i3 i4 i5 i6 => by rw [← eM, y_un i4, y_un i3, y_un i2, y_un i1]; exact m1 i i5 i6
    have L : ∃ z, zi3 (fun (x1_53h : Int32) (Ms_53h : Nat → Int32) (Ma_53h : Nat → Nat → Int32) => zb1 (fX6_places Ms_53h) (fun (r12 : Int32) => if r12 ≤ x1_53h then some (.inr (Ms_53h, Ma_53h)) else zck (zin ((3 : Int32) + x1_53h) 18) (zlt ((Ma_53h 14) (((3 : Int32) + x1_53h)).toNatClampNeg) (fun (x2_16 : Int32) => zb1 (if x2_16 = (35 : Int32) then some (0 : Int32) else some ((1 : Int32) <<< (x1_53h &&& 31))) (fun (v88 : Int32) => zlt (upd Ms_53h 3 ((Ms_53h 3) ||| v88)) (fun (Ms_17 : Nat → Int32) => zb1 (fX6_kindBy x2_16) (fun (r18 : Int32) => zb2 (if r18 = (-1 : Int32) then some (Ms_17, Ma_53h) else zb1 (fX6_kindBy x2_16) (fun (r22 : Int32) => zck (zin (Ms_17 4) 8) (zlt (va_up Ma_53h 5 (upd (Ma_53h 5) ((Ms_17 4)).toNatClampNeg r22)) (fun (Ma_25 : Nat → Nat → Int32) => zck (zin (Ms_17 4) 8) (zlt (va_up Ma_25 6 (upd (Ma_25 6) ((Ms_17 4)).toNatClampNeg x1_53h)) (fun (Ma_27 : Nat → Nat → Int32) => zlt (upd Ms_17 4 ((Ms_17 4) + (1 : Int32))) (fun (Ms_28 : Nat → Int32) => some (Ms_28, Ma_27)))))))) (fun (Ms_133 : Nat → Int32) (Ma_133 : Nat → Nat → Int32) => some (.inl ((x1_53h + (1 : Int32)), Ms_133, Ma_133)))))))))) (0 : Int32) M0 Ma = some z ∧ (∀ i, i ≠ 3 → i ≠ 4 → z.1 i = M0 i) ∧ z.1 3 = ykh cd (r' * c') ∧ z.1 4 = nI (ypk cd (r' * c')) ∧ (∀ i, i ≠ 5 → i ≠ 6 → z.2 i = Ma i) ∧ (∀ p, p < ypk cd (r' * c') → z.2 5 p = ykk cd (r' * c') p) ∧ ∀ p, p < ypk cd (r' * c') → z.2 6 p = ykp cd (r' * c') p := by
      refine zf3 (fun k x s a => x = nI k ∧ (∀ i, i ≠ 3 → i ≠ 4 → s i = M0 i) ∧ s 3 = ykh cd k ∧ s 4 = nI (ypk cd k) ∧ (∀ i, i ≠ 5 → i ≠ 6 → a i = Ma i) ∧ (∀ p, p < ypk cd k → a 5 p = ykk cd k p) ∧ ∀ p, p < ypk cd k → a 6 p = ykp cd k p) _ (r' * c') ?_ ?_ 0 (Nat.zero_le _) ⟨rfl, fun _ _ _ => rfl, z3, z4, fun _ _ _ => rfl, fun p hp => absurd hp (Nat.not_lt_zero p), fun p hp => absurd hp (Nat.not_lt_zero p)⟩
      · rintro k x s a hk ⟨rfl, s1, s3, s4, a1, a5, a6⟩
        refine Or.inl ?_
        have hx := ycm_126 hM (3 + k)
        have hh : ykh cd (k + 1) = ykh cd k ||| (if cd (3 + k) = 35 then 0 else (1 : Int32) <<< (nI k &&& 31)) := rfl
        have hn' : ypk cd (k + 1) = ypk cd k + (if (ykc (cd (3 + k))).isSome = true then 1 else 0) := rfl
        have hkk : ykk cd (k + 1) = if (ykc (cd (3 + k))).isSome = true then upd (ykk cd k) (ypk cd k) (yKv (cd (3 + k))) else ykk cd k := rfl
        have hkp2 : ykp cd (k + 1) = if (ykc (cd (3 + k))).isSome = true then upd (ykp cd k) (ypk cd k) (nI k) else ykp cd k := rfl
        have hp7 := ypk_7 hPl k (by omega)
        have e35 : (nI (cd (3 + k)) = 35) = (cd (3 + k) = 35) := propext ⟨fun e => y_i (b := 35) (by omega) (by decide) e, fun e => by rw [e]; rfl⟩
        rw [y_places (show s 1 = nI r' by rw [s1 1 (by decide) (by decide)]; exact z1) (show s 2 = nI c' by rw [s1 2 (by decide) (by decide)]; exact z2), zb1_e, if_neg (nI_ge hk (by omega)), show (3 : Int32) + nI k = nI (3 + k) by rw [show (3 : Int32) = nI 3 from rfl, nI_add], y_zin (show 3 + k < 18 by omega) (by decide), zck_e, zlt_e, nI_clamp (show 3 + k < 2 ^ 31 by omega), a1 14 (by decide) (by decide), gk k hk, yif, zb1_e, zlt_e, y_kindBy hx, zb1_e, zb1_e, nI_1, s3]
        simp only [e35]
        rw [← hh]
        have u4 : upd s 3 (ykh cd (k + 1)) 4 = nI (ypk cd k) := by rw [y_un (by decide)]; exact s4
        cases hs : (ykc (cd (3 + k))).isSome with
        | false =>
          rw [hs, if_neg (by decide)] at hn' hkk hkp2
          rw [if_pos (yKv_m.mpr hs), zb2_e]
          refine ⟨_, _, _, rfl, rfl, fun i i3 i4 => by rw [y_un i3]; exact s1 i i3 i4, y_uu, by rw [hn']; exact u4, a1, ?_, ?_⟩
          · rw [hn', hkk]; exact a5
          · rw [hn', hkp2]; exact a6
        | true =>
          rw [hs, if_pos rfl] at hn' hkk hkp2
          rw [if_neg (fun q => by rw [yKv_m.mp q] at hs; cases hs), u4, y_zin (show ypk cd k < 8 by omega) (by decide), zck_e, zlt_e, zck_e, zlt_e, zlt_e, zb2_e, nI_clamp (show ypk cd k < 2 ^ 31 by omega), nI_1]
          refine ⟨_, _, _, rfl, rfl, fun i i3 i4 => by rw [y_un i4, y_un i3]; exact s1 i i3 i4, by rw [y_un (by decide), y_uu], by rw [y_uu, hn'], fun i i5 i6 => by rw [y_vn i6, y_vn i5]; exact a1 i i5 i6, fun p hp => ?_, fun p hp => ?_⟩
          · rw [y_vn (by decide), y_vu, hkk]
            by_cases e : p = ypk cd k
            · rw [e, y_uu, y_uu]
            · rw [y_un e, y_un e]; exact a5 p (by omega)
          · rw [y_vu, y_vn (by decide), hkp2]
            by_cases e : p = ypk cd k
            · rw [e, y_uu, y_uu]
            · rw [y_un e, y_un e]; exact a6 p (by omega)
      · rintro x s a ⟨rfl, s1, s3, s4, a1, a5, a6⟩
        rw [y_places (show s 1 = nI r' by rw [s1 1 (by decide) (by decide)]; exact z1) (show s 2 = nI c' by rw [s1 2 (by decide) (by decide)]; exact z2), zb1_e, if_pos (nI_le (Nat.le_refl _) (by omega))]
        exact ⟨_, rfl, s1, s3, s4, a1, a5, a6⟩
    obtain ⟨⟨M1, B1⟩, hL, s1, s3, s4, a1, a5, a6⟩ := L
    change ∀ i, i ≠ 3 → i ≠ 4 → M1 i = M0 i at s1
    change M1 3 = _ at s3
    change M1 4 = _ at s4
    change ∀ i, i ≠ 5 → i ≠ 6 → B1 i = Ma i at a1
    change ∀ p, p < ypk cd (r' * c') → B1 5 p = ykk cd (r' * c') p at a5
    change ∀ p, p < ypk cd (r' * c') → B1 6 p = ykp cd (r' * c') p at a6
    rw [hL, zb2_e, zlt_e, zlt_e, zlt_e, zlt_e]
    generalize eQ : upd (upd (upd (upd M1 7 0) 0 (upd M1 7 0 0 + 1)) 9 0) 13 0 = M2
    obtain ⟨h1, h2, h3, h4, h5, h6, h7, h8, h9⟩ := h
    have q7 : M2 7 = 0 := by rw [← eQ, y_un (by decide), y_un (by decide), y_un (by decide), y_uu]
    have q0 : M2 0 = nI (b + 1) := by rw [← eQ, y_un (by decide), y_un (by decide), y_uu, y_un (by decide), s1 0 (by decide) (by decide), zk 0 (by decide) (by decide) (by decide) (by decide) (by decide) (by decide), h3.2.1, nI_1]
    have q9 : M2 9 = 0 := by rw [← eQ, y_un (by decide), y_uu]
    have q13 : M2 13 = 0 := by rw [← eQ, y_uu]
    have qk : ∀ i, i ≠ 0 → i ≠ 7 → i ≠ 9 → i ≠ 13 → M2 i = M1 i := fun i i0 i7 i9 i13 => by rw [← eQ, y_un i13, y_un i9, y_un i0, y_un i7]
    have old : ∀ i, i ≠ 0 → i ≠ 7 → i ≠ 9 → i ≠ 13 → i ≠ 1 → i ≠ 2 → i ≠ 3 → i ≠ 4 → i ≠ 15 → i ≠ 16 → M2 i = Ms i := fun i i0 i7 i9 i13 i1 i2 i3 i4 i15 i16 => by rw [qk i i0 i7 i9 i13, s1 i i3 i4, zk i i1 i2 i3 i4 i15 i16]
    have q4 : M2 4 = nI (ypk cd (r' * c')) := by rw [qk 4 (by decide) (by decide) (by decide) (by decide)]; exact s4
    have e2 : N' 2 = M2 4 := r1.1.trans q4.symm
    rw [e2, y_un (show (11 : Nat) ≠ 10 by decide), y_un (show (11 : Nat) ≠ 6 by decide), h3.1, nI_1]
    refine ⟨_, _, _, _, _, _, _, _, _, _, r', c', ypk cd (r' * c'), b + 1, rfl, rfl, Nat.le_refl _, Or.inr ⟨hB, hpos, n7, by omega⟩, hG2, ⟨y_uu, q0, ?_, ?_, q4⟩, ⟨r1, ?_, ⟨0, by decide, r3⟩, ?_, q7.trans r3.symm, fun p hp => (a5 p hp).trans (r4 p hp).symm, fun p hp => (a6 p hp).trans (r5 p hp).symm⟩, ?_, ⟨0, by decide, y_uu, q9, fun i hi => absurd hi (Nat.not_lt_zero i)⟩, ⟨0, by decide, y_uu, q13, fun i hi => absurd hi (Nat.not_lt_zero i)⟩, ?_, Or.inl ?_⟩
    · rw [qk 1 (by decide) (by decide) (by decide) (by decide), s1 1 (by decide) (by decide)]; exact z1
    · rw [qk 2 (by decide) (by decide) (by decide) (by decide), s1 2 (by decide) (by decide)]; exact z2
    · obtain ⟨m, k1, k2⟩ := ykh_lt cd (r' * c') h12
      exact ⟨m, k1, r2.trans k2⟩
    · rw [qk 3 (by decide) (by decide) (by decide) (by decide)]; exact s3.trans r2.symm
    · rw [y_un (by decide), y_un (by decide), y_un (by decide), old 8 (by decide) (by decide) (by decide) (by decide) (by decide) (by decide) (by decide) (by decide) (by decide) (by decide)]; exact h5
    · refine Or.inl ⟨by rw [y_un (by decide), y_un (by decide), y_uu], ?_⟩
      rw [old 29 (by decide) (by decide) (by decide) (by decide) (by decide) (by decide) (by decide) (by decide) (by decide) (by decide), old 30 (by decide) (by decide) (by decide) (by decide) (by decide) (by decide) (by decide) (by decide) (by decide) (by decide)]
      rcases h8 with ⟨_, q | ⟨b', hb', q⟩⟩ | ⟨_, _, q, _⟩
      · exact Or.inl q
      · exact Or.inr ⟨b', by omega, q⟩
      · exact Or.inr ⟨b, by omega, q⟩
    · rw [y_un (by decide), y_uu]
