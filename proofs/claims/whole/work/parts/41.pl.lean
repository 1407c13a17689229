/-! pure: both between calls -/
def yV (r c n b : Nat) : Prop := (r = 0 ∧ c = 0 ∧ n = 0 ∧ b = 0) ∨ (yB r c ∧ 1 ≤ n ∧ n ≤ 7 ∧ 1 ≤ b)
def yVS (r c n : Nat) (S : Nat → Int32) (A : Nat → Nat → Int32) (hol jm : Int32) (kd pl : Nat → Int32) : Prop := yS (r * c) n S A ∧ (∃ m, m < 4096 ∧ S 1 = nI m) ∧ (∃ j, j ≤ 999 ∧ S 4 = nI j) ∧ hol = S 1 ∧ jm = S 4 ∧ (∀ p, p < n → kd p = A 5 p) ∧ ∀ p, p < n → pl p = A 6 p
def yVQ (Q : Nat → Int32) (A : Nat → Nat → Int32) (sz : Int32) (pg wh co : Nat → Int32) : Prop := ∃ z, z ≤ 6 ∧ Q 2 = nI z ∧ sz = nI z ∧ ∀ i, i < z → A 0 i = pg i ∧ ∃ w, w < 4 ∧ wh i = nI w ∧ ((co i = 1 ∧ A 1 i = zWC w) ∨ (co i = 0 ∧ A 1 i = ((31 : Int32) &&& (zWC w ^^^ (-1 : Int32)))))
def yVP (P : Nat → Int32) (A : Nat → Nat → Int32) (len : Int32) (pg : Nat → Int32) : Prop := ∃ l, l ≤ 18 ∧ P 1 = nI l ∧ len = nI l ∧ ∀ i, i < l → A 0 i = pg i ∧ ∃ v, 32 ≤ v ∧ v ≤ 126 ∧ pg i = nI v
def yVK (r c n b : Nat) (x : Int32) (Ks : Nat → Int32) (Ka : Nat → Nat → Int32) (Ls : Nat → Int32) (La : Nat → Nat → Int32) (Ms : Nat → Int32) (Ma : Nat → Nat → Int32) : Prop := (x = 0 ∧ (Ms 29 = 0 ∨ ∃ b', b' < b ∧ Ms 30 = nI b')) ∨ (x = 1 ∧ Ms 29 = 1 ∧ Ms 30 = nI b ∧ yVS r c n Ks Ka (Ms 31) (Ms 32) (Ma 34) (Ma 35) ∧ yVQ Ls La (Ms 33) (Ma 36) (Ma 37) (Ma 38))
def yVA (x m : Int32) : Prop := ∃ e, e ≤ 12 ∧ x = nI e ∧ m = nI e
def yVM (r c n b : Nat) (x : Int32) (Ms : Nat → Int32) : Prop := x = nI b ∧ Ms 0 = nI b ∧ Ms 1 = nI r ∧ Ms 2 = nI c ∧ Ms 4 = nI n
def yIV (r c n b : Nat) (Xs Ps : Nat → Int32) (Pa : Nat → Nat → Int32) (Gs : Nat → Int32) (Ga : Nat → Nat → Int32) (Ns : Nat → Int32) (Na : Nat → Nat → Int32) (Qs : Nat → Int32) (Qa : Nat → Nat → Int32) (Ks : Nat → Int32) (Ka : Nat → Nat → Int32) (Ls : Nat → Int32) (La : Nat → Nat → Int32) (os : Nat → Nat → Int32) (Ms : Nat → Int32) (Ma : Nat → Nat → Int32) : Prop :=
  yV r c n b ∧ yG r c Gs Ga ∧ yVM r c n b (Xs 11) Ms ∧ yVS r c n Ns Na (Ms 3) (Ms 7) (Ma 5) (Ma 6) ∧ yVA (Xs 12) (Ms 8) ∧ yVQ Qs Qa (Ms 9) (Ma 10) (Ma 11) (Ma 12) ∧ yVP Ps Pa (Ms 13) (Ma 14) ∧ yVK r c n b (Xs 6) Ks Ka Ls La Ms Ma ∧ yVO r c n (Xs 10) Ns Na os
theorem yV_12 {r c n b : Nat} (h : yV r c n b) : r * c ≤ 12 := by
  rcases h with ⟨rfl, rfl, _, _⟩ | ⟨h, _⟩
  · exact Nat.zero_le 12
  · exact h.2.2.2.2
theorem yV_7 {r c n b : Nat} (h : yV r c n b) : n ≤ 7 := by
  rcases h with ⟨_, _, h, _⟩ | ⟨_, _, h, _⟩ <;> omega
theorem yV_n {r c n b : Nat} (h : yV r c n b) (hn : 0 < n) : yB r c := by
  rcases h with ⟨_, _, h, _⟩ | ⟨h, _⟩
  · omega
  · exact h
theorem yV_p {r c n b : Nat} (h : yV r c n b) (hp : 0 < r * c) : yB r c ∧ 0 < n := by
  rcases h with ⟨rfl, rfl, _, _⟩ | ⟨h, h2, _⟩
  · exact absurd hp (by decide)
  · exact ⟨h, h2⟩
theorem yV_b {r c n b : Nat} (h : yV r c n b) : (0 < n ↔ 0 < b) := by
  rcases h with ⟨_, _, h1, h2⟩ | ⟨_, h1, _, h2⟩ <;> omega
theorem yVS_M {r c n b : Nat} {x : Int32} {Ns Ms : Nat → Int32} {Na Ma : Nat → Nat → Int32} (hM : yVM r c n b x Ms) (hS : yVS r c n Ns Na (Ms 3) (Ms 7) (Ma 5) (Ma 6)) : yM r c n (Ns 1) (Na 5) Ms Ma := ⟨hM.2.2.1, hM.2.2.2.1, hS.2.2.2.1, hM.2.2.2.2, hS.1.2.1, hS.2.2.2.2.2.1, hS.1.2.2.1⟩
theorem yI_a {r c n b : Nat} {Xs Ps : Nat → Int32} {Pa : Nat → Nat → Int32} {Gs : Nat → Int32} {Ga : Nat → Nat → Int32} {Ns : Nat → Int32} {Na : Nat → Nat → Int32} {Qs : Nat → Int32} {Qa : Nat → Nat → Int32} {Ks : Nat → Int32} {Ka : Nat → Nat → Int32} {Ls : Nat → Int32} {La : Nat → Nat → Int32} {os : Nat → Nat → Int32} {Ms : Nat → Int32} {Ma Ma' : Nat → Nat → Int32} (h : yIV r c n b Xs Ps Pa Gs Ga Ns Na Qs Qa Ks Ka Ls La os Ms Ma) (e : ∀ i, i < 17 ∨ 27 < i → Ma' i = Ma i) : yIV r c n b Xs Ps Pa Gs Ga Ns Na Qs Qa Ks Ka Ls La os Ms Ma' := by
  unfold yIV yVK at *
  rw [e 5 (by omega), e 6 (by omega), e 10 (by omega), e 11 (by omega), e 12 (by omega), e 14 (by omega), e 34 (by omega), e 35 (by omega), e 36 (by omega), e 37 (by omega), e 38 (by omega)]
  exact h
/-! ranges -/
theorem y_w {N : Nat} {v hi : Int32} (h : hi.toInt = (N : Int)) : fX6_within v 0 hi = some (yb (zin v (N + 1))) := by
  rw [y_within]
  have e : decide ((0 : Int32).toInt ≤ v.toInt ∧ v.toInt ≤ hi.toInt) = zin v (N + 1) := by
    unfold zin
    rw [h, show (0 : Int32).toInt = 0 from rfl]
    exact decide_eq_decide.mpr ⟨fun q => ⟨q.1, by omega⟩, fun q => ⟨q.1, by omega⟩⟩
  rw [e]
theorem y_rlt {α : Type} {x hi : Int32} {N : Nat} {A B : α} (h : hi.toInt = (N : Int)) : (if x < 0 then A else if x < hi then B else A) = (if zin x N = true then B else A) := by
  have e0 : (0 : Int32).toInt = 0 := rfl
  by_cases c1 : x < 0
  · rw [if_pos c1, if_neg]
    intro q
    have := y_zin1 q
    rw [Int32.lt_iff_toInt_lt, e0] at c1
    omega
  · rw [if_neg c1]
    rw [Int32.lt_iff_toInt_lt, e0] at c1
    by_cases c2 : x < hi
    · rw [if_pos c2, if_pos]
      rw [Int32.lt_iff_toInt_lt, h] at c2
      exact decide_eq_true ⟨by omega, c2⟩
    · rw [if_neg c2, if_neg]
      intro q
      have := y_zin1 q
      rw [Int32.lt_iff_toInt_lt, h] at c2
      omega
theorem y_rle {α : Type} {x hi : Int32} {N : Nat} {A B : α} (h : hi.toInt = (N : Int)) : (if x < 0 then A else if x ≤ hi then B else A) = (if zin x (N + 1) = true then B else A) := by
  have e0 : (0 : Int32).toInt = 0 := rfl
  by_cases c1 : x < 0
  · rw [if_pos c1, if_neg]
    intro q
    have := y_zin1 q
    rw [Int32.lt_iff_toInt_lt, e0] at c1
    omega
  · rw [if_neg c1]
    rw [Int32.lt_iff_toInt_lt, e0] at c1
    by_cases c2 : x ≤ hi
    · rw [if_pos c2, if_pos]
      rw [Int32.le_iff_toInt_le, h] at c2
      exact decide_eq_true ⟨by omega, by omega⟩
    · rw [if_neg c2, if_neg]
      intro q
      have := y_zin1 q
      rw [Int32.le_iff_toInt_le, h] at c2
      omega
theorem y_byte {v : Nat} (h : v ≤ 126) : vp_nar .byte (nI v).toInt8.toInt32 = nI v := by
  rw [pk_vb]
  have : (List.range 127).all (fun v => decide ((nI v).toInt8.toInt32 = nI v)) = true := by decide +kernel
  exact of_decide_eq_true (List.all_eq_true.mp this v (List.mem_range.mpr (by omega)))
/-! letter, blank -/
theorem y_letter {Ps Ms : Nat → Int32} {Pa Ma : Nat → Nat → Int32} (hP : yVP Ps Pa (Ms 13) (Ma 14)) (x : Int32) : ∃ v P' A' M' B', fX5_letter Ps Pa x = some (v, P', A') ∧ fX6_letter Ms Ma x = some (v, M', B') ∧ yVP P' A' (M' 13) (B' 14) ∧ (∀ i, i ≠ 13 → M' i = Ms i) ∧ ∀ i, i ≠ 14 → B' i = Ma i := by
  obtain ⟨l, hl, p1, p2, p3⟩ := hP
  unfold fX5_letter fX6_letter
  rw [y_within, zb1_e]
  have e32 : (32 : Int32).toInt = 32 := rfl
  have e126 : (126 : Int32).toInt = 126 := rfl
  by_cases c : (32 : Int32).toInt ≤ x.toInt ∧ x.toInt ≤ (126 : Int32).toInt
  · rw [decide_eq_true c, yb_t, if_neg n10]
    rw [e32, e126] at c
    obtain ⟨v, hv, rfl⟩ := nI_of (x := x) (by rw [Int32.lt_iff_toInt_lt, show (0 : Int32).toInt = 0 from rfl]; omega)
    rw [nI_toInt hv] at c
    rw [if_neg (show ¬ nI v < 32 by rw [Int32.lt_iff_toInt_lt, nI_toInt hv, e32]; omega), if_pos (show nI v ≤ 126 by rw [Int32.le_iff_toInt_le, nI_toInt hv, e126]; omega), y_byte (show v ≤ 126 by omega), p2]
    unfold fX2_append
    rw [p1, if_neg (nI_pos (show l < 2 ^ 31 by omega))]
    by_cases h : l < 18
    · rw [if_pos (show nI l < 18 from nI_lt (b := 18) h (by decide)), y_zin h (by decide), zck_e, zlt_e, zlt_e, zb3_e, if_neg n10, if_neg (show ¬ nI l = 18 from fun e => by have := y_i (b := 18) (by omega) (by decide) e; omega), zck_e, zlt_e, zlt_e, nI_clamp (show l < 2 ^ 31 by omega), nI_1, y_uu, y_uu]
      refine ⟨_, _, _, _, _, rfl, rfl, ⟨l + 1, by omega, y_uu, y_uu, fun i hi => ?_⟩, fun i hi => y_un hi, fun i hi => y_vn hi⟩
      rw [y_vu, y_vu]
      by_cases e : i = l
      · subst e; rw [y_uu, y_uu]; exact ⟨rfl, v, by omega, by omega, rfl⟩
      · rw [y_un e, y_un e]; exact p3 i (by omega)
    · have e18 : l = 18 := by omega
      subst e18
      rw [if_neg (show ¬ nI 18 < 18 by decide), zb3_e, if_pos rfl, if_pos (show nI 18 = 18 from rfl)]
      exact ⟨_, _, _, _, _, rfl, rfl, ⟨18, by decide, p1, p2, p3⟩, fun _ _ => rfl, fun _ _ => rfl⟩
  · rw [decide_eq_false c, yb_f, if_pos rfl]
    rw [e32, e126] at c
    refine ⟨(-102 : Int32), Ps, Pa, Ms, Ma, ?_, rfl, ⟨l, hl, p1, p2, p3⟩, fun _ _ => rfl, fun _ _ => rfl⟩
    by_cases c1 : x < 32
    · rw [if_pos c1]
    · rw [if_neg c1, if_neg]
      rw [Int32.lt_iff_toInt_lt, e32] at c1
      rw [Int32.le_iff_toInt_le, e126]
      omega
theorem y_blank {Ps Ms : Nat → Int32} {Pa Ma : Nat → Nat → Int32} (hP : yVP Ps Pa (Ms 13) (Ma 14)) : ∃ v P' M', fX5_blank Ps = some (v, P') ∧ fX6_blank Ms = some (v, M') ∧ yVP P' Pa (M' 13) (Ma 14) ∧ ∀ i, i ≠ 13 → M' i = Ms i := by
  obtain ⟨l, hl, p1, p2, p3⟩ := hP
  unfold fX5_blank fX6_blank
  rw [zlt_e, zlt_e, zlt_e, zlt_e, p1, p2]
  exact ⟨_, _, _, rfl, rfl, ⟨0, Nat.zero_le _, y_uu, y_uu, fun i hi => absurd hi (Nat.not_lt_zero i)⟩, fun i hi => y_un hi⟩
theorem y_forget {Qs Ms : Nat → Int32} {Qa Ma : Nat → Nat → Int32} (hQ : yVQ Qs Qa (Ms 9) (Ma 10) (Ma 11) (Ma 12)) : ∃ v Q' M', fX5_forget Qs = some (v, Q') ∧ fX6_forget Ms = some (v, M') ∧ yVQ Q' Qa (M' 9) (Ma 10) (Ma 11) (Ma 12) ∧ ∀ i, i ≠ 9 → M' i = Ms i := by
  obtain ⟨l, hl, p1, p2, p3⟩ := hQ
  unfold fX5_forget fX6_forget
  rw [zlt_e, zlt_e, zlt_e, zlt_e, p1, p2]
  exact ⟨_, _, _, rfl, rfl, ⟨0, Nat.zero_le _, y_uu, y_uu, fun i hi => absurd hi (Nat.not_lt_zero i)⟩, fun i hi => y_un hi⟩
/-! see -/
theorem y_see {n : Nat} {Ns Qs Ms : Nat → Int32} {Qa Ma : Nat → Nat → Int32} (h2 : Ns 2 = nI n) (h4 : Ms 4 = nI n) (hn : n ≤ 8) (hQ : yVQ Qs Qa (Ms 9) (Ma 10) (Ma 11) (Ma 12)) (x w k : Int32) : ∃ v Q' A' M' B', fX5_see Ns Qs Qa x w k = some (v, Q', A') ∧ fX6_see Ms Ma x w k = some (v, M', B') ∧ yVQ Q' A' (M' 9) (B' 10) (B' 11) (B' 12) ∧ (∀ i, i ≠ 9 → M' i = Ms i) ∧ ∀ i, i ≠ 10 → i ≠ 11 → i ≠ 12 → B' i = Ma i := by
  have hQ0 := hQ
  obtain ⟨l, hl, p1, p2, p3⟩ := hQ
  unfold fX5_see fX6_see
  rw [y_isPeg h2 hn, zb1_e, y_mIsPeg h4 hn, zb1_e]
  cases hp : zin x n with
  | false =>
    rw [yb_f, if_pos rfl, if_pos rfl]
    exact ⟨_, _, _, _, _, rfl, rfl, hQ0, fun _ _ => rfl, fun _ _ _ _ => rfl⟩
  | true =>
    rw [yb_t, if_neg n10, if_neg n10, y_rlt (N := 4) rfl, y_w (N := 3) rfl, zb1_e]
    cases hw : zin w 4 with
    | false =>
      rw [yb_f, if_neg (by decide), if_pos rfl]
      exact ⟨_, _, _, _, _, rfl, rfl, hQ0, fun _ _ => rfl, fun _ _ _ _ => rfl⟩
    | true =>
      obtain ⟨q, hq, rfl⟩ := y_zinE hw (by decide)
      have hv : (if k = 0 then zck true (some ((31 : Int32) &&& ((zWC (nI q).toNatClampNeg) ^^^ (-1 : Int32)))) else zck true (some (zWC (nI q).toNatClampNeg))) = some (if k = 0 then ((31 : Int32) &&& (zWC q ^^^ (-1 : Int32))) else zWC q) := by
        rw [nI_clamp (show q < 2 ^ 31 by omega), zck_e, zck_e, yif]
      rw [yb_t, if_pos rfl, if_neg n10, hv, zb1_e, p2]
      unfold fX3_append
      rw [p1, if_neg (nI_pos (show l < 2 ^ 31 by omega))]
      by_cases h : l < 6
      · rw [if_pos (show nI l < 6 from nI_lt (b := 6) h (by decide)), y_zin h (by decide), zck_e, zlt_e, zck_e, zlt_e, zlt_e, zb3_e, if_neg n10, if_neg (show ¬ nI l = 6 from fun e => by have := y_i (b := 6) (by omega) (by decide) e; omega), zck_e, zlt_e, zck_e, zlt_e, yif, zb1_e, zck_e, zlt_e, zlt_e, nI_clamp (show l < 2 ^ 31 by omega), nI_1, y_uu, y_uu]
        refine ⟨_, _, _, _, _, rfl, rfl, ⟨l + 1, by omega, y_uu, y_uu, fun i hi => ?_⟩, fun i hi => y_un hi, fun i i1 i2 i3 => by rw [y_vn i3, y_vn i2, y_vn i1]⟩
        have a1 : ∀ (a b : Nat → Int32), va_up (va_up Qa 0 a) 1 b 0 = a := fun a b => by rw [y_vn (by decide), y_vu]
        have a2 : ∀ (a b : Nat → Int32), va_up (va_up Qa 0 a) 1 b 1 = b := fun a b => y_vu
        have b1 : ∀ (a b c : Nat → Int32), va_up (va_up (va_up Ma 10 a) 11 b) 12 c 10 = a := fun a b c => by rw [y_vn (by decide), y_vn (by decide), y_vu]
        have b2 : ∀ (a b c : Nat → Int32), va_up (va_up (va_up Ma 10 a) 11 b) 12 c 11 = b := fun a b c => by rw [y_vn (by decide), y_vu]
        have b3 : ∀ (a b c : Nat → Int32), va_up (va_up (va_up Ma 10 a) 11 b) 12 c 12 = c := fun a b c => y_vu
        rw [a1, a2, b1, b2, b3]
        have c1 : ∀ a : Nat → Int32, va_up Qa 0 a 1 = Qa 1 := fun a => y_vn (by decide)
        have c2 : ∀ a : Nat → Int32, va_up Ma 10 a 11 = Ma 11 := fun a => y_vn (by decide)
        have c3 : ∀ a b : Nat → Int32, va_up (va_up Ma 10 a) 11 b 12 = Ma 12 := fun a b => by rw [y_vn (by decide), y_vn (by decide)]
        rw [c1, c2, c3]
        by_cases e : i = l
        · subst e
          rw [y_uu, y_uu, y_uu, y_uu, y_uu]
          refine ⟨rfl, q, hq, rfl, ?_⟩
          by_cases k0 : k = 0
          · rw [if_pos k0, if_pos k0]; exact Or.inr ⟨rfl, rfl⟩
          · rw [if_neg k0, if_neg k0]; exact Or.inl ⟨rfl, rfl⟩
        · rw [y_un e, y_un e, y_un e, y_un e, y_un e]
          exact p3 i (by omega)
      · have e6 : l = 6 := by omega
        subst e6
        rw [if_neg (show ¬ nI 6 < 6 by decide), zb3_e, if_pos rfl, if_pos (show nI 6 = 6 from rfl)]
        exact ⟨_, _, _, _, _, rfl, rfl, hQ0, fun _ _ => rfl, fun _ _ _ _ => rfl⟩
