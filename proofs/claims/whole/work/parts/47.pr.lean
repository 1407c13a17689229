/-! pure: the page, two ways -/
def ydg (x : Nat) : Nat := if 50 ≤ x ∧ x ≤ 52 then x - 48 else 0
def ykc (x : Nat) : Option Nat := if x = 112 then some 0 else if x = 120 then some 1 else if x = 115 then some 2 else if x = 102 then some 3 else if x = 98 then some 4 else none
def yKv (x : Nat) : Int32 := match ykc x with | none => -1 | some k => nI k
def ypk (cd : Nat → Nat) : Nat → Nat
  | 0 => 0
  | k + 1 => ypk cd k + (if (ykc (cd (3 + k))).isSome = true then 1 else 0)
def yft (cd : Nat → Nat) (i : Nat) : Bool := if i = 0 then decide (0 < ydg (cd 0)) else if i = 1 then decide (0 < ydg (cd 1)) && decide (ydg (cd 0) * ydg (cd 1) ≤ 12) else if i = 2 then cd 2 == 59 else decide (i < 3 + ydg (cd 0) * ydg (cd 1)) && (cd i == 35 || (cd i == 46 || ((ykc (cd i)).isSome && decide (ypk cd (i - 3) < 7))))
def yFF (l : Nat) (cd : Nat → Nat) (res : Nat) : Prop := res ≤ l ∧ (∀ j, j < res → yft cd j = true) ∧ (res = l ∨ yft cd res = false)
theorem yFF_u {l : Nat} {cd : Nat → Nat} {a b : Nat} (h1 : yFF l cd a) (h2 : yFF l cd b) : a = b := by
  rcases Nat.lt_trichotomy a b with e | e | e
  · have := h2.2.1 a e
    rcases h1.2.2 with q | q
    · have := h2.1; omega
    · rw [q] at this; cases this
  · exact e
  · have := h1.2.1 b e
    rcases h2.2.2 with q | q
    · have := h1.1; omega
    · rw [q] at this; cases this
/-- the letters of a page -/
def yPg (P : Nat → Int32) (A : Nat → Nat → Int32) (l : Nat) (cd : Nat → Nat) : Prop := l ≤ 18 ∧ P 1 = nI l ∧ (∀ i, i < l → A 0 i = nI (cd i) ∧ 32 ≤ cd i ∧ cd i ≤ 126) ∧ ∀ i, l ≤ i → cd i = 0
def yMg (s : Nat → Int32) (a : Nat → Nat → Int32) (l : Nat) (cd : Nat → Nat) : Prop := l ≤ 18 ∧ s 13 = nI l ∧ (∀ i, i < l → a 14 i = nI (cd i) ∧ 32 ≤ cd i ∧ cd i ≤ 126) ∧ ∀ i, l ≤ i → cd i = 0
theorem yVP_g {P s : Nat → Int32} {A a : Nat → Nat → Int32} (h : yVP P A (s 13) (a 14)) : ∃ l cd, yPg P A l cd ∧ yMg s a l cd := by
  obtain ⟨l, hl, h1, h2, h3⟩ := h
  refine ⟨l, fun i => if i < l then (a 14 i).toNatClampNeg else 0, ⟨hl, h1, fun i hi => ?_, fun i hi => if_neg (by omega)⟩, ⟨hl, h2, fun i hi => ?_, fun i hi => if_neg (by omega)⟩⟩
  · obtain ⟨e, v, v1, v2, v3⟩ := h3 i hi
    show A 0 i = nI (if i < l then (a 14 i).toNatClampNeg else 0) ∧ 32 ≤ (if i < l then (a 14 i).toNatClampNeg else 0) ∧ (if i < l then (a 14 i).toNatClampNeg else 0) ≤ 126
    rw [if_pos hi, e, v3, nI_clamp (show v < 2 ^ 31 by omega)]
    exact ⟨rfl, v1, v2⟩
  · obtain ⟨e, v, v1, v2, v3⟩ := h3 i hi
    show a 14 i = nI (if i < l then (a 14 i).toNatClampNeg else 0) ∧ 32 ≤ (if i < l then (a 14 i).toNatClampNeg else 0) ∧ (if i < l then (a 14 i).toNatClampNeg else 0) ≤ 126
    rw [if_pos hi, v3, nI_clamp (show v < 2 ^ 31 by omega)]
    exact ⟨rfl, v1, v2⟩
theorem yMg_c {s s' : Nat → Int32} {a : Nat → Nat → Int32} {l : Nat} {cd : Nat → Nat} (h : yMg s a l cd) (e : s' 13 = s 13) : yMg s' a l cd := ⟨h.1, e.trans h.2.1, h.2.2.1, h.2.2.2⟩
theorem ycd_126 {P : Nat → Int32} {A : Nat → Nat → Int32} {l : Nat} {cd : Nat → Nat} (h : yPg P A l cd) (i : Nat) : cd i < 127 := by
  by_cases e : i < l
  · have := (h.2.2.1 i e).2.2; omega
  · rw [h.2.2.2 i (by omega)]; decide
theorem ycm_126 {P : Nat → Int32} {A : Nat → Nat → Int32} {l : Nat} {cd : Nat → Nat} (h : yMg P A l cd) (i : Nat) : cd i < 127 := by
  by_cases e : i < l
  · have := (h.2.2.1 i e).2.2; omega
  · rw [h.2.2.2 i (by omega)]; decide
/-- a code, or none -/
def yco (l : Nat) (cd : Nat → Nat) (i : Nat) : Int32 := if i < l then nI (cd i) else -1
theorem y_codeAt {P : Nat → Int32} {A : Nat → Nat → Int32} {l : Nat} {cd : Nat → Nat} (h : yPg P A l cd) {i : Nat} (hi : i < 100) : fX2_codeAt P A (nI i) = some (yco l cd i) := by
  have hl := h.1
  unfold fX2_codeAt yco
  rw [if_neg (nI_pos (show i < 2 ^ 31 by omega)), h.2.1]
  by_cases e : i < l
  · rw [if_neg (nI_ge e (by omega)), if_neg (show ¬ (18 : Int32) ≤ nI i from nI_ge (b := 18) (by omega) (by decide)), y_zin (show i < 18 by omega) (by decide), zck_e, nI_clamp (show i < 2 ^ 31 by omega), (h.2.2.1 i e).1, if_pos e]
  · rw [if_pos (nI_le (by omega) (by omega)), if_neg e]
theorem y_at {s : Nat → Int32} {a : Nat → Nat → Int32} {l : Nat} {cd : Nat → Nat} (h : yMg s a l cd) {i : Nat} (hi : i < 100) : fX6_at s a (nI i) = some (nI (cd i)) := by
  have hl := h.1
  unfold fX6_at
  rw [h.2.1]
  by_cases e : i < l
  · rw [if_neg (nI_ge e (by omega)), y_zin (show i < 18 by omega) (by decide), zck_e, nI_clamp (show i < 2 ^ 31 by omega), (h.2.2.1 i e).1]
  · rw [if_pos (nI_le (by omega) (by omega)), h.2.2.2 i (by omega)]
    rfl
theorem y_digitAt {P : Nat → Int32} {A : Nat → Nat → Int32} {l : Nat} {cd : Nat → Nat} (h : yPg P A l cd) {i : Nat} (hi : i < 100) : fX2_digitAt P A (nI i) = some (nI (ydg (cd i))) := by
  unfold fX2_digitAt
  rw [y_codeAt h hi, zb1_e, zlt_e]
  unfold yco
  by_cases e : i < l
  · rw [if_pos e]
    have d : (List.range 127).all (fun x => decide ((if nI x - (48 : Int32) < (2 : Int32) then some (0 : Int32) else if (4 : Int32) < nI x - (48 : Int32) then some (0 : Int32) else some (nI x - (48 : Int32))) = some (nI (ydg x)))) = true := by decide +kernel
    exact of_decide_eq_true (List.all_eq_true.mp d (cd i) (List.mem_range.mpr (ycd_126 h i)))
  · rw [if_neg e, h.2.2.2 i (by omega)]
    rfl
theorem y_kindBy {x : Nat} (h : x < 127) : fX6_kindBy (nI x) = some (yKv x) := by
  have d : (List.range 127).all (fun x => decide (fX6_kindBy (nI x) = some (yKv x))) = true := by decide +kernel
  exact of_decide_eq_true (List.all_eq_true.mp d x (List.mem_range.mpr h))
theorem yKv_1 {x k : Nat} (h : x < 127) (hk : k < 5) (e : zKL k = nI x) : yKv x = nI k := by
  have d : (List.range 127).all (fun x => (List.range 5).all (fun k => decide (zKL k = nI x → yKv x = nI k))) = true := by decide +kernel
  exact of_decide_eq_true (List.all_eq_true.mp (List.all_eq_true.mp d x (List.mem_range.mpr h)) k (List.mem_range.mpr hk)) e
theorem yKv_2 {x : Nat} (h : x < 127) (e : ∀ k, k < 5 → zKL k ≠ nI x) : yKv x = -1 := by
  have d : (List.range 127).all (fun x => decide (yKv x = -1) || (List.range 5).any (fun k => decide (zKL k = nI x))) = true := by decide +kernel
  have := List.all_eq_true.mp d x (List.mem_range.mpr h)
  rw [Bool.or_eq_true, decide_eq_true_eq, List.any_eq_true] at this
  rcases this with q | ⟨k, k1, k2⟩
  · exact q
  · exact absurd (of_decide_eq_true k2) (e k (List.mem_range.mp k1))
theorem y_kindAt {P : Nat → Int32} {A : Nat → Nat → Int32} {l : Nat} {cd : Nat → Nat} (h : yPg P A l cd) {i : Nat} (hi : i < 100) : fX2_kindAt P A (nI i) = some (yKv (cd i)) := by
  have hx := ycd_126 h i
  unfold fX2_kindAt
  rw [y_codeAt h hi, zb1_e]
  have key : ∃ v, zbs (zi1 (fun (x3_8h : Int32) => if (5 : Int32) ≤ x3_8h then some (.inr (.inr ())) else zck (zin x3_8h 5) (if (zKL (x3_8h).toNatClampNeg) = yco l cd i then some (.inr (.inl x3_8h)) else some (.inl (x3_8h + (1 : Int32))))) (0 : Int32)) (fun (x3_25x8 : Int32) => some x3_25x8) (fun (_ : Unit) => some (-1 : Int32)) = some v ∧ ((∃ k, k < 5 ∧ zKL k = yco l cd i ∧ v = nI k) ∨ (v = -1 ∧ ∀ k, k < 5 → zKL k ≠ yco l cd i)) := by
    refine zbs_x (fun z => (∃ k, k < 5 ∧ zKL k = yco l cd i ∧ z = .inl (nI k)) ∨ (z = .inr () ∧ ∀ k, k < 5 → zKL k ≠ yco l cd i)) ?_ ?_ ?_
    · refine zf1 (fun k x => x = nI k ∧ ∀ j, j < k → zKL j ≠ yco l cd i) _ 5 ?_ ?_ 0 (Nat.zero_le _) ⟨rfl, fun j hj => absurd hj (Nat.not_lt_zero j)⟩
      · rintro k x hk ⟨rfl, h1⟩
        rw [if_neg (show ¬ (5 : Int32) ≤ nI k from nI_ge (b := 5) hk (by decide)), y_zin hk (by decide), zck_e, nI_clamp (show k < 2 ^ 31 by omega), nI_1]
        by_cases c : zKL k = yco l cd i
        · rw [if_pos c]; exact Or.inr ⟨_, rfl, Or.inl ⟨k, hk, c, rfl⟩⟩
        · rw [if_neg c]
          refine Or.inl ⟨_, rfl, rfl, fun j hj => ?_⟩
          by_cases e : j = k
          · rw [e]; exact c
          · exact h1 j (by omega)
      · rintro x ⟨rfl, h1⟩
        rw [if_pos (show (5 : Int32) ≤ nI 5 by decide)]
        exact ⟨_, rfl, Or.inr ⟨rfl, h1⟩⟩
    · rintro v (⟨k, k1, k2, k3⟩ | ⟨k1, _⟩)
      · exact ⟨_, rfl, Or.inl ⟨k, k1, k2, Sum.inl.inj k3⟩⟩
      · cases k1
    · rintro v (⟨k, k1, k2, k3⟩ | ⟨_, k1⟩)
      · cases k3
      · exact ⟨_, rfl, Or.inr ⟨rfl, k1⟩⟩
  obtain ⟨v, hv, hv2⟩ := key
  rw [hv]
  unfold yco at hv2
  by_cases e : i < l
  · rw [if_pos e] at hv2
    rcases hv2 with ⟨k, k1, k2, rfl⟩ | ⟨rfl, k1⟩
    · rw [yKv_1 hx k1 k2]
    · rw [yKv_2 hx k1]
  · rw [if_neg e] at hv2
    rw [h.2.2.2 i (by omega)]
    rcases hv2 with ⟨k, k1, k2, rfl⟩ | ⟨rfl, k1⟩
    · exfalso
      have d : (List.range 5).all (fun k => decide (¬ zKL k = -1)) = true := by decide +kernel
      exact of_decide_eq_true (List.all_eq_true.mp d k (List.mem_range.mpr k1)) k2
    · rfl
theorem y_placesTold {P : Nat → Int32} {A : Nat → Nat → Int32} {l : Nat} {cd : Nat → Nat} (h : yPg P A l cd) : fX2_placesTold P A = some (nI (ydg (cd 0) * ydg (cd 1))) := by
  unfold fX2_placesTold
  rw [show fX2_digitAt P A (0 : Int32) = _ from y_digitAt h (i := 0) (by decide), zb1_e, show fX2_digitAt P A (1 : Int32) = _ from y_digitAt h (i := 1) (by decide), zb1_e, pk_mul]
theorem yKv_m {x : Nat} : yKv x = -1 ↔ (ykc x).isSome = false := by
  unfold yKv
  cases hk : ykc x with
  | none => exact ⟨fun _ => rfl, fun _ => rfl⟩
  | some k =>
    refine ⟨fun e => ?_, fun e => by cases e⟩
    have : k < 5 := by
      unfold ykc at hk
      repeat' split at hk
      all_goals first | (cases hk; decide) | cases hk
    exact absurd e (y_nIm k (by omega))
theorem ydg_4 (x : Nat) : ydg x ≤ 4 := by unfold ydg; split <;> omega
theorem ydg_m (x y : Nat) : ydg x * ydg y ≤ 16 := Nat.mul_le_mul (ydg_4 x) (ydg_4 y)
theorem y_pegsBefore {P : Nat → Int32} {A : Nat → Nat → Int32} {l : Nat} {cd : Nat → Nat} (h : yPg P A l cd) {e : Nat} (h3 : 3 ≤ e) (he : e < 100) : fX2_pegsBefore P A (nI e) = some (nI (ypk cd (e - 3))) := by
  unfold fX2_pegsBefore
  refine (zb1_t (a0 := nI (ypk cd (e - 3))) ?_ _).trans rfl
  refine zd2 (fun k a j => a = nI (ypk cd (k - 3)) ∧ j = nI k ∧ 3 ≤ k) e ?_ ?_ 3 h3 ⟨rfl, rfl, Nat.le_refl 3⟩
  · rintro k a j hk ⟨rfl, rfl, hk3⟩
    refine Or.inl ⟨_, _, ?_, rfl, rfl, by omega⟩
    have hs : ypk cd (k + 1 - 3) = ypk cd (k - 3) + (if (ykc (cd k)).isSome = true then 1 else 0) := by
      rw [show k + 1 - 3 = (k - 3) + 1 by omega]
      show ypk cd (k - 3) + (if (ykc (cd (3 + (k - 3)))).isSome = true then 1 else 0) = _
      rw [show 3 + (k - 3) = k by omega]
    rw [if_neg (nI_ge hk (by omega)), y_kindAt h (by omega), zb1_e, hs, nI_1, nI_1]
    cases hc : (ykc (cd k)).isSome with
    | false => rw [if_pos (yKv_m.mpr hc), zb1_e]; rfl
    | true => rw [if_neg (fun q => by rw [yKv_m.mp q] at hc; cases hc), zb1_e]; rfl
  · rintro a j ⟨rfl, rfl, _⟩
    rw [if_pos (nI_le (Nat.le_refl e) (by omega))]
theorem y_fits {P : Nat → Int32} {A : Nat → Nat → Int32} {l : Nat} {cd : Nat → Nat} (h : yPg P A l cd) {i : Nat} (hi : i < l) : fX2_fits P A (nI i) = some (yb (yft cd i)) := by
  have hl := h.1
  have hm := ydg_m (cd 0) (cd 1)
  unfold fX2_fits yft
  by_cases i0 : i = 0
  · subst i0
    rw [if_pos (show nI 0 = 0 from rfl), if_pos rfl, show fX2_digitAt P A (0 : Int32) = _ from y_digitAt h (i := 0) (by decide), zb1_e]
    by_cases c : 0 < ydg (cd 0)
    · rw [if_neg (nI_nle c (by have := ydg_4 (cd 0); omega)), decide_eq_true c]; rfl
    · rw [show ydg (cd 0) = 0 by omega]; rfl
  rw [if_neg (nI_ne0 (show 0 < i by omega) (by omega)), if_neg i0]
  by_cases i1 : i = 1
  · subst i1
    rw [if_pos (show nI 1 = 1 from rfl), if_pos rfl, show fX2_digitAt P A (1 : Int32) = _ from y_digitAt h (i := 1) (by decide), zb1_e, y_placesTold h, zb1_e]
    by_cases c : 0 < ydg (cd 1)
    · rw [if_neg (nI_nle c (by have := ydg_4 (cd 1); omega)), decide_eq_true c]
      by_cases c2 : ydg (cd 0) * ydg (cd 1) ≤ 12
      · rw [if_neg (show ¬ (12 : Int32) < nI (ydg (cd 0) * ydg (cd 1)) from nI_nlt (a := 12) c2 (by decide)), decide_eq_true c2]; rfl
      · rw [if_pos (show (12 : Int32) < nI (ydg (cd 0) * ydg (cd 1)) from nI_lt (a := 12) (by omega) (by omega)), decide_eq_false c2]; rfl
    · rw [decide_eq_false c, if_pos (show nI (ydg (cd 1)) ≤ 0 by rw [show ydg (cd 1) = 0 by omega]; decide)]; rfl
  rw [if_neg (show ¬ nI i = 1 from fun e => i1 (y_i (b := 1) (by omega) (by decide) e)), if_neg i1, y_codeAt h (by omega), zb1_e]
  have hc : yco l cd i = nI (cd i) := if_pos hi
  have hx := ycd_126 h i
  rw [hc]
  have eqx : ∀ k, k < 127 → (nI (cd i) = nI k ↔ cd i = k) := fun k hk => nI_eq (by omega) (by omega)
  by_cases i2 : i = 2
  · subst i2
    rw [if_pos (show nI 2 = 2 from rfl), if_pos rfl]
    by_cases c : cd 2 = 59
    · rw [c]; rfl
    · rw [if_neg (show ¬ nI (cd 2) = 59 from fun e => c ((eqx 59 (by decide)).mp e)), beq_eq_false_iff_ne.mpr c]; rfl
  rw [if_neg (show ¬ nI i = 2 from fun e => i2 (y_i (b := 2) (by omega) (by decide) e)), if_neg i2, y_placesTold h, zb1_e, show (3 : Int32) = nI 3 from rfl, nI_add]
  by_cases c : i < 3 + ydg (cd 0) * ydg (cd 1)
  · rw [if_pos (nI_lt c (by omega)), decide_eq_true c, zjn_e]
    by_cases c1 : cd i = 35
    · rw [if_pos (show nI (cd i) = 35 from (eqx 35 (by decide)).mpr c1), c1]; rfl
    rw [if_neg (show ¬ nI (cd i) = 35 from fun e => c1 ((eqx 35 (by decide)).mp e)), beq_eq_false_iff_ne.mpr c1]
    by_cases c2 : cd i = 46
    · rw [if_pos (show nI (cd i) = 46 from (eqx 46 (by decide)).mpr c2), c2]; rfl
    rw [if_neg (show ¬ nI (cd i) = 46 from fun e => c2 ((eqx 46 (by decide)).mp e)), beq_eq_false_iff_ne.mpr c2, y_kindAt h (by omega), zb1_e, y_pegsBefore h (show 3 ≤ i by omega) (by omega), zb1_e]
    have hpk : ypk cd (i - 3) < 2 ^ 31 := by
      have : ∀ k, ypk cd k ≤ k := by
        intro k
        induction k with
        | zero => exact Nat.le_refl 0
        | succ k ih =>
          show ypk cd k + (if (ykc (cd (3 + k))).isSome = true then 1 else 0) ≤ k + 1
          split <;> omega
      have := this (i - 3)
      omega
    cases hk : (ykc (cd i)).isSome with
    | false => rw [if_pos (yKv_m.mpr hk)]; rfl
    | true =>
      rw [if_neg (fun q => by rw [yKv_m.mp q] at hk; cases hk)]
      by_cases c3 : ypk cd (i - 3) < 7
      · rw [if_neg (show ¬ (7 : Int32) ≤ nI (ypk cd (i - 3)) from nI_ge (b := 7) c3 (by decide)), decide_eq_true c3]; rfl
      · rw [if_pos (show (7 : Int32) ≤ nI (ypk cd (i - 3)) from nI_le (a := 7) (by omega) hpk), decide_eq_false c3]; rfl
  · rw [if_neg (nI_nlt (by omega) (by omega)), decide_eq_false c]; rfl
theorem y_firstFault {P : Nat → Int32} {A : Nat → Nat → Int32} {l : Nat} {cd : Nat → Nat} (h : yPg P A l cd) : ∃ res, fX2_firstFault P A = some (nI res) ∧ yFF l cd res := by
  have hl := h.1
  unfold fX2_firstFault
  rw [h.2.1]
  have key : ∃ v, zbs (zi1 (fun (x1_2h : Int32) => if (nI l) ≤ x1_2h then some (.inr (.inr ())) else zb1 (fX2_fits P A x1_2h) (fun (r3 : Int32) => if r3 = 0 then some (.inr (.inl x1_2h)) else some (.inl (x1_2h + (1 : Int32))))) (0 : Int32)) (fun (x1_18x2 : Int32) => some x1_18x2) (fun (_ : Unit) => some (nI l)) = some v ∧ ∃ res, v = nI res ∧ yFF l cd res := by
    refine zbs_x (fun z => (∃ k, k < l ∧ (∀ j, j < k → yft cd j = true) ∧ yft cd k = false ∧ z = .inl (nI k)) ∨ (z = .inr () ∧ ∀ j, j < l → yft cd j = true)) ?_ ?_ ?_
    · refine zf1 (fun k x => x = nI k ∧ ∀ j, j < k → yft cd j = true) _ l ?_ ?_ 0 (Nat.zero_le _) ⟨rfl, fun j hj => absurd hj (Nat.not_lt_zero j)⟩
      · rintro k x hk ⟨rfl, h1⟩
        rw [if_neg (nI_ge hk (by omega)), y_fits h hk, zb1_e, nI_1]
        cases hf : yft cd k with
        | false => rw [yb_f, if_pos rfl]; exact Or.inr ⟨_, rfl, Or.inl ⟨k, hk, h1, hf, rfl⟩⟩
        | true =>
          rw [yb_t, if_neg n10]
          refine Or.inl ⟨_, rfl, rfl, fun j hj => ?_⟩
          by_cases e : j = k
          · rw [e]; exact hf
          · exact h1 j (by omega)
      · rintro x ⟨rfl, h1⟩
        rw [if_pos (nI_le (Nat.le_refl l) (by omega))]
        exact ⟨_, rfl, Or.inr ⟨rfl, h1⟩⟩
    · rintro v (⟨k, k1, k2, k3, k4⟩ | ⟨k1, _⟩)
      · exact ⟨_, rfl, k, Sum.inl.inj k4, by omega, k2, Or.inr k3⟩
      · cases k1
    · rintro v (⟨k, k1, k2, k3, k4⟩ | ⟨_, k1⟩)
      · cases k4
      · exact ⟨_, rfl, l, rfl, Nat.le_refl l, k1, Or.inl rfl⟩
  obtain ⟨v, h1, res, rfl, h2⟩ := key
  exact ⟨res, h1, h2⟩
/-- whether the page is a board -/
def yWh (l : Nat) (cd : Nat → Nat) (res : Nat) : Bool := decide (l = 3 + ydg (cd 0) * ydg (cd 1) ∧ res = l ∧ 0 < ypk cd (l - 3))
theorem ypk_le (cd : Nat → Nat) : ∀ k, ypk cd k ≤ k := by
  intro k
  induction k with
  | zero => exact Nat.le_refl 0
  | succ k ih =>
    show ypk cd k + (if (ykc (cd (3 + k))).isSome = true then 1 else 0) ≤ k + 1
    split <;> omega
theorem y_isBoard {P : Nat → Int32} {A : Nat → Nat → Int32} {l : Nat} {cd : Nat → Nat} (h : yPg P A l cd) {res : Nat} (hr : yFF l cd res) : fX2_isBoard P A = some (yb (yWh l cd res)) := by
  have hl := h.1
  have hm := ydg_m (cd 0) (cd 1)
  obtain ⟨r', e1, e2⟩ := y_firstFault h
  have er := yFF_u e2 hr
  subst er
  unfold fX2_isBoard yWh
  rw [y_placesTold h, zb1_e, h.2.1, show (3 : Int32) = nI 3 from rfl, nI_add]
  by_cases c1 : l = 3 + ydg (cd 0) * ydg (cd 1)
  · rw [if_pos (congrArg nI c1), e1, zb1_e]
    by_cases c2 : r' = l
    · rw [if_pos (congrArg nI c2), y_pegsBefore h (show 3 ≤ l by omega) (by omega), zb1_e]
      have := ypk_le cd (l - 3)
      by_cases c3 : 0 < ypk cd (l - 3)
      · rw [if_neg (nI_nle c3 (by omega)), decide_eq_true ⟨c1, c2, c3⟩]; rfl
      · rw [if_pos (show nI (ypk cd (l - 3)) ≤ 0 by rw [show ypk cd (l - 3) = 0 by omega]; decide), decide_eq_false (fun q => c3 q.2.2)]; rfl
    · have := e2.1
      rw [if_neg (fun q => c2 (y_i (by omega) (by omega) q)), decide_eq_false (fun q => c2 q.2.1)]; rfl
  · rw [if_neg (fun q => c1 (y_i (by omega) (by omega) q)), decide_eq_false (fun q => c1 q.1)]; rfl
/-! the reference reads -/
theorem zbs_x2 {A0 A1 B0 B1 ρ : Type} {o : Option ((A0 × A1) ⊕ (B0 × B1))} {k1 : A0 → A1 → Option ρ} {k2 : B0 → B1 → Option ρ} {R : ρ → Prop} (P : (A0 × A1) ⊕ (B0 × B1) → Prop) (h : ∃ z, o = some z ∧ P z) (h1 : ∀ a b, P (.inl (a, b)) → ∃ r, k1 a b = some r ∧ R r) (h2 : ∀ a b, P (.inr (a, b)) → ∃ r, k2 a b = some r ∧ R r) : ∃ r, zbs o (fun q_ => zu2 k1 q_) (fun q_ => zu2 k2 q_) = some r ∧ R r := by
  refine zbs_x P h ?_ ?_
  · rintro ⟨a, b⟩ hp; exact h1 a b hp
  · rintro ⟨a, b⟩ hp; exact h2 a b hp
theorem y_readPlaces {s : Nat → Int32} {a : Nat → Nat → Int32} {l : Nat} {cd : Nat → Nat} (h : yMg s a l cd) (h15 : s 15 = 0) (h16 : s 16 = 0) (hm : ydg (cd 0) * ydg (cd 1) ≤ 12) (hl3 : 3 ≤ l) (hf : ∀ j, j < 3 → yft cd j = true) : ∃ z, fX6_readPlaces s a (nI (ydg (cd 0) * ydg (cd 1))) = some z ∧ ∃ res, z.1 = nI res ∧ yFF l cd res ∧ (∀ i, i ≠ 15 → i ≠ 16 → z.2 i = s i) ∧ z.2 15 = yb (yWh l cd res) := by
  have hl := h.1
  generalize hN : ydg (cd 0) * ydg (cd 1) = N at *
  have yf3 : ∀ i, 3 ≤ i → yft cd i = (decide (i < 3 + N) && (cd i == 35 || (cd i == 46 || ((ykc (cd i)).isSome && decide (ypk cd (i - 3) < 7))))) := by
    intro i hi
    unfold yft
    rw [if_neg (by omega), if_neg (by omega), if_neg (by omega), hN]
  unfold fX6_readPlaces
  refine zbs_x2 (fun z => match z with
    | .inl q => ∃ k, q.1 = nI k ∧ 3 ≤ k ∧ k < 3 + N ∧ yFF l cd k ∧ (∀ i, i ≠ 16 → q.2 i = s i)
    | .inr q => q.1 = nI (3 + N) ∧ yFF l cd (3 + N) ∧ (∀ i, i ≠ 16 → q.2 i = s i) ∧ q.2 16 = nI (ypk cd N)) ?_ ?_ ?_
  · refine zf2 (fun k x M => x = nI k ∧ 3 ≤ k ∧ k ≤ l ∧ (∀ j, j < k → yft cd j = true) ∧ (∀ i, i ≠ 16 → M i = s i) ∧ M 16 = nI (ypk cd (k - 3)) ∧ ypk cd (k - 3) ≤ 7) _ (3 + N) ?_ ?_ 3 (by omega) ⟨rfl, Nat.le_refl 3, hl3, hf, fun _ _ => rfl, h16, Nat.zero_le 7⟩
    · rintro k x M hk ⟨rfl, k3, kl, h1, m1, m2, p7⟩
      have hMg : yMg M a l cd := yMg_c h (m1 13 (by decide))
      have hx := ycm_126 h k
      have eqx : ∀ j, j < 127 → (nI (cd k) = nI j ↔ cd k = j) := fun j hj => nI_eq (by omega) (by omega)
      have hs : ypk cd (k + 1 - 3) = ypk cd (k - 3) + (if (ykc (cd k)).isSome = true then 1 else 0) := by
        rw [show k + 1 - 3 = (k - 3) + 1 by omega]
        show ypk cd (k - 3) + (if (ykc (cd (3 + (k - 3)))).isSome = true then 1 else 0) = _
        rw [show 3 + (k - 3) = k by omega]
      have kn : ∀ v, cd k = v → v ≠ 0 → k < l := fun v hv hv0 => by
        rcases Nat.lt_or_ge k l with q | q
        · exact q
        · rw [h.2.2.2 k q] at hv; exact absurd hv.symm hv0
      have go : yft cd k = true → ∀ j, j < k + 1 → yft cd j = true := fun q j hj => by
        by_cases e : j = k
        · rw [e]; exact q
        · exact h1 j (by omega)
      have e3 : (3 : Int32) + nI N = nI (3 + N) := by rw [show (3 : Int32) = nI 3 from rfl, nI_add]
      rw [e3, if_neg (nI_ge hk (by omega)), y_at hMg (by omega), zb1_e, y_kindBy hx, zb1_e]
      cases hc : (ykc (cd k)).isSome with
      | false =>
        rw [if_pos (yKv_m.mpr hc), zb1_e, zjn_e, if_pos rfl, zb1_e, zb1_e, zjn_e, if_pos rfl, if_pos rfl, zb1_e, zlt_e, nI_1]
        have yfk := yf3 k k3
        rw [decide_eq_true hk, hc, Bool.false_and, Bool.or_false, Bool.true_and] at yfk
        rw [hc, if_neg (by decide), Nat.add_zero] at hs
        have cont : yft cd k = true → k < l → (∃ b0 b1, some (Sum.inl (nI (k + 1), upd M 16 (M 16 + 0))) = some (Sum.inl (b0, b1) : (Int32 × (Nat → Int32)) ⊕ ((Int32 × (Nat → Int32)) ⊕ (Int32 × (Nat → Int32)))) ∧ b0 = nI (k + 1) ∧ 3 ≤ k + 1 ∧ k + 1 ≤ l ∧ (∀ j, j < k + 1 → yft cd j = true) ∧ (∀ i, i ≠ 16 → b1 i = s i) ∧ b1 16 = nI (ypk cd (k + 1 - 3)) ∧ ypk cd (k + 1 - 3) ≤ 7) := fun q q2 => by
          refine ⟨_, _, rfl, rfl, by omega, by omega, go q, fun i hi => by rw [y_un hi]; exact m1 i hi, ?_, by omega⟩
          rw [y_uu, m2, hs, show (0 : Int32) = nI 0 from rfl, nI_add]
        by_cases c1 : cd k = 46
        · rw [if_pos (show nI (cd k) = 46 from (eqx 46 (by decide)).mpr c1)]
          exact Or.inl (cont (by rw [yfk, c1]; rfl) (kn 46 c1 (by decide)))
        rw [if_neg (show ¬ nI (cd k) = 46 from fun e => c1 ((eqx 46 (by decide)).mp e))]
        by_cases c2 : cd k = 35
        · rw [if_pos (show nI (cd k) = 35 from (eqx 35 (by decide)).mpr c2)]
          exact Or.inl (cont (by rw [yfk, c2]; rfl) (kn 35 c2 (by decide)))
        rw [if_neg (show ¬ nI (cd k) = 35 from fun e => c2 ((eqx 35 (by decide)).mp e))]
        refine Or.inr ⟨_, rfl, k, rfl, k3, hk, ⟨kl, h1, Or.inr ?_⟩, m1⟩
        rw [yfk, beq_eq_false_iff_ne.mpr c1, beq_eq_false_iff_ne.mpr c2]; rfl
      | true =>
        rw [if_neg (fun q => by rw [yKv_m.mp q] at hc; cases hc), zb1_e, zjn_e, if_neg n10, zjn_e, if_neg n10, if_neg n10, zb1_e, zlt_e, nI_1, m2]
        have yfk := yf3 k k3
        rw [decide_eq_true hk, hc, Bool.true_and, Bool.true_and] at yfk
        rw [hc, if_pos rfl] at hs
        have n35 : ¬ cd k = 35 := fun e => by rw [e] at hc; cases hc
        have n46 : ¬ cd k = 46 := fun e => by rw [e] at hc; cases hc
        rw [beq_eq_false_iff_ne.mpr n35, beq_eq_false_iff_ne.mpr n46, Bool.false_or, Bool.false_or] at yfk
        by_cases c3 : ypk cd (k - 3) = 7
        · rw [if_pos (show nI (ypk cd (k - 3)) = 7 from congrArg nI c3)]
          refine Or.inr ⟨_, rfl, k, rfl, k3, hk, ⟨kl, h1, Or.inr ?_⟩, m1⟩
          rw [yfk, c3]; rfl
        · rw [if_neg (show ¬ nI (ypk cd (k - 3)) = 7 from fun e => c3 (y_i (b := 7) (by omega) (by decide) e))]
          have kl2 : k < l := by
            rcases Nat.lt_or_ge k l with q | q
            · exact q
            · rw [h.2.2.2 k q] at hc; cases hc
          refine Or.inl ⟨_, _, rfl, rfl, by omega, by omega, go (by rw [yfk]; exact decide_eq_true (by omega)), fun i hi => by rw [y_un hi]; exact m1 i hi, ?_, by omega⟩
          rw [y_uu, hs, nI_1]
    · rintro x M ⟨rfl, k3, kl, h1, m1, m2, p7⟩
      have e3 : (3 : Int32) + nI N = nI (3 + N) := by rw [show (3 : Int32) = nI 3 from rfl, nI_add]
      rw [e3, if_pos (nI_le (Nat.le_refl _) (by omega))]
      refine ⟨_, rfl, rfl, ⟨kl, h1, ?_⟩, m1, ?_⟩
      · right
        rw [yf3 _ (by omega), decide_eq_false (by omega)]
        rfl
      · show M 16 = _
        rw [m2, show 3 + N - 3 = N by omega]
  · rintro x M ⟨k, e1, k3, kN, k1, k2⟩
    change x = nI k at e1
    refine ⟨_, rfl, k, e1, k1, fun i _ i16 => k2 i i16, ?_⟩
    show M 15 = _
    have e15 : M 15 = s 15 := k2 15 (by decide)
    rw [e15, h15]
    unfold yWh
    rw [hN, decide_eq_false (fun q => by obtain ⟨q1, q2, _⟩ := q; omega)]
    rfl
  · rintro x M ⟨e1, k1, k2, k3⟩
    change x = nI (3 + N) at e1
    change M 16 = _ at k3
    have e13 : M 13 = nI l := (k2 13 (by decide)).trans h.2.1
    have hp := ypk_le cd N
    have kl := k1.1
    have w : (zjn (fun (_ : Unit) => some (0 : Int32)) (fun J110 => if M 16 ≤ 0 then J110 () else if x = M 13 then some (1 : Int32) else J110 ())) = some (yb (yWh l cd (3 + N))) := by
      rw [zjn_e, k3, e1, e13]
      unfold yWh
      rw [hN]
      by_cases c3 : 0 < ypk cd N
      · rw [if_neg (nI_nle c3 (by omega))]
        by_cases c1 : 3 + N = l
        · rw [if_pos (congrArg nI c1), decide_eq_true ⟨c1.symm, c1, by rw [show l - 3 = N by omega]; exact c3⟩]; rfl
        · rw [if_neg (fun q => c1 (y_i (by omega) (by omega) q)), decide_eq_false (fun q => c1 q.2.1)]; rfl
      · rw [if_pos (show nI (ypk cd N) ≤ 0 by rw [show ypk cd N = 0 by omega]; decide), decide_eq_false (fun q => by
          obtain ⟨q1, _, q3⟩ := q
          rw [show l - 3 = N by omega] at q3
          exact c3 q3)]; rfl
    have hbo : zbo (yb (yWh l cd (3 + N))) = true := by cases yWh l cd (3 + N) <;> decide
    rw [w, zb1_e, hbo, zck_e, zlt_e]
    refine ⟨_, rfl, 3 + N, e1, k1, fun i i15 i16 => ?_, show upd M 15 (yb (yWh l cd (3 + N))) 15 = _ from y_uu⟩
    show upd M 15 _ i = s i
    rw [y_un i15]; exact k2 i i16
theorem y_within24 {x : Nat} (h : x < 127) : fX6_within (nI x - (48 : Int32)) (2 : Int32) (4 : Int32) = some (yb (decide (0 < ydg x))) ∧ (0 < ydg x → nI x - (48 : Int32) = nI (ydg x)) := by
  have d : (List.range 127).all (fun x => decide (fX6_within (nI x - (48 : Int32)) (2 : Int32) (4 : Int32) = some (yb (decide (0 < ydg x)))) && decide (0 < ydg x → nI x - (48 : Int32) = nI (ydg x))) = true := by decide +kernel
  have := List.all_eq_true.mp d x (List.mem_range.mpr h)
  rw [Bool.and_eq_true, decide_eq_true_eq, decide_eq_true_eq] at this
  exact this
theorem y_read {s : Nat → Int32} {a : Nat → Nat → Int32} {l : Nat} {cd : Nat → Nat} (h : yMg s a l cd) : ∃ z, fX6_read s a = some z ∧ ∃ res, z.1 = nI res ∧ yFF l cd res ∧ (∀ i, i ≠ 15 → i ≠ 16 → z.2 i = s i) ∧ z.2 15 = yb (yWh l cd res) := by
  have hl := h.1
  unfold fX6_read
  rw [zlt_e, zlt_e]
  generalize es : upd (upd s 15 0) 16 0 = s2
  have s15 : s2 15 = 0 := by rw [← es, y_un (by decide), y_uu]
  have s16 : s2 16 = 0 := by rw [← es, y_uu]
  have sk : ∀ i, i ≠ 15 → i ≠ 16 → s2 i = s i := fun i i1 i2 => by rw [← es, y_un i2, y_un i1]
  have h2 : yMg s2 a l cd := yMg_c h (sk 13 (by decide) (by decide))
  have w0 := y_within24 (ycm_126 h 0)
  have w1 := y_within24 (ycm_126 h 1)
  have lt : ∀ k, (cd k ≠ 0) → k < l := fun k hk => by
    rcases Nat.lt_or_ge k l with q | q
    · exact q
    · exact absurd (h.2.2.2 k q) hk
  have dn : ∀ k, 0 < ydg (cd k) → cd k ≠ 0 := fun k hk e => by rw [e] at hk; exact absurd hk (by decide)
  have small : ∀ k, k ≤ 2 → yWh l cd k = false := fun k hk => by
    unfold yWh
    refine decide_eq_false fun q => ?_
    obtain ⟨q1, q2, _⟩ := q
    omega
  rw [show fX6_at s2 a (0 : Int32) = _ from y_at h2 (i := 0) (by decide), zb1_e, zlt_e, show fX6_at s2 a (1 : Int32) = _ from y_at h2 (i := 1) (by decide), zb1_e, zlt_e, w0.1, zb1_e, w1.1, zb1_e]
  by_cases c0 : 0 < ydg (cd 0)
  · have f0 : yft cd 0 = true := decide_eq_true c0
    have l0 := lt 0 (dn 0 c0)
    rw [decide_eq_true c0, yb_t, if_neg n10, w0.2 c0]
    by_cases c1 : 0 < ydg (cd 1)
    · have l1 := lt 1 (dn 1 c1)
      have hm16 := ydg_m (cd 0) (cd 1)
      rw [decide_eq_true c1, yb_t, if_neg n10, w1.2 c1, pk_mul]
      by_cases c2 : ydg (cd 0) * ydg (cd 1) ≤ 12
      · have f1 : yft cd 1 = true := by
          show (decide (0 < ydg (cd 1)) && decide (ydg (cd 0) * ydg (cd 1) ≤ 12)) = true
          rw [decide_eq_true c1, decide_eq_true c2]; rfl
        rw [if_pos (show nI (ydg (cd 0) * ydg (cd 1)) ≤ 12 from nI_le (b := 12) c2 (by decide)), show fX6_at s2 a (2 : Int32) = _ from y_at h2 (i := 2) (by decide), zb1_e]
        by_cases c3 : cd 2 = 59
        · have l2 := lt 2 (by rw [c3]; decide)
          have f2 : yft cd 2 = true := by
            show (cd 2 == 59) = true
            rw [c3]; rfl
          rw [if_pos (show nI (cd 2) = 59 by rw [c3]; rfl)]
          obtain ⟨⟨v, M⟩, hz, res, e1, e2, e3, e4⟩ := y_readPlaces h2 s15 s16 c2 (by omega) (fun j hj => by
            rcases (show j = 0 ∨ j = 1 ∨ j = 2 by omega) with rfl | rfl | rfl
            · exact f0
            · exact f1
            · exact f2)
          rw [hz, zb2_e]
          exact ⟨_, rfl, res, e1, e2, fun i i1 i2 => (e3 i i1 i2).trans (sk i i1 i2), e4⟩
        · have hx := ycm_126 h 2
          rw [if_neg (show ¬ nI (cd 2) = 59 from fun e => c3 (y_i (b := 59) (by omega) (by decide) e))]
          refine ⟨_, rfl, 2, rfl, ⟨by omega, fun j hj => ?_, Or.inr ?_⟩, sk, ?_⟩
          · rcases (show j = 0 ∨ j = 1 by omega) with rfl | rfl
            · exact f0
            · exact f1
          · show (cd 2 == 59) = false
            exact beq_eq_false_iff_ne.mpr c3
          · show s2 15 = _
            rw [s15, small 2 (by decide)]; rfl
      · rw [if_neg (show ¬ nI (ydg (cd 0) * ydg (cd 1)) ≤ 12 from nI_ge (a := 12) (by omega) (by omega))]
        refine ⟨_, rfl, 1, rfl, ⟨by omega, fun j hj => ?_, Or.inr ?_⟩, sk, ?_⟩
        · rw [show j = 0 by omega]; exact f0
        · show (decide (0 < ydg (cd 1)) && decide (ydg (cd 0) * ydg (cd 1) ≤ 12)) = false
          rw [decide_eq_false c2, Bool.and_false]
        · show s2 15 = _
          rw [s15, small 1 (by decide)]; rfl
    · rw [decide_eq_false c1, yb_f, if_pos rfl]
      refine ⟨_, rfl, 1, rfl, ⟨by omega, fun j hj => ?_, Or.inr ?_⟩, sk, ?_⟩
      · rw [show j = 0 by omega]; exact f0
      · show (decide (0 < ydg (cd 1)) && decide (ydg (cd 0) * ydg (cd 1) ≤ 12)) = false
        rw [decide_eq_false c1, Bool.false_and]
      · show s2 15 = _
        rw [s15, small 1 (by decide)]; rfl
  · rw [decide_eq_false c0, yb_f, if_pos rfl]
    refine ⟨_, rfl, 0, rfl, ⟨Nat.zero_le _, fun j hj => absurd hj (Nat.not_lt_zero j), Or.inr ?_⟩, sk, ?_⟩
    · exact decide_eq_false c0
    · show s2 15 = _
      rw [s15, small 0 (by decide)]; rfl
/-! fault -/
theorem yIV_m {r c n b : Nat} {Xs Ps : Nat → Int32} {Pa : Nat → Nat → Int32} {Gs : Nat → Int32} {Ga : Nat → Nat → Int32} {Ns : Nat → Int32} {Na : Nat → Nat → Int32} {Qs : Nat → Int32} {Qa : Nat → Nat → Int32} {Ks : Nat → Int32} {Ka : Nat → Nat → Int32} {Ls : Nat → Int32} {La : Nat → Nat → Int32} {os : Nat → Nat → Int32} {Ms M' : Nat → Int32} {Ma : Nat → Nat → Int32} (h : yIV r c n b Xs Ps Pa Gs Ga Ns Na Qs Qa Ks Ka Ls La os Ms Ma) (e : ∀ i, i ≠ 15 → i ≠ 16 → M' i = Ms i) : yIV r c n b Xs Ps Pa Gs Ga Ns Na Qs Qa Ks Ka Ls La os M' Ma := by
  unfold yIV yVK yVM at *
  rw [e 0 (by decide) (by decide), e 1 (by decide) (by decide), e 2 (by decide) (by decide), e 3 (by decide) (by decide), e 4 (by decide) (by decide), e 7 (by decide) (by decide), e 8 (by decide) (by decide), e 9 (by decide) (by decide), e 13 (by decide) (by decide), e 29 (by decide) (by decide), e 30 (by decide) (by decide), e 31 (by decide) (by decide), e 32 (by decide) (by decide), e 33 (by decide) (by decide)]
  exact h
theorem y_fault {r c n b : Nat} {Xs Ps : Nat → Int32} {Pa : Nat → Nat → Int32} {Gs : Nat → Int32} {Ga : Nat → Nat → Int32} {Ns : Nat → Int32} {Na : Nat → Nat → Int32} {Qs : Nat → Int32} {Qa : Nat → Nat → Int32} {Ks : Nat → Int32} {Ka : Nat → Nat → Int32} {Ls : Nat → Int32} {La : Nat → Nat → Int32} {os : Nat → Nat → Int32} {Ms : Nat → Int32} {Ma : Nat → Nat → Int32} (h : yIV r c n b Xs Ps Pa Gs Ga Ns Na Qs Qa Ks Ka Ls La os Ms Ma) : ∃ v M', fX5_fault Ps Pa = some v ∧ fX6_fault Ms Ma = some (v, M') ∧ yIV r c n b Xs Ps Pa Gs Ga Ns Na Qs Qa Ks Ka Ls La os M' Ma := by
  obtain ⟨l, cd, hP, hM⟩ := yVP_g h.2.2.2.2.2.2.1
  obtain ⟨res, e1, e2⟩ := y_firstFault hP
  obtain ⟨⟨v, M⟩, hz, res', f1, f2, f3, f4⟩ := y_read hM
  have := yFF_u e2 f2
  subst this
  change v = nI res at f1
  subst f1
  unfold fX5_fault fX6_fault
  rw [e1, zb1_e, hz, zb2_e]
  exact ⟨_, _, rfl, rfl, yIV_m h f3⟩
