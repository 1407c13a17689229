/-! pure: the reference's search -/
theorem yif {α : Type} {P : Prop} [Decidable P] {x y : α} : (if P then some x else some y) = some (if P then x else y) := by split <;> rfl
def yfr (d : Nat) (a a' : Nat → Nat → Int32) : Prop := (∀ i, i < 18 ∨ 27 < i → a' i = a i) ∧ ∀ i j, j ≠ d → a' i j = a i j
theorem yfr_t {d : Nat} {a b c : Nat → Nat → Int32} (h1 : yfr d a b) (h2 : yfr d b c) : yfr d a c := ⟨fun i hi => (h2.1 i hi).trans (h1.1 i hi), fun i j hj => (h2.2 i j hj).trans (h1.2 i j hj)⟩
theorem yst {ρ : Type} {A : Nat → Nat → Int32} {k d : Nat} {v : Int32} {K : (Nat → Nat → Int32) → Option ρ} {R : ρ → Prop} (hk : 18 ≤ k ∧ k ≤ 27) (h : ∀ A', A' k d = v → (∀ i, i ≠ k → A' i = A i) → yfr d A A' → ∃ r, K A' = some r ∧ R r) : ∃ r, zlt (va_up A k (upd (A k) d v)) K = some r ∧ R r := by
  refine h _ (by rw [y_vu, y_uu]) (fun i hi => y_vn hi) ⟨fun i hi => y_vn (by omega), fun i j hj => ?_⟩
  by_cases e : i = k
  · subst e; rw [y_vu, y_un hj]
  · rw [y_vn e]
def yFAR : Int32 := 268435456
def yT (o : Nat → Int32) (a : Nat → Nat → Int32) (d : Nat) : Prop := a 19 d = o 0 ∧ a 20 d = o 3 ∧ a 22 d = o 2 ∧ a 25 d = o 6 ∧ a 26 d = o 7 ∧ a 27 d = o 8 ∧ a 21 d = (if o 0 = 0 then yFAR else o 1) ∧ a 23 d = (if o 0 = 0 then -1 else o 4) ∧ a 24 d = (if o 0 = 0 then yFAR else o 5)
def yU (u : Nat → Int32) (a : Nat → Nat → Int32) (d : Nat) : Prop := a 21 d = u 1 ∧ a 22 d = u 2 ∧ a 20 d = u 3 ∧ a 23 d = u 4 ∧ a 24 d = u 5 ∧ a 25 d = u 6 ∧ a 26 d = u 7 ∧ a 27 d / a 19 d = u 8 ∧ ¬ a 19 d = 0
/-- how large the numbers get -/
def yOB (f : Nat) (u : Nat → Int32) : Prop := ∃ x y z : Nat, x ≤ 8 ∧ y ≤ f ∧ z ≤ f ∧ u 1 = nI x ∧ u 4 = nI y ∧ u 5 = nI z
def yFB (i f : Nat) (o : Nat → Int32) : Prop := o 0 = nI i ∧ (i = 0 → o = ybeg) ∧ (0 < i → yOB f o)
theorem yi0 {i : Nat} (h : 0 < i) (h2 : i < 2 ^ 31) : ¬ nI i = 0 := nI_ne0 h h2
theorem yFB_snoc {i f : Nat} {o u : Nat → Int32} {j : Int32} (h : yFB i (f + 1) o) (hu : yOB f u) (hf : f ≤ 100) (hi : i < 1000) : yFB (i + 1) (f + 1) (ytk o u j) := by
  obtain ⟨h0, h1, h2⟩ := h
  obtain ⟨x, y, z, hx, hy, hz, ux, uy, uz⟩ := hu
  refine ⟨?_, fun e => absurd e (by omega), fun _ => ?_⟩
  · show o 0 + 1 = _
    rw [h0, nI_1]
  · show ∃ x' y' z' : Nat, x' ≤ 8 ∧ y' ≤ f + 1 ∧ z' ≤ f + 1 ∧ (if o 0 = 0 then u 1 else if o 1 ≤ u 1 then o 1 else u 1) = nI x' ∧ (if o 4 < u 4 + 1 then u 4 + 1 else o 4) = nI y' ∧ (if o 0 = 0 then u 5 + 1 else if o 5 ≤ u 5 + 1 then o 5 else u 5 + 1) = nI z'
    rw [uy, uz, nI_1, nI_1, ux]
    by_cases e : i = 0
    · have eo := h1 e
      refine ⟨x, y + 1, z + 1, hx, by omega, by omega, ?_, ?_, ?_⟩
      · rw [eo, if_pos (show ybeg 0 = 0 from rfl)]
      · rw [eo, if_pos (show ybeg 4 < nI (y + 1) from nI_lt (a := 0) (by omega) (by omega))]
      · rw [eo, if_pos (show ybeg 0 = 0 from rfl)]
    · obtain ⟨x', y', z', hx', hy', hz', ox, oy, oz⟩ := h2 (by omega)
      have e0 : ¬ o 0 = 0 := by rw [h0]; exact yi0 (by omega) (by omega)
      rw [if_neg e0, if_neg e0, ox, oy, oz]
      refine ⟨if x' ≤ x then x' else x, if y' < y + 1 then y + 1 else y', if z' ≤ z + 1 then z' else z + 1, by split <;> omega, by split <;> omega, by split <;> omega, ?_, ?_, ?_⟩
      · by_cases q : x' ≤ x
        · rw [if_pos q, if_pos (nI_le q (by omega))]
        · rw [if_neg q, if_neg (nI_ge (by omega) (by omega))]
      · by_cases q : y' < y + 1
        · rw [if_pos q, if_pos (nI_lt q (by omega))]
        · rw [if_neg q, if_neg (nI_nlt (by omega) (by omega))]
      · by_cases q : z' ≤ z + 1
        · rw [if_pos q, if_pos (nI_le q (by omega))]
        · rw [if_neg q, if_neg (nI_ge (by omega) (by omega))]
theorem yLL_len12 {r c n : Nat} {kd h : Nat → Int32} {hb : Int32} (h12 : r * c ≤ 12) : ∀ k, (yLL r c n kd h hb k).length ≤ 12 * k := by
  intro k
  induction k with
  | zero => exact Nat.le_refl 0
  | succ k ih =>
    have h2 : (yJ r c n kd h hb k).length ≤ 12 := by
      rw [← yJ_t]
      have := List.length_filterMap_le (ytj c n kd h hb k) (List.range (r * c))
      rw [List.length_range] at this
      omega
    show List.length (_ ++ _) ≤ _
    rw [List.length_append, List.length_map]
    omega
theorem yend_ob {i f : Nat} {o : Nat → Int32} {nb : Nat} {al : Int32} (h : yFB i f o) (hi : i < 1000) (hn : nb ≤ 8) : yOB f (yend o (nI nb) al) := by
  obtain ⟨h0, h1, h2⟩ := h
  show ∃ x y z : Nat, x ≤ 8 ∧ y ≤ f ∧ z ≤ f ∧ (if o 0 ≤ 0 then nI nb else o 1) = nI x ∧ o 4 = nI y ∧ o 5 = nI z
  by_cases e : i = 0
  · have eo := h1 e
    refine ⟨nb, 0, 0, hn, by omega, by omega, ?_, ?_, ?_⟩
    · rw [eo, if_pos (show ybeg 0 ≤ 0 by decide)]
    · rw [eo]; rfl
    · rw [eo]; rfl
  · obtain ⟨x', y', z', hx', hy', hz', ox, oy, oz⟩ := h2 (by omega)
    refine ⟨x', y', z', hx', hy', hz', ?_, oy, oz⟩
    rw [h0, if_neg (nI_nle (by omega) (by omega))]
    exact ox
theorem yF_fb {r c n : Nat} {kd : Nat → Int32} {hb : Int32} {f : Nat} {h : Nat → Int32} (hf : f ≤ 100) (hO : ∀ h', yOB f (yOut r c n kd hb f h')) : ∀ l : List (Nat × Nat × Nat), l.length ≤ 999 → yFB l.length (f + 1) (yF r c n kd hb f h l) := by
  intro l
  have key : ∀ m l, l.length = m → m ≤ 999 → yFB l.length (f + 1) (yF r c n kd hb f h l) := by
    intro m
    induction m with
    | zero =>
      intro l hl _
      rw [List.length_eq_zero_iff.mp hl]
      exact ⟨rfl, fun _ => rfl, fun q => absurd q (Nat.lt_irrefl 0)⟩
    | succ m ih =>
      intro l hl hm
      have hne : l ≠ [] := fun e => by rw [e] at hl; exact absurd hl (by simp)
      have e := List.dropLast_concat_getLast hne
      have hd : l.dropLast.length = m := by rw [List.length_dropLast, hl]; rfl
      rw [← e, yF_snoc, List.length_append]
      exact yFB_snoc (ih _ hd (by omega)) (hO _) hf (by omega)
  exact fun hl => key l.length l rfl hl
theorem yOut_ob {r c n : Nat} {kd : Nat → Int32} {hb : Int32} (h12 : r * c ≤ 12) (hn : n ≤ 8) : ∀ f, f ≤ 100 → ∀ h, yOB f (yOut r c n kd hb f h) := by
  intro f
  induction f with
  | zero =>
    intro _ h
    exact yend_ob (i := 0) ⟨rfl, fun _ => rfl, fun q => absurd q (Nat.lt_irrefl 0)⟩ (by decide) (Nat.le_trans (yc_le n h) hn)
  | succ f ih =>
    intro hf h
    rw [yOut_s]
    have hl := yLL_len12 (n := n) (kd := kd) (h := h) (hb := hb) h12 n
    exact yend_ob (yF_fb (by omega) (fun h' => ih (by omega) h') _ (by omega)) (by omega) (Nat.le_trans (yc_le n h) hn)
theorem y_takeUp {o u : Nat → Int32} {a : Nat → Nat → Int32} {d k i f : Nat} (hd : d + 1 ≤ 8) (hk : k < 96) (hT : yT o a d) (hFB : yFB i f o) (hi : i < 1000) (hf : f ≤ 100) (hU : yU u a (d + 1)) (hOB : yOB f u) : ∃ a', fX6_takeUp a (nI d) (nI k) = some a' ∧ yfr d a a' ∧ a' 18 = a 18 ∧ yT (ytk o u (nI (100 * (k / 12) + k % 12))) a' d := by
  obtain ⟨t19, t20, t22, t25, t26, t27, t21, t23, t24⟩ := hT
  obtain ⟨u21, u22, u20, u23, u24, u25, u26, u27, u19⟩ := hU
  obtain ⟨x, y, z, hx, hy, hz, ux, uy, uz⟩ := hOB
  obtain ⟨o0, ob, oo⟩ := hFB
  have z0 : zin (nI d) 9 = true := y_zin (by omega) (by decide)
  have z1 : zin (nI (d + 1)) 9 = true := y_zin (by omega) (by decide)
  have e1 : nI k / (12 : Int32) = nI (k / 12) := pk_div (d := 12) (by omega) (by decide) (by decide)
  have e2 : nI k - nI k / (12 : Int32) * (12 : Int32) = nI (k % 12) := pk_rem (d := 12) (by omega) (by decide) (by decide)
  have ej : (100 : Int32) * nI (k / 12) + nI (k % 12) = nI (100 * (k / 12) + k % 12) := by rw [show (100 : Int32) = nI 100 from rfl, pk_mul, nI_add]
  generalize hj : nI (100 * (k / 12) + k % 12) = j at *
  unfold fX6_takeUp
  rw [zlt_e, zlt_e, e2, e1, ej, nI_1, nI_clamp (show d < 2 ^ 31 by omega), nI_clamp (show d + 1 < 2 ^ 31 by omega), z0, z1]
  simp only [zck_e]
  refine yst (by decide) fun A1 v1 q1 r1 => ?_
  refine yst (by decide) fun A2 v2 q2 r2 => ?_
  rw [yif, zb1_e]
  refine yst (by decide) fun A3 v3 q3 r3 => ?_
  rw [yif, zb1_e]
  refine yst (by decide) fun A4 v4 q4 r4 => ?_
  rw [yif, zb1_e]
  refine yst (by decide) fun A5 v5 q5 r5 => ?_
  rw [yif, zb1_e]
  refine yst (by decide) fun A6 v6 q6 r6 => ?_
  refine yst (by decide) fun A7 v7 q7 r7 => ?_
  have d1 : d + 1 ≠ d := by omega
  have g2 := yfr_t r1 r2
  have g3 := yfr_t g2 r3
  have g4 := yfr_t g3 r4
  have g5 := yfr_t g4 r5
  have g6 := yfr_t g5 r6
  have g7 := yfr_t g6 r7
  have b2 : ∀ i, i ≠ 19 → i ≠ 20 → A2 i = a i := fun i i1 i2 => (q2 i i2).trans (q1 i i1)
  have b3 : ∀ i, i ≠ 19 → i ≠ 20 → i ≠ 22 → A3 i = a i := fun i i1 i2 i3 => (q3 i i3).trans (b2 i i1 i2)
  have b4 : ∀ i, i ≠ 19 → i ≠ 20 → i ≠ 22 → i ≠ 21 → A4 i = a i := fun i i1 i2 i3 i4 => (q4 i i4).trans (b3 i i1 i2 i3)
  have b5 : ∀ i, i ≠ 19 → i ≠ 20 → i ≠ 22 → i ≠ 21 → i ≠ 23 → A5 i = a i := fun i i1 i2 i3 i4 i5 => (q5 i i5).trans (b4 i i1 i2 i3 i4)
  have b6 : ∀ i, i ≠ 19 → i ≠ 20 → i ≠ 22 → i ≠ 21 → i ≠ 23 → i ≠ 24 → A6 i = a i := fun i i1 i2 i3 i4 i5 i6 => (q6 i i6).trans (b5 i i1 i2 i3 i4 i5)
  have b7 : ∀ i, i ≠ 19 → i ≠ 20 → i ≠ 22 → i ≠ 21 → i ≠ 23 → i ≠ 24 → i ≠ 25 → A7 i = a i := fun i i1 i2 i3 i4 i5 i6 i7 => (q7 i i7).trans (b6 i i1 i2 i3 i4 i5 i6)
  have w26 : (if A7 26 (d + 1) = (-1 : Int32) then if A7 26 d = (-1 : Int32) then some j else some (A7 26 d) else some (A7 26 d)) = some (if o 7 = -1 then if u 7 = -1 then j else o 7 else o 7) := by
    rw [b7 26 (by decide) (by decide) (by decide) (by decide) (by decide) (by decide) (by decide), t26, u26]
    by_cases c1 : u 7 = -1
    · rw [if_pos c1, if_pos c1]
      by_cases c2 : o 7 = -1
      · rw [if_pos c2, if_pos c2]
      · rw [if_neg c2, if_neg c2]
    · rw [if_neg c1, if_neg c1]
      by_cases c2 : o 7 = -1
      · rw [if_pos c2]
      · rw [if_neg c2]
  rw [zjn_e, w26, zb1_e]
  refine yst (by decide) fun A8 v8 q8 r8 => ?_
  have g8 := yfr_t g7 r8
  have n19 : A8 19 (d + 1) = a 19 (d + 1) := g8.2 19 (d + 1) d1
  have n27 : A8 27 (d + 1) = a 27 (d + 1) := g8.2 27 (d + 1) d1
  rw [show zne (A8 19 (d + 1)) = true from decide_eq_true (by rw [n19]; exact u19), zck_e]
  refine yst (by decide) fun A9 v9 q9 r9 => ?_
  have g9 := yfr_t g8 r9
  have o7' : (ytk o u j) 0 = nI (i + 1) := by show o 0 + 1 = _; rw [o0, nI_1]
  have e0 : ¬ (ytk o u j) 0 = 0 := by rw [o7']; exact yi0 (by omega) (by omega)
  refine ⟨A9, rfl, g9, ?_, ?_, ?_, ?_, ?_, ?_, ?_, ?_, ?_, ?_⟩
  · rw [q9 18 (by decide), q8 18 (by decide)]
    exact b7 18 (by decide) (by decide) (by decide) (by decide) (by decide) (by decide) (by decide)
  · rw [q9 19 (by decide), q8 19 (by decide), q7 19 (by decide), q6 19 (by decide), q5 19 (by decide), q4 19 (by decide), q3 19 (by decide), q2 19 (by decide), v1, t19]
    rfl
  · rw [q9 20 (by decide), q8 20 (by decide), q7 20 (by decide), q6 20 (by decide), q5 20 (by decide), q4 20 (by decide), q3 20 (by decide), v2, q1 20 (by decide), t20, u20]
    rfl
  · rw [q9 22 (by decide), q8 22 (by decide), q7 22 (by decide), q6 22 (by decide), q5 22 (by decide), q4 22 (by decide), v3, b2 21 (by decide) (by decide), b2 22 (by decide) (by decide), t21, t22, u21]
    show _ = (if o 0 = 0 then j else if o 1 ≤ u 1 then o 2 else j)
    by_cases c : o 0 = 0
    · rw [if_pos c, if_pos c, if_neg]
      rw [ux]
      exact nI_ge (b := 268435456) (by omega) (by decide)
    · rw [if_neg c, if_neg c]
  · rw [q9 25 (by decide), q8 25 (by decide), v7, b6 25 (by decide) (by decide) (by decide) (by decide) (by decide) (by decide), t25, u25]
    rfl
  · rw [q9 26 (by decide), v8]
    rfl
  · rw [v9, q8 27 (by decide), b7 27 (by decide) (by decide) (by decide) (by decide) (by decide) (by decide) (by decide), n19, t27, u27]
    rfl
  · rw [if_neg e0, q9 21 (by decide), q8 21 (by decide), q7 21 (by decide), q6 21 (by decide), q5 21 (by decide), v4, b3 21 (by decide) (by decide) (by decide), t21, u21]
    show _ = (if o 0 = 0 then u 1 else if o 1 ≤ u 1 then o 1 else u 1)
    by_cases c : o 0 = 0
    · rw [if_pos c, if_pos c, if_neg]
      rw [ux]
      exact nI_ge (b := 268435456) (by omega) (by decide)
    · rw [if_neg c, if_neg c]
  · rw [if_neg e0, q9 23 (by decide), q8 23 (by decide), q7 23 (by decide), q6 23 (by decide), v5, b4 23 (by decide) (by decide) (by decide) (by decide), t23, u23]
    show _ = (if o 4 < u 4 + 1 then u 4 + 1 else o 4)
    by_cases c : o 0 = 0
    · have i0 : i = 0 := by
        rcases Nat.eq_zero_or_pos i with h | h
        · exact h
        · rw [o0] at c; exact absurd c (yi0 h (by omega))
      have eo := ob i0
      rw [if_pos c, eo, uy, nI_1]
      have e4 : ybeg 4 = nI 0 := rfl
      rw [e4, if_pos (nI_lt (show 0 < y + 1 by omega) (by omega)), if_neg]
      rw [Int32.le_iff_toInt_le, nI_toInt (by omega)]
      have : (-1 : Int32).toInt = -1 := rfl
      omega
    · rw [if_neg c]
      by_cases q : o 4 < u 4 + 1
      · rw [if_pos q, if_neg (by rw [Int32.not_le]; exact q)]
      · rw [if_neg q, if_pos (by rw [← Int32.not_lt]; exact q)]
  · rw [if_neg e0, q9 24 (by decide), q8 24 (by decide), q7 24 (by decide), v6, b5 24 (by decide) (by decide) (by decide) (by decide) (by decide), t24, u24]
    show _ = (if o 0 = 0 then u 5 + 1 else if o 5 ≤ u 5 + 1 then o 5 else u 5 + 1)
    by_cases c : o 0 = 0
    · rw [if_pos c, if_pos c, if_neg]
      rw [uz, nI_1]
      exact nI_ge (b := 268435456) (by omega) (by decide)
    · rw [if_neg c, if_neg c]
theorem y_mbegin {a : Nat → Nat → Int32} {d : Nat} (hd : d ≤ 8) : ∃ a', fX6_begin a (nI d) = some a' ∧ yfr d a a' ∧ a' 18 d = 0 ∧ yT ybeg a' d := by
  have z0 : zin (nI d) 9 = true := y_zin (by omega) (by decide)
  unfold fX6_begin
  rw [nI_clamp (show d < 2 ^ 31 by omega), z0]
  simp only [zck_e]
  refine yst (by decide) fun A0 v0 q0 r0 => ?_
  refine yst (by decide) fun A1 v1 q1 r1 => ?_
  refine yst (by decide) fun A2 v2 q2 r2 => ?_
  refine yst (by decide) fun A3 v3 q3 r3 => ?_
  refine yst (by decide) fun A4 v4 q4 r4 => ?_
  refine yst (by decide) fun A5 v5 q5 r5 => ?_
  refine yst (by decide) fun A6 v6 q6 r6 => ?_
  refine yst (by decide) fun A7 v7 q7 r7 => ?_
  refine yst (by decide) fun A8 v8 q8 r8 => ?_
  refine yst (by decide) fun A9 v9 q9 r9 => ?_
  refine ⟨A9, rfl, yfr_t (yfr_t (yfr_t (yfr_t (yfr_t (yfr_t (yfr_t (yfr_t (yfr_t r0 r1) r2) r3) r4) r5) r6) r7) r8) r9, ?_, ?_, ?_, ?_, ?_, ?_, ?_, ?_, ?_, ?_⟩
  · rw [q9 18 (by decide), q8 18 (by decide), q7 18 (by decide), q6 18 (by decide), q5 18 (by decide), q4 18 (by decide), q3 18 (by decide), q2 18 (by decide), q1 18 (by decide), v0]
  · rw [q9 19 (by decide), q8 19 (by decide), q7 19 (by decide), q6 19 (by decide), q5 19 (by decide), q4 19 (by decide), q3 19 (by decide), q2 19 (by decide), v1]; rfl
  · rw [q9 20 (by decide), q8 20 (by decide), q7 20 (by decide), q6 20 (by decide), q5 20 (by decide), q4 20 (by decide), q3 20 (by decide), v2]; rfl
  · rw [q9 22 (by decide), q8 22 (by decide), q7 22 (by decide), q6 22 (by decide), q5 22 (by decide), v4]; rfl
  · rw [q9 25 (by decide), q8 25 (by decide), v7]; rfl
  · rw [q9 26 (by decide), v8]; rfl
  · rw [v9]; rfl
  · rw [q9 21 (by decide), q8 21 (by decide), q7 21 (by decide), q6 21 (by decide), q5 21 (by decide), q4 21 (by decide), v3]; rfl
  · rw [q9 23 (by decide), q8 23 (by decide), q7 23 (by decide), q6 23 (by decide), v5]; rfl
  · rw [q9 24 (by decide), q8 24 (by decide), q7 24 (by decide), v6]; rfl
/-- the places of all pegs on the board, as bits -/
def yor : Nat → (Nat → Int32) → Int32
  | 0, _ => 0
  | k + 1, h => yor k h ||| (if h k = -1 then 0 else (1 : Int32) <<< (h k &&& 31))
theorem yor_0 (h : Nat → Int32) : ∀ k, yc k h = 0 → yor k h = 0 := by
  intro k
  induction k with
  | zero => intro _; rfl
  | succ k ih =>
    intro e
    have e' : yc k h + (if h k = -1 then 0 else 1) = 0 := e
    by_cases c : h k = -1
    · rw [if_pos c] at e'
      show yor k h ||| (if h k = -1 then 0 else (1 : Int32) <<< (h k &&& 31)) = 0
      rw [if_pos c, ih (by omega)]; rfl
    · rw [if_neg c] at e'; omega
theorem yor_la (h : Nat → Int32) : ∀ k, yc k h ≤ 1 → yor k h = yla k h := by
  intro k
  induction k with
  | zero => intro _; rfl
  | succ k ih =>
    intro e
    have e' : yc k h + (if h k = -1 then 0 else 1) ≤ 1 := e
    show yor k h ||| (if h k = -1 then 0 else (1 : Int32) <<< (h k &&& 31)) = (if h k = -1 then yla k h else (1 : Int32) <<< (h k &&& 31))
    by_cases c : h k = -1
    · rw [if_pos c] at e'
      rw [if_pos c, if_pos c, Int32.or_zero, ih (by omega)]
    · rw [if_neg c] at e'
      rw [if_neg c, if_neg c, yor_0 h k (by omega), Int32.zero_or]
theorem y_lastPlace {n d : Nat} {h s : Nat → Int32} {a : Nat → Nat → Int32} (h4 : s 4 = nI n) (hn : n ≤ 8) (hR : yR n d h a) (hd : d ≤ 8) : fX6_lastPlace s a (nI d) = some (yor n h) := by
  unfold fX6_lastPlace
  rw [h4]
  refine (zb1_t (a0 := yor n h) ?_ _).trans rfl
  refine zd2 (fun k b j => b = yor k h ∧ j = nI k) n ?_ ?_ 0 (Nat.zero_le _) ⟨rfl, rfl⟩
  · rintro k b j hk ⟨rfl, rfl⟩
    refine Or.inl ⟨_, _, ?_, rfl, rfl⟩
    have e : (8 : Int32) * nI d + nI k = nI (8 * d + k) := by rw [show (8 : Int32) = nI 8 from rfl, pk_mul, nI_add]
    rw [if_neg (nI_ge hk (by omega)), e, y_zin (show 8 * d + k < 72 by omega) (by decide), zck_e, zck_e, nI_clamp (show 8 * d + k < 2 ^ 31 by omega), hR k hk, yif, zb1_e, zlt_e, nI_1]
    rfl
  · rintro b j ⟨rfl, rfl⟩
    rw [if_pos (nI_le (Nat.le_refl n) (by omega))]
theorem y_mend {r c n d : Nat} {hb : Int32} {kd h s : Nat → Int32} {a : Nat → Nat → Int32} (hM : yM r c n hb kd s a) (hR : yR n d h a) (hd : d ≤ 8) : ∃ a', fX6_end s a (nI d) = some a' ∧ yfr d a a' ∧ a' 18 = a 18 ∧ a' 19 d = 1 ∧ a' 20 d = 1 ∧ a' 21 d = nI (yc n h) ∧ a' 22 = a 22 ∧ a' 23 d = 0 ∧ a' 24 d = 0 ∧ a' 25 d = yal n h ∧ a' 26 = a 26 ∧ a' 27 d = 1000 * nI (yc n h) := by
  have hn := hM.2.2.2.2.1
  have z0 : zin (nI d) 9 = true := y_zin (by omega) (by decide)
  have ec : yc n (fun p => a 17 (8 * d + p)) = yc n h := yc_congr (fun p hp => hR p hp)
  have hcl := yc_le n h
  unfold fX6_end
  rw [y_onBoard hM.2.2.2.1 hn hd, ec, zb1_e, nI_clamp (show d < 2 ^ 31 by omega), z0]
  simp only [zck_e]
  refine yst (by decide) fun A1 v1 q1 r1 => ?_
  refine yst (by decide) fun A2 v2 q2 r2 => ?_
  refine yst (by decide) fun A3 v3 q3 r3 => ?_
  refine yst (by decide) fun A4 v4 q4 r4 => ?_
  have g4 := yfr_t (yfr_t (yfr_t r1 r2) r3) r4
  have hR4 : yR n d h A4 := fun p hp => by rw [g4.1 17 (Or.inl (by decide))]; exact hR p hp
  have w : (if nI (yc n h) = (1 : Int32) then zb1 (fX6_lastPlace s A4 (nI d)) (fun (r19 : Int32) => some r19) else some (0 : Int32)) = some (yal n h) := by
    unfold yal
    by_cases c : nI (yc n h) = 1
    · rw [if_pos c, if_pos c, y_lastPlace hM.2.2.2.1 hn hR4 hd, zb1_e]
      have : yc n h = 1 := y_i (by omega) (by decide) c
      rw [yor_la h n (by omega)]
    · rw [if_neg c, if_neg c]
  rw [w, zb1_e]
  refine yst (by decide) fun A5 v5 q5 r5 => ?_
  refine yst (by decide) fun A6 v6 q6 r6 => ?_
  refine yst (by decide) fun A7 v7 q7 r7 => ?_
  refine ⟨A7, rfl, yfr_t (yfr_t (yfr_t g4 r5) r6) r7, ?_, v7, ?_, ?_, ?_, ?_, ?_, ?_, ?_, ?_⟩
  · rw [q7 18 (by decide), q6 18 (by decide), q5 18 (by decide), q4 18 (by decide), q3 18 (by decide), q2 18 (by decide), q1 18 (by decide)]
  · rw [q7 20 (by decide), q6 20 (by decide), q5 20 (by decide), q4 20 (by decide), q3 20 (by decide), q2 20 (by decide), v1]
  · rw [q7 21 (by decide), q6 21 (by decide), q5 21 (by decide), q4 21 (by decide), q3 21 (by decide), v2]
  · rw [q7 22 (by decide), q6 22 (by decide), q5 22 (by decide), q4 22 (by decide), q3 22 (by decide), q2 22 (by decide), q1 22 (by decide)]
  · rw [q7 23 (by decide), q6 23 (by decide), q5 23 (by decide), q4 23 (by decide), v3]
  · rw [q7 24 (by decide), q6 24 (by decide), q5 24 (by decide), v4]
  · rw [q7 25 (by decide), q6 25 (by decide), v5]
  · rw [q7 26 (by decide), q6 26 (by decide), q5 26 (by decide), q4 26 (by decide), q3 26 (by decide), q2 26 (by decide), q1 26 (by decide)]
  · rw [q7 27 (by decide), v6]
noncomputable def yLB (Ms : Nat → Int32) : Int32 → (Nat → Nat → Int32) → Option ((Int32 × (Nat → Nat → Int32)) ⊕ (Nat → Nat → Int32)) := fun (x1_7h : Int32) (Ma_7h : Nat → Nat → Int32) => if x1_7h < 0 then some (.inr Ma_7h) else zb2 (fX6_nextCode Ms Ma_7h x1_7h) (fun (r5 : Int32) (Ma_6 : Nat → Nat → Int32) => zb2 (if r5 = (-1 : Int32) then zck (zin x1_7h 9) (zb1 (if ((Ma_6 19) (x1_7h).toNatClampNeg) = 0 then zb1 (fX6_end Ms Ma_6 x1_7h) (fun (Ma_17 : Nat → Nat → Int32) => some Ma_17) else some Ma_6) (fun (Ma_60 : Nat → Nat → Int32) => if (x1_7h + (-1 : Int32)) < 0 then some ((x1_7h + (-1 : Int32)), Ma_60) else zck (zin (x1_7h + (-1 : Int32)) 9) (zb1 (fX6_takeUp Ma_60 (x1_7h + (-1 : Int32)) (((Ma_60 18) ((x1_7h + (-1 : Int32))).toNatClampNeg) - (1 : Int32))) (fun (Ma_13 : Nat → Nat → Int32) => some ((x1_7h + (-1 : Int32)), Ma_13))))) else zb1 (fX6_goDeep Ms Ma_6 x1_7h (r5 / (12 : Int32)) (r5 - r5 / (12 : Int32) * (12 : Int32))) (fun (Ma_19 : Nat → Nat → Int32) => zb1 (fX6_begin Ma_19 (x1_7h + (1 : Int32))) (fun (Ma_21 : Nat → Nat → Int32) => some ((x1_7h + (1 : Int32)), Ma_21)))) (fun (x1_80 : Int32) (Ma_80 : Nat → Nat → Int32) => some (.inl (x1_80, Ma_80))))
theorem yLB_is (Ms : Nat → Int32) (Ma : Nat → Nat → Int32) : fX6_layCourses Ms Ma = zb1 (fX6_begin Ma (0 : Int32)) (fun A => zb1 (zi2 (yLB Ms) (0 : Int32) A) (fun B => some B)) := rfl
theorem yM_c {r c n : Nat} {hb : Int32} {kd s : Nat → Int32} {a b : Nat → Nat → Int32} (h : yM r c n hb kd s a) (e : b 5 = a 5) : yM r c n hb kd s b := ⟨h.1, h.2.1, h.2.2.1, h.2.2.2.1, h.2.2.2.2.1, fun p hp => by rw [e]; exact h.2.2.2.2.2.1 p hp, h.2.2.2.2.2.2⟩
def yfd (d : Nat) (a b : Nat → Nat → Int32) : Prop := (∀ i, i < 17 ∨ 27 < i → b i = a i) ∧ (∀ j, j < 8 * (d + 1) → b 17 j = a 17 j) ∧ ∀ i j, 18 ≤ i → i ≤ 27 → j < d → b i j = a i j
theorem yLL_nil {r c n : Nat} {kd h : Nat → Int32} {hb : Int32} (hB : yB r c) (hn : n ≤ 8) (hk : yk5 n kd) (hH : yH (r * c) n h) (h0 : yc n h = 0) : ∀ k, k ≤ n → yLL r c n kd h hb k = [] := by
  intro k
  induction k with
  | zero => intro _; rfl
  | succ k ih =>
    intro hk'
    show yLL r c n kd h hb k ++ _ = []
    rw [ih (by omega)]
    cases hj : yJ r c n kd h hb k with
    | nil => rfl
    | cons x l =>
      have := (y_aft hB hn hk hH (p := k) (by omega) (hb := hb) (x := x) (by rw [hj]; exact List.mem_cons_self)).2
      omega
