/-! pure: behind a jump; the reference one deeper, its next jump -/
def yk5 (n : Nat) (kd : Nat → Int32) : Prop := ∀ p, p < n → ∃ k, k < 5 ∧ kd p = nI k
def yg0 (r c : Nat) : Nat → Int32 := fun k => if k = 0 then nI r else if k = 1 then nI c else nI (r * c)
def yg1 (r c : Nat) : Nat → Nat → Int32 := fun _ j => yI (ynbN r c (j / 8) (j % 8))
def ys0 (n : Nat) (h : Nat → Int32) (hb : Int32) : Nat → Int32 := fun k => if k = 1 then hb else if k = 2 then nI n else nI (yc n h)
def ys1 (n : Nat) (kd h : Nat → Int32) : Nat → Nat → Int32 := fun k => if k = 5 then kd else if k = 6 then h else fun q => yn n h (nI q)
theorem yg_ok (r c : Nat) : yG r c (yg0 r c) (yg1 r c) := by
  refine ⟨rfl, rfl, rfl, fun q d _ hd => ?_⟩
  unfold yg1
  rw [show (q * 8 + d) / 8 = q by omega, show (q * 8 + d) % 8 = d by omega]
theorem ys_ok {pl n : Nat} {kd h : Nat → Int32} {hb : Int32} (hn : n ≤ 8) (hk : yk5 n kd) (hH : yH pl n h) : yS pl n (ys0 n h hb) (ys1 n kd h) := ⟨rfl, hn, hk, hH, fun _ _ => rfl, rfl⟩
theorem yJ_in {r c n : Nat} {kd h : Nat → Int32} {hb : Int32} {p t : Nat} {x : Nat × Nat} (ht : t < r * c) (hx : ytj c n kd h hb p t = some x) : x ∈ yJ r c n kd h hb p := by
  rw [← yJ_t]
  exact List.mem_filterMap.mpr ⟨t, List.mem_range.mpr ht, hx⟩
theorem yJ_mem {r c n : Nat} {kd h : Nat → Int32} {hb : Int32} {p : Nat} {x : Nat × Nat} (hx : x ∈ yJ r c n kd h hb p) : x.1 < r * c ∧ ytj c n kd h hb p x.1 = some x := by
  rw [← yJ_t] at hx
  obtain ⟨t, h1, h2⟩ := List.mem_filterMap.mp hx
  have := ytj_t h2
  rw [this]
  exact ⟨List.mem_range.mp h1, h2⟩
theorem yd_in {r c n : Nat} {kd h : Nat → Int32} {hb : Int32} {p d : Nat} {x : Nat × Nat} (hB : yB r c) (hH : yH (r * c) n h) (hp : p < n) (hd : d < 8) (hx : yd r c n kd h hb p d = some x) : x ∈ yJ r c n kd h hb p := by
  rw [← yJ_d hB hH hp]
  exact List.mem_filterMap.mpr ⟨d, List.mem_range.mpr hd, hx⟩
theorem yJ_o {r c n : Nat} {kd h : Nat → Int32} {hb : Int32} {p : Nat} {x : Nat × Nat} (hx : x ∈ yJ r c n kd h hb p) : ∃ o, o < n ∧ h o = nI x.2 ∧ yn n h (nI x.2) = nI o := by
  obtain ⟨_, h2⟩ := yJ_mem hx
  rcases yn_cases n h (nI x.2) with ⟨f1, _⟩ | ⟨o, f1, f2, f3⟩
  · have h3 : yO n h (ytj c n kd h hb p x.1) = -1 := by rw [h2]; exact f1
    rw [yO_none, h2] at h3
    cases h3
  · exact ⟨o, f1, f2, f3⟩
theorem y_aft {r c n : Nat} {kd h : Nat → Int32} {hb : Int32} (hB : yB r c) (hn : n ≤ 8) (hk : yk5 n kd) (hH : yH (r * c) n h) {p : Nat} (hp : p < n) {x : Nat × Nat} (hx : x ∈ yJ r c n kd h hb p) : yH (r * c) n (yaft n kd h p x) ∧ yc n (yaft n kd h p x) < yc n h := by
  rw [← yJ_d hB hH hp] at hx
  obtain ⟨d, h1, h2⟩ := List.mem_filterMap.mp hx
  obtain ⟨t, m⟩ := x
  obtain ⟨_, s', a', _, g1, _, _, _, _, g2, g3, _⟩ := y_leap (s := ys0 n h hb) (a := ys1 n kd h) hB (yg_ok r c) (ys_ok hn hk hH) hp (List.mem_range.mp h1) h2
  have e : a' 6 = yaft n kd h p (t, m) := g2
  refine ⟨?_, ?_⟩
  · rw [← e]; exact g1.2.2.2.1
  · rw [← e]; exact g3
theorem y_putDeep {n : Nat} {s : Nat → Int32} {a : Nat → Nat → Int32} (h4 : s 4 = nI n) (hn : n ≤ 8) : ∃ a', fX6_putDeep s a = some a' ∧ (∀ k, k ≠ 17 → a' k = a k) ∧ yR n 0 (a 6) a' := by
  unfold fX6_putDeep
  rw [h4]
  refine zb1_x (fun a' => (∀ k, k ≠ 17 → a' k = a k) ∧ yR n 0 (a 6) a') ?_ (fun a' h => ⟨a', rfl, h⟩)
  refine zf2 (fun k j A => j = nI k ∧ (∀ i, i ≠ 17 → A i = a i) ∧ ∀ p, p < k → p < n → A 17 p = a 6 p) _ 8 ?_ ?_ 0 (Nat.zero_le _) ⟨rfl, fun _ _ => rfl, fun p hp => absurd hp (Nat.not_lt_zero p)⟩
  · rintro k j A hk ⟨rfl, h1, h2⟩
    refine Or.inl ?_
    rw [if_neg (y8g hk), y_zin (show k < 72 by omega) (by decide), y_zin (show k < 8 by omega) (by decide), zck_e, nI_clamp (show k < 2 ^ 31 by omega), nI_1]
    by_cases hkn : k < n
    · rw [if_neg (nI_ge hkn (by omega)), zb1_e, zck_e, zlt_e]
      refine ⟨_, _, rfl, rfl, fun i hi => by rw [y_vn hi]; exact h1 i hi, fun p hp hpn => ?_⟩
      rw [y_vu]
      by_cases e : p = k
      · subst e; rw [y_uu, h1 6 (by decide)]
      · rw [y_un e]; exact h2 p (by omega) hpn
    · rw [if_pos (nI_le (by omega) (by omega)), zb1_e, zck_e, zlt_e]
      refine ⟨_, _, rfl, rfl, fun i hi => by rw [y_vn hi]; exact h1 i hi, fun p hp hpn => ?_⟩
      rw [y_vu, y_un (by omega)]
      exact h2 p (by omega) hpn
  · rintro j A ⟨rfl, h1, h2⟩
    refine ⟨A, ?_, h1, fun p hp => ?_⟩
    · rw [if_pos y8p]
    · rw [show 8 * 0 + p = p by omega]; exact h2 p (by omega) hp
theorem y_goDeep {r c n d : Nat} {hb : Int32} {kd h s : Nat → Int32} {a : Nat → Nat → Int32} (hB : yB r c) (hM : yM r c n hb kd s a) (hR : yR n d h a) (hH : yH (r * c) n h) (hd : d ≤ 7) {p : Nat} (hp : p < n) {x : Nat × Nat} (hx : x ∈ yJ r c n kd h hb p) : ∃ a', fX6_goDeep s a (nI d) (nI p) (nI x.1) = some a' ∧ (∀ k, k ≠ 17 → a' k = a k) ∧ (∀ j, j < 8 * (d + 1) → a' 17 j = a 17 j) ∧ yR n (d + 1) (yaft n kd h p x) a' := by
  have hn := hM.2.2.2.2.1
  obtain ⟨ht, hj⟩ := yJ_mem hx
  obtain ⟨o, ho, _, eo⟩ := yJ_o hx
  unfold fX6_goDeep
  rw [y_overBy hB hM hR hH (by omega) hp ht, hj, zb1_e]
  rw [show yO n h (some x) = nI o from eo]
  refine zb1_x (fun A => (∀ i, i ≠ 17 → A i = a i) ∧ (∀ j, j < 8 * (d + 1) → A 17 j = a 17 j) ∧ ∀ q, q < 8 → A 17 (8 * (d + 1) + q) = a 17 (8 * d + q)) ?_ ?_
  · refine zf2 (fun k j A => j = nI k ∧ (∀ i, i ≠ 17 → A i = a i) ∧ (∀ j, j < 8 * (d + 1) → A 17 j = a 17 j) ∧ ∀ q, q < k → A 17 (8 * (d + 1) + q) = a 17 (8 * d + q)) _ 8 ?_ ?_ 0 (Nat.zero_le _) ⟨rfl, fun _ _ => rfl, fun _ _ => rfl, fun q hq => absurd hq (Nat.not_lt_zero q)⟩
    · rintro k j A hk ⟨rfl, h1, h2, h3⟩
      have e1 : (8 : Int32) * nI d + nI k = nI (8 * d + k) := by rw [show (8 : Int32) = nI 8 from rfl, pk_mul, nI_add]
      have e2 : (8 : Int32) * nI d + (8 : Int32) + nI k = nI (8 * (d + 1) + k) := by
        rw [show (8 : Int32) = nI 8 from rfl, pk_mul, nI_add, nI_add]
        exact congrArg nI (by omega)
      refine Or.inl ?_
      rw [if_neg (y8g hk), e1, e2, y_zin (show 8 * d + k < 72 by omega) (by decide), zck_e, y_zin (show 8 * (d + 1) + k < 72 by omega) (by decide), zck_e, zlt_e, nI_clamp (show 8 * d + k < 2 ^ 31 by omega), nI_clamp (show 8 * (d + 1) + k < 2 ^ 31 by omega), nI_1]
      refine ⟨_, _, rfl, rfl, fun i hi => by rw [y_vn hi]; exact h1 i hi, fun j hj => ?_, fun q hq => ?_⟩
      · rw [y_vu, y_un (by omega)]; exact h2 j hj
      · rw [y_vu]
        by_cases e : q = k
        · subst e; rw [y_uu]; exact h2 _ (by omega)
        · rw [y_un (by omega)]; exact h3 q (by omega)
    · rintro j A ⟨rfl, h1, h2, h3⟩
      exact ⟨A, by rw [if_pos y8p], h1, h2, h3⟩
  · rintro A ⟨h1, h2, h3⟩
    have e1 : ∀ k, (8 : Int32) * nI d + (8 : Int32) + nI k = nI (8 * (d + 1) + k) := by
      intro k
      rw [show (8 : Int32) = nI 8 from rfl, pk_mul, nI_add, nI_add]
      exact congrArg nI (by omega)
    have e5 : A 5 p = kd p := by rw [h1 5 (by decide)]; exact hM.2.2.2.2.2.1 p hp
    rw [y_zin (show p < 8 by omega) (by decide), zck_e, nI_clamp (show p < 2 ^ 31 by omega), e5, e1, e1, y_zin (show 8 * (d + 1) + p < 72 by omega) (by decide), y_zin (show 8 * (d + 1) + o < 72 by omega) (by decide), nI_clamp (show 8 * (d + 1) + p < 2 ^ 31 by omega), nI_clamp (show 8 * (d + 1) + o < 2 ^ 31 by omega)]
    have ei : (if kd p = 3 then some (-1 : Int32) else some (nI x.1)) = some (if kd p = 3 then (-1 : Int32) else nI x.1) := by split <;> rfl
    rw [ei, zb1_e, zck_e, zlt_e, zck_e, zlt_e]
    refine ⟨_, rfl, fun i hi => by rw [y_vn hi, y_vn hi]; exact h1 i hi, fun j hj => ?_, fun q hq => ?_⟩
    · rw [y_vu, y_un (by omega), y_vu, y_un (by omega)]; exact h2 j hj
    · unfold yaft
      rw [eo, nI_clamp (show o < 2 ^ 31 by omega), y_vu]
      by_cases q1 : q = o
      · subst q1; rw [y_uu, y_uu]
      · rw [y_un (by omega), y_vu, y_un q1]
        by_cases q2 : q = p
        · subst q2; rw [y_uu, y_uu]
        · rw [y_un (by omega), y_un q2, h3 q (by omega)]
          exact hR q hq
/-- the jump of a code, if there is one -/
def yC (r c n : Nat) (kd h : Nat → Int32) (hb : Int32) (k : Nat) : Option (Nat × Nat × Nat) := if k % 12 < r * c ∧ k / 12 < n then (ytj c n kd h hb (k / 12) (k % 12)).map (fun x => (k / 12, x)) else none
theorem yC_row {r c n : Nat} {kd h : Nat → Int32} {hb : Int32} {p : Nat} (hp : p < n) (h12 : r * c ≤ 12) : ∀ t, t ≤ 12 → (List.range (12 * p + t)).filterMap (yC r c n kd h hb) = (List.range (12 * p)).filterMap (yC r c n kd h hb) ++ ((List.range (min t (r * c))).filterMap (ytj c n kd h hb p)).map (fun x => (p, x)) := by
  intro t
  induction t with
  | zero => intro _; rw [Nat.zero_min]; simp
  | succ t ih =>
    intro ht
    rw [show 12 * p + (t + 1) = (12 * p + t) + 1 by omega, y_fm, ih (by omega)]
    have e1 : (12 * p + t) / 12 = p := by omega
    have e2 : (12 * p + t) % 12 = t := by omega
    unfold yC
    rw [e1, e2]
    by_cases ht2 : t < r * c
    · rw [if_pos ⟨ht2, hp⟩, show min t (r * c) = t by omega, show min (t + 1) (r * c) = t + 1 by omega, y_fm, List.map_append, List.append_assoc]
      congr 2
      cases ytj c n kd h hb p t <;> rfl
    · rw [if_neg (fun q => ht2 q.1), show min t (r * c) = r * c by omega, show min (t + 1) (r * c) = r * c by omega]
      simp
theorem yC_rows {r c n : Nat} {kd h : Nat → Int32} {hb : Int32} (h12 : r * c ≤ 12) : ∀ p, p ≤ n → (List.range (12 * p)).filterMap (yC r c n kd h hb) = yLL r c n kd h hb p := by
  intro p
  induction p with
  | zero => intro _; rfl
  | succ p ih =>
    intro hp
    rw [show 12 * (p + 1) = 12 * p + 12 by omega, yC_row (show p < n by omega) h12 12 (Nat.le_refl 12), ih (by omega), show min 12 (r * c) = r * c by omega, yJ_t]
    rfl
theorem yC_all {r c n : Nat} {kd h : Nat → Int32} {hb : Int32} (h12 : r * c ≤ 12) (hn : n ≤ 8) : (List.range 96).filterMap (yC r c n kd h hb) = yLL r c n kd h hb n := by
  have key : ∀ m, (List.range (12 * n + m)).filterMap (yC r c n kd h hb) = yLL r c n kd h hb n := by
    intro m
    induction m with
    | zero => exact yC_rows h12 n (Nat.le_refl n)
    | succ m ih =>
      rw [show 12 * n + (m + 1) = (12 * n + m) + 1 by omega, y_fm, ih]
      have : yC r c n kd h hb (12 * n + m) = none := by
        unfold yC
        rw [if_neg (fun q => by have := q.2; omega)]
      rw [this]
      simp
  have := key (96 - 12 * n)
  rw [show 12 * n + (96 - 12 * n) = 96 by omega] at this
  exact this
theorem yC_some {r c n : Nat} {kd h : Nat → Int32} {hb : Int32} {k : Nat} {y : Nat × Nat × Nat} (hy : yC r c n kd h hb k = some y) : k / 12 < n ∧ y.1 = k / 12 ∧ y.2.1 = k % 12 ∧ k % 12 < r * c ∧ y.2 ∈ yJ r c n kd h hb (k / 12) := by
  unfold yC at hy
  split at hy
  · rename_i hc
    cases hj : ytj c n kd h hb (k / 12) (k % 12) with
    | none => rw [hj] at hy; cases hy
    | some x =>
      rw [hj] at hy
      cases hy
      exact ⟨hc.2, rfl, ytj_t hj, hc.1, yJ_in hc.1 hj⟩
  · cases hy
theorem y_nextCode {r c n d : Nat} {hb : Int32} {kd h s : Nat → Int32} {a : Nat → Nat → Int32} (hB : yB r c) (hM : yM r c n hb kd s a) (hR : yR n d h a) (hH : yH (r * c) n h) (hd : d ≤ 8) {x : Nat} (hx : x ≤ 96) (h18 : a 18 d = nI x) : ∃ z, fX6_nextCode s a (nI d) = some z ∧ ∃ K, x ≤ K ∧ K ≤ 96 ∧ (List.range K).filterMap (yC r c n kd h hb) = (List.range x).filterMap (yC r c n kd h hb) ∧ (K < 96 → (yC r c n kd h hb K).isSome = true) ∧ z = (if K < 96 then nI K else -1, va_up a 18 (upd (a 18) d (nI (K + 1)))) := by
  have hn := hM.2.2.2.2.1
  unfold fX6_nextCode
  rw [y_zin (show d < 9 by omega) (by decide), zck_e, zlt_e, nI_clamp (show d < 2 ^ 31 by omega), h18]
  refine zb1_x (fun z => ∃ K, z = nI K ∧ x ≤ K ∧ K ≤ 96 ∧ (List.range K).filterMap (yC r c n kd h hb) = (List.range x).filterMap (yC r c n kd h hb) ∧ (K < 96 → (yC r c n kd h hb K).isSome = true)) ?_ ?_
  · refine zf1 (fun k z => z = nI k ∧ x ≤ k ∧ (List.range k).filterMap (yC r c n kd h hb) = (List.range x).filterMap (yC r c n kd h hb)) _ 96 ?_ ?_ x hx ⟨rfl, Nat.le_refl x, rfl⟩
    · rintro k z hk ⟨rfl, h1, h2⟩
      have e1 : nI k / (12 : Int32) = nI (k / 12) := pk_div (d := 12) (by omega) (by decide) (by decide)
      have e2 : nI k - nI k / (12 : Int32) * (12 : Int32) = nI (k % 12) := pk_rem (d := 12) (by omega) (by decide) (by decide)
      have hno : yC r c n kd h hb k = none → (List.range (k + 1)).filterMap (yC r c n kd h hb) = (List.range x).filterMap (yC r c n kd h hb) := by
        intro q
        rw [y_fm, q, h2]
        simp
      rw [if_neg (y96g hk), y_places hM.1 hM.2.1, zb1_e, zjn_e, e2, e1, hM.2.2.2.1]
      by_cases c1 : k % 12 < r * c
      · rw [if_neg (nI_ge c1 (by have := hB.2.2.2.2; omega))]
        by_cases c2 : k / 12 < n
        · rw [if_neg (nI_ge c2 (by omega)), y_isJump hB hM hR hH hd c2 c1, zb1_e]
          cases hj : ytj c n kd h hb (k / 12) (k % 12) with
          | none =>
            refine Or.inl ⟨nI k + 1, rfl, nI_1 k, by omega, hno ?_⟩
            unfold yC; rw [if_pos ⟨c1, c2⟩, hj]; rfl
          | some y =>
            refine Or.inr ⟨_, rfl, k, rfl, h1, by omega, h2, fun _ => ?_⟩
            unfold yC
            rw [if_pos ⟨c1, c2⟩, hj]
            rfl
        · rw [if_pos (nI_le (by omega) (by omega))]
          refine Or.inl ⟨_, rfl, nI_1 k, by omega, hno ?_⟩
          unfold yC
          rw [if_neg (fun q => c2 q.2)]
      · rw [if_pos (nI_le (by omega) (by omega))]
        refine Or.inl ⟨_, rfl, nI_1 k, by omega, hno ?_⟩
        unfold yC
        rw [if_neg (fun q => c1 q.1)]
    · rintro z ⟨rfl, h1, h2⟩
      refine ⟨_, ?_, 96, rfl, h1, Nat.le_refl 96, h2, fun q => absurd q (by decide)⟩
      rw [if_pos y96p]
  · rintro z ⟨K, rfl, h1, h2, h3, h4⟩
    rw [zck_e, zlt_e, nI_1]
    by_cases hK : K < 96
    · rw [if_neg (y96g hK)]
      exact ⟨_, rfl, K, h1, h2, h3, h4, by rw [if_pos hK]⟩
    · rw [if_pos (y96q (show 96 ≤ K by omega) (by omega))]
      exact ⟨_, rfl, K, h1, h2, h3, h4, by rw [if_neg hK]⟩
