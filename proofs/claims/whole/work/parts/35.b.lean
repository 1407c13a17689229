/-! pure: all jumps as a list -/
theorem ybs_pop {f : Nat → Option (Nat × Nat)} (hf : ∀ t x, f t = some x → x.1 = t) : ∀ T, T ≤ 12 → ∃ m, m < 2 ^ T ∧ ybs ((List.range T).filterMap f) = nI m ∧ ypop (nI m) = nI ((List.range T).filterMap f).length := by
  intro T
  induction T with
  | zero => intro _; exact ⟨0, by decide, rfl, (by decide +kernel : ypop (nI 0) = nI 0)⟩
  | succ T ih =>
    intro hT
    obtain ⟨m, h1, h2, h3⟩ := ih (by omega)
    rw [y_fm]
    have hp : 2 ^ (T + 1) = 2 ^ T + 2 ^ T := by rw [Nat.pow_succ]; omega
    cases hx : f T with
    | none =>
      refine ⟨m, by omega, ?_, ?_⟩
      · rw [show (none : Option (Nat × Nat)).toList = [] from rfl, List.append_nil]; exact h2
      · rw [show (none : Option (Nat × Nat)).toList = [] from rfl, List.append_nil]; exact h3
    | some x =>
      obtain ⟨k1, k2⟩ := yachk_ok (t := T) (by omega) h1
      refine ⟨m + 2 ^ T, by omega, ?_, ?_⟩
      · show ybs (_ ++ [x]) = _
        rw [ybs_snoc, h2, hf T x hx, k1]
      · show _ = nI (List.length (_ ++ [x]))
        rw [k2, h3, nI_1, List.length_append]
        rfl
theorem ytj_t {c n : Nat} {kd h : Nat → Int32} {hb : Int32} {p t : Nat} {x : Nat × Nat} (hx : ytj c n kd h hb p t = some x) : x.1 = t := by
  unfold ytj at hx
  cases hq : yq (h p) with
  | none => rw [hq] at hx; cases hx
  | some q =>
    rw [hq] at hx
    change (ygeo c q t).bind (yj n kd h hb p) = some x at hx
    cases hg : ygeo c q t with
    | none => rw [hg] at hx; cases hx
    | some y =>
      rw [hg] at hx
      change yj n kd h hb p y = some x at hx
      have hy : y.1 = t := by
        unfold ygeo at hg
        split at hg
        · cases hg; rfl
        · split at hg
          · cases hg; rfl
          · cases hg
      unfold yj at hx
      split at hx
      · cases hx; exact hy
      · cases hx
theorem y_bsJ {r c n : Nat} {kd h : Nat → Int32} {hb : Int32} {p : Nat} (h12 : r * c ≤ 12) : ∃ m, m < 4096 ∧ ybs (yJ r c n kd h hb p) = nI m ∧ ypop (nI m) = nI (yJ r c n kd h hb p).length := by
  rw [← yJ_t]
  obtain ⟨m, h1, h2, h3⟩ := ybs_pop (f := ytj c n kd h hb p) (fun t x hx => ytj_t hx) (r * c) h12
  have : 2 ^ (r * c) ≤ 2 ^ 12 := Nat.pow_le_pow_right (by decide) h12
  exact ⟨m, by omega, h2, h3⟩
theorem yj_len {r c n : Nat} {kd h : Nat → Int32} {hb : Int32} {p : Nat} (hB : yB r c) (hH : yH (r * c) n h) (hp : p < n) : (yJ r c n kd h hb p).length ≤ 8 := by
  rw [← yJ_d hB hH hp]
  have := List.length_filterMap_le (yd r c n kd h hb p) (List.range 8)
  rw [List.length_range] at this
  exact this
/-- all jumps of the first k pegs, in order -/
def yLL (r c n : Nat) (kd h : Nat → Int32) (hb : Int32) : Nat → List (Nat × Nat × Nat)
  | 0 => []
  | k + 1 => yLL r c n kd h hb k ++ (yJ r c n kd h hb k).map (fun x => (k, x))
theorem yLL_len {r c n : Nat} {kd h : Nat → Int32} {hb : Int32} (hB : yB r c) (hH : yH (r * c) n h) : ∀ k, k ≤ n → (yLL r c n kd h hb k).length ≤ 8 * k := by
  intro k
  induction k with
  | zero => intro _; exact Nat.le_refl 0
  | succ k ih =>
    intro hk
    have h1 := ih (by omega)
    have h2 := yj_len (kd := kd) (hb := hb) hB hH (show k < n by omega)
    show List.length (_ ++ _) ≤ _
    rw [List.length_append, List.length_map]
    omega
theorem y_choices {r c n : Nat} {s gs : Nat → Int32} {a ga : Nat → Nat → Int32} (hB : yB r c) (hG : yG r c gs ga) (hS : yS (r * c) n s a) : fX4_choices s a gs ga = some (nI (yLL r c n (a 5) (a 6) (s 1) n).length) := by
  have hn := hS.2.1
  unfold fX4_choices
  rw [hS.1]
  refine (zb1_t (a0 := nI (yLL r c n (a 5) (a 6) (s 1) n).length) ?_ _).trans rfl
  refine zd2 (fun k b j => b = nI (yLL r c n (a 5) (a 6) (s 1) k).length ∧ j = nI k) n ?_ ?_ 0 (Nat.zero_le _) ⟨rfl, rfl⟩
  · rintro k b j hk ⟨rfl, rfl⟩
    obtain ⟨m, h1, h2, h3⟩ := y_bsJ (r := r) (c := c) (n := n) (kd := a 5) (h := a 6) (hb := s 1) (p := k) hB.2.2.2.2
    refine Or.inl ⟨_, _, ?_, rfl, rfl⟩
    rw [if_neg (nI_ge hk (by omega)), y_targets hB hG hS hk, zb1_e, h2, y_bits h1, zb1_e, zlt_e, h3, nI_add, nI_1]
    show _ = some (Sum.inl (nI (List.length (_ ++ _)), _))
    rw [List.length_append, List.length_map]
  · rintro b j ⟨rfl, rfl⟩
    rw [if_pos (nI_le (Nat.le_refl n) (by omega))]
theorem yO_none {c n : Nat} {kd h : Nat → Int32} {hb : Int32} {p t : Nat} : yO n h (ytj c n kd h hb p t) = -1 ↔ ytj c n kd h hb p t = none := by
  constructor
  · intro e
    cases hx : ytj c n kd h hb p t with
    | none => rfl
    | some x =>
      rw [hx] at e
      unfold ytj at hx
      cases hq : yq (h p) with
      | none => rw [hq] at hx; cases hx
      | some q =>
        rw [hq] at hx
        change (ygeo c q t).bind (yj n kd h hb p) = some x at hx
        cases hg : ygeo c q t with
        | none => rw [hg] at hx; cases hx
        | some y =>
          rw [hg] at hx
          change yj n kd h hb p y = some x at hx
          unfold yj at hx
          split at hx
          · rename_i hok
            cases hx
            unfold yok at hok
            simp only [Bool.and_eq_true, decide_eq_true_eq] at hok
            exact absurd e hok.1.1.1.1
          · cases hx
  · intro e; rw [e]; rfl
theorem y_isJump {r c n d : Nat} {hb : Int32} {kd h s : Nat → Int32} {a : Nat → Nat → Int32} (hB : yB r c) (hM : yM r c n hb kd s a) (hR : yR n d h a) (hH : yH (r * c) n h) (hd : d ≤ 8) {p t : Nat} (hp : p < n) (ht : t < r * c) : fX6_isJump s a (nI d) (nI p) (nI t) = some (yb (ytj c n kd h hb p t).isSome) := by
  unfold fX6_isJump
  rw [y_overBy hB hM hR hH hd hp ht, zb1_e]
  cases hx : ytj c n kd h hb p t with
  | none => rfl
  | some x =>
    rw [if_neg (by rw [← hx, yO_none, hx]; intro e; cases e)]
    rfl
theorem y_mgoes {r c n d : Nat} {hb : Int32} {kd h s : Nat → Int32} {a : Nat → Nat → Int32} (hB : yB r c) (hM : yM r c n hb kd s a) (hR : yR n d h a) (hH : yH (r * c) n h) (hd : d ≤ 8) {p : Nat} (hp : p < n) : fX6_goes s a (nI d) (nI p) = some (ybs (yJ r c n kd h hb p)) := by
  have h12 := hB.2.2.2.2
  unfold fX6_goes
  refine (zb1_t (a0 := ybs (yJ r c n kd h hb p)) ?_ _).trans rfl
  refine zd2 (fun k b j => b = ybs ((List.range k).filterMap (ytj c n kd h hb p)) ∧ j = nI k) (r * c) ?_ ?_ 0 (Nat.zero_le _) ⟨rfl, rfl⟩
  · rintro k b j hk ⟨rfl, rfl⟩
    refine Or.inl ⟨_, _, ?_, rfl, rfl⟩
    rw [y_places hM.1 hM.2.1, zb1_e, if_neg (nI_ge hk (by omega)), y_isJump hB hM hR hH hd hp hk, zb1_e, nI_1, y_fm]
    cases hx : ytj c n kd h hb p k with
    | none =>
      show zb1 (if (0 : Int32) = 0 then _ else _) _ = _
      rw [if_pos rfl, zb1_e, zlt_e, show (none : Option (Nat × Nat)).toList = [] from rfl, List.append_nil, Int32.or_zero]
    | some x =>
      show zb1 (if (1 : Int32) = 0 then _ else _) _ = _
      rw [if_neg n10, zb1_e, zlt_e]
      show _ = some (Sum.inl (ybs (_ ++ [x]), _))
      rw [ybs_snoc, ytj_t hx]
  · rintro b j ⟨rfl, rfl⟩
    rw [y_places hM.1 hM.2.1, zb1_e, if_pos (nI_le (Nat.le_refl (r * c)) (by omega)), yJ_t]
theorem y_jumpsNow {r c n d : Nat} {hb : Int32} {kd h s : Nat → Int32} {a : Nat → Nat → Int32} (hB : yB r c) (hM : yM r c n hb kd s a) (hR : yR n d h a) (hH : yH (r * c) n h) (hd : d ≤ 8) : fX6_jumpsNow s a (nI d) = some (nI (yLL r c n kd h hb n).length) := by
  have hn := hM.2.2.2.2.1
  unfold fX6_jumpsNow
  rw [hM.2.2.2.1]
  refine (zb1_t (a0 := nI (yLL r c n kd h hb n).length) ?_ _).trans rfl
  refine zd2 (fun k b j => b = nI (yLL r c n kd h hb k).length ∧ j = nI k) n ?_ ?_ 0 (Nat.zero_le _) ⟨rfl, rfl⟩
  · rintro k b j hk ⟨rfl, rfl⟩
    obtain ⟨m, h1, h2, h3⟩ := y_bsJ (r := r) (c := c) (n := n) (kd := kd) (h := h) (hb := hb) (p := k) hB.2.2.2.2
    refine Or.inl ⟨_, _, ?_, rfl, rfl⟩
    rw [if_neg (nI_ge hk (by omega)), y_mgoes hB hM hR hH hd hk, zb1_e, h2, y_size, zb1_e, zlt_e, h3, nI_add, nI_1]
    show _ = some (Sum.inl (nI (List.length (_ ++ _)), _))
    rw [List.length_append, List.length_map]
  · rintro b j ⟨rfl, rfl⟩
    rw [if_pos (nI_le (Nat.le_refl n) (by omega))]
