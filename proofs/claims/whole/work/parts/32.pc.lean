/-! pure: the jumps of a peg as bits, all jumps as a list -/
theorem y8g {k : Nat} (h : k < 8) : ¬ (8 : Int32) ≤ nI k := nI_ge (b := 8) h (by omega)
theorem y8p : (8 : Int32) ≤ nI 8 := by decide
theorem y12g {k : Nat} (h : k < 12) : ¬ (12 : Int32) ≤ nI k := nI_ge (b := 12) h (by omega)
theorem y12p : (12 : Int32) ≤ nI 12 := by decide
theorem y6g {k : Nat} (h : k < 6) : ¬ (6 : Int32) ≤ nI k := nI_ge (b := 6) h (by omega)
theorem y6p : (6 : Int32) ≤ nI 6 := by decide
theorem y96g {k : Nat} (h : k < 96) : ¬ (96 : Int32) ≤ nI k := nI_ge (b := 96) h (by omega)
theorem y96p : (96 : Int32) ≤ nI 96 := by decide
theorem y96q {k : Nat} (h : 96 ≤ k) (hk : k < 2 ^ 31) : (96 : Int32) ≤ nI k := nI_le (a := 96) h hk
theorem y_fm {α : Type} (f : Nat → Option α) (k : Nat) : (List.range (k + 1)).filterMap f = (List.range k).filterMap f ++ (f k).toList := by
  rw [List.range_succ, List.filterMap_append]
  congr 1
def ybs (l : List (Nat × Nat)) : Int32 := l.foldl (fun b x => b ||| ((1 : Int32) <<< (nI x.1 &&& 31))) 0
theorem ybs_snoc (l : List (Nat × Nat)) (x : Nat × Nat) : ybs (l ++ [x]) = (ybs l ||| ((1 : Int32) <<< (nI x.1 &&& 31))) := by
  unfold ybs
  rw [List.foldl_append]
  rfl
theorem yd_lt {r c n : Nat} {kd h : Nat → Int32} {hb : Int32} {p d : Nat} {x : Nat × Nat} (hx : yd r c n kd h hb p d = some x) : x.1 < r * c ∧ x.2 < r * c := by
  unfold yd at hx
  cases hq : yq (h p) with
  | none => rw [hq] at hx; cases hx
  | some q =>
    rw [hq] at hx
    unfold yto at hx
    cases hm : ynbN r c q d with
    | none => simp [hm] at hx
    | some m =>
      cases ht : ynbN r c m d with
      | none => simp [hm, ht] at hx
      | some t =>
        have : yj n kd h hb p (t, m, ystr d) = some x := by simpa [hm, ht] using hx
        unfold yj at this
        split at this
        · cases this; exact ⟨ynbN_lt ht, ynbN_lt hm⟩
        · cases this
theorem y_targets {r c n : Nat} {s gs : Nat → Int32} {a ga : Nat → Nat → Int32} (hB : yB r c) (hG : yG r c gs ga) (hS : yS (r * c) n s a) {p : Nat} (hp : p < n) : fX4_targetsOf s a gs ga (nI p) = some (ybs (yJ r c n (a 5) (a 6) (s 1) p)) := by
  have h12 := hB.2.2.2.2
  unfold fX4_targetsOf
  refine (zb1_t (a0 := ybs (yJ r c n (a 5) (a 6) (s 1) p)) ?_ _).trans rfl
  refine zd2 (fun k x2 x3 => x2 = ybs ((List.range k).filterMap (yd r c n (a 5) (a 6) (s 1) p)) ∧ x3 = nI k) 8 ?_ ?_ 0 (Nat.zero_le _) ⟨rfl, rfl⟩
  · rintro k x2 x3 hk ⟨rfl, rfl⟩
    refine Or.inl ⟨_, _, ?_, rfl, rfl⟩
    rw [if_neg (y8g hk), y_target hB hG hS hp hk, zb1_e, nI_1, y_fm]
    cases hd : yd r c n (a 5) (a 6) (s 1) p k with
    | none =>
      show zb1 (if (-1 : Int32) = -1 then _ else _) _ = _
      rw [if_pos rfl, zb1_e]
      simp
    | some x =>
      have hl := (yd_lt hd).1
      show zb1 (if (nI x.1) = -1 then _ else _) _ = _
      rw [if_neg (y_nIm x.1 (by omega)), zlt_e, zb1_e]
      show some (Sum.inl (ybs _ ||| _, _)) = some (Sum.inl (ybs (_ ++ [x]), _))
      rw [ybs_snoc]
      rfl
  · rintro x2 x3 ⟨rfl, rfl⟩
    rw [if_pos y8p, yJ_d hB hS.2.2.2.1 hp]
