/-! pure: runs by a seed -/
theorem y_fmp {α : Type} {f : Nat → Option α} {a b : Nat} (h : a ≤ b) : ∃ l, (List.range b).filterMap f = (List.range a).filterMap f ++ l := by
  obtain ⟨d, rfl⟩ := Nat.exists_eq_add_of_le h
  clear h
  induction d with
  | zero => exact ⟨[], by rw [Nat.add_zero, List.append_nil]⟩
  | succ d ih =>
    obtain ⟨l, hl⟩ := ih
    refine ⟨l ++ (f (a + d)).toList, ?_⟩
    rw [show a + (d + 1) = (a + d) + 1 by omega, y_fm, hl, List.append_assoc]
theorem y_nth {α : Type} {L l r : List α} {x : α} (h : L = l ++ [x] ++ r) : L[l.length]? = some x := by
  rw [h, List.append_assoc, List.getElem?_append_right (Nat.le_refl _), Nat.sub_self]
  rfl
theorem yLL_pre {r c n : Nat} {kd h : Nat → Int32} {hb : Int32} {a b : Nat} (hab : a ≤ b) : ∃ l, yLL r c n kd h hb b = yLL r c n kd h hb a ++ l := by
  obtain ⟨d, rfl⟩ := Nat.exists_eq_add_of_le hab
  clear hab
  induction d with
  | zero => exact ⟨[], by rw [Nat.add_zero, List.append_nil]⟩
  | succ d ih =>
    obtain ⟨l, hl⟩ := ih
    refine ⟨l ++ (yJ r c n kd h hb (a + d)).map (fun x => (a + d, x)), ?_⟩
    show yLL r c n kd h hb (a + d) ++ _ = _
    rw [hl, List.append_assoc]
    rfl
def ypr (r c n : Nat) (kd h : Nat → Int32) (hb : Int32) (p d : Nat) : List (Nat × Nat × Nat) := yLL r c n kd h hb p ++ ((List.range d).filterMap (yd r c n kd h hb p)).map (fun x => (p, x))
theorem y_or2 {A0 A1 ρ : Type} {o : Option ((A0 × A1) ⊕ ρ)} {I : A0 → A1 → Prop} {R : ρ → Prop} (h : ∃ z, o = some z ∧ ((∃ b0 b1, z = .inl (b0, b1) ∧ I b0 b1) ∨ ∃ r, z = .inr r ∧ R r)) : (∃ b0 b1, o = some (.inl (b0, b1)) ∧ I b0 b1) ∨ ∃ r, o = some (.inr r) ∧ R r := by
  obtain ⟨z, h1, ⟨b0, b1, rfl, h2⟩ | ⟨r, rfl, h2⟩⟩ := h
  · exact Or.inl ⟨b0, b1, h1, h2⟩
  · exact Or.inr ⟨r, h1, h2⟩
/-- the class jumps by the jump of that number -/
theorem y_leapBy {r c n : Nat} {s gs : Nat → Int32} {a ga : Nat → Nat → Int32} (hB : yB r c) (hG : yG r c gs ga) (hS : yS (r * c) n s a) {i : Nat} (hi : i < (yLL r c n (a 5) (a 6) (s 1) n).length) : ∃ z, fX4_leapByChoice s a gs ga (nI i) = some z ∧ ∃ x, (yLL r c n (a 5) (a 6) (s 1) n)[i]? = some x ∧ x.1 < n ∧ yS (r * c) n z.1 z.2 ∧ z.1 1 = s 1 ∧ z.2 5 = a 5 ∧ z.2 6 = yaft n (a 5) (a 6) x.1 x.2 ∧ yc n (z.2 6) < yc n (a 6) := by
  have hn := hS.2.1
  have h12 := hB.2.2.2.2
  have hlen := yLL_len12 (n := n) (kd := a 5) (h := a 6) (hb := s 1) h12 n
  unfold fX4_leapByChoice
  rw [hS.1]
  refine zbs_x (fun z => ∃ p d t m, p < n ∧ d < 8 ∧ yd r c n (a 5) (a 6) (s 1) p d = some (t, m) ∧ (ypr r c n (a 5) (a 6) (s 1) p d).length = i ∧ z = .inl (nI p, nI d, nI t)) ?_ ?_ ?_
  · refine zf2 (fun k x2 x3 => x3 = nI k ∧ ∃ rem, x2 = nI rem ∧ rem + (yLL r c n (a 5) (a 6) (s 1) k).length = i) _ n ?_ ?_ 0 (Nat.zero_le _) ⟨rfl, i, rfl, rfl⟩
    · rintro p x2 x3 hp ⟨rfl, rem, rfl, hrem⟩
      rw [if_neg (nI_ge hp (by omega)), nI_1]
      refine y_or2 (zbs_x (fun z => (∃ d t m, d < 8 ∧ yd r c n (a 5) (a 6) (s 1) p d = some (t, m) ∧ (ypr r c n (a 5) (a 6) (s 1) p d).length = i ∧ z = .inl (nI d, nI t)) ∨ ∃ rem, z = .inr (nI rem) ∧ rem + (yLL r c n (a 5) (a 6) (s 1) (p + 1)).length = i) ?_ ?_ ?_)
      · refine zf2 (fun d x2 x4 => x4 = nI d ∧ ∃ rem, x2 = nI rem ∧ rem + (ypr r c n (a 5) (a 6) (s 1) p d).length = i) _ 8 ?_ ?_ 0 (Nat.zero_le _) ⟨rfl, rem, rfl, by unfold ypr; rw [show ((List.range 0).filterMap (yd r c n (a 5) (a 6) (s 1) p)).map (fun x => (p, x)) = [] from rfl, List.append_nil]; exact hrem⟩
        · rintro d x2 x4 hd ⟨rfl, rem, rfl, hrem⟩
          have hs : (ypr r c n (a 5) (a 6) (s 1) p (d + 1)).length = (ypr r c n (a 5) (a 6) (s 1) p d).length + ((yd r c n (a 5) (a 6) (s 1) p d).toList).length := by
            unfold ypr
            rw [y_fm, List.map_append, List.length_append, List.length_append, List.length_append, List.length_map, List.length_map]
            omega
          rw [if_neg (y8g hd), y_target hB hG hS hp hd, zb1_e, zjn_e, nI_1]
          cases hx : yd r c n (a 5) (a 6) (s 1) p d with
          | none =>
            rw [hx] at hs
            rw [show yI (Option.map Prod.fst (none : Option (Nat × Nat))) = -1 from rfl, if_pos rfl, if_pos rfl, zb1_e]
            exact Or.inl ⟨_, _, rfl, rfl, rem, rfl, by rw [hs]; exact hrem⟩
          | some x =>
            obtain ⟨t, m⟩ := x
            have hl := (yd_lt hx).1
            change t < r * c at hl
            rw [hx] at hs
            change _ = _ + 1 at hs
            rw [show yI (Option.map Prod.fst (some (t, m))) = nI t from rfl, if_neg (y_nIm t (by omega)), if_neg (y_nIm t (by omega))]
            by_cases r0 : rem = 0
            · subst r0
              rw [if_pos (show nI 0 = 0 from rfl)]
              exact Or.inr ⟨_, rfl, Or.inl ⟨d, t, m, hd, hx, by omega, rfl⟩⟩
            · rw [if_neg (nI_ne0 (show 0 < rem by omega) (by omega)), zb1_e]
              obtain ⟨rem', rfl⟩ : ∃ rem', rem = rem' + 1 := ⟨rem - 1, by omega⟩
              rw [pk_m1]
              exact Or.inl ⟨_, _, rfl, rfl, rem', rfl, by omega⟩
        · rintro x2 x4 ⟨rfl, rem, rfl, hrem⟩
          rw [if_pos y8p]
          refine ⟨_, rfl, Or.inr ⟨rem, rfl, ?_⟩⟩
          have : ypr r c n (a 5) (a 6) (s 1) p 8 = yLL r c n (a 5) (a 6) (s 1) (p + 1) := by
            unfold ypr
            rw [yJ_d hB hS.2.2.2.1 hp]
            rfl
          rw [← this]
          exact hrem
      · rintro ⟨x4, x5⟩ (⟨d, t, m, h1, h2, h3, h4⟩ | ⟨rem, h1, _⟩)
        · have e := Sum.inl.inj h4
          have e1 : x4 = nI d := congrArg Prod.fst e
          have e2 : x5 = nI t := congrArg Prod.snd e
          subst e1
          subst e2
          exact ⟨_, rfl, Or.inr ⟨_, rfl, p, d, t, m, hp, h1, h2, h3, rfl⟩⟩
        · cases h1
      · rintro x2 (⟨d, t, m, _, _, _, h4⟩ | ⟨rem, h1, h2⟩)
        · cases h4
        · have e := Sum.inr.inj h1
          subst e
          exact ⟨_, rfl, Or.inl ⟨_, _, rfl, rfl, rem, rfl, h2⟩⟩
    · rintro x2 x3 ⟨rfl, rem, rfl, hrem⟩
      omega
  · rintro ⟨x3, x4, x5⟩ ⟨p, d, t, m, hp, hd, hx, hlen', hz⟩
    have e := Sum.inl.inj hz
    have e1 : x3 = nI p := congrArg Prod.fst e
    have e2 : x4 = nI d := congrArg (fun q => q.2.1) e
    have e3 : x5 = nI t := congrArg (fun q => q.2.2) e
    subst e1
    subst e2
    subst e3
    obtain ⟨l1, s', a', l2, l3, l4, _, _, l7, l8, l9, _, _⟩ := y_leap hB hG hS hp hd hx
    show ∃ r, zb1 (fX4_neighbourOf s a gs ga (nI p) (nI d)) _ = some r ∧ _
    rw [l1, zb1_e, l2, zb2_e]
    refine ⟨_, rfl, (p, t, m), ?_, hp, l3, l4, l7, l8, l9⟩
    have p1 : ypr r c n (a 5) (a 6) (s 1) p (d + 1) = ypr r c n (a 5) (a 6) (s 1) p d ++ [(p, t, m)] := by
      unfold ypr
      rw [y_fm, hx, List.map_append, ← List.append_assoc]
      rfl
    obtain ⟨la, ha⟩ := y_fmp (f := yd r c n (a 5) (a 6) (s 1) p) (show d + 1 ≤ 8 by omega)
    obtain ⟨lb, hb⟩ := yLL_pre (r := r) (c := c) (n := n) (kd := a 5) (h := a 6) (hb := s 1) (show p + 1 ≤ n by omega)
    have p2 : ypr r c n (a 5) (a 6) (s 1) p 8 = ypr r c n (a 5) (a 6) (s 1) p (d + 1) ++ la.map (fun x => (p, x)) := by
      unfold ypr
      rw [ha, List.map_append, List.append_assoc]
    have p3 : ypr r c n (a 5) (a 6) (s 1) p 8 = yLL r c n (a 5) (a 6) (s 1) (p + 1) := by
      unfold ypr
      rw [yJ_d hB hS.2.2.2.1 hp]
      rfl
    rw [← hlen']
    refine y_nth (r := la.map (fun x => (p, x)) ++ lb) ?_
    rw [hb, ← p3, p2, p1, List.append_assoc]
  · rintro u ⟨p, d, t, m, _, _, _, _, hz⟩
    cases hz
/-- the reference's code of the jump of that number -/
theorem y_codeBy {r c n d : Nat} {hb : Int32} {kd h s : Nat → Int32} {a : Nat → Nat → Int32} (hB : yB r c) (hM : yM r c n hb kd s a) (hR : yR n d h a) (hH : yH (r * c) n h) (hd : d ≤ 8) {i : Nat} (hi : i < (yLL r c n kd h hb n).length) : ∃ z, fX6_codeBy s a (nI d) (nI i) = some z ∧ ∃ K y, z.1 = nI K ∧ K < 96 ∧ yC r c n kd h hb K = some y ∧ (yLL r c n kd h hb n)[i]? = some y ∧ ∀ j, j ≠ 18 → z.2 j = a j := by
  have hn := hM.2.2.2.2.1
  have h12 := hB.2.2.2.2
  have hlen := yLL_len12 (n := n) (kd := kd) (h := h) (hb := hb) h12 n
  have hall := yC_all (kd := kd) (h := h) (hb := hb) h12 hn
  generalize hf : yC r c n kd h hb = f at *
  have nxt : ∀ (A : Nat → Nat → Int32) x, (∀ j, j ≠ 18 → A j = a j) → x ≤ 96 → A 18 d = nI x → ((List.range x).filterMap f).length < (yLL r c n kd h hb n).length → ∃ K, K < 96 ∧ ((List.range K).filterMap f).length = ((List.range x).filterMap f).length ∧ (f K).isSome = true ∧ ∃ B, fX6_nextCode s A (nI d) = some (nI K, B) ∧ B 18 d = nI (K + 1) ∧ ∀ j, j ≠ 18 → B j = a j := by
    intro A x hA hx h18 hlt
    obtain ⟨z, hz, K, k1, k2, k3, k4, ez⟩ := y_nextCode hB (yM_c hM (hA 5 (by decide))) (show yR n d h A from fun p hp => by rw [hA 17 (by decide)]; exact hR p hp) hH hd hx h18
    rw [hf] at k3 k4
    have hK : K < 96 := by
      rcases Nat.lt_or_ge K 96 with q | q
      · exact q
      · have : K = 96 := by omega
        rw [this, hall] at k3
        rw [← k3] at hlt
        omega
    rw [if_pos hK] at ez
    refine ⟨K, hK, by rw [k3], k4 hK, _, by rw [hz, ez], by rw [y_vu, y_uu], fun j hj => by rw [y_vn hj]; exact hA j hj⟩
  have cnt : ∀ K, (f K).isSome = true → ((List.range (K + 1)).filterMap f).length = ((List.range K).filterMap f).length + 1 := by
    intro K hK
    obtain ⟨y, hy⟩ := Option.isSome_iff_exists.mp hK
    rw [y_fm, hy, List.length_append]
    rfl
  unfold fX6_codeBy
  rw [y_zin (show d < 9 by omega) (by decide), zck_e, zlt_e, nI_clamp (show d < 2 ^ 31 by omega)]
  obtain ⟨K0, q1, q2, q3, B0, q4, q5, q6⟩ := nxt (va_up a 18 (upd (a 18) d 0)) 0 (fun j hj => y_vn hj) (by decide) (by rw [y_vu, y_uu]; rfl) (by show 0 < _; omega)
  rw [q4, zb2_e]
  refine zb2_x (fun z => ∃ K y, z.1 = nI K ∧ K < 96 ∧ f K = some y ∧ (yLL r c n kd h hb n)[i]? = some y ∧ ∀ j, j ≠ 18 → z.2 j = a j) ?_ (fun x A hq => ⟨_, rfl, hq⟩)
  refine zf3 (fun k x y A => ∃ K, x = nI K ∧ y = nI k ∧ K < 96 ∧ (f K).isSome = true ∧ A 18 d = nI (K + 1) ∧ ((List.range K).filterMap f).length = k ∧ ∀ j, j ≠ 18 → A j = a j) _ i ?_ ?_ 0 (Nat.zero_le _) ⟨K0, rfl, rfl, q1, q3, q5, q2, q6⟩
  · rintro k x y A hk ⟨K, rfl, rfl, k1, k2, k3, k4, k5⟩
    have := cnt K k2
    obtain ⟨K', p1, p2, p3, B, p4, p5, p6⟩ := nxt A (K + 1) k5 (by omega) k3 (by omega)
    refine Or.inl ?_
    rw [if_neg (nI_ge hk (by omega)), p4, zb2_e, nI_1]
    exact ⟨_, _, _, rfl, K', rfl, rfl, p1, p3, p5, by omega, p6⟩
  · rintro x y A ⟨K, rfl, rfl, k1, k2, k3, k4, k5⟩
    rw [if_pos (nI_le (Nat.le_refl i) (by omega))]
    obtain ⟨y, hy⟩ := Option.isSome_iff_exists.mp k2
    refine ⟨_, rfl, K, y, rfl, k1, hy, ?_, k5⟩
    obtain ⟨l, hl⟩ := y_fmp (f := f) (show K + 1 ≤ 96 by omega)
    rw [← k4]
    refine y_nth (r := l) ?_
    rw [← hall, hl, y_fm, hy]
    rfl
theorem y_ne1 {k : Nat} (hk : k < 2 ^ 31) (h : ¬ k = 1) : ¬ nI k = 1 := fun e => h (y_i (b := 1) hk (by decide) e)
theorem zb5_e {A0 A1 A2 A3 A4 ρ : Type} (a : A0) (b : A1) (c : A2) (d : A3) (e : A4) (k : A0 → A1 → A2 → A3 → A4 → Option ρ) : zb5 (some (a, b, c, d, e)) k = k a b c d e := rfl
/-! seeds -/
def ysx (s : Nat) : Nat := (1103515245 * s + 12345) % 2147483648
theorem ysx_lt (s : Nat) : ysx s < 2147483648 := Nat.mod_lt _ (by decide)
theorem y_nextSeed {s : Nat} (h : s < 2147483648) : fX5_nextSeed (lN s) = some (lN (ysx s)) := by
  unfold fX5_nextSeed ysx
  have e : (1103515245 : Int64) * lN s + (12345 : Int64) = lN (1103515245 * s + 12345) := by
    rw [show (1103515245 : Int64) = lN 1103515245 from rfl, show (12345 : Int64) = lN 12345 from rfl, lN_mul, lN_add]
  have e2 : (2147483648 : Int64) = lN 2147483648 := rfl
  rw [e, e2, pk_lRem (by omega) (by decide) (by decide)]
theorem y_lmask {s : Nat} (h : s < 2147483648) : (((1103515245 : Int64) * lN s + (12345 : Int64)) &&& (2147483647 : Int64)) = lN (ysx s) := by
  have e : (1103515245 : Int64) * lN s + (12345 : Int64) = lN (1103515245 * s + 12345) := by
    rw [show (1103515245 : Int64) = lN 1103515245 from rfl, show (12345 : Int64) = lN 12345 from rfl, lN_mul, lN_add]
  rw [e]
  have e2 : (2147483647 : Int64) = lN 2147483647 := rfl
  rw [e2]
  refine Int64.toBitVec_inj.mp (BitVec.eq_of_toNat_eq ?_)
  have t : ∀ k, k < 2 ^ 64 → (lN k).toBitVec.toNat = k := fun k hk => by
    show (BitVec.ofNat 64 k).toNat = k
    rw [BitVec.toNat_ofNat]
    exact Nat.mod_eq_of_lt hk
  have hlt := ysx_lt s
  rw [Int64.toBitVec_and, BitVec.toNat_and, t _ (by omega), t _ (by decide), t _ (by omega)]
  have := Nat.and_two_pow_sub_one_eq_mod (1103515245 * s + 12345) 31
  exact this
theorem y_pick {s L : Nat} (hs : s < 2147483648) (h0 : 0 < L) (hL : L < 1000) : znl (nI L).toInt64 = true ∧ ((lN s / (65536 : Int64) - lN s / (65536 : Int64) / (nI L).toInt64 * (nI L).toInt64)).toInt32 = nI (s / 65536 % L) := by
  have e2 : (65536 : Int64) = lN 65536 := rfl
  rw [nI_l (show L < 2 ^ 31 by omega), e2, pk_lDiv (by omega) (by decide) (by decide), pk_lRem (by omega) h0 (by omega), lN_i]
  refine ⟨decide_eq_true (fun e => ?_), rfl⟩
  have := (pk_lEQ (a := L) (b := 0) (by omega) (by decide)).mp e
  omega
/-! one run: how many jumps, the seed, the positions behind it -/
def yrun (r c n : Nat) (kd : Nat → Int32) (hb : Int32) : Nat → (Nat → Int32) → Nat → Nat × Nat × (Nat → Int32)
  | 0, h, s => (0, s, h)
  | f + 1, h, s => match (yLL r c n kd h hb n)[ysx s / 65536 % (yLL r c n kd h hb n).length]? with
    | none => (0, s, h)
    | some x => ((yrun r c n kd hb f (yaft n kd h x.1 x.2) (ysx s)).1 + 1, (yrun r c n kd hb f (yaft n kd h x.1 x.2) (ysx s)).2)
theorem yrun_0 {r c n : Nat} {kd h : Nat → Int32} {hb : Int32} {s : Nat} (e : (yLL r c n kd h hb n).length = 0) : ∀ f, yrun r c n kd hb f h s = (0, s, h) := by
  intro f
  cases f with
  | zero => rfl
  | succ f =>
    show (match (yLL r c n kd h hb n)[ysx s / 65536 % (yLL r c n kd h hb n).length]? with | none => (0, s, h) | some x => _) = _
    rw [List.length_eq_zero_iff.mp e]
    rfl
theorem yrun_s {r c n : Nat} {kd h : Nat → Int32} {hb : Int32} {s f : Nat} {x : Nat × Nat × Nat} (e : (yLL r c n kd h hb n)[ysx s / 65536 % (yLL r c n kd h hb n).length]? = some x) : yrun r c n kd hb (f + 1) h s = ((yrun r c n kd hb f (yaft n kd h x.1 x.2) (ysx s)).1 + 1, (yrun r c n kd hb f (yaft n kd h x.1 x.2) (ysx s)).2) := by
  show (match (yLL r c n kd h hb n)[ysx s / 65536 % (yLL r c n kd h hb n).length]? with | none => (0, s, h) | some x => _) = _
  rw [e]
theorem yrun_lt {r c n : Nat} {kd : Nat → Int32} {hb : Int32} : ∀ f (h : Nat → Int32) s, s < 2147483648 → (yrun r c n kd hb f h s).2.1 < 2147483648 := by
  intro f
  induction f with
  | zero => intro h s hs; exact hs
  | succ f ih =>
    intro h s hs
    cases e : (yLL r c n kd h hb n)[ysx s / 65536 % (yLL r c n kd h hb n).length]? with
    | none =>
      show (match (yLL r c n kd h hb n)[ysx s / 65536 % (yLL r c n kd h hb n).length]? with | none => (0, s, h) | some x => _).2.1 < _
      rw [e]; exact hs
    | some x => rw [yrun_s e]; exact ih _ _ (ysx_lt s)
noncomputable def yRX (Gs : Nat → Int32) (Ga : Nat → Nat → Int32) : Int64 → Int32 → Int32 → Int32 → (Nat → Int32) → (Nat → Nat → Int32) → Option ((Int64 × Int32 × Int32 × Int32 × (Nat → Int32) × (Nat → Nat → Int32)) ⊕ (Int64 × Int32 × (Nat → Int32) × (Nat → Nat → Int32))) := fun (x4_79h : Int64) (x6_79h : Int32) (x9_79h : Int32) (x10_79h : Int32) (Ts_79h : Nat → Int32) (Ta_79h : Nat → Nat → Int32) => if (7 : Int32) ≤ x10_79h then some (.inr (x4_79h, x6_79h, Ts_79h, Ta_79h)) else if x9_79h ≤ 0 then some (.inr (x4_79h, x6_79h, Ts_79h, Ta_79h)) else zb1 (fX5_nextSeed x4_79h) (fun (r18 : Int64) => zck (znl (x9_79h).toInt64) (zb2 (fX4_leapByChoice Ts_79h Ta_79h Gs Ga ((((r18 / (65536 : Int64)) - (r18 / (65536 : Int64)) / (x9_79h).toInt64 * (x9_79h).toInt64)).toInt32)) (fun (Ss_21 : Nat → Int32) (Sa_22 : Nat → Nat → Int32) => zb1 (fX4_choices Ss_21 Sa_22 Gs Ga) (fun (r24 : Int32) => some (.inl (r18, (x6_79h + (1 : Int32)), r24, (x10_79h + (1 : Int32)), Ss_21, Sa_22))))))
noncomputable def yRM (Ms : Nat → Int32) : Int32 → Int32 → Int32 → (Nat → Int64) → (Nat → Nat → Int32) → Option ((Int32 × Int32 × Int32 × (Nat → Int64) × (Nat → Nat → Int32)) ⊕ (Int32 × Int32 × (Nat → Int64) × (Nat → Nat → Int32))) := fun (x4_35h : Int32) (x7_35h : Int32) (x8_35h : Int32) (Mj_35h : Nat → Int64) (Ma_35h : Nat → Nat → Int32) => if x8_35h ≤ 0 then some (.inr (x4_35h, x7_35h, Mj_35h, Ma_35h)) else zb2 (fX6_draw Mj_35h x8_35h) (fun (r10 : Int32) (Mj_11 : Nat → Int64) => zb2 (fX6_codeBy Ms Ma_35h x7_35h r10) (fun (r13 : Int32) (Ma_14 : Nat → Nat → Int32) => zb1 (fX6_goDeep Ms Ma_14 x7_35h (r13 / (12 : Int32)) (r13 - r13 / (12 : Int32) * (12 : Int32))) (fun (Ma_16 : Nat → Nat → Int32) => zb1 (fX6_jumpsNow Ms Ma_16 (x7_35h + (1 : Int32))) (fun (r18 : Int32) => some (.inl ((x4_35h + (1 : Int32)), (x7_35h + (1 : Int32)), r18, Mj_11, Ma_16))))))
noncomputable def yRX0 (Gs : Nat → Int32) (Ga : Nat → Nat → Int32) (Ns : Nat → Int32) (Na : Nat → Nat → Int32) (a0 : Int32) : Int64 → Int32 → Int32 → Int32 → (Nat → Int32) → (Nat → Nat → Int32) → Option ((Int64 × Int32 × Int32 × Int32 × (Nat → Int32) × (Nat → Nat → Int32)) ⊕ (Int64 × Int32 × Int32 × (Nat → Int32) × (Nat → Nat → Int32))) := fun (x4_50h : Int64) (x6_50h : Int32) (x7_50h : Int32) (x8_50h : Int32) (Ts_50h : Nat → Int32) (Ta_50h : Nat → Nat → Int32) => if a0 ≤ x8_50h then some (.inr (x4_50h, x6_50h, x7_50h, Ts_50h, Ta_50h)) else zb2 (fX4_copyFrom Ts_50h Ta_50h Ns Na) (fun (Ss_10 : Nat → Int32) (Sa_11 : Nat → Nat → Int32) => zb1 (fX4_choices Ss_10 Sa_11 Gs Ga) (fun (r13 : Int32) => zb4 (zi6 (yRX Gs Ga) x4_50h x6_50h r13 (0 : Int32) Ss_10 Sa_11) (fun (x4_134x79 : Int64) (x6_134x79 : Int32) (Ts_134x79 : Nat → Int32) (Ta_134x79 : Nat → Nat → Int32) => zb1 (if (Ts_134x79 3) = (1 : Int32) then some (x7_50h + (1 : Int32)) else some x7_50h) (fun (x7_148 : Int32) => some (.inl (x4_134x79, x6_134x79, x7_148, (x8_50h + (1 : Int32)), Ts_134x79, Ta_134x79))))))
noncomputable def yRM0 (Ms : Nat → Int32) (a0 : Int32) : Int32 → Int32 → Int32 → (Nat → Int64) → (Nat → Nat → Int32) → Option ((Int32 × Int32 × Int32 × (Nat → Int64) × (Nat → Nat → Int32)) ⊕ (Int32 × Int32 × (Nat → Int64) × (Nat → Nat → Int32))) := fun (x4_15h : Int32) (x5_15h : Int32) (x6_15h : Int32) (Mj_15h : Nat → Int64) (Ma_15h : Nat → Nat → Int32) => if a0 ≤ x6_15h then some (.inr (x4_15h, x5_15h, Mj_15h, Ma_15h)) else zb1 (fX6_putDeep Ms Ma_15h) (fun (Ma_4 : Nat → Nat → Int32) => zb1 (fX6_jumpsNow Ms Ma_4 (0 : Int32)) (fun (r6 : Int32) => zb4 (zi5 (yRM Ms) x4_15h (0 : Int32) r6 Mj_15h Ma_4) (fun (x4_87x35 : Int32) (x7_87x35 : Int32) (Mj_87x35 : Nat → Int64) (Ma_87x35 : Nat → Nat → Int32) => zb1 (fX6_onBoard Ms Ma_87x35 x7_87x35) (fun (r20 : Int32) => zb1 (if r20 = (1 : Int32) then some (1 : Int32) else some (0 : Int32)) (fun (v104 : Int32) => zlt (x5_15h + v104) (fun (x5_22 : Int32) => some (.inl (x4_87x35, x5_22, (x6_15h + (1 : Int32)), Mj_87x35, Ma_87x35))))))))
theorem yRX_is (Xs Gs : Nat → Int32) (Ga : Nat → Nat → Int32) (Ns : Nat → Int32) (Na : Nat → Nat → Int32) (Ts : Nat → Int32) (Ta : Nat → Nat → Int32) (a0 a1 a2 : Int32) : fX5_runs Xs Gs Ga Ns Na Ts Ta a0 a1 a2 = if a0 < (1 : Int32) then some ((-102 : Int32), Ts, Ta) else if (40 : Int32) < a0 then some ((-102 : Int32), Ts, Ta) else if a1 < 0 then some ((-102 : Int32), Ts, Ta) else if a2 < 0 then some ((-102 : Int32), Ts, Ta) else if a2 ≤ (2 : Int32) then if (Xs 11) = 0 then some ((-103 : Int32), Ts, Ta) else zlt ((a1).toInt64) (fun (x4_7 : Int64) => zb5 (zi6 (yRX0 Gs Ga Ns Na a0) x4_7 (0 : Int32) (0 : Int32) (0 : Int32) Ts Ta) (fun (x4_154x50 : Int64) (x6_154x50 : Int32) (x7_154x50 : Int32) (Ts_154x50 : Nat → Int32) (Ta_154x50 : Nat → Nat → Int32) => if a2 = 0 then some (x6_154x50, Ts_154x50, Ta_154x50) else if a2 = (1 : Int32) then some (x7_154x50, Ts_154x50, Ta_154x50) else some ((x4_154x50).toInt32, Ts_154x50, Ta_154x50))) else some ((-102 : Int32), Ts, Ta) := rfl
theorem yRM_is (Ms : Nat → Int32) (Mj : Nat → Int64) (Ma : Nat → Nat → Int32) (a0 a1 a2 : Int32) : fX6_runsNow Ms Mj Ma a0 a1 a2 = zlt (va_up Mj 28 (a1).toInt64) (fun (Mj_1 : Nat → Int64) => zb4 (zi5 (yRM0 Ms a0) (0 : Int32) (0 : Int32) (0 : Int32) Mj_1 Ma) (fun (x4_113x15 : Int32) (x5_113x15 : Int32) (Mj_113x15 : Nat → Int64) (Ma_113x15 : Nat → Nat → Int32) => if a2 = 0 then some (x4_113x15, Mj_113x15, Ma_113x15) else if a2 = (1 : Int32) then some (x5_113x15, Mj_113x15, Ma_113x15) else some (((Mj_113x15 28)).toInt32, Mj_113x15, Ma_113x15))) := rfl
theorem y_runX {r c n : Nat} {gs : Nat → Int32} {ga : Nat → Nat → Int32} {kd : Nat → Int32} {hb : Int32} (hB : yB r c) (hG : yG r c gs ga) (hn : n ≤ 7) : ∀ f (h : Nat → Int32) (s : Nat) (st : Nat) (j : Nat) (S : Nat → Int32) (A : Nat → Nat → Int32), s < 2147483648 → yS (r * c) n S A → S 1 = hb → (∀ p, p < n → A 5 p = kd p) → (∀ p, p < n → A 6 p = h p) → yc n h ≤ f → f + st ≤ 7 → ∃ S' A', zi6 (yRX gs ga) (lN s) (nI j) (nI (yLL r c n kd h hb n).length) (nI st) S A = some (lN (yrun r c n kd hb f h s).2.1, nI (j + (yrun r c n kd hb f h s).1), S', A') ∧ S' 3 = nI (yc n (yrun r c n kd hb f h s).2.2) := by
  intro f
  induction f with
  | zero =>
    intro h s st j S A hs hS h1 h5 h6 hc hst
    have hH : yH (r * c) n h := yH_c hS.2.2.2.1 (fun q hq => (h6 q hq).symm)
    have hk : yk5 n kd := fun p hp => by obtain ⟨k, k1, k2⟩ := hS.2.2.1 p hp; exact ⟨k, k1, (h5 p hp).symm.trans k2⟩
    have e0 : (yLL r c n kd h hb n).length = 0 := by rw [yLL_nil hB (by omega) hk hH (by omega) n (Nat.le_refl n)]; rfl
    have ec : S 3 = nI (yc n h) := by rw [hS.2.2.2.2.2, yc_congr h6]
    rw [yrun_0 e0, e0]
    refine ⟨S, A, zi6_r ?_, ec⟩
    unfold yRX
    by_cases c7 : (7 : Int32) ≤ nI st
    · rw [if_pos c7]; rfl
    · rw [if_neg c7, if_pos (show nI 0 ≤ 0 by decide)]; rfl
  | succ f ih =>
    intro h s st j S A hs hS h1 h5 h6 hc hst
    have ec : S 3 = nI (yc n h) := by rw [hS.2.2.2.2.2, yc_congr h6]
    have eL : yLL r c n (A 5) (A 6) (S 1) n = yLL r c n kd h hb n := by rw [h1]; exact yLL_c (by omega) h5 h6 n (Nat.le_refl n)
    have hlen := yLL_len12 (n := n) (kd := kd) (h := h) (hb := hb) hB.2.2.2.2 n
    have c7 : ¬ (7 : Int32) ≤ nI st := nI_ge (b := 7) (by omega) (by decide)
    by_cases e0 : (yLL r c n kd h hb n).length = 0
    · rw [yrun_0 e0, e0]
      refine ⟨S, A, zi6_r ?_, ec⟩
      unfold yRX
      rw [if_neg c7, if_pos (show nI 0 ≤ 0 by decide)]; rfl
    · have hlt : ysx s / 65536 % (yLL r c n kd h hb n).length < (yLL r c n kd h hb n).length := Nat.mod_lt _ (by omega)
      obtain ⟨⟨S', A'⟩, hz, x, x1, x2, l1, l2, l3, l4, l5⟩ := y_leapBy hB hG hS (i := ysx s / 65536 % (yLL r c n kd h hb n).length) (by rw [eL]; exact hlt)
      change yS (r * c) n S' A' at l1
      change S' 1 = S 1 at l2
      change A' 5 = A 5 at l3
      change A' 6 = _ at l4
      change yc n (A' 6) < _ at l5
      rw [eL] at x1
      have g5 : ∀ p, p < n → A' 5 p = kd p := fun p hp => by rw [l3]; exact h5 p hp
      have g6 : ∀ p, p < n → A' 6 p = yaft n kd h x.1 x.2 p := fun p hp => by rw [l4]; exact yaft_c x2 h5 h6 p hp
      have hc' : yc n (yaft n kd h x.1 x.2) ≤ f := by
        rw [yc_congr g6, yc_congr h6] at l5
        omega
      obtain ⟨S2, A2, hr1, hr2⟩ := ih (yaft n kd h x.1 x.2) (ysx s) (st + 1) (j + 1) S' A' (ysx_lt s) l1 (l2.trans h1) g5 g6 hc' (by omega)
      rw [yrun_s x1]
      refine ⟨S2, A2, zi6_l (a0' := lN (ysx s)) (a1' := nI (j + 1)) (a2' := nI (yLL r c n kd (yaft n kd h x.1 x.2) hb n).length) (a3' := nI (st + 1)) (a4' := S') (a5' := A') ?_ ?_, hr2⟩
      · obtain ⟨k1, k2⟩ := y_pick (L := (yLL r c n kd h hb n).length) (ysx_lt s) (by omega) (by omega)
        have eL' : yLL r c n (A' 5) (A' 6) (S' 1) n = yLL r c n kd (yaft n kd h x.1 x.2) hb n := by rw [l2, h1]; exact yLL_c (by omega) g5 g6 n (Nat.le_refl n)
        unfold yRX
        rw [if_neg c7, if_neg (nI_nle (by omega) (by omega)), y_nextSeed hs, zb1_e, k1, zck_e, k2, hz, zb2_e, y_choices hB hG l1, zb1_e, eL', nI_1, nI_1]
      · rw [hr1]
        show _ = some (_, nI (j + (_ + 1)), _, _)
        rw [show j + ((yrun r c n kd hb f (yaft n kd h x.1 x.2) (ysx s)).1 + 1) = j + 1 + (yrun r c n kd hb f (yaft n kd h x.1 x.2) (ysx s)).1 by omega]
theorem y_runM {r c n : Nat} {kd s : Nat → Int32} {hb : Int32} (hB : yB r c) (hn : n ≤ 7) : ∀ f (h : Nat → Int32) (sd d j : Nat) (J : Nat → Int64) (A : Nat → Nat → Int32), sd < 2147483648 → yM r c n hb kd s A → yR n d h A → yH (r * c) n h → J 28 = lN sd → yc n h ≤ f → f + d ≤ 7 → ∃ d' J' A', zi5 (yRM s) (nI j) (nI d) (nI (yLL r c n kd h hb n).length) J A = some (nI (j + (yrun r c n kd hb f h sd).1), nI d', J', A') ∧ d' ≤ 8 ∧ J' 28 = lN (yrun r c n kd hb f h sd).2.1 ∧ yR n d' (yrun r c n kd hb f h sd).2.2 A' ∧ ∀ i, i < 17 ∨ 27 < i → A' i = A i := by
  intro f
  induction f with
  | zero =>
    intro h sd d j J A hs hM hR hH hJ hc hd
    have e0 : (yLL r c n kd h hb n).length = 0 := by rw [yLL_nil hB (by omega) hM.2.2.2.2.2.2 hH (by omega) n (Nat.le_refl n)]; rfl
    rw [yrun_0 e0, e0]
    refine ⟨d, J, A, zi5_r ?_, by omega, hJ, hR, fun _ _ => rfl⟩
    unfold yRM
    rw [if_pos (show nI 0 ≤ 0 by decide)]; rfl
  | succ f ih =>
    intro h sd d j J A hs hM hR hH hJ hc hd
    have hlen := yLL_len12 (n := n) (kd := kd) (h := h) (hb := hb) hB.2.2.2.2 n
    by_cases e0 : (yLL r c n kd h hb n).length = 0
    · rw [yrun_0 e0, e0]
      refine ⟨d, J, A, zi5_r ?_, by omega, hJ, hR, fun _ _ => rfl⟩
      unfold yRM
      rw [if_pos (show nI 0 ≤ 0 by decide)]; rfl
    · have hlt : ysx sd / 65536 % (yLL r c n kd h hb n).length < (yLL r c n kd h hb n).length := Nat.mod_lt _ (by omega)
      obtain ⟨⟨v, B⟩, hz, K, y, e1, hK, hy, hyL, hB1⟩ := y_codeBy hB hM hR hH (show d ≤ 8 by omega) hlt
      change v = nI K at e1
      subst e1
      change ∀ j, j ≠ 18 → B j = A j at hB1
      obtain ⟨y1, y2, y3, y4, y5⟩ := yC_some hy
      have hMB : yM r c n hb kd s B := yM_c hM (hB1 5 (by decide))
      have hRB : yR n d h B := fun p hp => by rw [hB1 17 (by decide)]; exact hR p hp
      obtain ⟨hH', hc'⟩ := y_aft hB (by omega) hM.2.2.2.2.2.2 hH y1 y5
      obtain ⟨C, g1, g2, g3, g4⟩ := y_goDeep hB hMB hRB hH (show d ≤ 7 by omega) y1 y5
      have hMC : yM r c n hb kd s C := yM_c hMB (g2 5 (by decide))
      rw [← y2] at hH' hc' g4
      have hlen' := yLL_len12 (n := n) (kd := kd) (h := yaft n kd h y.1 y.2) (hb := hb) hB.2.2.2.2 n
      obtain ⟨d', J', A', i1, i2, i3, i4, i5⟩ := ih (yaft n kd h y.1 y.2) (ysx sd) (d + 1) (j + 1) (va_up J 28 (lN (ysx sd))) C (ysx_lt sd) hMC g4 hH' y_vu (by omega) (by omega)
      rw [yrun_s hyL]
      refine ⟨d', J', A', zi5_l (a0' := nI (j + 1)) (a1' := nI (d + 1)) (a2' := nI (yLL r c n kd (yaft n kd h y.1 y.2) hb n).length) (a3' := va_up J 28 (lN (ysx sd))) (a4' := C) ?_ ?_, i2, i3, i4, fun i hi => ?_⟩
      · obtain ⟨k1, k2⟩ := y_pick (L := (yLL r c n kd h hb n).length) (ysx_lt sd) (by omega) (by omega)
        have hdr : fX6_draw J (nI (yLL r c n kd h hb n).length) = some (nI (ysx sd / 65536 % (yLL r c n kd h hb n).length), va_up J 28 (lN (ysx sd))) := by
          unfold fX6_draw
          rw [hJ, y_lmask hs, zlt_e, k1, zck_e, y_vu, k2]
        have e1 : nI K / (12 : Int32) = nI (K / 12) := pk_div (d := 12) (by omega) (by decide) (by decide)
        have e2 : nI K - nI K / (12 : Int32) * (12 : Int32) = nI (K % 12) := pk_rem (d := 12) (by omega) (by decide) (by decide)
        have g1' : fX6_goDeep s B (nI d) (nI (K / 12)) (nI (K % 12)) = some C := by rw [← y3]; exact g1
        unfold yRM
        rw [if_neg (nI_nle (by omega) (by omega)), hdr, zb2_e, hz, zb2_e, e2, e1, g1', zb1_e, nI_1, y_jumpsNow hB hMC g4 hH' (show d + 1 ≤ 8 by omega), zb1_e, nI_1]
      · rw [i1]
        show _ = some (nI (j + (_ + 1)), _, _, _)
        rw [show j + ((yrun r c n kd hb f (yaft n kd h y.1 y.2) (ysx sd)).1 + 1) = j + 1 + (yrun r c n kd hb f (yaft n kd h y.1 y.2) (ysx sd)).1 by omega]
      · rw [i5 i hi, g2 i (by omega), hB1 i (by omega)]
/-- so many runs: the seed, all jumps, how often one was left -/
def ytot (r c n : Nat) (kd : Nat → Int32) (hb : Int32) (h : Nat → Int32) (s0 : Nat) : Nat → Nat × Nat × Nat
  | 0 => (s0, 0, 0)
  | k + 1 => ((yrun r c n kd hb 7 h (ytot r c n kd hb h s0 k).1).2.1, (ytot r c n kd hb h s0 k).2.1 + (yrun r c n kd hb 7 h (ytot r c n kd hb h s0 k).1).1, (ytot r c n kd hb h s0 k).2.2 + (if yc n (yrun r c n kd hb 7 h (ytot r c n kd hb h s0 k).1).2.2 = 1 then 1 else 0))
theorem ytot_lt {r c n : Nat} {kd h : Nat → Int32} {hb : Int32} {s0 : Nat} (hs : s0 < 2147483648) : ∀ k, (ytot r c n kd hb h s0 k).1 < 2147483648 := by
  intro k
  induction k with
  | zero => exact hs
  | succ k ih => exact yrun_lt 7 h _ ih
def ypick (w : Int32) (t : Nat × Nat × Nat) : Int32 := if w = 0 then nI t.2.1 else if w = 1 then nI t.2.2 else (lN t.1).toInt32
theorem y_runs {r c n b : Nat} {Xs Ps : Nat → Int32} {Pa : Nat → Nat → Int32} {Gs : Nat → Int32} {Ga : Nat → Nat → Int32} {Ns : Nat → Int32} {Na : Nat → Nat → Int32} {Qs : Nat → Int32} {Qa : Nat → Nat → Int32} {Ks : Nat → Int32} {Ka : Nat → Nat → Int32} {Ls : Nat → Int32} {La : Nat → Nat → Int32} {os : Nat → Nat → Int32} {Ms : Nat → Int32} {Ma : Nat → Nat → Int32} (h : yIV r c n b Xs Ps Pa Gs Ga Ns Na Qs Qa Ks Ka Ls La os Ms Ma) (hb : b < 2 ^ 31) (Ts : Nat → Int32) (Ta : Nat → Nat → Int32) (Mj : Nat → Int64) (x y w : Int32) : ∃ v T' U' J' B', fX5_runs Xs Gs Ga Ns Na Ts Ta x y w = some (v, T', U') ∧ fX6_runs Ms Mj Ma x y w = some (v, J', B') ∧ yIV r c n b Xs Ps Pa Gs Ga Ns Na Qs Qa Ks Ka Ls La os Ms B' := by
  have hV := h.1
  have hG := h.2.1
  have hM := h.2.2.1
  have hS := h.2.2.2.1
  have hn := hS.1.2.1
  have hn7 := yV_7 hV
  have hnb := yV_b hV
  have e0 : (0 : Int32).toInt = 0 := rfl
  have e1 : (1 : Int32).toInt = 1 := rfl
  have e2 : (2 : Int32).toInt = 2 := rfl
  have e40 : (40 : Int32).toInt = 40 := rfl
  rw [yRX_is]
  unfold fX6_runs
  rw [y_within, zb1_e, y_w (N := 2) rfl, zb1_e, hM.1, hM.2.2.2.2]
  by_cases c1 : ¬ ((1 : Int32).toInt ≤ x.toInt ∧ x.toInt ≤ (40 : Int32).toInt)
  · rw [decide_eq_false c1, yb_f, if_pos rfl]
    refine ⟨_, Ts, Ta, _, _, ?_, rfl, h⟩
    by_cases a1 : x < 1
    · rw [if_pos a1]
    · rw [if_neg a1, if_pos]
      rw [Int32.lt_iff_toInt_lt, e1] at a1
      rw [Int32.lt_iff_toInt_lt, e40]
      rw [e1, e40] at c1
      omega
  have c1 := Classical.not_not.mp c1
  rw [decide_eq_true c1, yb_t, if_neg n10]
  rw [e1, e40] at c1
  have a1 : ¬ x < 1 := by rw [Int32.lt_iff_toInt_lt, e1]; omega
  have a2 : ¬ (40 : Int32) < x := by rw [Int32.lt_iff_toInt_lt, e40]; omega
  rw [if_neg a1, if_neg a2]
  by_cases c2 : y < 0
  · rw [if_pos c2, if_pos c2]
    exact ⟨_, _, _, _, _, rfl, rfl, h⟩
  rw [if_neg c2, if_neg c2, y_rle (N := 2) rfl]
  cases hw : zin w (2 + 1) with
  | false =>
    rw [yb_f, if_pos rfl, if_neg (by decide)]
    exact ⟨_, _, _, _, _, rfl, rfl, h⟩
  | true =>
  rw [yb_t, if_neg n10, if_pos rfl]
  by_cases n0 : n = 0
  · have b0 : b = 0 := by omega
    subst n0
    subst b0
    rw [if_pos (show nI 0 = 0 from rfl), if_pos (show nI 0 = 0 from rfl)]
    exact ⟨_, _, _, _, _, rfl, rfl, h⟩
  have hB := yV_n hV (by omega)
  rw [if_neg (nI_ne0 (show 0 < b by omega) hb), if_neg (nI_ne0 (show 0 < n by omega) (by omega)), zlt_e, yRM_is, zlt_e]
  obtain ⟨times, ht, rfl⟩ := nI_of (x := x) (by rw [Int32.lt_iff_toInt_lt, e0]; omega)
  obtain ⟨seed, hse, rfl⟩ := nI_of c2
  rw [nI_l hse]
  have hsl : seed < 2147483648 := hse
  have X : ∃ S' A', zi6 (yRX0 Gs Ga Ns Na (nI times)) (lN seed) 0 0 0 Ts Ta = some (lN (ytot r c n (Na 5) (Ns 1) (Na 6) seed times).1, nI (ytot r c n (Na 5) (Ns 1) (Na 6) seed times).2.1, nI (ytot r c n (Na 5) (Ns 1) (Na 6) seed times).2.2, S', A') := by
    have key : ∃ z, zi6 (yRX0 Gs Ga Ns Na (nI times)) (lN seed) 0 0 0 Ts Ta = some z ∧ z.1 = lN (ytot r c n (Na 5) (Ns 1) (Na 6) seed times).1 ∧ z.2.1 = nI (ytot r c n (Na 5) (Ns 1) (Na 6) seed times).2.1 ∧ z.2.2.1 = nI (ytot r c n (Na 5) (Ns 1) (Na 6) seed times).2.2 := by
      refine zf6 (fun k a1 a2 a3 a4 S A => a1 = lN (ytot r c n (Na 5) (Ns 1) (Na 6) seed k).1 ∧ a2 = nI (ytot r c n (Na 5) (Ns 1) (Na 6) seed k).2.1 ∧ a3 = nI (ytot r c n (Na 5) (Ns 1) (Na 6) seed k).2.2 ∧ a4 = nI k) _ times ?_ ?_ 0 (Nat.zero_le _) ⟨rfl, rfl, rfl, rfl⟩
      · rintro k a1 a2 a3 a4 S A hk ⟨rfl, rfl, rfl, rfl⟩
        refine Or.inl ?_
        obtain ⟨⟨S1, A1⟩, hz, z1, z2, z3, z4, z5, z6, z7⟩ := y_copy S A Ns Na
        change S1 1 = Ns 1 at z1
        have hS1 : yS (r * c) n S1 A1 := yS_c hS.1 z2 z3 (fun p hp => z5 p (by omega)) (fun p hp => z6 p (by omega)) (fun j hj => z7 j (by have := yV_12 hV; omega))
        have eL : yLL r c n (A1 5) (A1 6) (S1 1) n = yLL r c n (Na 5) (Na 6) (Ns 1) n := by rw [z1]; exact yLL_c (by omega) (fun p hp => z5 p (by omega)) (fun p hp => z6 p (by omega)) n (Nat.le_refl n)
        obtain ⟨S2, A2, hr, hr3⟩ := y_runX (kd := Na 5) (hb := Ns 1) hB hG hn7 7 (Na 6) (ytot r c n (Na 5) (Ns 1) (Na 6) seed k).1 0 (ytot r c n (Na 5) (Ns 1) (Na 6) seed k).2.1 S1 A1 (ytot_lt hsl k) hS1 z1 (fun p hp => z5 p (by omega)) (fun p hp => z6 p (by omega)) (by have := yc_le n (Na 6); omega) (by decide)
        have hr' : zi6 (yRX Gs Ga) (lN (ytot r c n (Na 5) (Ns 1) (Na 6) seed k).1) (nI (ytot r c n (Na 5) (Ns 1) (Na 6) seed k).2.1) (nI (yLL r c n (Na 5) (Na 6) (Ns 1) n).length) (0 : Int32) S1 A1 = _ := hr
        unfold yRX0
        rw [if_neg (nI_ge hk ht), hz, zb2_e, y_choices hB hG hS1, zb1_e, eL]
        show ∃ b0 b1 b2 b3 b4 b5, zb4 (zi6 (yRX Gs Ga) _ _ _ _ _ _) _ = some (Sum.inl (b0, b1, b2, b3, b4, b5)) ∧ _
        rw [hr', zb4_e, hr3, yif, zb1_e]
        refine ⟨_, _, _, _, _, _, rfl, rfl, rfl, ?_, nI_1 k⟩
        show (if nI (yc n (yrun r c n (Na 5) (Ns 1) 7 (Na 6) (ytot r c n (Na 5) (Ns 1) (Na 6) seed k).1).2.2) = 1 then nI (ytot r c n (Na 5) (Ns 1) (Na 6) seed k).2.2 + 1 else nI (ytot r c n (Na 5) (Ns 1) (Na 6) seed k).2.2) = nI ((ytot r c n (Na 5) (Ns 1) (Na 6) seed k).2.2 + (if yc n (yrun r c n (Na 5) (Ns 1) 7 (Na 6) (ytot r c n (Na 5) (Ns 1) (Na 6) seed k).1).2.2 = 1 then 1 else 0))
        have hcl := yc_le n (yrun r c n (Na 5) (Ns 1) 7 (Na 6) (ytot r c n (Na 5) (Ns 1) (Na 6) seed k).1).2.2
        by_cases q : yc n (yrun r c n (Na 5) (Ns 1) 7 (Na 6) (ytot r c n (Na 5) (Ns 1) (Na 6) seed k).1).2.2 = 1
        · rw [if_pos q, q, if_pos (show nI 1 = 1 from rfl), nI_1]
        · rw [if_neg q, if_neg (y_ne1 (show _ < 2 ^ 31 by omega) q)]; rfl
      · rintro a1 a2 a3 a4 S A ⟨rfl, rfl, rfl, rfl⟩
        refine ⟨(lN (ytot r c n (Na 5) (Ns 1) (Na 6) seed times).1, nI (ytot r c n (Na 5) (Ns 1) (Na 6) seed times).2.1, nI (ytot r c n (Na 5) (Ns 1) (Na 6) seed times).2.2, S, A), ?_, rfl, rfl, rfl⟩
        unfold yRX0
        rw [if_pos (nI_le (Nat.le_refl times) ht)]
    obtain ⟨⟨q1, q2, q3, S, A⟩, hz, z1, z2, z3⟩ := key
    change q1 = _ at z1
    change q2 = _ at z2
    change q3 = _ at z3
    rw [z1, z2, z3] at hz
    exact ⟨S, A, hz⟩
  have Y : ∃ z, zi5 (yRM0 Ms (nI times)) 0 0 0 (va_up Mj 28 (lN seed)) Ma = some z ∧ z.1 = nI (ytot r c n (Na 5) (Ns 1) (Na 6) seed times).2.1 ∧ z.2.1 = nI (ytot r c n (Na 5) (Ns 1) (Na 6) seed times).2.2 ∧ z.2.2.1 28 = lN (ytot r c n (Na 5) (Ns 1) (Na 6) seed times).1 ∧ ∀ i, i < 17 ∨ 27 < i → z.2.2.2 i = Ma i := by
    refine zf5 (fun k a1 a2 a3 J A => a1 = nI (ytot r c n (Na 5) (Ns 1) (Na 6) seed k).2.1 ∧ a2 = nI (ytot r c n (Na 5) (Ns 1) (Na 6) seed k).2.2 ∧ a3 = nI k ∧ J 28 = lN (ytot r c n (Na 5) (Ns 1) (Na 6) seed k).1 ∧ ∀ i, i < 17 ∨ 27 < i → A i = Ma i) _ times ?_ ?_ 0 (Nat.zero_le _) ⟨rfl, rfl, rfl, y_vu, fun _ _ => rfl⟩
    · rintro k a1 a2 a3 J A hk ⟨rfl, rfl, rfl, hJ, hA⟩
      refine Or.inl ?_
      obtain ⟨B, hB', B1, B2⟩ := y_putDeep (s := Ms) (a := A) hM.2.2.2.2 hn
      have hMA : yM r c n (Ns 1) (Na 5) Ms B := yM_c (yVS_M hM hS) (by rw [B1 5 (by decide), hA 5 (by omega)])
      have hR : yR n 0 (Na 6) B := fun p hp => by rw [B2 p hp, hA 6 (by omega)]; exact hS.2.2.2.2.2.2 p hp
      have hjn : fX6_jumpsNow Ms B (0 : Int32) = _ := y_jumpsNow (d := 0) hB hMA hR hS.1.2.2.2.1 (by decide)
      obtain ⟨d', J', A', r1, r2, r3, r4, r5⟩ := y_runM (kd := Na 5) (hb := Ns 1) hB hn7 7 (Na 6) (ytot r c n (Na 5) (Ns 1) (Na 6) seed k).1 0 (ytot r c n (Na 5) (Ns 1) (Na 6) seed k).2.1 J B (ytot_lt hsl k) hMA hR hS.1.2.2.2.1 hJ (by have := yc_le n (Na 6); omega) (by decide)
      have r1' : zi5 (yRM Ms) (nI (ytot r c n (Na 5) (Ns 1) (Na 6) seed k).2.1) (0 : Int32) (nI (yLL r c n (Na 5) (Na 6) (Ns 1) n).length) J B = _ := r1
      have hcl := yc_le n (yrun r c n (Na 5) (Ns 1) 7 (Na 6) (ytot r c n (Na 5) (Ns 1) (Na 6) seed k).1).2.2
      have hob : fX6_onBoard Ms A' (nI d') = some (nI (yc n (yrun r c n (Na 5) (Ns 1) 7 (Na 6) (ytot r c n (Na 5) (Ns 1) (Na 6) seed k).1).2.2)) := by
        rw [y_onBoard hM.2.2.2.2 hn r2, yc_congr (fun p hp => r4 p hp)]
      unfold yRM0
      rw [if_neg (nI_ge hk ht), hB', zb1_e, hjn, zb1_e]
      show ∃ b0 b1 b2 b3 b4, zb4 (zi5 (yRM Ms) _ _ _ _ _) _ = some (Sum.inl (b0, b1, b2, b3, b4)) ∧ _
      rw [r1', zb4_e, hob, zb1_e, yif, zb1_e, zlt_e, nI_1]
      refine ⟨_, _, _, _, _, rfl, rfl, ?_, rfl, r3, fun i hi => by rw [r5 i hi, B1 i (by omega)]; exact hA i hi⟩
      show nI (ytot r c n (Na 5) (Ns 1) (Na 6) seed k).2.2 + (if nI (yc n (yrun r c n (Na 5) (Ns 1) 7 (Na 6) (ytot r c n (Na 5) (Ns 1) (Na 6) seed k).1).2.2) = 1 then 1 else 0) = nI ((ytot r c n (Na 5) (Ns 1) (Na 6) seed k).2.2 + (if yc n (yrun r c n (Na 5) (Ns 1) 7 (Na 6) (ytot r c n (Na 5) (Ns 1) (Na 6) seed k).1).2.2 = 1 then 1 else 0))
      by_cases q : yc n (yrun r c n (Na 5) (Ns 1) 7 (Na 6) (ytot r c n (Na 5) (Ns 1) (Na 6) seed k).1).2.2 = 1
      · rw [if_pos q, q, if_pos (show nI 1 = 1 from rfl), nI_1]
      · rw [if_neg q, if_neg (y_ne1 (show _ < 2 ^ 31 by omega) q), show (0 : Int32) = nI 0 from rfl, nI_add]
    · rintro a1 a2 a3 J A ⟨rfl, rfl, rfl, hJ, hA⟩
      refine ⟨(nI (ytot r c n (Na 5) (Ns 1) (Na 6) seed times).2.1, nI (ytot r c n (Na 5) (Ns 1) (Na 6) seed times).2.2, J, A), ?_, rfl, rfl, hJ, hA⟩
      unfold yRM0
      rw [if_pos (nI_le (Nat.le_refl times) ht)]
  obtain ⟨S', A', hX⟩ := X
  obtain ⟨⟨q1, q2, J', B'⟩, hY, y1, y2, y3, y4⟩ := Y
  change q1 = _ at y1
  change q2 = _ at y2
  change J' 28 = _ at y3
  change ∀ i, i < 17 ∨ 27 < i → B' i = Ma i at y4
  rw [hX, zb5_e, hY, zb4_e, y1, y2, y3]
  refine ⟨ypick w (ytot r c n (Na 5) (Ns 1) (Na 6) seed times), S', A', J', B', ?_, ?_, yI_a h y4⟩
  · unfold ypick
    by_cases w0 : w = 0
    · rw [if_pos w0, if_pos w0]
    · rw [if_neg w0, if_neg w0]
      by_cases w1 : w = 1
      · rw [if_pos w1, if_pos w1]
      · rw [if_neg w1, if_neg w1]
  · unfold ypick
    by_cases w0 : w = 0
    · rw [if_pos w0, if_pos w0, zb3_e]
    · rw [if_neg w0, if_neg w0]
      by_cases w1 : w = 1
      · rw [if_pos w1, if_pos w1, zb3_e]
      · rw [if_neg w1, if_neg w1, zb3_e]
