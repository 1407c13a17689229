/-! pure: of which kind a peg is, what to ask next; peg -/
def ycd (k w : Nat) : Bool := if w = 0 then k != 1 else if w = 1 then k == 1 || k == 4 else if w = 2 then k != 2 else k != 3
theorem y_could {k w : Nat} (hk : k < 5) (hw : w < 4) : fX6_could (nI k) (nI w) = some (yb (ycd k w)) := by
  rcases (show k = 0 ∨ k = 1 ∨ k = 2 ∨ k = 3 ∨ k = 4 by omega) with rfl | rfl | rfl | rfl | rfl <;> rcases (show w = 0 ∨ w = 1 ∨ w = 2 ∨ w = 3 by omega) with rfl | rfl | rfl | rfl <;> rfl
def yB5 (b : Bool) (k : Nat) : Int32 := if b = true then (1 : Int32) <<< (nI k &&& 31) else 0
def ypre (g : Nat → Bool) : Nat → Int32
  | 0 => 0
  | k + 1 => ypre g k ||| yB5 (g k) k
def ym5 (a b c d e : Bool) : Int32 := ((((0 ||| yB5 a 0) ||| yB5 b 1) ||| yB5 c 2) ||| yB5 d 3) ||| yB5 e 4
theorem ym5_and : ∀ a b c d e a' b' c' d' e' : Bool, (ym5 a b c d e &&& ym5 a' b' c' d' e') = ym5 (a && a') (b && b') (c && c') (d && d') (e && e') := by decide +kernel
theorem ym5_lt : ∀ a b c d e : Bool, (ym5 a b c d e).toBitVec.toNat < 32 := by decide +kernel
theorem ym5_wc {w : Nat} (hw : w < 4) : zWC w = ym5 (ycd 0 w == true) (ycd 1 w == true) (ycd 2 w == true) (ycd 3 w == true) (ycd 4 w == true) := by
  rcases (show w = 0 ∨ w = 1 ∨ w = 2 ∨ w = 3 by omega) with rfl | rfl | rfl | rfl <;> decide +kernel
theorem ym5_wn {w : Nat} (hw : w < 4) : ((31 : Int32) &&& (zWC w ^^^ (-1 : Int32))) = ym5 (ycd 0 w == false) (ycd 1 w == false) (ycd 2 w == false) (ycd 3 w == false) (ycd 4 w == false) := by
  rcases (show w = 0 ∨ w = 1 ∨ w = 2 ∨ w = 3 by omega) with rfl | rfl | rfl | rfl <;> decide +kernel
/-- what is left of a kind by the first j that are seen -/
def ysn (p : Int32) (pg wh co : Nat → Int32) (k : Nat) : Nat → Bool
  | 0 => true
  | j + 1 => ysn p pg wh co k j && (decide (¬ pg j = p) || (ycd k (wh j).toNatClampNeg == decide (co j = 1)))
def yso (p : Int32) (pg wh co : Nat → Int32) (z : Nat) : Int32 := ym5 (ysn p pg wh co 0 z) (ysn p pg wh co 1 z) (ysn p pg wh co 2 z) (ysn p pg wh co 3 z) (ysn p pg wh co 4 z)
theorem y_sorts {Q : Nat → Int32} {A : Nat → Nat → Int32} {sz : Int32} {pg wh co : Nat → Int32} {z : Nat} (hz : z ≤ 6) (h2 : Q 2 = nI z) (hr : ∀ i, i < z → A 0 i = pg i ∧ ∃ w, w < 4 ∧ wh i = nI w ∧ ((co i = 1 ∧ A 1 i = zWC w) ∨ (co i = 0 ∧ A 1 i = ((31 : Int32) &&& (zWC w ^^^ (-1 : Int32)))))) (p : Int32) : fX3_sortsOf Q A p = some (yso p pg wh co z) := by
  unfold fX3_sortsOf
  rw [h2]
  refine (zb1_t (a0 := yso p pg wh co z) ?_ _).trans rfl
  refine zd2 (fun k b j => b = yso p pg wh co k ∧ j = nI k) z ?_ ?_ 0 (Nat.zero_le _) ⟨(by decide +kernel : (31 : Int32) = ym5 true true true true true), rfl⟩
  · rintro k b j hk ⟨rfl, rfl⟩
    obtain ⟨a0, w, hw, ew, hc⟩ := hr k hk
    refine Or.inl ⟨_, _, ?_, rfl, rfl⟩
    have hs : ∀ i, ysn p pg wh co i (k + 1) = (ysn p pg wh co i k && (decide (¬ pg k = p) || (ycd i w == decide (co k = 1)))) := by
      intro i
      show (ysn p pg wh co i k && (decide (¬ pg k = p) || (ycd i (wh k).toNatClampNeg == decide (co k = 1)))) = _
      rw [ew, nI_clamp (by omega)]
    rw [if_neg (nI_ge hk (by omega)), if_neg (y6g (show k < 6 by omega)), y_zin (show k < 6 by omega) (by decide), zck_e, zck_e, nI_clamp (show k < 2 ^ 31 by omega), a0, nI_1]
    show _ = some (Sum.inl (ym5 (ysn p pg wh co 0 (k + 1)) (ysn p pg wh co 1 (k + 1)) (ysn p pg wh co 2 (k + 1)) (ysn p pg wh co 3 (k + 1)) (ysn p pg wh co 4 (k + 1)), nI (k + 1)))
    rw [hs, hs, hs, hs, hs]
    by_cases hp : pg k = p
    · rw [if_pos hp, zlt_e, zb1_e, decide_eq_false (fun q : ¬ pg k = p => q hp)]
      rcases hc with ⟨c1, c2⟩ | ⟨c1, c2⟩
      · rw [c2, ym5_wc hw, decide_eq_true c1]
        unfold yso
        rw [ym5_and]
        rfl
      · rw [c2, ym5_wn hw, decide_eq_false (show ¬ co k = 1 by rw [c1]; decide)]
        unfold yso
        rw [ym5_and]
        rfl
    · rw [if_neg hp, zb1_e, decide_eq_true hp]
      simp only [Bool.true_or, Bool.and_true]
      rfl
  · rintro b j ⟨rfl, rfl⟩
    rw [if_pos (nI_le (Nat.le_refl z) (by omega))]
theorem y_msorts {s : Nat → Int32} {a : Nat → Nat → Int32} {A : Nat → Nat → Int32} {z : Nat} (hz : z ≤ 6) (h9 : s 9 = nI z) (hr : ∀ i, i < z → A 0 i = a 10 i ∧ ∃ w, w < 4 ∧ a 11 i = nI w ∧ ((a 12 i = 1 ∧ A 1 i = zWC w) ∨ (a 12 i = 0 ∧ A 1 i = ((31 : Int32) &&& (zWC w ^^^ (-1 : Int32)))))) (p : Int32) : fX6_sortsOf s a p = some (yso p (a 10) (a 11) (a 12) z) := by
  unfold fX6_sortsOf
  rw [h9]
  have e5 : yso p (a 10) (a 11) (a 12) z = ypre (fun k => ysn p (a 10) (a 11) (a 12) k z) 5 := rfl
  rw [e5]
  refine (zb1_t (a0 := ypre (fun k => ysn p (a 10) (a 11) (a 12) k z) 5) ?_ _).trans rfl
  refine zd2 (fun k b j => b = ypre (fun k => ysn p (a 10) (a 11) (a 12) k z) k ∧ j = nI k) 5 ?_ ?_ 0 (Nat.zero_le _) ⟨rfl, rfl⟩
  · rintro k b j hk ⟨rfl, rfl⟩
    refine Or.inl ⟨_, _, ?_, rfl, rfl⟩
    rw [if_neg (show ¬ (4 : Int32) < nI k from nI_nlt (b := k) (a := 4) (by omega) (by decide))]
    have inner : zi2 (fun (x4_15h : Int32) (x5_15h : Int32) => if nI z ≤ x5_15h then some (.inr x4_15h) else zb1 (zjn (fun (_ : Unit) => some (0 : Int32)) (fun J74 => if x4_15h = 0 then J74 () else zck (zin x5_15h 6) (zjn (fun (_ : Unit) => some (1 : Int32)) (fun J70 => if ((a 10) (x5_15h).toNatClampNeg) = p then zck (zin x5_15h 6) (zb1 (fX6_could (nI k) ((a 11) (x5_15h).toNatClampNeg)) (fun (r10 : Int32) => zck (zin x5_15h 6) (zb1 (if ((a 12) (x5_15h).toNatClampNeg) = (1 : Int32) then some (1 : Int32) else some (0 : Int32)) (fun (v67 : Int32) => if r10 = v67 then J70 () else J74 ())))) else J70 ())))) (fun (v75 : Int32) => some (.inl (v75, (x5_15h + (1 : Int32)))))) (1 : Int32) (0 : Int32) = some (yb (ysn p (a 10) (a 11) (a 12) k z)) := by
      refine zd2 (fun i b j => b = yb (ysn p (a 10) (a 11) (a 12) k i) ∧ j = nI i) z ?_ ?_ 0 (Nat.zero_le _) ⟨rfl, rfl⟩
      · rintro i b j hi ⟨rfl, rfl⟩
        obtain ⟨_, w, hw, ew, hc⟩ := hr i hi
        refine Or.inl ⟨_, _, ?_, rfl, rfl⟩
        have hs : ysn p (a 10) (a 11) (a 12) k (i + 1) = (ysn p (a 10) (a 11) (a 12) k i && (decide (¬ a 10 i = p) || (ycd k w == decide (a 12 i = 1)))) := by
          show (ysn p (a 10) (a 11) (a 12) k i && (decide (¬ a 10 i = p) || (ycd k (a 11 i).toNatClampNeg == decide (a 12 i = 1)))) = _
          rw [ew, nI_clamp (by omega)]
        rw [if_neg (nI_ge hi (by omega)), zjn_e, hs, nI_1]
        cases ysn p (a 10) (a 11) (a 12) k i with
        | false => rw [yb_f, if_pos rfl, zb1_e]; rfl
        | true =>
          rw [yb_t, if_neg n10, y_zin (show i < 6 by omega) (by decide), zck_e, zjn_e, nI_clamp (show i < 2 ^ 31 by omega), zck_e, ew, y_could hk hw, zb1_e, zck_e]
          by_cases hp : a 10 i = p
          · rw [if_pos hp, decide_eq_false (fun q : ¬ a 10 i = p => q hp)]
            rcases hc with ⟨c1, _⟩ | ⟨c1, _⟩
            · rw [if_pos c1, zb1_e, decide_eq_true c1]
              cases ycd k w with
              | true => rw [yb_t, if_pos rfl, zb1_e]; rfl
              | false => rw [yb_f, if_neg (by decide), zb1_e]; rfl
            · have c3 : ¬ a 12 i = 1 := by rw [c1]; decide
              rw [if_neg c3, zb1_e, decide_eq_false c3]
              cases ycd k w with
              | true => rw [yb_t, if_neg n10, zb1_e]; rfl
              | false => rw [yb_f, if_pos rfl, zb1_e]; rfl
          · rw [if_neg hp, decide_eq_true hp, zb1_e]; rfl
      · rintro b j ⟨rfl, rfl⟩
        rw [if_pos (nI_le (Nat.le_refl z) (by omega))]
    rw [inner, zb1_e, nI_1]
    cases hg : ysn p (a 10) (a 11) (a 12) k z with
    | true =>
      rw [yb_t, if_neg n10, zb1_e, zlt_e]
      show _ = some (Sum.inl (_ ||| yB5 (ysn p (a 10) (a 11) (a 12) k z) k, _))
      rw [hg]; rfl
    | false =>
      rw [yb_f, if_pos rfl, zb1_e, zlt_e]
      show _ = some (Sum.inl (_ ||| yB5 (ysn p (a 10) (a 11) (a 12) k z) k, _))
      rw [hg]; rfl
  · rintro b j ⟨rfl, rfl⟩
    rw [if_pos (show (4 : Int32) < nI 5 by decide)]
/-! what to ask next -/
theorem y_bitsA {m : Nat} (h : m < 32) (y : Int32) : fJ6_bitCount_0f7a4 (nI m &&& y) = some (ypop (nI m &&& y)) := by
  obtain ⟨m', h1, h2⟩ := y_and (m := m) (by omega) y
  rw [h2]
  exact y_bits h1
def ybq (s : Int32) : Nat → Int32 × Int32
  | 0 => (-1, 6)
  | k + 1 => if (ybq s k).2 ≤ (if ypop (s &&& zWC k) < ypop (s &&& (zWC k ^^^ (-1 : Int32))) then ypop (s &&& (zWC k ^^^ (-1 : Int32))) else ypop (s &&& zWC k)) then ybq s k else (nI k, (if ypop (s &&& zWC k) < ypop (s &&& (zWC k ^^^ (-1 : Int32))) then ypop (s &&& (zWC k ^^^ (-1 : Int32))) else ypop (s &&& zWC k)))
def yys (s : Int32) (w : Nat) : Nat → Int32
  | 0 => 0
  | k + 1 => yys s w k + yb (ybit s k && ycd k w)
def ywo (s : Int32) (w : Nat) : Int32 := if yys s w 5 ≤ ypop s - yys s w 5 then ypop s - yys s w 5 else yys s w 5
def ymq (s : Int32) : Nat → Int32 × Int32
  | 0 => (-1, 268435456)
  | k + 1 => (if (ymq s k).2 ≤ ywo s k then (ymq s k).1 else nI k, if (ymq s k).2 ≤ ywo s k then (ymq s k).2 else ywo s k)
theorem yq_same {m : Nat} (h : m < 32) : (ybq (nI m) 4).1 = (ymq (nI m) 4).1 ∨ m = 0 := by
  have e : (List.range 32).all (fun m => decide ((ybq (nI m) 4).1 = (ymq (nI m) 4).1) || m == 0) = true := by decide +kernel
  have := List.all_eq_true.mp e m (List.mem_range.mpr h)
  rw [Bool.or_eq_true, decide_eq_true_eq, beq_iff_eq] at this
  exact this
theorem y4g {k : Nat} (h : k < 4) : ¬ (4 : Int32) ≤ nI k := nI_ge (b := 4) h (by omega)
theorem y4p : (4 : Int32) ≤ nI 4 := by decide
theorem y_best {m : Nat} (h : m < 32) (h0 : m ≠ 0) : fX5_bestQuestion (nI m) = some (ybq (nI m) 4).1 := by
  unfold fX5_bestQuestion
  rw [if_neg (nI_ne0 (by omega) (by omega))]
  refine (zb1_t (a0 := (ybq (nI m) 4).1) ?_ _).trans rfl
  refine zd3 (fun k a b j => a = (ybq (nI m) k).1 ∧ b = (ybq (nI m) k).2 ∧ j = nI k) 4 ?_ ?_ 0 (Nat.zero_le _) ⟨rfl, rfl, rfl⟩
  · rintro k a b j hk ⟨rfl, rfl, rfl⟩
    refine Or.inl ⟨_, _, _, ?_, rfl, rfl, rfl⟩
    rw [if_neg (y4g hk), y_zin (show k < 4 by omega) (by decide), zck_e, nI_clamp (show k < 2 ^ 31 by omega), y_bitsA h, zb1_e, zck_e, y_bitsA h, zb1_e, zlt_e, nI_1]
    generalize hl : (if ypop (nI m &&& zWC k) < ypop (nI m &&& (zWC k ^^^ (-1 : Int32))) then ypop (nI m &&& (zWC k ^^^ (-1 : Int32))) else ypop (nI m &&& zWC k)) = l
    have hs : ybq (nI m) (k + 1) = if (ybq (nI m) k).2 ≤ l then ybq (nI m) k else (nI k, l) := by rw [← hl]; rfl
    rw [hs]
    by_cases c : (ybq (nI m) k).2 ≤ l
    · rw [if_pos c, if_pos c, zb2_e]
    · rw [if_neg c, if_neg c, zb2_e]
  · rintro a b j ⟨rfl, rfl, rfl⟩
    rw [if_pos y4p]
theorem y_mask {s : Nat → Int32} {a : Nat → Nat → Int32} {p : Int32} {m : Nat} (h : m < 32) (h0 : m ≠ 0) (hs : fX6_sortsOf s a p = some (nI m)) : fX6_askOf s a p = some (ymq (nI m) 4).1 := by
  unfold fX6_askOf
  rw [hs, zb1_e]
  refine (zb1_t (a0 := (ymq (nI m) 4).1) ?_ _).trans rfl
  refine zd3 (fun k a b j => a = (ymq (nI m) k).1 ∧ b = (ymq (nI m) k).2 ∧ j = nI k) 4 ?_ ?_ 0 (Nat.zero_le _) ⟨rfl, rfl, rfl⟩
  · rintro w a b j hw ⟨rfl, rfl, rfl⟩
    refine Or.inl ⟨_, _, _, ?_, rfl, rfl, rfl⟩
    have inner : zi2 (fun (x6_31h : Int32) (x7_31h : Int32) => if (4 : Int32) < x7_31h then some (.inr x6_31h) else zb1 (fX6_isIn (nI m) x7_31h) (fun (r8 : Int32) => zb1 (zjn (fun (_ : Unit) => some (0 : Int32)) (fun J62 => if r8 = 0 then J62 () else zb1 (fX6_could x7_31h (nI w)) (fun (r13 : Int32) => if r13 = 0 then J62 () else some (1 : Int32)))) (fun (v63 : Int32) => zlt (x6_31h + v63) (fun (x6_10 : Int32) => some (.inl (x6_10, (x7_31h + (1 : Int32)))))))) (0 : Int32) (0 : Int32) = some (yys (nI m) w 5) := by
      refine zd2 (fun k b j => b = yys (nI m) w k ∧ j = nI k) 5 ?_ ?_ 0 (Nat.zero_le _) ⟨rfl, rfl⟩
      · rintro k b j hk ⟨rfl, rfl⟩
        refine Or.inl ⟨_, _, ?_, rfl, rfl⟩
        rw [if_neg (show ¬ (4 : Int32) < nI k from nI_nlt (b := k) (a := 4) (by omega) (by decide)), y_isIn, zb1_e, zjn_e, y_could hk hw, zb1_e, nI_1]
        show _ = some (Sum.inl (yys (nI m) w k + yb (ybit (nI m) k && ycd k w), _))
        cases ybit (nI m) k with
        | false => rw [yb_f, if_pos rfl, zb1_e, zlt_e]; rfl
        | true =>
          rw [yb_t, if_neg n10]
          cases ycd k w with
          | false => rw [yb_f, if_pos rfl, zb1_e, zlt_e]; rfl
          | true => rw [yb_t, if_neg n10, zb1_e, zlt_e]; rfl
      · rintro b j ⟨rfl, rfl⟩
        rw [if_pos (show (4 : Int32) < nI 5 by decide)]
    rw [if_neg (y4g hw), if_neg (nI_ne0 (by omega) (by omega)), inner, zb1_e, y_size, zb1_e, zlt_e, yif, zb1_e, yif, zb1_e, yif, zb1_e, nI_1]
    rfl
  · rintro a b j ⟨rfl, rfl, rfl⟩
    rw [if_pos y4p]
theorem y_mask0 {s : Nat → Int32} {a : Nat → Nat → Int32} {p : Int32} (hs : fX6_sortsOf s a p = some (nI 0)) : fX6_askOf s a p = some (-1) := by
  unfold fX6_askOf
  rw [hs, zb1_e]
  refine (zb1_t (a0 := (-1 : Int32)) (zi3_r ?_) _).trans rfl
  rw [if_neg (show ¬ (4 : Int32) ≤ 0 by decide), if_pos (show nI 0 = 0 from rfl)]
theorem y_ask {s : Nat → Int32} {a : Nat → Nat → Int32} {p v : Int32} (hv : v.toBitVec.toNat < 32) (hs : fX6_sortsOf s a p = some v) : ∃ w, fX5_bestQuestion v = some w ∧ fX6_askOf s a p = some w := by
  obtain ⟨m, hm, rfl⟩ : ∃ m, m < 32 ∧ v = nI m := ⟨_, hv, (y_nat v).symm⟩
  by_cases m0 : m = 0
  · subst m0
    refine ⟨-1, ?_, y_mask0 hs⟩
    unfold fX5_bestQuestion
    rw [if_pos (show nI 0 = 0 from rfl)]
  · refine ⟨_, y_best hm m0, ?_⟩
    rw [y_mask hm m0 hs]
    rcases yq_same hm with e | e
    · rw [e]
    · exact absurd e m0
/-! peg -/
theorem y_pegNow {r c n b : Nat} {xb : Int32} {Gs Ns Qs Ms : Nat → Int32} {Ga Na Qa Ma : Nat → Nat → Int32} (hV : yV r c n b) (hG : yG r c Gs Ga) (hM : yVM r c n b xb Ms) (hS : yVS r c n Ns Na (Ms 3) (Ms 7) (Ma 5) (Ma 6)) (hQ : yVQ Qs Qa (Ms 9) (Ma 10) (Ma 11) (Ma 12)) {p w : Nat} (hp : p < n) (hw : w < 5) : ∃ v B', fX5_peg Gs Ga Ns Na Qs Qa (nI p) (nI w) = some v ∧ fX6_pegNow Ms Ma (nI p) (nI w) = some (v, B') ∧ ∀ i, i < 17 ∨ 27 < i → B' i = Ma i := by
  have hn := hS.1.2.1
  have hB := yV_n hV (by omega)
  obtain ⟨z, hz, q2, m9, hr⟩ := hQ
  have s1 := y_sorts (sz := Ms 9) hz q2 hr (nI p)
  have s2 := y_msorts (s := Ms) (a := Ma) hz m9 hr (nI p)
  have hlt : (yso (nI p) (Ma 10) (Ma 11) (Ma 12) z).toBitVec.toNat < 32 := ym5_lt _ _ _ _ _
  unfold fX5_peg fX6_pegNow
  rw [y_isPeg hS.1.1 hn, zb1_e, y_zin hp (by omega), yb_t, if_neg n10, y_zin (show p < 8 by omega) (by decide), zck_e, zck_e, nI_clamp (show p < 2 ^ 31 by omega)]
  rcases (show w = 0 ∨ w = 1 ∨ w = 2 ∨ w = 3 ∨ w = 4 by omega) with rfl | rfl | rfl | rfl | rfl
  · rw [if_pos (show nI 0 = 0 from rfl), if_pos (show nI 0 = 0 from rfl), y_kindOf hS.1 hp, zb1_e, hS.2.2.2.2.2.1 p hp]
    exact ⟨_, _, rfl, rfl, fun _ _ => rfl⟩
  · rw [if_neg (show ¬ nI 1 = 0 by decide), if_neg (show ¬ nI 1 = 0 by decide), if_pos (show nI 1 = 1 from rfl), if_pos (show nI 1 = 1 from rfl), y_homeOf hS.1 hp, zb1_e, hS.2.2.2.2.2.2 p hp]
    exact ⟨_, _, rfl, rfl, fun _ _ => rfl⟩
  · rw [if_neg (show ¬ nI 2 = 0 by decide), if_neg (show ¬ nI 2 = 0 by decide), if_neg (show ¬ nI 2 = 1 by decide), if_neg (show ¬ nI 2 = 1 by decide), if_pos (show nI 2 = 2 from rfl), if_pos (show nI 2 = 2 from rfl)]
    obtain ⟨B, hB', B1, B2⟩ := y_putDeep (s := Ms) (a := Ma) hM.2.2.2.2 hn
    have hMB : yM r c n (Ns 1) (Na 5) Ms B := yM_c (yVS_M hM hS) (B1 5 (by decide))
    have hR : yR n 0 (Na 6) B := fun j hj => (B2 j hj).trans (hS.2.2.2.2.2.2 j hj)
    have hg : fX6_goes Ms B (0 : Int32) (nI p) = some (ybs (yJ r c n (Na 5) (Na 6) (Ns 1) p)) := y_mgoes (d := 0) hB hMB hR hS.1.2.2.2.1 (by decide) hp
    rw [y_targets hB hG hS.1 hp, zb1_e, hB', zb1_e, hg, zb1_e]
    exact ⟨_, _, rfl, rfl, fun i hi => B1 i (by omega)⟩
  · rw [if_neg (show ¬ nI 3 = 0 by decide), if_neg (show ¬ nI 3 = 0 by decide), if_neg (show ¬ nI 3 = 1 by decide), if_neg (show ¬ nI 3 = 1 by decide), if_neg (show ¬ nI 3 = 2 by decide), if_neg (show ¬ nI 3 = 2 by decide), if_pos (show nI 3 = 3 from rfl), if_pos (show nI 3 = 3 from rfl), s1, zb1_e, s2, zb1_e]
    exact ⟨_, _, rfl, rfl, fun _ _ => rfl⟩
  · obtain ⟨v, v1, v2⟩ := y_ask hlt s2
    rw [if_neg (show ¬ nI 4 = 0 by decide), if_neg (show ¬ nI 4 = 0 by decide), if_neg (show ¬ nI 4 = 1 by decide), if_neg (show ¬ nI 4 = 1 by decide), if_neg (show ¬ nI 4 = 2 by decide), if_neg (show ¬ nI 4 = 2 by decide), if_neg (show ¬ nI 4 = 3 by decide), if_neg (show ¬ nI 4 = 3 by decide), if_pos (show nI 4 = 4 from rfl), s1, zb1_e, v1, zb1_e, v2, zb1_e]
    exact ⟨_, _, rfl, rfl, fun _ _ => rfl⟩
theorem y_peg {r c n b : Nat} {xb : Int32} {Gs Ns Qs Ms : Nat → Int32} {Ga Na Qa Ma : Nat → Nat → Int32} (hV : yV r c n b) (hG : yG r c Gs Ga) (hM : yVM r c n b xb Ms) (hS : yVS r c n Ns Na (Ms 3) (Ms 7) (Ma 5) (Ma 6)) (hQ : yVQ Qs Qa (Ms 9) (Ma 10) (Ma 11) (Ma 12)) (x w : Int32) : ∃ v B', fX5_peg Gs Ga Ns Na Qs Qa x w = some v ∧ fX6_peg Ms Ma x w = some (v, B') ∧ ∀ i, i < 17 ∨ 27 < i → B' i = Ma i := by
  have hn := hS.1.2.1
  unfold fX6_peg
  rw [y_mIsPeg hM.2.2.2.2 hn, zb1_e]
  cases hp : zin x n with
  | false =>
    unfold fX5_peg
    rw [y_isPeg hS.1.1 hn, zb1_e, hp, yb_f, if_pos rfl, if_pos rfl]
    exact ⟨_, _, rfl, rfl, fun _ _ => rfl⟩
  | true =>
    obtain ⟨p, hp', rfl⟩ := y_zinE hp (by omega)
    rw [yb_t, if_neg n10, y_w (N := 4) rfl, zb1_e]
    cases hw : zin w (4 + 1) with
    | true =>
      obtain ⟨k, hk, rfl⟩ := y_zinE hw (by decide)
      obtain ⟨v, B, h1, h2, h3⟩ := y_pegNow hV hG hM hS hQ hp' hk
      rw [yb_t, if_neg n10, h2, zb2_e]
      exact ⟨_, _, h1, rfl, h3⟩
    | false =>
      have nw : ∀ k, k < 5 → ¬ w = nI k := fun k hk e => by
        rw [e, y_zin hk (by decide)] at hw
        cases hw
      unfold fX5_peg
      rw [y_isPeg hS.1.1 hn, zb1_e, hp, yb_t, if_neg n10, if_neg (show ¬ w = 0 from nw 0 (by decide)), if_neg (show ¬ w = 1 from nw 1 (by decide)), if_neg (show ¬ w = 2 from nw 2 (by decide)), if_neg (show ¬ w = 3 from nw 3 (by decide)), if_neg (show ¬ w = 4 from nw 4 (by decide)), yb_f, if_pos rfl]
      exact ⟨_, _, rfl, rfl, fun _ _ => rfl⟩
