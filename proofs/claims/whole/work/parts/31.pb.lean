/-! pure: the board's geometry, two ways -/
theorem zb1_e {A0 ρ : Type} (a : A0) (k : A0 → Option ρ) : zb1 (some a) k = k a := rfl
theorem zb2_e {A0 A1 ρ : Type} (a : A0) (b : A1) (k : A0 → A1 → Option ρ) : zb2 (some (a, b)) k = k a b := rfl
theorem zb3_e {A0 A1 A2 ρ : Type} (a : A0) (b : A1) (c : A2) (k : A0 → A1 → A2 → Option ρ) : zb3 (some (a, b, c)) k = k a b c := rfl
theorem zb4_e {A0 A1 A2 A3 ρ : Type} (a : A0) (b : A1) (c : A2) (d : A3) (k : A0 → A1 → A2 → A3 → Option ρ) : zb4 (some (a, b, c, d)) k = k a b c d := rfl
theorem zck_e {ρ : Type} (k : Option ρ) : zck true k = k := rfl
theorem zlt_e {α ρ : Type} (e : α) (k : α → Option ρ) : zlt e k = k e := rfl
theorem zjn_e {α ρ : Type} (e : α) (k : α → Option ρ) : zjn e k = k e := rfl
theorem zbs_l {α β ρ : Type} (a : α) (k1 : α → Option ρ) (k2 : β → Option ρ) : zbs (some (.inl a)) k1 k2 = k1 a := rfl
theorem zbs_r {α β ρ : Type} (b : β) (k1 : α → Option ρ) (k2 : β → Option ρ) : zbs (some (.inr b)) k1 k2 = k2 b := rfl
def yrs : Nat → Int := fun k => match k with | 0 => -1 | 1 => -1 | 2 => -1 | 3 => 0 | 4 => 0 | 5 => 1 | 6 => 1 | _ => 1
def ycs : Nat → Int := fun k => match k with | 0 => -1 | 1 => 0 | 2 => 1 | 3 => -1 | 4 => 1 | 5 => -1 | 6 => 0 | _ => 1
/-- the place beside, in a direction -/
def ynbN (r c q d : Nat) : Option Nat :=
  if 0 ≤ ((q / c : Nat) : Int) + yrs d ∧ ((q / c : Nat) : Int) + yrs d < (r : Int) ∧ 0 ≤ ((q % c : Nat) : Int) + ycs d ∧ ((q % c : Nat) : Int) + ycs d < (c : Int) then some ((((q / c : Nat) : Int) + yrs d) * (c : Int) + (((q % c : Nat) : Int) + ycs d)).toNat else none
def yI (o : Option Nat) : Int32 := match o with | none => -1 | some m => nI m
/-- straight is a direction -/
def ystr (d : Nat) : Bool := d == 1 || d == 3 || d == 4 || d == 6
def yto (r c q d : Nat) : Option (Nat × Nat × Bool) := match ynbN r c q d with
  | none => none
  | some m => match ynbN r c m d with
    | none => none
    | some t => some (t, m, ystr d)
theorem yto_m {r c q d m : Nat} (hm : ynbN r c q d = some m) : yto r c q d = (ynbN r c m d).map (fun t => (t, m, ystr d)) := by
  unfold yto
  rw [hm]
  show (match ynbN r c m d with | none => none | some t => some (t, m, ystr d)) = _
  cases ynbN r c m d <;> rfl
def yap (a b : Nat) : Nat := if b < a then a - b else b - a
/-- from place q to place t: straight, aslant or not at all; over which -/
def ygeo (c q t : Nat) : Option (Nat × Nat × Bool) :=
  if yap (q / c) (t / c) + yap (q % c) (t % c) = 2 ∧ yap (q / c) (t / c) ≠ yap (q % c) (t % c) then some (t, (q + t) / 2, true)
  else if yap (q / c) (t / c) = 2 ∧ yap (q % c) (t % c) = 2 then some (t, (q + t) / 2, false) else none
/-- the boards that there are -/
def yB (r c : Nat) : Prop := 2 ≤ r ∧ r ≤ 4 ∧ 2 ≤ c ∧ c ≤ 4 ∧ r * c ≤ 12
def ygeoL (r c q : Nat) : List (Nat × Nat × Bool) := (List.range (r * c)).filterMap (ygeo c q)
def ygchk (r c : Nat) : Bool := (List.range (r * c)).all (fun q => decide ((List.range 8).filterMap (yto r c q) = ygeoL r c q) && (ygeoL r c q).all (fun x => decide (x.1 < r * c) && decide (x.2.1 < r * c) && decide (x.2.1 ≠ q) && decide (x.1 ≠ q) && decide (x.1 ≠ x.2.1)) && (List.range 8).all (fun d => match yto r c q d with | none => true | some x => decide (ynbN r c q d = some x.2.1)))
theorem ygchk_all : (ygchk 2 2 && ygchk 2 3 && ygchk 2 4 && ygchk 3 2 && ygchk 3 3 && ygchk 3 4 && ygchk 4 2 && ygchk 4 3) = true := by decide +kernel
theorem ygchk_ok {r c : Nat} (h : yB r c) : ygchk r c = true := by
  have h0 := ygchk_all
  simp only [Bool.and_eq_true] at h0
  obtain ⟨⟨⟨⟨⟨⟨⟨h1, h2⟩, h3⟩, h4⟩, h5⟩, h6⟩, h7⟩, h8⟩ := h0
  obtain ⟨a, b, c1, d, e⟩ := h
  rcases (show r = 2 ∨ r = 3 ∨ r = 4 by omega) with rfl | rfl | rfl <;> rcases (show c = 2 ∨ c = 3 ∨ c = 4 by omega) with rfl | rfl | rfl <;> first | assumption | (exfalso; omega)
theorem yto_list {r c q : Nat} (h : yB r c) (hq : q < r * c) : (List.range 8).filterMap (yto r c q) = ygeoL r c q := by
  have h0 := List.all_eq_true.mp (ygchk_ok h) q (List.mem_range.mpr hq)
  simp only [Bool.and_eq_true, decide_eq_true_eq] at h0
  exact h0.1.1
theorem ygeo_mem {r c q : Nat} (h : yB r c) (hq : q < r * c) {x : Nat × Nat × Bool} (hx : x ∈ ygeoL r c q) : x.1 < r * c ∧ x.2.1 < r * c ∧ x.2.1 ≠ q ∧ x.1 ≠ q ∧ x.1 ≠ x.2.1 := by
  have h0 := List.all_eq_true.mp (ygchk_ok h) q (List.mem_range.mpr hq)
  simp only [Bool.and_eq_true, decide_eq_true_eq] at h0
  have h1 := List.all_eq_true.mp h0.1.2 x hx
  simp only [Bool.and_eq_true, decide_eq_true_eq] at h1
  exact ⟨h1.1.1.1.1, h1.1.1.1.2, h1.1.1.2, h1.1.2, h1.2⟩
theorem yto_nb {r c q d : Nat} (h : yB r c) (hq : q < r * c) (hd : d < 8) {x : Nat × Nat × Bool} (hx : yto r c q d = some x) : ynbN r c q d = some x.2.1 := by
  have h0 := List.all_eq_true.mp (ygchk_ok h) q (List.mem_range.mpr hq)
  simp only [Bool.and_eq_true, decide_eq_true_eq] at h0
  have h1 := List.all_eq_true.mp h0.2 d (List.mem_range.mpr hd)
  rw [hx] at h1
  exact of_decide_eq_true h1
theorem ynbN_lt {r c q d m : Nat} (h : ynbN r c q d = some m) : m < r * c := by
  unfold ynbN at h
  by_cases e : 0 ≤ ((q / c : Nat) : Int) + yrs d ∧ ((q / c : Nat) : Int) + yrs d < (r : Int) ∧ 0 ≤ ((q % c : Nat) : Int) + ycs d ∧ ((q % c : Nat) : Int) + ycs d < (c : Int)
  · rw [if_pos e] at h
    obtain ⟨e1, e2, e3, e4⟩ := e
    generalize ((q / c : Nat) : Int) + yrs d = i at *
    generalize ((q % c : Nat) : Int) + ycs d = j at *
    obtain ⟨i, rfl⟩ := Int.eq_ofNat_of_zero_le e1
    obtain ⟨j, rfl⟩ := Int.eq_ofNat_of_zero_le e3
    have hm : m = i * c + j := by
      have := (Option.some.inj h).symm
      rw [this]
      have e5 : ((i : Int) * (c : Int) + (j : Int)) = ((i * c + j : Nat) : Int) := by rw [Int.natCast_add, Int.natCast_mul]
      rw [e5, Int.toNat_natCast]
    have hi : i + 1 ≤ r := by omega
    have := Nat.mul_le_mul_right c hi
    rw [Nat.add_mul, Nat.one_mul] at this
    omega
  · rw [if_neg e] at h; cases h
/-! the class's grid and state, as they are between calls -/
def yG (r c : Nat) (s : Nat → Int32) (a : Nat → Nat → Int32) : Prop := s 0 = nI r ∧ s 1 = nI c ∧ s 2 = nI (r * c) ∧ ∀ q d, q < r * c → d < 8 → a 3 (q * 8 + d) = yI (ynbN r c q d)
def yS (pl n : Nat) (s : Nat → Int32) (a : Nat → Nat → Int32) : Prop := s 2 = nI n ∧ n ≤ 8 ∧ (∀ p, p < n → ∃ k, k < 5 ∧ a 5 p = nI k) ∧ yH pl n (a 6) ∧ (∀ q, q < pl → a 7 q = yn n (a 6) (nI q)) ∧ s 3 = nI (yc n (a 6))
def ybit (x : Int32) (k : Nat) : Bool := decide (((x >>> (nI k &&& 31)) &&& (1 : Int32)) = 1)
theorem y_hasBit (x : Int32) {k : Nat} (hk : k < 2 ^ 31) : fX5_hasBit x (nI k) = some (yb (ybit x k)) := by
  unfold fX5_hasBit yb ybit
  rw [if_neg (nI_pos hk)]
  by_cases h : ((x >>> (nI k &&& 31)) &&& (1 : Int32)) = 1
  · rw [if_pos h, if_pos (decide_eq_true h)]
  · rw [if_neg h, if_neg (by rw [decide_eq_true_eq]; exact h)]
theorem y_isIn (x : Int32) {k : Nat} : fX6_isIn x (nI k) = some (yb (ybit x k)) := by
  unfold fX6_isIn yb ybit
  by_cases h : ((x >>> (nI k &&& 31)) &&& (1 : Int32)) = 1
  · rw [if_pos h, if_pos (decide_eq_true h)]
  · rw [if_neg h, if_neg (by rw [decide_eq_true_eq]; exact h)]
/-- which kinds go straight, aslant -/
def ygo (k : Nat) (st : Bool) : Bool := if st = true then k != 1 else k == 1 || k == 4
theorem y_goes {k d : Nat} (hk : k < 5) (hd : d < 8) : fX5_kindGoes (nI k) (nI d) = some (yb (ygo k (ystr d))) := by
  have h : (List.range 5).all (fun k => (List.range 8).all (fun d => decide (fX5_kindGoes (nI k) (nI d) = some (yb (ygo k (ystr d)))))) = true := by decide +kernel
  exact of_decide_eq_true (List.all_eq_true.mp (List.all_eq_true.mp h k (List.mem_range.mpr hk)) d (List.mem_range.mpr hd))
theorem y_over {k : Nat} (hk : k < 5) : fX5_kindCould (nI k) 2 = some (yb (k != 2)) := by
  have h : (List.range 5).all (fun k => decide (fX5_kindCould (nI k) 2 = some (yb (k != 2)))) = true := by decide +kernel
  exact of_decide_eq_true (List.all_eq_true.mp h k (List.mem_range.mpr hk))
theorem y_stay {k : Nat} (hk : k < 5) : fX5_kindCould (nI k) 3 = some (yb (k != 3)) := by
  have h : (List.range 5).all (fun k => decide (fX5_kindCould (nI k) 3 = some (yb (k != 3)))) = true := by decide +kernel
  exact of_decide_eq_true (List.all_eq_true.mp h k (List.mem_range.mpr hk))
theorem n10 : ¬ (1 : Int32) = 0 := by decide
theorem nm0 : ¬ (-1 : Int32) = 0 := by decide
theorem n0m : ¬ (0 : Int32) = -1 := by decide
theorem y_next {r c : Nat} {s : Nat → Int32} {a : Nat → Nat → Int32} (hG : yG r c s a) (h12 : r * c ≤ 12) {q d : Nat} (hq : q < r * c) (hd : d < 8) : fX0_next s a (nI q) (nI d) = some (yI (ynbN r c q d)) := by
  have e : nI q * (8 : Int32) + nI d = nI (q * 8 + d) := by rw [show (8 : Int32) = nI 8 from rfl, pk_mul, nI_add]
  have c1 : ¬ (8 : Int32) ≤ nI d := nI_ge (b := 8) hd (by omega)
  simp only [fX0_next, y_has hG.2.2.1 h12, zb1_e, zjn_e, y_zin hq (show r * c < 2 ^ 31 by omega), yb_t, if_neg n10, if_neg (nI_pos (show d < 2 ^ 31 by omega)), if_neg c1, e, y_zin (show q * 8 + d < 96 by omega) (show 96 < 2 ^ 31 by decide), zck_e, nI_clamp (show q * 8 + d < 2 ^ 31 by omega)]
  rw [hG.2.2.2 q d hq hd]
theorem y_nextm {r c : Nat} {s : Nat → Int32} {a : Nat → Nat → Int32} (hG : yG r c s a) (h12 : r * c ≤ 12) (x : Int32) : fX0_next s a (-1) x = some (-1) := by
  simp only [fX0_next, y_has hG.2.2.1 h12, zb1_e, zjn_e, y_zinm, yb_f, if_pos]
theorem y_pegIn {r c n : Nat} {s gs : Nat → Int32} {a ga : Nat → Nat → Int32} (hG : yG r c gs ga) (h12 : r * c ≤ 12) (hS : yS (r * c) n s a) {q : Nat} (hq : q < r * c) : fX4_pegIn a gs (nI q) = some (yn n (a 6) (nI q)) := by
  simp only [fX4_pegIn, y_has hG.2.2.1 h12, zb1_e, y_zin hq (show r * c < 2 ^ 31 by omega), yb_t, if_neg n10, y_zin (show q < 12 by omega) (show 12 < 2 ^ 31 by decide), zck_e, nI_clamp (show q < 2 ^ 31 by omega), hS.2.2.2.2.1 q hq]
theorem y_pegInm {r c : Nat} {gs : Nat → Int32} {a ga : Nat → Nat → Int32} (hG : yG r c gs ga) (h12 : r * c ≤ 12) : fX4_pegIn a gs (-1) = some (-1) := by
  simp only [fX4_pegIn, y_has hG.2.2.1 h12, zb1_e, y_zinm, yb_f, if_pos]
theorem y_kindOf {pl n : Nat} {s : Nat → Int32} {a : Nat → Nat → Int32} (hS : yS pl n s a) {p : Nat} (hp : p < n) : fX4_kindOf s a (nI p) = some (a 5 p) := by
  have := hS.2.1
  simp only [fX4_kindOf, y_isPeg hS.1 hS.2.1, zb1_e, y_zin hp (show n < 2 ^ 31 by omega), yb_t, if_neg n10, y_zin (show p < 8 by omega) (show 8 < 2 ^ 31 by decide), zck_e, nI_clamp (show p < 2 ^ 31 by omega)]
theorem y_homeOf {pl n : Nat} {s : Nat → Int32} {a : Nat → Nat → Int32} (hS : yS pl n s a) {p : Nat} (hp : p < n) : fX4_homeOf s a (nI p) = some (a 6 p) := by
  have := hS.2.1
  simp only [fX4_homeOf, y_isPeg hS.1 hS.2.1, zb1_e, y_zin hp (show n < 2 ^ 31 by omega), yb_t, if_neg n10, y_zin (show p < 8 by omega) (show 8 < 2 ^ 31 by decide), zck_e, nI_clamp (show p < 2 ^ 31 by omega)]
theorem y_empty {r c n : Nat} {s gs : Nat → Int32} {a ga : Nat → Nat → Int32} (hG : yG r c gs ga) (h12 : r * c ≤ 12) (hS : yS (r * c) n s a) {q : Nat} (hq : q < r * c) : fX4_isEmptyHole s a gs (nI q) = some (yb (ybit (s 1) q && decide (yn n (a 6) (nI q) = -1))) := by
  simp only [fX4_isEmptyHole, y_has hG.2.2.1 h12, zb1_e, y_zin hq (show r * c < 2 ^ 31 by omega), yb_t, if_neg n10, y_hasBit (s 1) (show q < 2 ^ 31 by omega)]
  cases hb : ybit (s 1) q with
  | false => simp only [yb_f, if_pos, Bool.false_and]
  | true =>
    simp only [yb_t, if_neg n10, y_zin (show q < 12 by omega) (show 12 < 2 ^ 31 by decide), zck_e, nI_clamp (show q < 2 ^ 31 by omega), hS.2.2.2.2.1 q hq, Bool.true_and]
    by_cases h : yn n (a 6) (nI q) = -1
    · rw [if_pos h, decide_eq_true h]; rfl
    · rw [if_neg h, decide_eq_false h]; rfl
theorem y_emptym {r c : Nat} {s gs : Nat → Int32} {a ga : Nat → Nat → Int32} (hG : yG r c gs ga) (h12 : r * c ≤ 12) : fX4_isEmptyHole s a gs (-1) = some 0 := by
  simp only [fX4_isEmptyHole, y_has hG.2.2.1 h12, zb1_e, y_zinm, yb_f, if_pos]
theorem y_isHole {r c : Nat} {s gs : Nat → Int32} {ga : Nat → Nat → Int32} (hG : yG r c gs ga) (h12 : r * c ≤ 12) {q : Nat} (hq : q < r * c) : fX4_isHole s gs (nI q) = some (yb (ybit (s 1) q)) := by
  simp only [fX4_isHole, y_has hG.2.2.1 h12, zb1_e, y_zin hq (show r * c < 2 ^ 31 by omega), yb_t, if_neg n10, y_hasBit (s 1) (show q < 2 ^ 31 by omega)]
  cases hb : ybit (s 1) q with
  | false => simp only [yb_f, if_pos]
  | true => simp only [yb_t, if_neg n10]; rfl
/-- whether a peg may go so: somebody who is no stone to be jumped over, its kind goes that way, an empty hole behind -/
def yok (n : Nat) (kd h : Nat → Int32) (hb : Int32) (p : Nat) (x : Nat × Nat × Bool) : Bool :=
  decide (yn n h (nI x.2.1) ≠ -1) && ygo (kd p).toNatClampNeg x.2.2 && decide (kd (yn n h (nI x.2.1)).toNatClampNeg ≠ 2) && ybit hb x.1 && decide (yn n h (nI x.1) = -1)
def yj (n : Nat) (kd h : Nat → Int32) (hb : Int32) (p : Nat) (x : Nat × Nat × Bool) : Option (Nat × Nat) := if yok n kd h hb p x = true then some (x.1, x.2.1) else none
def yq (x : Int32) : Option Nat := if x = -1 then none else some x.toNatClampNeg
/-- where a peg can jump, over which places -/
def yJ (r c n : Nat) (kd h : Nat → Int32) (hb : Int32) (p : Nat) : List (Nat × Nat) := match yq (h p) with
  | none => []
  | some q => (ygeoL r c q).filterMap (yj n kd h hb p)
def yd (r c n : Nat) (kd h : Nat → Int32) (hb : Int32) (p d : Nat) : Option (Nat × Nat) := match yq (h p) with
  | none => none
  | some q => (yto r c q d).bind (yj n kd h hb p)
theorem yq_m : yq (-1) = none := by unfold yq; rw [if_pos rfl]
theorem yq_n {q : Nat} (hq : q < 2 ^ 31) : yq (nI q) = some q := by unfold yq; rw [if_neg (y_nIm q hq), nI_clamp hq]
theorem yJ_d {r c n : Nat} {kd h : Nat → Int32} {hb : Int32} {p : Nat} (hB : yB r c) (hH : yH (r * c) n h) (hp : p < n) : (List.range 8).filterMap (yd r c n kd h hb p) = yJ r c n kd h hb p := by
  rcases hH.1 p hp with e | ⟨q, hq, e⟩
  · have e1 : yd r c n kd h hb p = fun _ => none := by funext d; unfold yd; rw [e, yq_m]
    unfold yJ
    rw [e1, e, yq_m]
    rfl
  · have h12 := hB.2.2.2.2
    have e1 : yd r c n kd h hb p = fun d => (yto r c q d).bind (yj n kd h hb p) := by funext d; unfold yd; rw [e, yq_n (by omega)]
    unfold yJ
    rw [e1, e, yq_n (by omega)]
    show _ = (ygeoL r c q).filterMap (yj n kd h hb p)
    rw [← yto_list hB hq, List.filterMap_filterMap]
theorem y_target {r c n : Nat} {s gs : Nat → Int32} {a ga : Nat → Nat → Int32} (hB : yB r c) (hG : yG r c gs ga) (hS : yS (r * c) n s a) {p d : Nat} (hp : p < n) (hd : d < 8) : fX4_targetOf s a gs ga (nI p) (nI d) = some (yI ((yd r c n (a 5) (a 6) (s 1) p d).map Prod.fst)) := by
  have h12 := hB.2.2.2.2
  have hn := hS.2.1
  obtain ⟨k, hk, ek⟩ := hS.2.2.1 p hp
  unfold fX4_targetOf
  rw [y_homeOf hS hp, zb1_e]
  rcases hS.2.2.2.1.1 p hp with e | ⟨q, hq, e⟩
  · have e1 : yd r c n (a 5) (a 6) (s 1) p d = none := by unfold yd; rw [e, yq_m]
    rw [e, e1, y_nextm hG h12, zb1_e, y_pegInm hG h12, zb1_e, if_pos rfl]
    rfl
  · have e1 : yd r c n (a 5) (a 6) (s 1) p d = (yto r c q d).bind (yj n (a 5) (a 6) (s 1) p) := by unfold yd; rw [e, yq_n (by omega)]
    rw [e, e1, y_next hG h12 hq hd, zb1_e]
    cases hm : ynbN r c q d with
    | none =>
      have e2 : yto r c q d = none := by unfold yto; rw [hm]
      rw [e2]
      show zb1 (fX4_pegIn a gs (-1)) _ = _
      rw [y_pegInm hG h12, zb1_e, if_pos rfl]
      rfl
    | some m =>
      have hml := ynbN_lt hm
      show zb1 (fX4_pegIn a gs (nI m)) _ = _
      rw [y_pegIn hG h12 hS hml, zb1_e]
      rcases yn_cases n (a 6) (nI m) with ⟨f1, _⟩ | ⟨p', f1, f2, f3⟩
      · rw [if_pos f1]
        have e2 : (yto r c q d).bind (yj n (a 5) (a 6) (s 1) p) = none := by
          rw [yto_m hm]
          cases ynbN r c m d with
          | none => rfl
          | some t =>
            show yj n (a 5) (a 6) (s 1) p (t, m, ystr d) = none
            unfold yj yok
            simp only [f1, ne_eq, not_true_eq_false, decide_false, Bool.false_and, Bool.false_eq_true, if_false]
        rw [e2]
        rfl
      · obtain ⟨k', hk', ek'⟩ := hS.2.2.1 p' f1
        rw [f3, if_neg (y_nIm p' (by omega)), y_kindOf hS hp, zb1_e, ek, y_goes hk hd, zb1_e]
        have eok : ∀ t, yok n (a 5) (a 6) (s 1) p (t, m, ystr d) = (ygo k (ystr d) && (k' != 2) && ybit (s 1) t && decide (yn n (a 6) (nI t) = -1)) := by
          intro t
          unfold yok
          have g1 : decide (yn n (a 6) (nI m) ≠ -1) = true := decide_eq_true (by rw [f3]; exact y_nIm p' (by omega))
          have g2 : decide (a 5 (yn n (a 6) (nI m)).toNatClampNeg ≠ 2) = (k' != 2) := by
            rw [f3, nI_clamp (by omega), ek']
            have : (List.range 5).all (fun k => decide (nI k ≠ 2) == (k != 2)) = true := by decide +kernel
            exact eq_of_beq (List.all_eq_true.mp this k' (List.mem_range.mpr hk'))
          rw [show (t, m, ystr d).2.1 = m from rfl, show (t, m, ystr d).1 = t from rfl, show (t, m, ystr d).2.2 = ystr d from rfl, g1, g2, ek, nI_clamp (by omega), Bool.true_and]
        cases hgo : ygo k (ystr d) with
        | false =>
          rw [yb_f, if_pos rfl]
          have e2 : (yto r c q d).bind (yj n (a 5) (a 6) (s 1) p) = none := by
            rw [yto_m hm]
            cases ynbN r c m d with
            | none => rfl
            | some t =>
              show yj n (a 5) (a 6) (s 1) p (t, m, ystr d) = none
              unfold yj
              rw [eok t, hgo]
              rfl
          rw [e2]; rfl
        | true =>
          rw [yb_t, if_neg n10, y_kindOf hS f1, zb1_e, ek', y_over hk', zb1_e]
          cases hov : (k' != 2) with
          | false =>
            rw [yb_f, if_pos rfl]
            have e2 : (yto r c q d).bind (yj n (a 5) (a 6) (s 1) p) = none := by
              rw [yto_m hm]
              cases ynbN r c m d with
              | none => rfl
              | some t =>
                show yj n (a 5) (a 6) (s 1) p (t, m, ystr d) = none
                unfold yj
                rw [eok t, hgo, hov]
                rfl
            rw [e2]; rfl
          | true =>
            rw [yb_t, if_neg n10]
            show zb1 (fX0_next gs ga (nI m) (nI d)) _ = _
            rw [y_next hG h12 hml hd, zb1_e]
            rw [yto_m hm]
            cases ht : ynbN r c m d with
            | none =>
              show zb1 (fX4_isEmptyHole s a gs (-1)) _ = _
              rw [y_emptym hG h12, zb1_e, if_pos rfl]
              rfl
            | some t =>
              have htl := ynbN_lt ht
              show zb1 (fX4_isEmptyHole s a gs (nI t)) _ = some (yI ((yj n (a 5) (a 6) (s 1) p (t, m, ystr d)).map Prod.fst))
              rw [y_empty hG h12 hS htl, zb1_e]
              unfold yj
              rw [eok t, hgo, hov, Bool.true_and, Bool.true_and]
              cases (ybit (s 1) t && decide (yn n (a 6) (nI t) = -1)) with
              | false => rw [yb_f, if_pos rfl]; rfl
              | true => rw [yb_t, if_neg n10]; rfl
