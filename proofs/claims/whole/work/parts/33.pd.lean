/-! pure: the small methods of the reference -/
theorem y_whoAt {n d : Nat} {s : Nat → Int32} {a : Nat → Nat → Int32} (h4 : s 4 = nI n) (hn : n ≤ 8) (hd : d ≤ 8) (q : Int32) : fX6_whoAt s a (nI d) q = some (yn n (fun p => a 17 (8 * d + p)) q) := by
  unfold fX6_whoAt
  rw [h4]
  refine (zb1_t (a0 := yn n (fun p => a 17 (8 * d + p)) q) ?_ _).trans rfl
  refine zd2 (fun k x3 x4 => x3 = yn k (fun p => a 17 (8 * d + p)) q ∧ x4 = nI k) n ?_ ?_ 0 (Nat.zero_le _) ⟨rfl, rfl⟩
  · rintro k x3 x4 hk ⟨rfl, rfl⟩
    refine Or.inl ⟨_, _, ?_, rfl, rfl⟩
    have e : (8 : Int32) * nI d + nI k = nI (8 * d + k) := by rw [show (8 : Int32) = nI 8 from rfl, pk_mul, nI_add]
    rw [if_neg (nI_ge hk (by omega)), e, y_zin (show 8 * d + k < 72 by omega) (by decide), zck_e, nI_clamp (show 8 * d + k < 2 ^ 31 by omega), nI_1]
    by_cases c : a 17 (8 * d + k) = q
    · rw [if_pos c, zb1_e]
      show _ = some (Sum.inl (yn (k + 1) (fun p => a 17 (8 * d + p)) q, _))
      unfold yn
      rw [if_pos c]
    · rw [if_neg c, zb1_e]
      show _ = some (Sum.inl (yn (k + 1) (fun p => a 17 (8 * d + p)) q, _))
      conv => rhs; unfold yn
      rw [if_neg c]
  · rintro x3 x4 ⟨rfl, rfl⟩
    rw [if_pos (nI_le (Nat.le_refl n) (by omega))]
theorem y_onBoard {n d : Nat} {s : Nat → Int32} {a : Nat → Nat → Int32} (h4 : s 4 = nI n) (hn : n ≤ 8) (hd : d ≤ 8) : fX6_onBoard s a (nI d) = some (nI (yc n (fun p => a 17 (8 * d + p)))) := by
  unfold fX6_onBoard
  rw [h4]
  refine (zb1_t (a0 := nI (yc n (fun p => a 17 (8 * d + p)))) ?_ _).trans rfl
  refine zd2 (fun k x3 x4 => x3 = nI (yc k (fun p => a 17 (8 * d + p))) ∧ x4 = nI k) n ?_ ?_ 0 (Nat.zero_le _) ⟨rfl, rfl⟩
  · rintro k x3 x4 hk ⟨rfl, rfl⟩
    refine Or.inl ⟨_, _, ?_, rfl, rfl⟩
    have e : (8 : Int32) * nI d + nI k = nI (8 * d + k) := by rw [show (8 : Int32) = nI 8 from rfl, pk_mul, nI_add]
    rw [if_neg (nI_ge hk (by omega)), e, y_zin (show 8 * d + k < 72 by omega) (by decide), zck_e, nI_clamp (show 8 * d + k < 2 ^ 31 by omega), nI_1]
    show _ = some (Sum.inl (nI (yc k (fun p => a 17 (8 * d + p)) + (if a 17 (8 * d + k) = -1 then 0 else 1)), _))
    by_cases c : a 17 (8 * d + k) = -1
    · rw [if_pos c, if_pos c, zb1_e, zlt_e, show (0 : Int32) = nI 0 from rfl, nI_add]
    · rw [if_neg c, if_neg c, zb1_e, zlt_e, nI_1]
  · rintro x3 x4 ⟨rfl, rfl⟩
    rw [if_pos (nI_le (Nat.le_refl n) (by omega))]
theorem y_places {r c : Nat} {s : Nat → Int32} (h1 : s 1 = nI r) (h2 : s 2 = nI c) : fX6_places s = some (nI (r * c)) := by
  unfold fX6_places
  rw [h1, h2, pk_mul]
theorem y_sub1 (n : Nat) (hn : n < 2 ^ 30) : (nI n - 1).toInt = (n : Int) - 1 := pk_sub_toInt (a := n) (b := 1) hn (by decide)
theorem y_mIsPeg {n : Nat} {s : Nat → Int32} (h4 : s 4 = nI n) (hn : n ≤ 8) (x : Int32) : fX6_isPeg s x = some (yb (zin x n)) := by
  have e : (decide ((0 : Int32).toInt ≤ x.toInt ∧ x.toInt ≤ (nI n - 1).toInt)) = zin x n := by
    unfold zin
    rw [y_sub1 n (by omega), show (0 : Int32).toInt = 0 from rfl]
    exact decide_eq_decide.mpr ⟨fun h => ⟨h.1, by omega⟩, fun h => ⟨h.1, by omega⟩⟩
  unfold fX6_isPeg
  rw [h4, y_within, zb1_e, e]
  cases zin x n <;> rfl
theorem y_mIsPlace {r c : Nat} {s : Nat → Int32} (h1 : s 1 = nI r) (h2 : s 2 = nI c) (h12 : r * c ≤ 12) (x : Int32) : fX6_isPlace s x = some (yb (zin x (r * c))) := by
  have e : (decide ((0 : Int32).toInt ≤ x.toInt ∧ x.toInt ≤ (nI (r * c) - 1).toInt)) = zin x (r * c) := by
    unfold zin
    rw [y_sub1 (r * c) (by omega), show (0 : Int32).toInt = 0 from rfl]
    exact decide_eq_decide.mpr ⟨fun h => ⟨h.1, by omega⟩, fun h => ⟨h.1, by omega⟩⟩
  unfold fX6_isPlace
  rw [y_places h1 h2, zb1_e, y_within, zb1_e, e]
  cases zin x (r * c) <;> rfl
theorem y_apart (a b : Nat) (ha : a < 2 ^ 31) (hb : b < 2 ^ 31) : fX6_apart (nI a) (nI b) = some (nI (yap a b)) := by
  unfold fX6_apart yap
  by_cases h : b < a
  · rw [if_pos h, if_neg (nI_ge h ha), pk_sub (by omega)]
  · rw [if_neg h, if_pos (nI_le (by omega) hb), pk_sub (by omega)]
def ygs (k dr dc : Nat) : Bool := if dr + dc = 2 ∧ dr ≠ dc then ygo k true else if dr = 2 ∧ dc = 2 then ygo k false else false
theorem y_goesBy {k dr dc : Nat} (hk : k < 5) (h1 : dr < 4) (h2 : dc < 4) : fX6_goesBy (nI k) (nI dr) (nI dc) = some (yb (ygs k dr dc)) := by
  have h : (List.range 5).all (fun k => (List.range 4).all (fun dr => (List.range 4).all (fun dc => decide (fX6_goesBy (nI k) (nI dr) (nI dc) = some (yb (ygs k dr dc)))))) = true := by decide +kernel
  exact of_decide_eq_true (List.all_eq_true.mp (List.all_eq_true.mp (List.all_eq_true.mp h k (List.mem_range.mpr hk)) dr (List.mem_range.mpr h1)) dc (List.mem_range.mpr h2))
/-- the reference's numbers between calls: the board, the holes, the pegs, their kinds -/
def yM (r c n : Nat) (hb : Int32) (kd : Nat → Int32) (s : Nat → Int32) (a : Nat → Nat → Int32) : Prop := s 1 = nI r ∧ s 2 = nI c ∧ s 3 = hb ∧ s 4 = nI n ∧ n ≤ 8 ∧ (∀ p, p < n → a 5 p = kd p) ∧ ∀ p, p < n → ∃ k, k < 5 ∧ kd p = nI k
/-- the positions row by row -/
def yR (n d : Nat) (h : Nat → Int32) (a : Nat → Nat → Int32) : Prop := ∀ p, p < n → a 17 (8 * d + p) = h p
def ytj (c n : Nat) (kd h : Nat → Int32) (hb : Int32) (p t : Nat) : Option (Nat × Nat) := match yq (h p) with
  | none => none
  | some q => (ygeo c q t).bind (yj n kd h hb p)
def yO (n : Nat) (h : Nat → Int32) (o : Option (Nat × Nat)) : Int32 := match o with
  | none => -1
  | some x => yn n h (nI x.2)
theorem yJ_t {r c n : Nat} {kd h : Nat → Int32} {hb : Int32} {p : Nat} : (List.range (r * c)).filterMap (ytj c n kd h hb p) = yJ r c n kd h hb p := by
  unfold yJ
  cases hq : yq (h p) with
  | none =>
    have e1 : ytj c n kd h hb p = fun _ => none := by funext t; unfold ytj; rw [hq]
    rw [e1]
    simp
  | some q =>
    have e1 : ytj c n kd h hb p = fun t => (ygeo c q t).bind (yj n kd h hb p) := by funext t; unfold ytj; rw [hq]
    rw [e1]
    show _ = (ygeoL r c q).filterMap (yj n kd h hb p)
    unfold ygeoL
    rw [List.filterMap_filterMap]
theorem yap_lt {a b N : Nat} (ha : a < N) (hb : b < N) : yap a b < N := by unfold yap; split <;> omega
theorem y_overBy {r c n d : Nat} {hb : Int32} {kd h s : Nat → Int32} {a : Nat → Nat → Int32} (hB : yB r c) (hM : yM r c n hb kd s a) (hR : yR n d h a) (hH : yH (r * c) n h) (hd : d ≤ 8) {p t : Nat} (hp : p < n) (ht : t < r * c) : fX6_overBy s a (nI d) (nI p) (nI t) = some (yO n h (ytj c n kd h hb p t)) := by
  obtain ⟨m1, m2, m3, m4, hn, m5, m6⟩ := hM
  have h12 := hB.2.2.2.2
  have hc2 := hB.2.2.1
  have hc4 := hB.2.2.2.1
  have hr4 := hB.2.1
  obtain ⟨k, hk, ek⟩ := m6 p hp
  have e : (8 : Int32) * nI d + nI p = nI (8 * d + p) := by rw [show (8 : Int32) = nI 8 from rfl, pk_mul, nI_add]
  have hw : ∀ x, yn n (fun p => a 17 (8 * d + p)) x = yn n h x := fun x => yn_congr (fun p hp => hR p hp) x
  unfold fX6_overBy
  rw [e, y_zin (show 8 * d + p < 72 by omega) (by decide), zck_e, nI_clamp (show 8 * d + p < 2 ^ 31 by omega), hR p hp, zlt_e, m2, m3]
  rcases hH.1 p hp with e0 | ⟨q, hq, e0⟩
  · rw [if_pos e0]
    unfold ytj
    rw [e0, yq_m]
    rfl
  · have et : ytj c n kd h hb p t = (ygeo c q t).bind (yj n kd h hb p) := by unfold ytj; rw [e0, yq_n (by omega)]
    rw [e0, if_neg (y_nIm q (by omega)), y_isIn, zb1_e, et]
    have eok : ∀ m st, yok n kd h hb p (t, m, st) = (decide (yn n h (nI m) ≠ -1) && ygo k st && decide (kd (yn n h (nI m)).toNatClampNeg ≠ 2) && ybit hb t && decide (yn n h (nI t) = -1)) := by
      intro m st
      unfold yok
      rw [ek, nI_clamp (by omega)]
    cases hbt : ybit hb t with
    | false =>
      rw [yb_f, if_pos rfl]
      have : (ygeo c q t).bind (yj n kd h hb p) = none := by
        cases hg : ygeo c q t with
        | none => rfl
        | some x =>
          obtain ⟨t', m, st⟩ := x
          have ht' : t' = t := by
            unfold ygeo at hg
            split at hg
            · cases hg; rfl
            · split at hg
              · cases hg; rfl
              · cases hg
          subst ht'
          show yj n kd h hb p (t', m, st) = none
          unfold yj
          rw [eok, hbt]
          simp
      rw [this]
      rfl
    | true =>
      rw [yb_t, if_neg n10, y_whoAt m4 hn hd, zb1_e, hw]
      by_cases hwt : yn n h (nI t) = -1
      · rw [if_pos hwt, y_zin (show p < 8 by omega) (by decide), zck_e]
        have zc : zne (nI c) = true := decide_eq_true (nI_ne0 (by omega) (by omega))
        have h1 : q / c < 4 := by
          have : q / c < r := Nat.div_lt_of_lt_mul (by rw [Nat.mul_comm]; exact hq)
          omega
        have h2 : t / c < 4 := by
          have : t / c < r := Nat.div_lt_of_lt_mul (by rw [Nat.mul_comm]; exact ht)
          omega
        have h3 : q % c < 4 := by have := Nat.mod_lt q (show 0 < c by omega); omega
        have h4 : t % c < 4 := by have := Nat.mod_lt t (show 0 < c by omega); omega
        have g1 := yap_lt h1 h2
        have g2 := yap_lt h3 h4
        rw [zc, zck_e, zck_e, pk_div (by omega) (by omega) (by omega), pk_div (by omega) (by omega) (by omega), y_apart _ _ (by omega) (by omega), zb1_e, zck_e, zck_e]
        have r1 : nI q - nI (q / c) * nI c = nI (q % c) := by rw [← pk_div (by omega) (by omega) (by omega)]; exact pk_rem (by omega) (by omega) (by omega)
        have r2 : nI t - nI (t / c) * nI c = nI (t % c) := by rw [← pk_div (by omega) (by omega) (by omega)]; exact pk_rem (by omega) (by omega) (by omega)
        rw [r1, r2, y_apart _ _ (by omega) (by omega), zb1_e, nI_clamp (show p < 2 ^ 31 by omega), m5 p hp, ek, y_goesBy hk g1 g2, zb1_e]
        have hmid : (nI q + nI t) / (2 : Int32) = nI ((q + t) / 2) := by rw [nI_add, show (2 : Int32) = nI 2 from rfl, pk_div (by omega) (by omega) (by omega)]
        rw [hmid]
        have fin : ∀ st, ygo k st = true → (ygeo c q t).bind (yj n kd h hb p) = yj n kd h hb p (t, (q + t) / 2, st) → zb1 (fX6_whoAt s a (nI d) (nI ((q + t) / 2))) (fun (r22 : Int32) => zjn (fun (_ : Unit) => some (-1 : Int32)) (fun J119 => if r22 = (-1 : Int32) then J119 () else zck (zin r22 8) (if ((a 5) (r22).toNatClampNeg) = (2 : Int32) then J119 () else some r22))) = some (yO n h ((ygeo c q t).bind (yj n kd h hb p))) := by
          intro st hst hbd
          rw [y_whoAt m4 hn hd, zb1_e, hw, zjn_e, hbd]
          unfold yj
          rw [eok, hst, hbt, decide_eq_true hwt]
          rcases yn_cases n h (nI ((q + t) / 2)) with ⟨f1, _⟩ | ⟨p', f1, f2, f3⟩
          · rw [f1, if_pos rfl]
            simp [yO]
          · rw [f3, if_neg (y_nIm p' (by omega)), y_zin (show p' < 8 by omega) (by decide), zck_e, nI_clamp (show p' < 2 ^ 31 by omega), m5 p' f1]
            have e1 : decide (nI p' ≠ -1) = true := decide_eq_true (y_nIm p' (by omega))
            rw [e1]
            by_cases h2 : kd p' = 2
            · rw [if_pos h2, decide_eq_false (fun x => x h2)]
              simp [yO]
            · rw [if_neg h2, decide_eq_true h2]
              simp [yO, f3]
        unfold ygs
        by_cases hs : yap (q / c) (t / c) + yap (q % c) (t % c) = 2 ∧ yap (q / c) (t / c) ≠ yap (q % c) (t % c)
        · rw [if_pos hs]
          have eg : ygeo c q t = some (t, (q + t) / 2, true) := by unfold ygeo; rw [if_pos hs]
          cases hg : ygo k true with
          | true => rw [yb_t, if_neg n10]; exact fin true hg (by rw [eg]; rfl)
          | false =>
            rw [yb_f, if_pos rfl, eg]
            show _ = some (yO n h (yj n kd h hb p (t, (q + t) / 2, true)))
            unfold yj
            rw [eok, hg]
            simp [yO]
        · rw [if_neg hs]
          by_cases hs2 : yap (q / c) (t / c) = 2 ∧ yap (q % c) (t % c) = 2
          · rw [if_pos hs2]
            have eg : ygeo c q t = some (t, (q + t) / 2, false) := by unfold ygeo; rw [if_neg hs, if_pos hs2]
            cases hg : ygo k false with
            | true => rw [yb_t, if_neg n10]; exact fin false hg (by rw [eg]; rfl)
            | false =>
              rw [yb_f, if_pos rfl, eg]
              show _ = some (yO n h (yj n kd h hb p (t, (q + t) / 2, false)))
              unfold yj
              rw [eok, hg]
              simp [yO]
          · rw [if_neg hs2, yb_f, if_pos rfl]
            have eg : ygeo c q t = none := by unfold ygeo; rw [if_neg hs, if_neg hs2]
            rw [eg]
            rfl
      · rw [if_neg hwt]
        have : (ygeo c q t).bind (yj n kd h hb p) = none := by
          cases hg : ygeo c q t with
          | none => rfl
          | some x =>
            obtain ⟨t', m, st⟩ := x
            have ht' : t' = t := by
              unfold ygeo at hg
              split at hg
              · cases hg; rfl
              · split at hg
                · cases hg; rfl
                · cases hg
            subst ht'
            show yj n kd h hb p (t', m, st) = none
            unfold yj
            rw [eok, decide_eq_false hwt]
            simp
        rw [this]
        rfl
