/-! pure: as, place, be, jump, put, plug, bore -/
theorem yIV_f {r c n b : Nat} {Xs X' Ps : Nat → Int32} {Pa : Nat → Nat → Int32} {Gs : Nat → Int32} {Ga : Nat → Nat → Int32} {Ns N' : Nat → Int32} {Na A' : Nat → Nat → Int32} {Qs : Nat → Int32} {Qa : Nat → Nat → Int32} {Ks : Nat → Int32} {Ka : Nat → Nat → Int32} {Ls : Nat → Int32} {La : Nat → Nat → Int32} {os os' : Nat → Nat → Int32} {Ms M' : Nat → Int32} {Ma B' : Nat → Nat → Int32} (h : yIV r c n b Xs Ps Pa Gs Ga Ns Na Qs Qa Ks Ka Ls La os Ms Ma) (eX : ∀ i, i ≠ 10 → X' i = Xs i) (eM : ∀ i, i ≠ 3 → i ≠ 7 → M' i = Ms i) (eA : ∀ i, i ≠ 5 → i ≠ 6 → (i < 17 ∨ 27 < i) → B' i = Ma i) (hS : yVS r c n N' A' (M' 3) (M' 7) (B' 5) (B' 6)) (hO : yVO r c n (X' 10) N' A' os') : yIV r c n b X' Ps Pa Gs Ga N' A' Qs Qa Ks Ka Ls La os' M' B' := by
  obtain ⟨h1, h2, h3, h4, h5, h6, h7, h8, h9⟩ := h
  refine ⟨h1, h2, ?_, hS, ?_, ?_, ?_, ?_, hO⟩
  · unfold yVM at *
    rw [eX 11 (by decide), eM 0 (by decide) (by decide), eM 1 (by decide) (by decide), eM 2 (by decide) (by decide), eM 4 (by decide) (by decide)]
    exact h3
  · rw [eX 12 (by decide), eM 8 (by decide) (by decide)]; exact h5
  · rw [eM 9 (by decide) (by decide), eA 10 (by decide) (by decide) (by omega), eA 11 (by decide) (by decide) (by omega), eA 12 (by decide) (by decide) (by omega)]; exact h6
  · rw [eM 13 (by decide) (by decide), eA 14 (by decide) (by decide) (by omega)]; exact h7
  · unfold yVK at *
    rw [eX 6 (by decide), eM 29 (by decide) (by decide), eM 30 (by decide) (by decide), eM 31 (by decide) (by decide), eM 32 (by decide) (by decide), eM 33 (by decide) (by decide), eA 34 (by decide) (by decide) (by omega), eA 35 (by decide) (by decide) (by omega), eA 36 (by decide) (by decide) (by omega), eA 37 (by decide) (by decide) (by omega), eA 38 (by decide) (by decide) (by omega)]
    exact h8
theorem y_nat (x : Int32) : nI (x.toBitVec.toNat) = x := Int32.toBitVec_inj.mp (BitVec.eq_of_toNat_eq (pk_tn x.toBitVec.isLt))
theorem y_or {m k : Nat} (hm : m < 4096) (hk : k < 12) : ∃ m', m' < 4096 ∧ (nI m ||| ((1 : Int32) <<< (nI k &&& 31))) = nI m' := by
  have e : (List.range 12).all (fun k => decide (((1 : Int32) <<< (nI k &&& 31)).toBitVec.toNat < 4096)) = true := by decide +kernel
  have e2 := of_decide_eq_true (List.all_eq_true.mp e k (List.mem_range.mpr hk))
  refine ⟨_, ?_, (y_nat _).symm⟩
  rw [Int32.toBitVec_or, BitVec.toNat_or, pk_tn (by omega)]
  exact Nat.or_lt_two_pow (n := 12) hm e2
theorem y_and {m : Nat} (hm : m < 4096) (y : Int32) : ∃ m', m' < 4096 ∧ (nI m &&& y) = nI m' := by
  refine ⟨_, ?_, (y_nat _).symm⟩
  rw [Int32.toBitVec_and, BitVec.toNat_and, pk_tn (by omega)]
  have := Nat.and_le_left (n := m) (m := y.toBitVec.toNat)
  omega
theorem y_bit01 (x y : Int32) : ((x >>> y) &&& (1 : Int32)) = yb (decide (((x >>> y) &&& (1 : Int32)) = 1)) := by
  obtain ⟨j, hj, e⟩ := pk_andE (x >>> y) (m := 1) 1 (by decide)
  rw [e]
  rcases (show j = 0 ∨ j = 1 by omega) with rfl | rfl <;> rfl
/-! as -/
def ytas (k i : Nat) : Bool := k == 0 || i == k || (k == 1 && i == 4)
theorem y_tas {k i : Nat} (hk : k < 5) (hi : i < 5) : fX5_hasBit (zTA k) (nI i) = some (yb (ytas k i)) := by
  rw [y_hasBit _ (by omega)]
  have e : (List.range 5).all (fun k => (List.range 5).all (fun i => ybit (zTA k) i == ytas k i)) = true := by decide +kernel
  rw [eq_of_beq (List.all_eq_true.mp (List.all_eq_true.mp e k (List.mem_range.mpr hk)) i (List.mem_range.mpr hi))]
theorem y_tasm {k i : Nat} (hk : k < 5) (hi : i < 5) {α : Type} (A B : α) : (if nI k = 0 then A else if nI i = nI k then A else if nI k = (1 : Int32) then if nI i = (4 : Int32) then A else B else B) = if ytas k i = true then A else B := by
  rcases (show k = 0 ∨ k = 1 ∨ k = 2 ∨ k = 3 ∨ k = 4 by omega) with rfl | rfl | rfl | rfl | rfl <;> rcases (show i = 0 ∨ i = 1 ∨ i = 2 ∨ i = 3 ∨ i = 4 by omega) with rfl | rfl | rfl | rfl | rfl <;> rfl
theorem y_as {r c n b : Nat} {xb : Int32} {Ns Ms : Nat → Int32} {Na Ma : Nat → Nat → Int32} (hM : yVM r c n b xb Ms) (hS : yVS r c n Ns Na (Ms 3) (Ms 7) (Ma 5) (Ma 6)) (x w : Int32) : ∃ v, fX5_as Ns Na x w = some v ∧ fX6_as Ms Ma x w = some v := by
  have hn := hS.1.2.1
  unfold fX5_as fX6_as
  rw [y_isPeg hS.1.1 hn, zb1_e, y_mIsPeg hM.2.2.2.2 hn, zb1_e]
  cases hp : zin x n with
  | false => rw [yb_f, if_pos rfl, if_pos rfl]; exact ⟨_, rfl, rfl⟩
  | true =>
    obtain ⟨p, hp', rfl⟩ := y_zinE hp (by omega)
    rw [yb_t, if_neg n10, if_neg n10, y_rlt (N := 5) rfl, y_w (N := 4) rfl, zb1_e]
    cases hw : zin w 5 with
    | false => rw [yb_f, if_neg (by decide), if_pos rfl]; exact ⟨_, rfl, rfl⟩
    | true =>
      obtain ⟨k, hk, rfl⟩ := y_zinE hw (by decide)
      obtain ⟨i, hi, ei⟩ := hS.1.2.2.1 p hp'
      rw [yb_t, if_pos rfl, if_neg n10, zck_e, y_kindOf hS.1 hp', zb1_e, ei, nI_clamp (show k < 2 ^ 31 by omega), y_tas hk hi, zb1_e, y_zin (show p < 8 by omega) (by decide), zck_e, zlt_e, nI_clamp (show p < 2 ^ 31 by omega), hS.2.2.2.2.2.1 p hp', ei, zjn_e, y_tasm hk hi]
      cases ytas k i with
      | true => rw [yb_t, if_neg n10, if_pos rfl]; exact ⟨_, rfl, rfl⟩
      | false => rw [yb_f, if_pos rfl, if_neg (by decide)]; exact ⟨_, rfl, rfl⟩
/-! place -/
theorem y_whoNow {n : Nat} {s : Nat → Int32} {a : Nat → Nat → Int32} {h : Nat → Int32} (h4 : s 4 = nI n) (hn : n ≤ 8) (hR : yR n 0 h a) (q : Int32) : fX6_whoAt s a (0 : Int32) q = some (yn n h q) := by
  have := y_whoAt (d := 0) (a := a) h4 hn (by decide) q
  rw [yn_congr (h' := h) (fun p hp => hR p hp)] at this
  exact this
theorem y_place {r c n b : Nat} {xb : Int32} {Gs Ns Ms : Nat → Int32} {Ga Na Ma : Nat → Nat → Int32} (hV : yV r c n b) (hG : yG r c Gs Ga) (hM : yVM r c n b xb Ms) (hS : yVS r c n Ns Na (Ms 3) (Ms 7) (Ma 5) (Ma 6)) (x w : Int32) : ∃ v B', fX5_place Gs Ns Na x w = some v ∧ fX6_place Ms Ma x w = some (v, B') ∧ ∀ i, i < 17 ∨ 27 < i → B' i = Ma i := by
  have hn := hS.1.2.1
  have h12 := yV_12 hV
  unfold fX5_place fX6_place
  rw [y_has hG.2.2.1 h12, zb1_e, y_mIsPlace hM.2.2.1 hM.2.2.2.1 h12, zb1_e]
  cases hp : zin x (r * c) with
  | false => rw [yb_f, if_pos rfl, if_pos rfl]; exact ⟨_, _, rfl, rfl, fun _ _ => rfl⟩
  | true =>
    obtain ⟨q, hq, rfl⟩ := y_zinE hp (by omega)
    rw [yb_t, if_neg n10, if_neg n10, y_w (N := 1) rfl, zb1_e, y_isHole hG h12 hq, zb1_e, y_pegIn hG h12 hS.1 hq, zb1_e]
    by_cases w0 : w = 0
    · subst w0
      obtain ⟨B, hB, B1, B2⟩ := y_putDeep (s := Ms) (a := Ma) hM.2.2.2.2 hn
      rw [if_pos rfl, show zin (0 : Int32) (1 + 1) = true by decide, yb_t, if_neg n10]
      unfold fX6_placeNow
      rw [hB, zb1_e, if_pos rfl, zb2_e, hS.2.2.2.1, y_bit01]
      refine ⟨_, _, ?_, rfl, fun i hi => B1 i (by omega)⟩
      show _ = some (yb (ybit (Ns 1) q))
      cases ybit (Ns 1) q with
      | true => rw [yb_t, if_neg n10]
      | false => rw [yb_f, if_pos rfl]
    · rw [if_neg w0]
      by_cases w1 : w = 1
      · subst w1
        obtain ⟨B, hB, B1, B2⟩ := y_putDeep (s := Ms) (a := Ma) hM.2.2.2.2 hn
        have hR : yR n 0 (Na 6) B := fun p hp => (B2 p hp).trans (hS.2.2.2.2.2.2 p hp)
        rw [if_pos rfl, show zin (1 : Int32) (1 + 1) = true by decide, yb_t, if_neg n10]
        unfold fX6_placeNow
        rw [hB, zb1_e, if_neg n10, y_whoNow hM.2.2.2.2 hn hR, zb1_e, zb2_e]
        exact ⟨_, _, rfl, rfl, fun i hi => B1 i (by omega)⟩
      · rw [if_neg w1]
        cases hz : zin w (1 + 1) with
        | true =>
          obtain ⟨j, hj, rfl⟩ := y_zinE hz (by decide)
          rcases (show j = 0 ∨ j = 1 by omega) with rfl | rfl
          · exact absurd rfl w0
          · exact absurd rfl w1
        | false => rw [yb_f, if_pos rfl]; exact ⟨_, _, rfl, rfl, fun _ _ => rfl⟩
/-! be -/
theorem yS_be {pl n : Nat} {s : Nat → Int32} {a : Nat → Nat → Int32} (hS : yS pl n s a) {p k : Nat} (hk : k < 5) : yS pl n s (va_up a 5 (upd (a 5) p (nI k))) := by
  obtain ⟨h2, hn, hk5, hH, h7, h3⟩ := hS
  refine ⟨h2, hn, fun q hq => ?_, ?_, ?_, ?_⟩
  · rw [y_vu]
    by_cases e : q = p
    · rw [e, y_uu]; exact ⟨k, hk, rfl⟩
    · rw [y_un e]; exact hk5 q hq
  · rw [y_vn (by decide)]; exact hH
  · intro q hq; rw [y_vn (by decide), y_vn (by decide)]; exact h7 q hq
  · rw [y_vn (by decide)]; exact h3
theorem y_be {r c n b : Nat} {Xs Ps : Nat → Int32} {Pa : Nat → Nat → Int32} {Gs : Nat → Int32} {Ga : Nat → Nat → Int32} {Ns : Nat → Int32} {Na : Nat → Nat → Int32} {Qs : Nat → Int32} {Qa : Nat → Nat → Int32} {Ks : Nat → Int32} {Ka : Nat → Nat → Int32} {Ls : Nat → Int32} {La : Nat → Nat → Int32} {os : Nat → Nat → Int32} {Ms : Nat → Int32} {Ma : Nat → Nat → Int32} (h : yIV r c n b Xs Ps Pa Gs Ga Ns Na Qs Qa Ks Ka Ls La os Ms Ma) (x w : Int32) : ∃ v X' A' B', fX5_be Xs Ns Na x w = some (v, X', A') ∧ fX6_be Ms Ma x w = some (v, B') ∧ yIV r c n b X' Ps Pa Gs Ga Ns A' Qs Qa Ks Ka Ls La os Ms B' := by
  have hM := h.2.2.1
  have hS := h.2.2.2.1
  have hn := hS.1.2.1
  unfold fX5_be fX6_be
  rw [y_isPeg hS.1.1 hn, zb1_e, y_mIsPeg hM.2.2.2.2 hn, zb1_e]
  cases hp : zin x n with
  | false => rw [yb_f, if_pos rfl, if_pos rfl]; exact ⟨_, _, _, _, rfl, rfl, h⟩
  | true =>
    obtain ⟨p, hp', rfl⟩ := y_zinE hp (by omega)
    rw [yb_t, if_neg n10, if_neg n10, y_rlt (N := 5) rfl, y_w (N := 4) rfl, zb1_e]
    cases hw : zin w 5 with
    | false => rw [yb_f, if_neg (by decide), if_pos rfl]; exact ⟨_, _, _, _, rfl, rfl, h⟩
    | true =>
      obtain ⟨k, hk, rfl⟩ := y_zinE hw (by decide)
      have et : fX4_turn Ns Na (nI p) (nI k) = some (va_up Na 5 (upd (Na 5) p (nI k))) := by
        unfold fX4_turn
        rw [y_isPeg hS.1.1 hn, zb1_e, hp, yb_t, if_neg n10, y_zin (show p < 8 by omega) (by decide), zck_e, zlt_e, nI_clamp (show p < 2 ^ 31 by omega)]
      rw [yb_t, if_pos rfl, if_neg n10, y_kindOf hS.1 hp', zb1_e, et, zb1_e, zlt_e, y_zin (show p < 8 by omega) (by decide), zck_e, zlt_e, zck_e, zlt_e, nI_clamp (show p < 2 ^ 31 by omega), hS.2.2.2.2.2.1 p hp']
      refine ⟨_, _, _, _, rfl, rfl, yIV_f h (fun i hi => y_un hi) (fun _ _ _ => rfl) (fun i i5 _ _ => y_vn i5) ?_ (Or.inl y_uu)⟩
      refine ⟨yS_be hS.1 hk, hS.2.1, hS.2.2.1, hS.2.2.2.1, hS.2.2.2.2.1, fun q hq => ?_, fun q hq => ?_⟩
      · rw [y_vu, y_vu]
        by_cases e : q = p
        · rw [e, y_uu, y_uu]
        · rw [y_un e, y_un e]; exact hS.2.2.2.2.2.1 q hq
      · rw [y_vn (by decide), y_vn (by decide)]; exact hS.2.2.2.2.2.2 q hq
/-! a peg is put -/
theorem yS_set {pl n : Nat} {s : Nat → Int32} {a : Nat → Nat → Int32} (hpl : pl ≤ 12) (hS : yS pl n s a) {p t : Nat} (hp : p < n) (ht : t < pl) (hoff : a 6 p = -1) (hfree : yn n (a 6) (nI t) = -1) : yS pl n (upd s 3 (s 3 + 1)) (va_up (va_up a 6 (upd (a 6) p (nI t))) 7 (upd (a 7) t (nI p))) := by
  obtain ⟨h2, hn, hk5, hH, h7, h3⟩ := hS
  have g6 : va_up (va_up a 6 (upd (a 6) p (nI t))) 7 (upd (a 7) t (nI p)) 6 = upd (a 6) p (nI t) := by rw [y_vn (by decide), y_vu]
  have c3 := yc_on (n := n) (h := a 6) hp hoff (v := nI t) (y_nIm t (by omega))
  have freet : ∀ z, z < n → a 6 z ≠ nI t := by
    intro z hz hzt
    have e := yn_some hH hz (by rw [hzt]; exact y_nIm t (by omega))
    rw [hzt, hfree] at e
    exact y_mnI z (by omega) e
  have hH3 : yH pl n (upd (a 6) p (nI t)) := by
    refine ⟨fun w hw => ?_, fun w w' hw hw' hww hwm => ?_⟩
    · by_cases w1 : w = p
      · subst w1; rw [y_uu]; exact Or.inr ⟨t, ht, rfl⟩
      · rw [y_un w1]; exact hH.1 w hw
    · by_cases w1 : w = p
      · by_cases w2 : w' = p
        · rw [w1, w2]
        · subst w1
          rw [y_uu, y_un w2] at hww
          exact absurd hww.symm (freet w' hw')
      · by_cases w2 : w' = p
        · subst w2
          rw [y_uu, y_un w1] at hww
          exact absurd hww (freet w hw)
        · rw [y_un w1, y_un w2] at hww
          rw [y_un w1] at hwm
          exact hH.2 w w' hw hw' hww hwm
  refine ⟨?_, hn, fun z hz => ?_, ?_, fun x hx => ?_, ?_⟩
  · rw [y_un (by decide)]; exact h2
  · rw [y_vn (by decide), y_vn (by decide)]; exact hk5 z hz
  · rw [g6]; exact hH3
  · rw [g6, y_vu]
    by_cases x1 : x = t
    · subst x1
      rw [y_uu]
      have := yn_some hH3 hp (by rw [y_uu]; exact y_nIm x (by omega))
      rw [y_uu] at this
      exact this.symm
    · rw [y_un x1, h7 x hx]
      rcases yn_cases n (a 6) (nI x) with ⟨g1, g2⟩ | ⟨z, g1, g2, g3⟩
      · rw [g1]
        refine (yn_none fun z hz hzx => ?_).symm
        by_cases z1 : z = p
        · subst z1; rw [y_uu] at hzx; exact x1 (y_i (by omega) (by omega) hzx).symm
        · rw [y_un z1] at hzx; exact g2 z hz hzx
      · have z1 : z ≠ p := fun e => by subst e; rw [hoff] at g2; exact y_mnI x (by omega) g2
        have := yn_some hH3 g1 (by rw [y_un z1, g2]; exact y_nIm x (by omega))
        rw [y_un z1, g2] at this
        rw [g3, this]
  · rw [g6, y_uu, h3, nI_1, c3]
theorem y_mempty {n : Nat} {s : Nat → Int32} {a : Nat → Nat → Int32} {h : Nat → Int32} (h4 : s 4 = nI n) (hn : n ≤ 8) (h6 : ∀ p, p < n → a 6 p = h p) (q : Nat) : ∃ B', fX6_isEmpty s a (nI q) = some (yb (ybit (s 3) q && decide (yn n h (nI q) = -1)), B') ∧ ∀ i, i < 17 ∨ 27 < i → B' i = a i := by
  obtain ⟨B, hB, B1, B2⟩ := y_putDeep (s := s) (a := a) h4 hn
  have hR : yR n 0 h B := fun p hp => (B2 p hp).trans (h6 p hp)
  refine ⟨B, ?_, fun i hi => B1 i (by omega)⟩
  unfold fX6_isEmpty
  rw [hB, zb1_e, y_isIn, zb1_e]
  cases ybit (s 3) q with
  | false => rw [yb_f, if_pos rfl]; rfl
  | true =>
    rw [yb_t, if_neg n10, y_whoNow h4 hn hR, zb1_e]
    by_cases e : yn n h (nI q) = -1
    · rw [if_pos e, decide_eq_true e]; rfl
    · rw [if_neg e, decide_eq_false e]; rfl
theorem y_onNow {n : Nat} {s : Nat → Int32} {a : Nat → Nat → Int32} {h : Nat → Int32} (h4 : s 4 = nI n) (hn : n ≤ 8) (hR : yR n 0 h a) : fX6_onBoard s a (0 : Int32) = some (nI (yc n h)) := by
  have := y_onBoard (d := 0) (a := a) h4 hn (by decide)
  rw [yc_congr (h' := h) (fun p hp => hR p hp)] at this
  exact this
theorem y_put {r c n b : Nat} {Xs Ps : Nat → Int32} {Pa : Nat → Nat → Int32} {Gs : Nat → Int32} {Ga : Nat → Nat → Int32} {Ns : Nat → Int32} {Na : Nat → Nat → Int32} {Qs : Nat → Int32} {Qa : Nat → Nat → Int32} {Ks : Nat → Int32} {Ka : Nat → Nat → Int32} {Ls : Nat → Int32} {La : Nat → Nat → Int32} {os : Nat → Nat → Int32} {Ms : Nat → Int32} {Ma : Nat → Nat → Int32} (h : yIV r c n b Xs Ps Pa Gs Ga Ns Na Qs Qa Ks Ka Ls La os Ms Ma) (x w : Int32) : ∃ v X' N' A' B', fX5_put Xs Gs Ns Na x w = some (v, X', N', A') ∧ fX6_put Ms Ma x w = some (v, B') ∧ yIV r c n b X' Ps Pa Gs Ga N' A' Qs Qa Ks Ka Ls La os Ms B' := by
  have hV := h.1
  have hG := h.2.1
  have hM := h.2.2.1
  have hS := h.2.2.2.1
  have hn := hS.1.2.1
  have h12 := yV_12 hV
  unfold fX5_put fX6_put
  rw [y_isPeg hS.1.1 hn, zb1_e, y_mIsPeg hM.2.2.2.2 hn, zb1_e]
  cases hp : zin x n with
  | false => rw [yb_f, if_pos rfl, if_pos rfl]; exact ⟨_, _, _, _, _, rfl, rfl, h⟩
  | true =>
    obtain ⟨p, hp', rfl⟩ := y_zinE hp (by omega)
    rw [yb_t, if_neg n10, if_neg n10, y_has hG.2.2.1 h12, zb1_e, y_mIsPlace hM.2.2.1 hM.2.2.2.1 h12, zb1_e]
    cases hw : zin w (r * c) with
    | false => rw [yb_f, if_pos rfl, if_pos rfl]; exact ⟨_, _, _, _, _, rfl, rfl, h⟩
    | true =>
      obtain ⟨q, hq, rfl⟩ := y_zinE hw (by omega)
      rw [yb_t, if_neg n10, if_neg n10, y_homeOf hS.1 hp', zb1_e, y_zin (show p < 8 by omega) (by decide), zck_e, nI_clamp (show p < 2 ^ 31 by omega), hS.2.2.2.2.2.2 p hp']
      by_cases hoff : Na 6 p = -1
      · rw [if_pos hoff, if_pos hoff, y_empty hG h12 hS.1 hq, zb1_e]
        obtain ⟨B, hB, B1⟩ := y_mempty (s := Ms) (a := Ma) hM.2.2.2.2 hn hS.2.2.2.2.2.2 q
        rw [hB, zb2_e, hS.2.2.2.1]
        cases hbt : (ybit (Ns 1) q && decide (yn n (Na 6) (nI q) = -1)) with
        | false => rw [yb_f, if_pos rfl, if_pos rfl]; exact ⟨_, _, _, _, _, rfl, rfl, yI_a h B1⟩
        | true =>
          rw [Bool.and_eq_true, decide_eq_true_eq] at hbt
          rw [yb_t, if_neg n10, if_neg n10, y_set hG h12 hS.1.1 hn hp' hq, zb2_e, zlt_e, zck_e, zlt_e]
          have S' := yS_set h12 hS.1 hp' hq hoff hbt.2
          generalize eB : va_up B 6 (upd (B 6) p (nI q)) = C
          have C6 : ∀ j, j < n → C 6 j = upd (Na 6) p (nI q) j := by
            intro j hj
            rw [← eB, y_vu]
            by_cases e : j = p
            · rw [e, y_uu, y_uu]
            · rw [y_un e, y_un e, B1 6 (by omega)]; exact hS.2.2.2.2.2.2 j hj
          have Ck : ∀ i, i ≠ 6 → (i < 17 ∨ 27 < i) → C i = Ma i := fun i i6 hi => by rw [← eB, y_vn i6]; exact B1 i hi
          obtain ⟨D, hD, D1, D2⟩ := y_putDeep (s := Ms) (a := C) hM.2.2.2.2 hn
          have hR : yR n 0 (upd (Na 6) p (nI q)) D := fun j hj => (D2 j hj).trans (C6 j hj)
          rw [hD, zb1_e, y_onNow hM.2.2.2.2 hn hR, zb1_e, S'.2.2.2.2.2]
          have g6 : va_up (va_up Na 6 (upd (Na 6) p (nI q))) 7 (upd (Na 7) q (nI p)) 6 = upd (Na 6) p (nI q) := by rw [y_vn (by decide), y_vu]
          rw [g6]
          refine ⟨_, _, _, _, _, rfl, rfl, yIV_f h (fun i hi => y_un hi) (fun _ _ _ => rfl) (fun i i5 i6 hi => by rw [D1 i (by omega)]; exact Ck i i6 hi) ?_ (Or.inl y_uu)⟩
          refine ⟨S', ?_, ?_, ?_, ?_, fun j hj => ?_, fun j hj => ?_⟩
          · rw [y_un (by decide)]; exact hS.2.1
          · rw [y_un (by decide)]; exact hS.2.2.1
          · rw [y_un (by decide)]; exact hS.2.2.2.1
          · rw [y_un (by decide)]; exact hS.2.2.2.2.1
          · rw [y_vn (by decide), y_vn (by decide), D1 5 (by decide), Ck 5 (by decide) (by omega)]; exact hS.2.2.2.2.2.1 j hj
          · rw [g6, D1 6 (by decide)]; exact C6 j hj
      · rw [if_neg hoff, if_neg hoff]; exact ⟨_, _, _, _, _, rfl, rfl, h⟩
/-! plug, bore -/
theorem yS_1 {pl n : Nat} {s : Nat → Int32} {a : Nat → Nat → Int32} (hS : yS pl n s a) (v : Int32) : yS pl n (upd s 1 v) a := by
  obtain ⟨h2, hn, hk5, hH, h7, h3⟩ := hS
  exact ⟨by rw [y_un (by decide)]; exact h2, hn, hk5, hH, h7, by rw [y_un (by decide)]; exact h3⟩
theorem y_plug {r c n b : Nat} {Xs Ps : Nat → Int32} {Pa : Nat → Nat → Int32} {Gs : Nat → Int32} {Ga : Nat → Nat → Int32} {Ns : Nat → Int32} {Na : Nat → Nat → Int32} {Qs : Nat → Int32} {Qa : Nat → Nat → Int32} {Ks : Nat → Int32} {Ka : Nat → Nat → Int32} {Ls : Nat → Int32} {La : Nat → Nat → Int32} {os : Nat → Nat → Int32} {Ms : Nat → Int32} {Ma : Nat → Nat → Int32} (h : yIV r c n b Xs Ps Pa Gs Ga Ns Na Qs Qa Ks Ka Ls La os Ms Ma) (x : Int32) : ∃ v X' N' M' B', fX5_plug Xs Gs Ns Na x = some (v, X', N') ∧ fX6_plug Ms Ma x = some (v, M', B') ∧ yIV r c n b X' Ps Pa Gs Ga N' Na Qs Qa Ks Ka Ls La os M' B' := by
  have hV := h.1
  have hG := h.2.1
  have hM := h.2.2.1
  have hS := h.2.2.2.1
  have hn := hS.1.2.1
  have h12 := yV_12 hV
  unfold fX5_plug fX6_plug
  rw [y_has hG.2.2.1 h12, zb1_e, y_mIsPlace hM.2.2.1 hM.2.2.2.1 h12, zb1_e]
  cases hw : zin x (r * c) with
  | false => rw [yb_f, if_pos rfl, if_pos rfl]; exact ⟨_, _, _, _, _, rfl, rfl, h⟩
  | true =>
    obtain ⟨q, hq, rfl⟩ := y_zinE hw (by omega)
    rw [yb_t, if_neg n10, if_neg n10, y_empty hG h12 hS.1 hq, zb1_e]
    obtain ⟨B, hB, B1⟩ := y_mempty (s := Ms) (a := Ma) hM.2.2.2.2 hn hS.2.2.2.2.2.2 q
    rw [hB, zb2_e, hS.2.2.2.1]
    cases hbt : (ybit (Ns 1) q && decide (yn n (Na 6) (nI q) = -1)) with
    | false => rw [yb_f, if_pos rfl, if_pos rfl]; exact ⟨_, _, _, _, _, rfl, rfl, yI_a h B1⟩
    | true =>
      obtain ⟨m, hm, em⟩ := hS.2.1
      obtain ⟨m', hm', em'⟩ := y_and hm (((1 : Int32) <<< (nI q &&& 31)) ^^^ (-1 : Int32))
      rw [yb_t, if_neg n10, if_neg n10, zlt_e, zlt_e, zlt_e, y_uu, y_uu, em, em', y_bits hm', zb1_e, y_size, zb1_e]
      refine ⟨_, _, _, _, _, rfl, rfl, yIV_f h (fun i hi => y_un hi) (fun i i3 _ => y_un i3) (fun i _ _ hi => B1 i hi) ?_ (Or.inl y_uu)⟩
      refine ⟨yS_1 hS.1 _, ⟨m', hm', y_uu⟩, ?_, ?_, ?_, fun j hj => ?_, fun j hj => ?_⟩
      · rw [y_un (by decide)]; exact hS.2.2.1
      · rw [y_uu, y_uu]
      · rw [y_un (by decide), y_un (by decide)]; exact hS.2.2.2.2.1
      · rw [B1 5 (by omega)]; exact hS.2.2.2.2.2.1 j hj
      · rw [B1 6 (by omega)]; exact hS.2.2.2.2.2.2 j hj
theorem y_bore {r c n b : Nat} {Xs Ps : Nat → Int32} {Pa : Nat → Nat → Int32} {Gs : Nat → Int32} {Ga : Nat → Nat → Int32} {Ns : Nat → Int32} {Na : Nat → Nat → Int32} {Qs : Nat → Int32} {Qa : Nat → Nat → Int32} {Ks : Nat → Int32} {Ka : Nat → Nat → Int32} {Ls : Nat → Int32} {La : Nat → Nat → Int32} {os : Nat → Nat → Int32} {Ms : Nat → Int32} {Ma : Nat → Nat → Int32} (h : yIV r c n b Xs Ps Pa Gs Ga Ns Na Qs Qa Ks Ka Ls La os Ms Ma) (x : Int32) : ∃ v X' N' M', fX5_bore Xs Gs Ns x = some (v, X', N') ∧ fX6_bore Ms x = some (v, M') ∧ yIV r c n b X' Ps Pa Gs Ga N' Na Qs Qa Ks Ka Ls La os M' Ma := by
  have hV := h.1
  have hG := h.2.1
  have hM := h.2.2.1
  have hS := h.2.2.2.1
  have hn := hS.1.2.1
  have h12 := yV_12 hV
  unfold fX5_bore fX6_bore
  rw [y_has hG.2.2.1 h12, zb1_e, y_mIsPlace hM.2.2.1 hM.2.2.2.1 h12, zb1_e]
  cases hw : zin x (r * c) with
  | false => rw [yb_f, if_pos rfl, if_pos rfl]; exact ⟨_, _, _, _, rfl, rfl, h⟩
  | true =>
    obtain ⟨q, hq, rfl⟩ := y_zinE hw (by omega)
    rw [yb_t, if_neg n10, if_neg n10, y_isHole hG h12 hq, zb1_e, y_isIn, zb1_e, hS.2.2.2.1]
    cases hbt : ybit (Ns 1) q with
    | true => rw [yb_t, if_neg n10, if_neg n10]; exact ⟨_, _, _, _, rfl, rfl, h⟩
    | false =>
      obtain ⟨m, hm, em⟩ := hS.2.1
      obtain ⟨m', hm', em'⟩ := y_or (k := q) hm (by omega)
      rw [yb_f, if_pos rfl, if_pos rfl, zlt_e, zlt_e, zlt_e, y_uu, y_uu, em, em', y_bits hm', zb1_e, y_size, zb1_e]
      refine ⟨_, _, _, _, rfl, rfl, yIV_f h (fun i hi => y_un hi) (fun i i3 _ => y_un i3) (fun i _ _ hi => rfl) ?_ (Or.inl y_uu)⟩
      refine ⟨yS_1 hS.1 _, ⟨m', hm', y_uu⟩, ?_, ?_, ?_, hS.2.2.2.2.2.1, hS.2.2.2.2.2.2⟩
      · rw [y_un (by decide)]; exact hS.2.2.1
      · rw [y_uu, y_uu]
      · rw [y_un (by decide), y_un (by decide)]; exact hS.2.2.2.2.1
