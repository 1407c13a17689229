/-! pure: what only so many pegs decide; copies; looking ahead -/
theorem yok_c {n : Nat} {kd kd' h h' : Nat → Int32} {hb : Int32} {p : Nat} {x : Nat × Nat × Bool} (hn : n ≤ 8) (hp : p < n) (ek : ∀ q, q < n → kd q = kd' q) (eh : ∀ q, q < n → h q = h' q) : yok n kd h hb p x = yok n kd' h' hb p x := by
  unfold yok
  rw [yn_congr eh (nI x.2.1), yn_congr eh (nI x.1), ek p hp]
  rcases yn_cases n h' (nI x.2.1) with ⟨e, _⟩ | ⟨o, ho, _, e⟩
  · rw [e, decide_eq_false (fun q => q rfl)]
    simp only [Bool.false_and]
  · rw [e, nI_clamp (show o < 2 ^ 31 by omega), ek o ho]
theorem yJ_c {r c n : Nat} {kd kd' h h' : Nat → Int32} {hb : Int32} {p : Nat} (hn : n ≤ 8) (hp : p < n) (ek : ∀ q, q < n → kd q = kd' q) (eh : ∀ q, q < n → h q = h' q) : yJ r c n kd h hb p = yJ r c n kd' h' hb p := by
  have e : yj n kd h hb p = yj n kd' h' hb p := by
    funext x
    unfold yj
    rw [yok_c hn hp ek eh]
  unfold yJ
  rw [eh p hp, e]
theorem yLL_c {r c n : Nat} {kd kd' h h' : Nat → Int32} {hb : Int32} (hn : n ≤ 8) (ek : ∀ q, q < n → kd q = kd' q) (eh : ∀ q, q < n → h q = h' q) : ∀ k, k ≤ n → yLL r c n kd h hb k = yLL r c n kd' h' hb k := by
  intro k
  induction k with
  | zero => intro _; rfl
  | succ k ih =>
    intro hk
    show yLL r c n kd h hb k ++ (yJ r c n kd h hb k).map _ = yLL r c n kd' h' hb k ++ (yJ r c n kd' h' hb k).map _
    rw [ih (by omega), yJ_c hn (show k < n by omega) ek eh]
theorem yLL_mem {r c n : Nat} {kd h : Nat → Int32} {hb : Int32} : ∀ k (x : Nat × Nat × Nat), x ∈ yLL r c n kd h hb k → x.1 < k ∧ x.2 ∈ yJ r c n kd h hb x.1 := by
  intro k
  induction k with
  | zero => intro x hx; cases hx
  | succ k ih =>
    intro x hx
    rcases List.mem_append.mp hx with q | q
    · have := ih x q
      exact ⟨by omega, this.2⟩
    · obtain ⟨w, w1, w2⟩ := List.mem_map.mp q
      rw [← w2]
      exact ⟨Nat.lt_succ_self k, w1⟩
theorem yaft_c {n : Nat} {kd kd' h h' : Nat → Int32} {p : Nat} {x : Nat × Nat} (hp : p < n) (ek : ∀ q, q < n → kd q = kd' q) (eh : ∀ q, q < n → h q = h' q) : ∀ q, q < n → yaft n kd h p x q = yaft n kd' h' p x q := by
  intro q hq
  unfold yaft
  rw [yn_congr eh (nI x.2), ek p hp]
  by_cases q1 : q = (yn n h' (nI x.2)).toNatClampNeg
  · rw [q1, y_uu, y_uu]
  · rw [y_un q1, y_un q1]
    by_cases q2 : q = p
    · rw [q2, y_uu, y_uu]
    · rw [y_un q2, y_un q2, eh q hq]
theorem yla_c {n : Nat} {h h' : Nat → Int32} (eh : ∀ q, q < n → h q = h' q) : yla n h = yla n h' := by
  induction n with
  | zero => rfl
  | succ n ih =>
    show (if h n = -1 then yla n h else _) = (if h' n = -1 then yla n h' else _)
    rw [eh n (Nat.lt_succ_self n), ih (fun q hq => eh q (by omega))]
theorem yal_c {n : Nat} {h h' : Nat → Int32} (eh : ∀ q, q < n → h q = h' q) : yal n h = yal n h' := by
  unfold yal
  rw [yc_congr eh, yla_c eh]
theorem y_foldl {α β : Type} {f g : α → β → α} : ∀ (l : List β) (a : α), (∀ a x, x ∈ l → f a x = g a x) → l.foldl f a = l.foldl g a := by
  intro l
  induction l with
  | nil => intro a _; rfl
  | cons x l ih =>
    intro a h
    show l.foldl f (f a x) = l.foldl g (g a x)
    rw [h a x List.mem_cons_self]
    exact ih _ (fun a y hy => h a y (List.mem_cons_of_mem x hy))
theorem yOut_c {r c n : Nat} {kd kd' : Nat → Int32} {hb : Int32} (hn : n ≤ 8) (ek : ∀ q, q < n → kd q = kd' q) : ∀ f (h h' : Nat → Int32), (∀ q, q < n → h q = h' q) → yOut r c n kd hb f h = yOut r c n kd' hb f h' := by
  intro f
  induction f with
  | zero =>
    intro h h' eh
    show yend ybeg (nI (yc n h)) (yal n h) = yend ybeg (nI (yc n h')) (yal n h')
    rw [yc_congr eh, yal_c eh]
  | succ f ih =>
    intro h h' eh
    rw [yOut_s, yOut_s, yc_congr eh, yal_c eh, yLL_c hn ek eh n (Nat.le_refl n)]
    have e : yF r c n kd hb f h (yLL r c n kd' h' hb n) = yF r c n kd' hb f h' (yLL r c n kd' h' hb n) := by
      unfold yF
      refine y_foldl _ _ fun o x hx => ?_
      rw [ih _ _ (yaft_c (yLL_mem n x hx).1 ek eh)]
    rw [e]
theorem yH_c {pl n : Nat} {h h' : Nat → Int32} (hH : yH pl n h) (eh : ∀ q, q < n → h' q = h q) : yH pl n h' := ⟨fun p hp => by rw [eh p hp]; exact hH.1 p hp, fun p p' hp hp' e hm => hH.2 p p' hp hp' (by rw [← eh p hp, ← eh p' hp', e]) (by rw [← eh p hp]; exact hm)⟩
theorem yS_c {pl n : Nat} {s s' : Nat → Int32} {a a' : Nat → Nat → Int32} (hS : yS pl n s a) (e2 : s' 2 = s 2) (e3 : s' 3 = s 3) (e5 : ∀ p, p < n → a' 5 p = a 5 p) (e6 : ∀ p, p < n → a' 6 p = a 6 p) (e7 : ∀ q, q < pl → a' 7 q = a 7 q) : yS pl n s' a' := by
  obtain ⟨h2, hn, hk, hH, h7, h3⟩ := hS
  refine ⟨e2.trans h2, hn, fun p hp => by rw [e5 p hp]; exact hk p hp, yH_c hH e6, fun q hq => ?_, ?_⟩
  · rw [e7 q hq, h7 q hq, yn_congr e6]
  · rw [e3, h3, yc_congr e6]
theorem y_copy (S : Nat → Int32) (A : Nat → Nat → Int32) (U : Nat → Int32) (V : Nat → Nat → Int32) : ∃ z, fX4_copyFrom S A U V = some z ∧ z.1 1 = U 1 ∧ z.1 2 = U 2 ∧ z.1 3 = U 3 ∧ z.1 4 = U 4 ∧ (∀ p, p < 8 → z.2 5 p = V 5 p) ∧ (∀ p, p < 8 → z.2 6 p = V 6 p) ∧ ∀ q, q < 12 → z.2 7 q = V 7 q := by
  unfold fX4_copyFrom
  rw [zlt_e, zlt_e, zlt_e, zlt_e]
  refine zb1_x (fun B => (∀ p, p < 8 → B 5 p = V 5 p) ∧ ∀ p, p < 8 → B 6 p = V 6 p) ?_ ?_
  · refine zf2 (fun k j B => j = nI k ∧ (∀ p, p < k → B 5 p = V 5 p) ∧ ∀ p, p < k → B 6 p = V 6 p) _ 8 ?_ ?_ 0 (Nat.zero_le _) ⟨rfl, fun p hp => absurd hp (Nat.not_lt_zero p), fun p hp => absurd hp (Nat.not_lt_zero p)⟩
    · rintro k j B hk ⟨rfl, h1, h2⟩
      refine Or.inl ?_
      rw [if_neg (y8g hk), y_zin (show k < 8 by omega) (by decide), zck_e, zck_e, zlt_e, zck_e, zck_e, zlt_e, nI_clamp (show k < 2 ^ 31 by omega), nI_1]
      refine ⟨_, _, rfl, rfl, fun p hp => ?_, fun p hp => ?_⟩
      · rw [y_vn (by decide), y_vu]
        by_cases e : p = k
        · subst e; rw [y_uu]
        · rw [y_un e]; exact h1 p (by omega)
      · rw [y_vu]
        by_cases e : p = k
        · subst e; rw [y_uu]
        · rw [y_un e, y_vn (by decide)]; exact h2 p (by omega)
    · rintro j B ⟨rfl, h1, h2⟩
      exact ⟨_, by rw [if_pos y8p], h1, h2⟩
  · rintro B ⟨h1, h2⟩
    refine zb1_x (fun C => (∀ p, p < 8 → C 5 p = V 5 p) ∧ (∀ p, p < 8 → C 6 p = V 6 p) ∧ ∀ q, q < 12 → C 7 q = V 7 q) ?_ ?_
    · refine zf2 (fun k j C => j = nI k ∧ (∀ p, p < 8 → C 5 p = V 5 p) ∧ (∀ p, p < 8 → C 6 p = V 6 p) ∧ ∀ q, q < k → C 7 q = V 7 q) _ 12 ?_ ?_ 0 (Nat.zero_le _) ⟨rfl, h1, h2, fun p hp => absurd hp (Nat.not_lt_zero p)⟩
      · rintro k j C hk ⟨rfl, g1, g2, g3⟩
        refine Or.inl ?_
        rw [if_neg (y12g hk), y_zin (show k < 12 by omega) (by decide), zck_e, zck_e, zlt_e, nI_clamp (show k < 2 ^ 31 by omega), nI_1]
        refine ⟨_, _, rfl, rfl, fun p hp => ?_, fun p hp => ?_, fun q hq => ?_⟩
        · rw [y_vn (by decide)]; exact g1 p hp
        · rw [y_vn (by decide)]; exact g2 p hp
        · rw [y_vu]
          by_cases e : q = k
          · subst e; rw [y_uu]
          · rw [y_un e]; exact g3 q (by omega)
      · rintro j C ⟨rfl, g1, g2, g3⟩
        exact ⟨_, by rw [if_pos y12p], g1, g2, g3⟩
    · rintro C ⟨g1, g2, g3⟩
      refine ⟨_, rfl, ?_, ?_, ?_, ?_, g1, g2, g3⟩
      · show upd (upd (upd (upd S 1 (U 1)) 2 (U 2)) 3 (U 3)) 4 (U 4) 1 = _
        rw [y_un (by decide), y_un (by decide), y_un (by decide), y_uu]
      · show upd (upd (upd (upd S 1 (U 1)) 2 (U 2)) 3 (U 3)) 4 (U 4) 2 = _
        rw [y_un (by decide), y_un (by decide), y_uu]
      · show upd (upd (upd (upd S 1 (U 1)) 2 (U 2)) 3 (U 3)) 4 (U 4) 3 = _
        rw [y_un (by decide), y_uu]
      · show upd (upd (upd (upd S 1 (U 1)) 2 (U 2)) 3 (U 3)) 4 (U 4) 4 = _
        rw [y_uu]
/-- whether the outlook tells of how all is now -/
def yVO (r c n : Nat) (x : Int32) (Ns : Nat → Int32) (Na os : Nat → Nat → Int32) : Prop := x = 0 ∨ (x = 1 ∧ yE (os 0) (yOut r c n (Na 5) (Ns 1) 8 (Na 6)))
theorem y_lookAhead {r c n : Nat} {Xs Gs Ns Ts : Nat → Int32} {Ga Na Ta os : Nat → Nat → Int32} (hB : yB r c) (hG : yG r c Gs Ga) (hS : yS (r * c) n Ns Na) (hO : yVO r c n (Xs 10) Ns Na os) : ∃ z, fX5_lookAhead Xs Gs Ga Ns Na Ts Ta os = some z ∧ z.1 10 = 1 ∧ (∀ i, i ≠ 10 → z.1 i = Xs i) ∧ yE (z.2.2.2 0) (yOut r c n (Na 5) (Ns 1) 8 (Na 6)) := by
  have hn := hS.2.1
  have h12 := hB.2.2.2.2
  unfold fX5_lookAhead
  by_cases c0 : Xs 10 = 0
  · rw [if_pos c0]
    obtain ⟨z, hz, z1, z2, z3, z4, z5, z6, z7⟩ := y_copy Ts Ta Ns Na
    obtain ⟨S, A⟩ := z
    rw [hz, zb2_e]
    have hS' : yS (r * c) n S A := yS_c hS z2 z3 (fun p hp => z5 p (by omega)) (fun p hp => z6 p (by omega)) (fun q hq => z7 q (by omega))
    obtain ⟨w, hw, w1, w2, w3, w4⟩ := y_look_0 hB hG hS' (by have := yc_le n (A 6); omega) os
    rw [hw, show w = (w.1, w.2.1, w.2.2) from rfl, zb3_e, zlt_e]
    refine ⟨_, rfl, show upd Xs 10 1 10 = 1 from y_uu, fun i hi => show upd Xs 10 1 i = Xs i from y_un hi, ?_⟩
    show yE (w.2.2 0) _
    have e : yOut r c n (A 5) (S 1) 8 (A 6) = yOut r c n (Na 5) (Ns 1) 8 (Na 6) := by
      rw [show S 1 = Ns 1 from z1]
      exact yOut_c hn (fun q hq => z5 q (by omega)) 8 _ _ (fun q hq => z6 q (by omega))
    rw [← e]
    exact w4
  · rw [if_neg c0]
    rcases hO with h | ⟨h1, h2⟩
    · exact absurd h c0
    · exact ⟨_, rfl, h1, fun _ _ => rfl, h2⟩
def ycw (o : Nat → Int32) (w : Int32) : Int32 := if w = 0 then o 1 else if w = 1 then o 2 else if w = 2 then o 3 else if w = 3 then o 4 else if w = 4 then o 5 else o 6
theorem y_coursesNow {r c n : Nat} {hb : Int32} {kd h s : Nat → Int32} {a : Nat → Nat → Int32} (hB : yB r c) (hM : yM r c n hb kd s a) (hH : yH (r * c) n h) (h6 : ∀ p, p < n → a 6 p = h p) (w : Int32) : ∃ z, fX6_coursesNow s a w = some z ∧ z.1 = ycw (yOut r c n kd hb 8 h) w ∧ ∀ i, i < 17 ∨ 27 < i → z.2 i = a i := by
  have hn := hM.2.2.2.2.1
  obtain ⟨b, b1, b2, b3⟩ := y_putDeep (a := a) hM.2.2.2.1 hn
  have hMb : yM r c n hb kd s b := yM_c hM (b2 5 (by decide))
  have hRb : yR n 0 h b := fun p hp => (b3 p hp).trans (h6 p hp)
  obtain ⟨d, d1, ⟨u21, u22, u20, u23, u24, u25, u26, u27, u19⟩, d3, _⟩ := y_layCourses hB hMb hRb hH
  have fr : ∀ i, i < 17 ∨ 27 < i → d i = a i := fun i hi => (d3 i hi).trans (b2 i (by omega))
  have z0 : zin (0 : Int32) 9 = true := by decide
  have c0 : (0 : Int32).toNatClampNeg = 0 := by decide
  unfold fX6_coursesNow ycw
  rw [b1, zb1_e, d1, zb1_e, z0]
  simp only [zck_e, c0]
  by_cases w0 : w = 0
  · rw [if_pos w0, if_pos w0]; exact ⟨_, rfl, u21, fr⟩
  rw [if_neg w0, if_neg w0]
  by_cases w1 : w = 1
  · rw [if_pos w1, if_pos w1]; exact ⟨_, rfl, u22, fr⟩
  rw [if_neg w1, if_neg w1]
  by_cases w2 : w = 2
  · rw [if_pos w2, if_pos w2]; exact ⟨_, rfl, u20, fr⟩
  rw [if_neg w2, if_neg w2]
  by_cases w3 : w = 3
  · rw [if_pos w3, if_pos w3]; exact ⟨_, rfl, u23, fr⟩
  rw [if_neg w3, if_neg w3]
  by_cases w4 : w = 4
  · rw [if_pos w4, if_pos w4]; exact ⟨_, rfl, u24, fr⟩
  rw [if_neg w4, if_neg w4]; exact ⟨_, rfl, u25, fr⟩
def yww (o : Nat → Int32) (w : Int32) : Int32 := if w = 1 then o 7 else if o 7 = -1 then 0 else 1
theorem y_winsNow {r c n : Nat} {hb : Int32} {kd h s : Nat → Int32} {a : Nat → Nat → Int32} (hB : yB r c) (hM : yM r c n hb kd s a) (hH : yH (r * c) n h) (h6 : ∀ p, p < n → a 6 p = h p) (w : Int32) : ∃ z, fX6_winsNow s a w = some z ∧ z.1 = yww (yOut r c n kd hb 8 h) w ∧ ∀ i, i < 17 ∨ 27 < i → z.2 i = a i := by
  have hn := hM.2.2.2.2.1
  obtain ⟨b, b1, b2, b3⟩ := y_putDeep (a := a) hM.2.2.2.1 hn
  have hMb : yM r c n hb kd s b := yM_c hM (b2 5 (by decide))
  have hRb : yR n 0 h b := fun p hp => (b3 p hp).trans (h6 p hp)
  obtain ⟨d, d1, ⟨u21, u22, u20, u23, u24, u25, u26, u27, u19⟩, d3, _⟩ := y_layCourses hB hMb hRb hH
  have fr : ∀ i, i < 17 ∨ 27 < i → d i = a i := fun i hi => (d3 i hi).trans (b2 i (by omega))
  have z0 : zin (0 : Int32) 9 = true := by decide
  have c0 : (0 : Int32).toNatClampNeg = 0 := by decide
  unfold fX6_winsNow yww
  rw [b1, zb1_e, d1, zb1_e, z0]
  simp only [zck_e, c0]
  by_cases w1 : w = 1
  · rw [if_pos w1, if_pos w1]; exact ⟨_, rfl, u26, fr⟩
  rw [if_neg w1, if_neg w1, u26]
  by_cases w2 : yOut r c n kd hb 8 h 7 = -1
  · rw [if_pos w2, if_pos w2]; exact ⟨_, rfl, rfl, fr⟩
  · rw [if_neg w2, if_neg w2]; exact ⟨_, rfl, rfl, fr⟩
theorem y_meanNow {r c n : Nat} {hb : Int32} {kd h s : Nat → Int32} {a : Nat → Nat → Int32} (hB : yB r c) (hM : yM r c n hb kd s a) (hH : yH (r * c) n h) (h6 : ∀ p, p < n → a 6 p = h p) : ∃ z, fX6_meanNow s a = some z ∧ z.1 = yOut r c n kd hb 8 h 8 ∧ ∀ i, i < 17 ∨ 27 < i → z.2 i = a i := by
  have hn := hM.2.2.2.2.1
  obtain ⟨b, b1, b2, b3⟩ := y_putDeep (a := a) hM.2.2.2.1 hn
  have hMb : yM r c n hb kd s b := yM_c hM (b2 5 (by decide))
  have hRb : yR n 0 h b := fun p hp => (b3 p hp).trans (h6 p hp)
  obtain ⟨d, d1, ⟨u21, u22, u20, u23, u24, u25, u26, u27, u19⟩, d3, _⟩ := y_layCourses hB hMb hRb hH
  have fr : ∀ i, i < 17 ∨ 27 < i → d i = a i := fun i hi => (d3 i hi).trans (b2 i (by omega))
  have z0 : zin (0 : Int32) 9 = true := by decide
  have c0 : (0 : Int32).toNatClampNeg = 0 := by decide
  unfold fX6_meanNow
  rw [b1, zb1_e, d1, zb1_e, z0, c0, zck_e, zck_e, show zne (d 19 0) = true from decide_eq_true u19, zck_e]
  exact ⟨_, rfl, u27, fr⟩
