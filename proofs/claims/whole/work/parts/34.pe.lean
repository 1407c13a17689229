/-! pure: a jump of the class's state, done and taken back -/
/-- the positions behind a jump -/
def yaft (n : Nat) (kd h : Nat → Int32) (p : Nat) (x : Nat × Nat) : Nat → Int32 := upd (upd h p (if kd p = 3 then -1 else nI x.1)) (yn n h (nI x.2)).toNatClampNeg (-1)
theorem y_lift {r c n : Nat} {s gs : Nat → Int32} {a ga : Nat → Nat → Int32} (hG : yG r c gs ga) (h12 : r * c ≤ 12) (h2 : s 2 = nI n) (hn : n ≤ 8) {p q : Nat} (hp : p < n) (hq : q < r * c) (e : a 6 p = nI q) : fX4_lift s a gs (nI p) = some (upd s 3 (s 3 - 1), va_up (va_up a 7 (upd (a 7) q (-1))) 6 (upd (a 6) p (-1))) := by
  unfold fX4_lift
  rw [y_isPeg h2 hn, zb1_e, y_zin hp (by omega), yb_t, if_neg n10, y_zin (show p < 8 by omega) (by decide), zck_e, nI_clamp (show p < 2 ^ 31 by omega), e, y_has hG.2.2.1 h12, zb1_e, y_zin hq (by omega), yb_t, if_neg n10, zck_e, y_zin (show q < 12 by omega) (by decide), zck_e, zlt_e, zck_e, zlt_e, zlt_e, nI_clamp (show q < 2 ^ 31 by omega), y_vn (show (6 : Nat) ≠ 7 by decide)]
theorem y_liftm {r c n : Nat} {s gs : Nat → Int32} {a ga : Nat → Nat → Int32} (hG : yG r c gs ga) (h12 : r * c ≤ 12) (h2 : s 2 = nI n) (hn : n ≤ 8) {p : Nat} (hp : p < n) (e : a 6 p = -1) : fX4_lift s a gs (nI p) = some (s, a) := by
  unfold fX4_lift
  rw [y_isPeg h2 hn, zb1_e, y_zin hp (by omega), yb_t, if_neg n10, y_zin (show p < 8 by omega) (by decide), zck_e, nI_clamp (show p < 2 ^ 31 by omega), e, y_has hG.2.2.1 h12, zb1_e, y_zinm, yb_f, if_pos rfl]
theorem y_set {r c n : Nat} {s gs : Nat → Int32} {a ga : Nat → Nat → Int32} (hG : yG r c gs ga) (h12 : r * c ≤ 12) (h2 : s 2 = nI n) (hn : n ≤ 8) {p q : Nat} (hp : p < n) (hq : q < r * c) : fX4_set s a gs (nI p) (nI q) = some (upd s 3 (s 3 + 1), va_up (va_up a 6 (upd (a 6) p (nI q))) 7 (upd (a 7) q (nI p))) := by
  unfold fX4_set
  rw [y_isPeg h2 hn, zb1_e, y_zin hp (by omega), yb_t, if_neg n10, y_has hG.2.2.1 h12, zb1_e, y_zin hq (by omega), yb_t, if_neg n10, y_zin (show p < 8 by omega) (by decide), zck_e, zlt_e, y_zin (show q < 12 by omega) (by decide), zck_e, zlt_e, zlt_e, nI_clamp (show p < 2 ^ 31 by omega), nI_clamp (show q < 2 ^ 31 by omega), y_vn (show (7 : Nat) ≠ 6 by decide)]
/-- what a jump that there is says: the peg stands somewhere, over whom, where to -/
theorem yd_all {r c n : Nat} {kd h : Nat → Int32} {hb : Int32} {p d t m : Nat} (hB : yB r c) (hH : yH (r * c) n h) (hp : p < n) (hd : d < 8) (hx : yd r c n kd h hb p d = some (t, m)) : ∃ q o, q < r * c ∧ t < r * c ∧ m < r * c ∧ h p = nI q ∧ o < n ∧ h o = nI m ∧ yn n h (nI m) = nI o ∧ yn n h (nI t) = -1 ∧ o ≠ p ∧ m ≠ q ∧ t ≠ q ∧ t ≠ m ∧ ynbN r c q d = some m := by
  have h12 := hB.2.2.2.2
  have hl := yd_lt hx
  rcases hH.1 p hp with e | ⟨q, hq, e⟩
  · unfold yd at hx; rw [e, yq_m] at hx; cases hx
  · unfold yd at hx
    rw [e, yq_n (by omega)] at hx
    change (yto r c q d).bind (yj n kd h hb p) = some (t, m) at hx
    cases ht : yto r c q d with
    | none => rw [ht] at hx; cases hx
    | some x =>
      rw [ht] at hx
      change yj n kd h hb p x = some (t, m) at hx
      unfold yj at hx
      split at hx
      · rename_i hok
        have ex : x.1 = t ∧ x.2.1 = m := by
          have := Option.some.inj hx
          exact ⟨congrArg Prod.fst this, congrArg Prod.snd this⟩
        obtain ⟨e1, e2⟩ := ex
        have hnb := yto_nb hB hq hd ht
        rw [e2] at hnb
        have hmem : x ∈ ygeoL r c q := by
          rw [← yto_list hB hq]
          exact List.mem_filterMap.mpr ⟨d, List.mem_range.mpr hd, ht⟩
        obtain ⟨g1, g2, g3, g4, g5⟩ := ygeo_mem hB hq hmem
        rw [e1] at g1 g4 g5
        rw [e2] at g2 g3 g5
        unfold yok at hok
        rw [e1, e2] at hok
        simp only [Bool.and_eq_true, decide_eq_true_eq] at hok
        obtain ⟨⟨⟨⟨k1, k2⟩, k3⟩, k4⟩, k5⟩ := hok
        rcases yn_cases n h (nI m) with ⟨f1, _⟩ | ⟨o, f1, f2, f3⟩
        · exact absurd f1 k1
        · refine ⟨q, o, hq, g1, g2, e, f1, f2, f3, k5, fun eo => ?_, g3, g4, g5, hnb⟩
          subst eo
          rw [e] at f2
          exact g3 (y_i (by omega) (by omega) f2).symm
      · cases hx
theorem y_nI2 (k : Nat) : nI (k + 1) - 1 = nI k := nI_pred k
/-- one jump, and back: the class's state behind it is as the positions say; taken back it is what it was -/
theorem y_leap {r c n : Nat} {s gs : Nat → Int32} {a ga : Nat → Nat → Int32} (hB : yB r c) (hG : yG r c gs ga) (hS : yS (r * c) n s a) {p d t m : Nat} (hp : p < n) (hd : d < 8) (hx : yd r c n (a 5) (a 6) (s 1) p d = some (t, m)) :
    fX4_neighbourOf s a gs ga (nI p) (nI d) = some (yn n (a 6) (nI m)) ∧ ∃ s' a', fX4_leap s a gs (nI p) (yn n (a 6) (nI m)) (nI t) = some (s', a') ∧ yS (r * c) n s' a' ∧ s' 1 = s 1 ∧ s' 2 = s 2 ∧ s' 4 = s 4 ∧ a' 5 = a 5 ∧ a' 6 = yaft n (a 5) (a 6) p (t, m) ∧ yc n (a' 6) < yc n (a 6) ∧ 1 ≤ yc n (a' 6) + 1 ∧ fX4_takeBack s' a' gs ga (nI p) (a 6 p) (yn n (a 6) (nI m)) (nI d) = some (s, a) := by
  have h12 := hB.2.2.2.2
  have hn := hS.2.1
  obtain ⟨q, o, hq, ht, hm, ep, ho, eo, eno, ent, hop, hmq, htq, htm, hnb⟩ := yd_all hB hS.2.2.2.1 hp hd hx
  obtain ⟨k, hk, ek⟩ := hS.2.2.1 p hp
  have hH := hS.2.2.2.1
  rw [eno]
  refine ⟨?_, ?_⟩
  · unfold fX4_neighbourOf
    rw [y_homeOf hS hp, zb1_e, ep, y_next hG h12 hq hd, zb1_e, hnb]
    show zb1 (fX4_pegIn a gs (nI m)) _ = _
    rw [y_pegIn hG h12 hS hm, zb1_e, eno]
  · -- the two lifts
    have L1 := y_lift (a := a) hG h12 hS.1 hn ho hm eo
    generalize e1 : upd s 3 (s 3 - 1) = s1 at L1
    generalize f1 : va_up (va_up a 7 (upd (a 7) m (-1))) 6 (upd (a 6) o (-1)) = a1 at L1
    have s12 : s1 2 = nI n := by rw [← e1, y_un (by decide)]; exact hS.1
    have a16 : a1 6 = upd (a 6) o (-1) := by rw [← f1, y_vu]
    have a15 : a1 5 = a 5 := by rw [← f1, y_vn (by decide), y_vn (by decide)]
    have a17 : a1 7 = upd (a 7) m (-1) := by rw [← f1, y_vn (by decide), y_vu]
    have L2 := y_lift (s := s1) (a := a1) hG h12 s12 hn hp hq (by rw [a16, y_un hop.symm]; exact ep)
    generalize e2 : upd s1 3 (s1 3 - 1) = s2 at L2
    generalize f2 : va_up (va_up a1 7 (upd (a1 7) q (-1))) 6 (upd (a1 6) p (-1)) = a2 at L2
    have s22 : s2 2 = nI n := by rw [← e2, y_un (by decide)]; exact s12
    have a26 : a2 6 = upd (upd (a 6) o (-1)) p (-1) := by rw [← f2, y_vu, a16]
    have a25 : a2 5 = a 5 := by rw [← f2, y_vn (by decide), y_vn (by decide), a15]
    have a27 : a2 7 = upd (upd (a 7) m (-1)) q (-1) := by rw [← f2, y_vn (by decide), y_vu, a17]
    have a2k : ∀ j, j ≠ 6 → j ≠ 7 → a2 j = a j := fun j h6 h7 => by rw [← f2, y_vn h6, y_vn h7, ← f1, y_vn h6, y_vn h7]
    have s2k : ∀ j, j ≠ 3 → s2 j = s j := fun j h3 => by rw [← e2, y_un h3, ← e1, y_un h3]
    -- counts
    have hpm : a 6 p ≠ -1 := by rw [ep]; exact y_nIm q (by omega)
    have hom : a 6 o ≠ -1 := by rw [eo]; exact y_nIm m (by omega)
    have c1 := yc_off (n := n) (h := a 6) ho hom
    have c2 := yc_off (n := n) (h := upd (a 6) o (-1)) hp (by rw [y_un hop.symm]; exact hpm)
    have s13 : s1 3 = nI (yc n (upd (a 6) o (-1))) := by rw [← e1, y_uu, hS.2.2.2.2.2, ← c1]; exact nI_pred _
    have s23 : s2 3 = nI (yc n (a2 6)) := by rw [← e2, y_uu, s13, a26, ← c2]; exact nI_pred _
    -- the tenants behind the lifts
    have ten : ∀ x, x < r * c → yn n (a2 6) (nI x) = if x = m ∨ x = q then -1 else yn n (a 6) (nI x) := by
      intro x hx
      rw [a26]
      by_cases hxm : x = m ∨ x = q
      · rw [if_pos hxm]
        refine yn_none fun z hz hzx => ?_
        by_cases z1 : z = p
        · subst z1; rw [y_uu] at hzx; exact y_mnI x (by omega) hzx
        · rw [y_un z1] at hzx
          by_cases z2 : z = o
          · subst z2; rw [y_uu] at hzx; exact y_mnI x (by omega) hzx
          · rw [y_un z2] at hzx
            rcases hxm with rfl | rfl
            · exact z2 (hH.2 z o hz ho (hzx.trans eo.symm) (by rw [hzx]; exact y_nIm _ (by omega)))
            · exact z1 (hH.2 z p hz hp (hzx.trans ep.symm) (by rw [hzx]; exact y_nIm _ (by omega)))
      · rw [if_neg hxm]
        rcases yn_cases n (a 6) (nI x) with ⟨g1, g2⟩ | ⟨z, g1, g2, g3⟩
        · rw [g1]
          refine yn_none fun z hz hzx => ?_
          by_cases z1 : z = p
          · subst z1; rw [y_uu] at hzx; exact y_mnI x (by omega) hzx
          · rw [y_un z1] at hzx
            by_cases z2 : z = o
            · subst z2; rw [y_uu] at hzx; exact y_mnI x (by omega) hzx
            · rw [y_un z2] at hzx; exact g2 z hz hzx
        · have z1 : z ≠ p := fun e => hxm (Or.inr (by subst e; rw [ep] at g2; exact (y_i (by omega) (by omega) g2).symm))
          have z2 : z ≠ o := fun e => hxm (Or.inl (by subst e; rw [eo] at g2; exact (y_i (by omega) (by omega) g2).symm))
          rw [g3]
          have hH2 : yH (r * c) n (upd (upd (a 6) o (-1)) p (-1)) := by
            refine ⟨fun w hw => ?_, fun w w' hw hw' hww hwm => ?_⟩
            · by_cases w1 : w = p
              · subst w1; rw [y_uu]; exact Or.inl rfl
              · rw [y_un w1]
                by_cases w2 : w = o
                · subst w2; rw [y_uu]; exact Or.inl rfl
                · rw [y_un w2]; exact hH.1 w hw
            · by_cases w1 : w = p
              · subst w1; rw [y_uu] at hwm; exact absurd rfl hwm
              · by_cases w2 : w = o
                · subst w2; rw [y_un w1, y_uu] at hwm; exact absurd rfl hwm
                · by_cases w3 : w' = p
                  · subst w3; rw [hww, y_uu] at hwm; exact absurd rfl hwm
                  · by_cases w4 : w' = o
                    · subst w4; rw [hww, y_un w3, y_uu] at hwm; exact absurd rfl hwm
                    · rw [y_un w1, y_un w2, y_un w3, y_un w4] at hww
                      rw [y_un w1, y_un w2] at hwm
                      exact hH.2 w w' hw hw' hww hwm
          have := yn_some hH2 g1 (by rw [y_un z1, y_un z2, g2]; exact y_nIm x (by omega))
          rw [y_un z1, y_un z2, g2] at this
          exact this
    have hH2 : yH (r * c) n (a2 6) := by
      rw [a26]
      refine ⟨fun w hw => ?_, fun w w' hw hw' hww hwm => ?_⟩
      · by_cases w1 : w = p
        · subst w1; rw [y_uu]; exact Or.inl rfl
        · rw [y_un w1]
          by_cases w2 : w = o
          · subst w2; rw [y_uu]; exact Or.inl rfl
          · rw [y_un w2]; exact hH.1 w hw
      · by_cases w1 : w = p
        · subst w1; rw [y_uu] at hwm; exact absurd rfl hwm
        · by_cases w2 : w = o
          · subst w2; rw [y_un w1, y_uu] at hwm; exact absurd rfl hwm
          · by_cases w3 : w' = p
            · subst w3; rw [hww, y_uu] at hwm; exact absurd rfl hwm
            · by_cases w4 : w' = o
              · subst w4; rw [hww, y_un w3, y_uu] at hwm; exact absurd rfl hwm
              · rw [y_un w1, y_un w2, y_un w3, y_un w4] at hww
                rw [y_un w1, y_un w2] at hwm
                exact hH.2 w w' hw hw' hww hwm
    have S2 : yS (r * c) n s2 a2 := by
      refine ⟨s22, hn, fun z hz => by rw [a25]; exact hS.2.2.1 z hz, hH2, fun x hx => ?_, s23⟩
      rw [ten x hx, a27]
      by_cases x1 : x = q
      · subst x1; rw [y_uu, if_pos (Or.inr rfl)]
      · rw [y_un x1]
        by_cases x2 : x = m
        · subst x2; rw [y_uu, if_pos (Or.inl rfl)]
        · rw [y_un x2, if_neg (by intro h; rcases h with h | h; exact x2 h; exact x1 h)]
          exact hS.2.2.2.2.1 x hx
    have kst : (k != 3) = true ↔ ¬ a 5 p = 3 := by
      rw [ek]
      have : (List.range 5).all (fun k => decide (((k != 3) = true) ↔ ¬ nI k = 3)) = true := by decide +kernel
      exact of_decide_eq_true (List.all_eq_true.mp this k (List.mem_range.mpr hk))
    have hlp : fX4_leap s a gs (nI p) (nI o) (nI t) = (if ¬ a 5 p = 3 then some (upd s2 3 (s2 3 + 1), va_up (va_up a2 6 (upd (a2 6) p (nI t))) 7 (upd (a2 7) t (nI p))) else some (s2, a2)) := by
      unfold fX4_leap
      rw [L1, zb2_e, L2, zb2_e, y_kindOf S2 hp, zb1_e, a25, ek, y_stay hk, zb1_e]
      rw [ek] at kst
      by_cases hst : nI k = 3
      · have : (k != 3) = false := by
          cases hc : (k != 3) with
          | false => rfl
          | true => exact absurd hst (kst.mp hc)
        rw [this, yb_f, if_pos rfl, if_neg (fun h => h hst)]
      · rw [kst.mpr hst, yb_t, if_neg n10, if_pos hst, y_set hG h12 s22 hn hp ht, zb2_e]
    have o1 : (yn n (a 6) (nI m)).toNatClampNeg = o := by rw [eno, nI_clamp (by omega)]
    -- back
    have back : ∀ s5 a5, s5 2 = nI n → (∀ j, j ≠ 3 → s5 j = s j) → s5 3 = nI (yc n (a2 6)) → a5 6 = a2 6 → a5 7 = a2 7 → (∀ j, j ≠ 6 → j ≠ 7 → a5 j = a j) → zb2 (fX4_set s5 a5 gs (nI p) (nI q)) (fun (Ss_4 : Nat → Int32) (Sa_5 : Nat → Nat → Int32) => zb1 (fX0_next gs ga (nI q) (nI d)) (fun (r7 : Int32) => zb2 (fX4_set Ss_4 Sa_5 gs (nI o) r7) (fun (Ss_9 : Nat → Int32) (Sa_10 : Nat → Nat → Int32) => some (Ss_9, Sa_10)))) = some (s, a) := by
      intro s5 a5 b1 b2 b3 b4 b5 b6
      rw [y_set hG h12 b1 hn hp hq, zb2_e, y_next hG h12 hq hd, zb1_e, hnb]
      show zb2 (fX4_set _ _ gs (nI o) (nI m)) _ = _
      rw [y_set hG h12 (by rw [y_un (by decide)]; exact b1) hn ho hm, zb2_e]
      have E1 : upd (upd s5 3 (s5 3 + 1)) 3 (upd s5 3 (s5 3 + 1) 3 + 1) = s := by
        funext j
        by_cases j3 : j = 3
        · subst j3
          rw [y_uu, y_uu, b3, nI_1, nI_1, a26, hS.2.2.2.2.2]
          exact congrArg nI (by omega)
        · rw [y_un j3, y_un j3]; exact b2 j j3
      have E6 : upd (upd (a5 6) p (nI q)) o (nI m) = a 6 := by
        funext j
        rw [b4, a26]
        by_cases j1 : j = o
        · subst j1; rw [y_uu]; exact eo.symm
        · rw [y_un j1]
          by_cases j2 : j = p
          · subst j2; rw [y_uu]; exact ep.symm
          · rw [y_un j2, y_un j2, y_un j1]
      have tq := hS.2.2.2.2.1 q hq
      have tm := hS.2.2.2.2.1 m hm
      have nq : yn n (a 6) (nI q) = nI p := by rw [← ep]; exact yn_some hH hp hpm
      have E7 : upd (upd (a5 7) q (nI p)) m (nI o) = a 7 := by
        funext j
        rw [b5, a27]
        by_cases j1 : j = m
        · subst j1; rw [y_uu, tm, eno]
        · rw [y_un j1]
          by_cases j2 : j = q
          · subst j2; rw [y_uu, tq, nq]
          · rw [y_un j2, y_un j2, y_un j1]
      have EA : va_up (va_up (va_up (va_up a5 6 (upd (a5 6) p (nI q))) 7 (upd (a5 7) q (nI p))) 6 (upd (va_up (va_up a5 6 (upd (a5 6) p (nI q))) 7 (upd (a5 7) q (nI p)) 6) o (nI m))) 7 (upd (va_up (va_up a5 6 (upd (a5 6) p (nI q))) 7 (upd (a5 7) q (nI p)) 7) m (nI o)) = a := by
        funext j
        by_cases j7 : j = 7
        · subst j7; rw [y_vu, y_vu, E7]
        · rw [y_vn j7]
          by_cases j6 : j = 6
          · subst j6; rw [y_vu, y_vn (by decide), y_vu, E6]
          · rw [y_vn j6, y_vn j7, y_vn j6]; exact b6 j j6 j7
      rw [E1, EA]
    by_cases hst : a 5 p = 3
    · rw [if_neg (fun h => h hst)] at hlp
      refine ⟨s2, a2, hlp, S2, s2k 1 (by decide), s2k 2 (by decide), s2k 4 (by decide), a25, ?_, ?_, by omega, ?_⟩
      · unfold yaft
        rw [if_pos hst, o1, a26]
        funext j
        by_cases j1 : j = o
        · subst j1; rw [y_uu, y_un hop, y_uu]
        · rw [y_un j1]
          by_cases j2 : j = p
          · subst j2; rw [y_uu, y_uu]
          · rw [y_un j2, y_un j2, y_un j1]
      · rw [a26]; omega
      · unfold fX4_takeBack
        rw [y_liftm hG h12 s22 hn hp (by rw [a26, y_uu]), zb2_e, ep]
        exact back s2 a2 s22 s2k s23 rfl rfl a2k
    · rw [if_pos hst] at hlp
      generalize e3 : upd s2 3 (s2 3 + 1) = s3 at hlp
      generalize f3 : va_up (va_up a2 6 (upd (a2 6) p (nI t))) 7 (upd (a2 7) t (nI p)) = a3 at hlp
      have s32 : s3 2 = nI n := by rw [← e3, y_un (by decide)]; exact s22
      have a36 : a3 6 = upd (a2 6) p (nI t) := by rw [← f3, y_vn (by decide), y_vu]
      have a35 : a3 5 = a 5 := by rw [← f3, y_vn (by decide), y_vn (by decide), a25]
      have a37 : a3 7 = upd (a2 7) t (nI p) := by rw [← f3, y_vu]
      have pm2 : a2 6 p = -1 := by rw [a26, y_uu]
      have c3 := yc_on (n := n) (h := a2 6) hp pm2 (v := nI t) (y_nIm t (by omega))
      have s33 : s3 3 = nI (yc n (a3 6)) := by rw [← e3, y_uu, s23, nI_1, a36, c3]
      have freet : ∀ z, z < n → a2 6 z ≠ nI t := by
        intro z hz hzt
        have := ten t ht
        rw [if_neg (by intro h; rcases h with h | h; exact htm h; exact htq h), ent] at this
        rw [← hzt, yn_some hH2 hz (by rw [hzt]; exact y_nIm t (by omega))] at this
        exact y_nIm z (by omega) this
      have hH3 : yH (r * c) n (a3 6) := by
        rw [a36]
        refine ⟨fun w hw => ?_, fun w w' hw hw' hww hwm => ?_⟩
        · by_cases w1 : w = p
          · subst w1; rw [y_uu]; exact Or.inr ⟨t, ht, rfl⟩
          · rw [y_un w1]; exact hH2.1 w hw
        · by_cases w1 : w = p
          · by_cases w2 : w' = p
            · rw [w1, w2]
            · subst w1
              rw [y_uu, y_un w2] at hww
              exact absurd hww.symm (freet w' hw')
          · by_cases w2 : w' = p
            · subst w2
              rw [y_uu, y_un w1] at hww
              exact absurd hww (freet w hw)
            · rw [y_un w1, y_un w2] at hww
              rw [y_un w1] at hwm
              exact hH2.2 w w' hw hw' hww hwm
      have S3 : yS (r * c) n s3 a3 := by
        refine ⟨s32, hn, fun z hz => by rw [a35]; exact hS.2.2.1 z hz, hH3, fun x hx => ?_, s33⟩
        rw [a37]
        by_cases x1 : x = t
        · subst x1
          rw [y_uu]
          have := yn_some hH3 hp (by rw [a36, y_uu]; exact y_nIm x (by omega))
          rw [a36, y_uu] at this
          rw [a36]
          exact this.symm
        · rw [y_un x1, S2.2.2.2.2.1 x hx, a36]
          rcases yn_cases n (a2 6) (nI x) with ⟨g1, g2⟩ | ⟨z, g1, g2, g3⟩
          · rw [g1]
            refine (yn_none fun z hz hzx => ?_).symm
            by_cases z1 : z = p
            · subst z1; rw [y_uu] at hzx; exact x1 (y_i (by omega) (by omega) hzx).symm
            · rw [y_un z1] at hzx; exact g2 z hz hzx
          · have z1 : z ≠ p := fun e => by subst e; rw [pm2] at g2; exact y_mnI x (by omega) g2
            have := yn_some hH3 g1 (by rw [a36, y_un z1, g2]; exact y_nIm x (by omega))
            rw [a36, y_un z1, g2] at this
            rw [g3, this]
      refine ⟨s3, a3, hlp, S3, ?_, ?_, ?_, a35, ?_, ?_, by omega, ?_⟩
      · rw [← e3, y_un (by decide)]; exact s2k 1 (by decide)
      · rw [← e3, y_un (by decide)]; exact s2k 2 (by decide)
      · rw [← e3, y_un (by decide)]; exact s2k 4 (by decide)
      · unfold yaft
        rw [if_neg hst, o1, a36, a26]
        funext j
        by_cases j1 : j = o
        · subst j1; rw [y_uu, y_un hop, y_un hop, y_uu]
        · rw [y_un j1]
          by_cases j2 : j = p
          · subst j2; rw [y_uu, y_uu]
          · rw [y_un j2, y_un j2, y_un j2, y_un j1]
      · rw [a36, c3, a26]; omega
      · unfold fX4_takeBack
        rw [y_lift (s := s3) (a := a3) hG h12 s32 hn hp ht (by rw [a36, y_uu]), zb2_e, ep]
        refine back _ _ ?_ ?_ ?_ ?_ ?_ ?_
        · rw [y_un (by decide)]; exact s32
        · intro j j3; rw [y_un j3, ← e3, y_un j3]; exact s2k j j3
        · rw [y_uu, s33, a36, c3]; exact nI_pred _
        · rw [y_vu, a36]
          funext j
          by_cases j2 : j = p
          · subst j2; rw [y_uu]; exact pm2.symm
          · rw [y_un j2, y_un j2]
        · rw [y_vn (by decide), y_vu, a37]
          funext j
          by_cases j1 : j = t
          · subst j1
            rw [y_uu, S2.2.2.2.2.1 j ht]
            exact (yn_none freet).symm
          · rw [y_un j1, y_un j1]
        · intro j j6 j7
          rw [y_vn j6, y_vn j7, ← f3, y_vn j7, y_vn j6]; exact a2k j j6 j7
