/-! pure: the reference's search comes to what all courses come to -/
theorem yOut_f {r c n : Nat} {kd : Nat → Int32} {hb : Int32} {f : Nat} {h : Nat → Int32} (hB : yB r c) (hn : n ≤ 8) (hk : yk5 n kd) (hH : yH (r * c) n h) (hf : yc n h ≤ f) : yOut r c n kd hb f h = yend (yF r c n kd hb (f - 1) h (yLL r c n kd h hb n)) (nI (yc n h)) (yal n h) := by
  cases f with
  | zero =>
    rw [yLL_nil hB hn hk hH (by omega) n (Nat.le_refl n)]
    rfl
  | succ f => rfl
theorem yfd_t {d : Nat} {a b c : Nat → Nat → Int32} (h1 : yfd d a b) (h2 : yfd d b c) : yfd d a c := ⟨fun i hi => (h2.1 i hi).trans (h1.1 i hi), fun j hj => (h2.2.1 j hj).trans (h1.2.1 j hj), fun i j i1 i2 hj => (h2.2.2 i j i1 i2 hj).trans (h1.2.2 i j i1 i2 hj)⟩
theorem yfr_fd {d e : Nat} {a b : Nat → Nat → Int32} (h : yfr e a b) (hd : d ≤ e) : yfd d a b := ⟨fun i hi => h.1 i (by omega), fun j hj => by rw [h.1 17 (Or.inl (by decide))], fun i j _ _ hj => h.2 i j (by omega)⟩
theorem yfd_d {d e : Nat} {a b : Nat → Nat → Int32} (h : yfd e a b) (hd : d ≤ e) : yfd d a b := ⟨h.1, fun j hj => h.2.1 j (by omega), fun i j i1 i2 hj => h.2.2 i j i1 i2 (by omega)⟩
/-- a level is done -/
theorem y_done {r c n d : Nat} {hb : Int32} {kd h s : Nat → Int32} {a : Nat → Nat → Int32} {f : Nat} (hB : yB r c) (hM : yM r c n hb kd s a) (hR : yR n d h a) (hH : yH (r * c) n h) (hd : d + f ≤ 8) (hf : yc n h ≤ f) (hT : yT (yF r c n kd hb (f - 1) h (yLL r c n kd h hb n)) a d) : ∃ a1, (if a 19 d = 0 then zb1 (fX6_end s a (nI d)) (fun (M : Nat → Nat → Int32) => some M) else some a) = some a1 ∧ yfr d a a1 ∧ a1 18 = a 18 ∧ yU (yOut r c n kd hb f h) a1 d := by
  have hn := hM.2.2.2.2.1
  have h12 := hB.2.2.2.2
  have hl := yLL_len12 (n := n) (kd := kd) (h := h) (hb := hb) h12 n
  have hFB := yF_fb (r := r) (c := c) (n := n) (kd := kd) (hb := hb) (f := f - 1) (h := h) (by omega) (fun h' => yOut_ob h12 hn (f - 1) (by omega) h') (yLL r c n kd h hb n) (by omega)
  rw [yOut_f hB hn hM.2.2.2.2.2.2 hH hf]
  generalize yF r c n kd hb (f - 1) h (yLL r c n kd h hb n) = o at *
  generalize (yLL r c n kd h hb n).length = i at *
  obtain ⟨t19, t20, t22, t25, t26, t27, t21, t23, t24⟩ := hT
  obtain ⟨o0, ob, oo⟩ := hFB
  have hcl := yc_le n h
  by_cases e : i = 0
  · have eo := ob e
    have c0 : a 19 d = 0 := by rw [t19, o0, e]; rfl
    obtain ⟨a', w1, w2, w3, w19, w20, w21, w22, w23, w24, w25, w26, w27⟩ := y_mend hM hR (show d ≤ 8 by omega)
    rw [if_pos c0, w1, zb1_e]
    rw [eo] at t22 t26
    rw [eo]
    have l0 : ybeg 0 ≤ 0 := by decide
    refine ⟨a', rfl, w2, w3, ?_, ?_, ?_, ?_, ?_, ?_, ?_, ?_, ?_⟩
    · rw [w21]; show _ = (if ybeg 0 ≤ 0 then nI (yc n h) else ybeg 1); rw [if_pos l0]
    · rw [w22, t22]; rfl
    · rw [w20]; show _ = (if ybeg 0 ≤ 0 then (1 : Int32) else ybeg 3); rw [if_pos l0]
    · rw [w23]; rfl
    · rw [w24]; rfl
    · rw [w25]; show _ = (if ybeg 0 ≤ 0 then yal n h else ybeg 6); rw [if_pos l0]
    · rw [w26, t26]; rfl
    · rw [w27, w19]
      show _ = (if ybeg 0 ≤ 0 then 1000 * nI (yc n h) else ybeg 8 / ybeg 0)
      rw [if_pos l0, show (1000 : Int32) = nI 1000 from rfl, pk_mul]
      have := pk_div (a := 1000 * yc n h) (d := 1) (by omega) (by decide) (by decide)
      rw [Nat.div_one] at this
      exact this
    · rw [w19]; exact n10
  · have c0 : ¬ a 19 d = 0 := by rw [t19, o0]; exact yi0 (by omega) (by omega)
    have c1 : ¬ o 0 ≤ 0 := by rw [o0]; exact nI_nle (by omega) (by omega)
    have c2 : ¬ o 0 = 0 := by rw [o0]; exact yi0 (by omega) (by omega)
    rw [if_neg c0]
    rw [if_neg c2] at t21 t23 t24
    refine ⟨a, rfl, ⟨fun _ _ => rfl, fun _ _ _ => rfl⟩, rfl, ?_, ?_, ?_, ?_, ?_, ?_, ?_, ?_, c0⟩
    · rw [t21]; show _ = (if o 0 ≤ 0 then nI (yc n h) else o 1); rw [if_neg c1]
    · exact t22
    · rw [t20]; show _ = (if o 0 ≤ 0 then (1 : Int32) else o 3); rw [if_neg c1]
    · exact t23
    · exact t24
    · rw [t25]; show _ = (if o 0 ≤ 0 then yal n h else o 6); rw [if_neg c1]
    · exact t26
    · rw [t27, t19]; show _ = (if o 0 ≤ 0 then 1000 * nI (yc n h) else o 8 / o 0); rw [if_neg c1]
def yLg (r c n : Nat) (hb : Int32) (kd s : Nat → Int32) (f : Nat) : Prop := ∀ (d : Nat) (h : Nat → Int32) (a : Nat → Nat → Int32) (x : Nat), d + f ≤ 8 → yM r c n hb kd s a → yR n d h a → yH (r * c) n h → yc n h ≤ f → x ≤ 96 → a 18 d = nI x → yT (yF r c n kd hb (f - 1) h ((List.range x).filterMap (yC r c n kd h hb))) a d → ∃ a1, yU (yOut r c n kd hb f h) a1 d ∧ yfd d a a1 ∧ (d = 0 → zi2 (yLB s) (nI d) a = some a1) ∧ ∀ d' a2 z, d = d' + 1 → fX6_takeUp a1 (nI d') (a1 18 d' - 1) = some a2 → zi2 (yLB s) (nI d') a2 = some z → zi2 (yLB s) (nI d) a = some z
theorem y_lay {r c n : Nat} {hb : Int32} {kd s : Nat → Int32} (hB : yB r c) : ∀ f, yLg r c n hb kd s f := by
  intro f
  induction f using Nat.strongRecOn with
  | _ f IH =>
  intro d h a x hdf hM hR hH hcf hx h18 hT
  have hn := hM.2.2.2.2.1
  have h12 := hB.2.2.2.2
  have hk5 := hM.2.2.2.2.2.2
  generalize hm : 96 - x = m
  induction m using Nat.strongRecOn generalizing a x with
  | _ m IHm =>
  obtain ⟨z, hz, K, k1, k2, k3, k4, ez⟩ := y_nextCode hB hM hR hH (show d ≤ 8 by omega) hx h18
  have dn : ¬ nI d < 0 := nI_pos (by omega)
  generalize eA : va_up a 18 (upd (a 18) d (nI (K + 1))) = A at ez
  have A18 : A 18 d = nI (K + 1) := by rw [← eA, y_vu, y_uu]
  have Ak : ∀ i, i ≠ 18 → A i = a i := fun i hi => by rw [← eA, y_vn hi]
  have frA : yfr d a A := by
    refine ⟨fun i hi => Ak i (by omega), fun i j hj => ?_⟩
    by_cases e : i = 18
    · subst e; rw [← eA, y_vu, y_un hj]
    · rw [Ak i e]
  have hMA : yM r c n hb kd s A := yM_c hM (Ak 5 (by decide))
  have hRA : yR n d h A := fun p hp => by rw [Ak 17 (by decide)]; exact hR p hp
  have hTA : yT (yF r c n kd hb (f - 1) h ((List.range x).filterMap (yC r c n kd h hb))) A d := by
    obtain ⟨t19, t20, t22, t25, t26, t27, t21, t23, t24⟩ := hT
    refine ⟨?_, ?_, ?_, ?_, ?_, ?_, ?_, ?_, ?_⟩ <;> rw [Ak _ (by decide)] <;> assumption
  by_cases hK : K < 96
  · -- a jump
    rw [if_pos hK] at ez
    obtain ⟨y, hy⟩ := Option.isSome_iff_exists.mp (k4 hK)
    obtain ⟨y1, y2, y3, y4, y5⟩ := yC_some hy
    obtain ⟨p, w⟩ := y
    change p = K / 12 at y2
    change w.1 = K % 12 at y3
    rw [← y2] at y1
    change w ∈ yJ r c n kd h hb (K / 12) at y5
    rw [← y2] at y5
    obtain ⟨hH', hc'⟩ := y_aft hB hn hk5 hH y1 y5
    obtain ⟨a2, g1, g2, g3, g4⟩ := y_goDeep hB hMA hRA hH (show d ≤ 7 by omega) y1 y5
    obtain ⟨a3, b1, b2, b3, b4⟩ := y_mbegin (a := a2) (show d + 1 ≤ 8 by omega)
    have hM3 : yM r c n hb kd s a3 := yM_c hMA (by rw [b2.1 5 (Or.inl (by decide)), g2 5 (by decide)])
    have hR3 : yR n (d + 1) (yaft n kd h p w) a3 := fun q hq => by rw [b2.1 17 (Or.inl (by decide))]; exact g4 q hq
    obtain ⟨a4, u1, u2, _, u3⟩ := IH (f - 1) (by omega) (d + 1) (yaft n kd h p w) a3 0 (by omega) hM3 hR3 hH' (by omega) (by decide) b3 b4
    have row : ∀ i, 18 ≤ i → i ≤ 27 → a4 i d = A i d := fun i i1 i2 => by
      rw [u2.2.2 i d i1 i2 (by omega), b2.2 i d (by omega), g2 i (by omega)]
    have hT4 : yT (yF r c n kd hb (f - 1) h ((List.range x).filterMap (yC r c n kd h hb))) a4 d := by
      obtain ⟨t19, t20, t22, t25, t26, t27, t21, t23, t24⟩ := hTA
      refine ⟨?_, ?_, ?_, ?_, ?_, ?_, ?_, ?_, ?_⟩ <;> rw [row _ (by decide) (by decide)] <;> assumption
    have hll : ((List.range x).filterMap (yC r c n kd h hb)).length ≤ 96 := by
      have := List.length_filterMap_le (yC r c n kd h hb) (List.range x)
      rw [List.length_range] at this
      omega
    have hFB := yF_fb (r := r) (c := c) (n := n) (kd := kd) (hb := hb) (f := f - 1) (h := h) (by omega) (fun h' => yOut_ob h12 hn (f - 1) (by omega) h') ((List.range x).filterMap (yC r c n kd h hb)) (by omega)
    obtain ⟨a5, v1, v2, v3, v4⟩ := y_takeUp (a := a4) (k := K) (show d + 1 ≤ 8 by omega) hK hT4 hFB (by omega) (by omega) u1 (by
      obtain ⟨x', y', z', q1, q2, q3, q4⟩ := yOut_ob (kd := kd) (hb := hb) h12 hn (f - 1) (by omega) (yaft n kd h p w)
      exact ⟨x', y', z', q1, by omega, by omega, q4⟩)
    have e5 : yF r c n kd hb (f - 1) h ((List.range (K + 1)).filterMap (yC r c n kd h hb)) = ytk (yF r c n kd hb (f - 1) h ((List.range x).filterMap (yC r c n kd h hb))) (yOut r c n kd hb (f - 1) (yaft n kd h p w)) (nI (100 * (K / 12) + K % 12)) := by
      rw [y_fm, hy, k3]
      show yF r c n kd hb (f - 1) h (_ ++ [(p, w)]) = _
      rw [yF_snoc]
      show ytk _ _ (nI (100 * p + w.1)) = _
      rw [y3, y2]
    have a518 : a5 18 d = nI (K + 1) := by rw [v3, row 18 (by decide) (by decide), A18]
    have f5 : yfd d a a5 := by
      refine yfd_t (yfr_fd frA (Nat.le_refl d)) (yfd_t ?_ (yfd_t (yfr_fd b2 (by omega)) (yfd_t (yfd_d u2 (by omega)) (yfr_fd v2 (Nat.le_refl d)))))
      exact ⟨fun i hi => g2 i (by omega), fun j hj => g3 j hj, fun i j i1 _ _ => by rw [g2 i (by omega)]⟩
    have hM5 : yM r c n hb kd s a5 := yM_c hM (f5.1 5 (Or.inl (by decide)))
    have hR5 : yR n d h a5 := fun q hq => by rw [f5.2.1 _ (by omega)]; exact hR q hq
    obtain ⟨a6, s1, s2, s3, s4⟩ := IHm (96 - (K + 1)) (by omega) a5 (K + 1) hM5 hR5 (by omega) a518 (by rw [e5]; exact v4) rfl
    have step : yLB s (nI d) a = some (.inl (nI (d + 1), a3)) := by
      have e1 : nI K / (12 : Int32) = nI p := by rw [y2]; exact pk_div (d := 12) (by omega) (by decide) (by decide)
      have e2 : nI K - nI K / (12 : Int32) * (12 : Int32) = nI w.1 := by rw [y3]; exact pk_rem (d := 12) (by omega) (by decide) (by decide)
      unfold yLB
      rw [if_neg dn, hz, ez, zb2_e, if_neg (y_nIm K (by omega)), e2, e1, g1, zb1_e, nI_1, b1, zb1_e, zb2_e]
    have t4 : a4 18 d - 1 = nI K := by rw [row 18 (by decide) (by decide), A18]; exact nI_pred K
    have back : ∀ z, zi2 (yLB s) (nI d) a5 = some z → zi2 (yLB s) (nI d) a = some z := fun z hz' => zi2_l step (u3 d a5 z rfl (by rw [t4]; exact v1) hz')
    exact ⟨a6, s1, yfd_t f5 s2, fun d0 => back _ (s3 d0), fun d' a2' z' hd' w1 w2 => back _ (s4 d' a2' z' hd' w1 w2)⟩
  · -- none any more
    rw [if_neg hK] at ez
    have eK : K = 96 := by omega
    have eLL : (List.range x).filterMap (yC r c n kd h hb) = yLL r c n kd h hb n := by rw [← k3, eK, yC_all h12 hn]
    rw [eLL] at hTA
    obtain ⟨a1, w1, w2, w3, w4⟩ := y_done hB hMA hRA hH hdf hcf hTA
    refine ⟨a1, w4, yfd_t (yfr_fd frA (Nat.le_refl d)) (yfr_fd w2 (Nat.le_refl d)), fun d0 => ?_, fun d' a2 z' hd' w5 w6 => ?_⟩
    · subst d0
      have step : yLB s (nI 0) a = some (.inl (nI 0 + (-1 : Int32), a1)) := by
        unfold yLB
        rw [if_neg dn, hz, ez, zb2_e, if_pos rfl, y_zin (show 0 < 9 by decide) (by decide), zck_e, nI_clamp (show 0 < 2 ^ 31 by decide), w1, zb1_e, if_pos (show nI 0 + (-1 : Int32) < 0 by decide), zb2_e]
      refine zi2_l step (zi2_r ?_)
      unfold yLB
      rw [if_pos (show nI 0 + (-1 : Int32) < 0 by decide)]
    · subst hd'
      have step : yLB s (nI (d' + 1)) a = some (.inl (nI d', a2)) := by
        unfold yLB
        rw [if_neg dn, hz, ez, zb2_e, if_pos rfl, y_zin (show d' + 1 < 9 by omega) (by decide), zck_e, nI_clamp (show d' + 1 < 2 ^ 31 by omega), w1, zb1_e, pk_m1, if_neg (nI_pos (show d' < 2 ^ 31 by omega)), y_zin (show d' < 9 by omega) (by decide), zck_e, nI_clamp (show d' < 2 ^ 31 by omega), w5, zb1_e, zb2_e]
      exact zi2_l step w6
/-- the reference's search, from what is now -/
theorem y_layCourses {r c n : Nat} {hb : Int32} {kd h s : Nat → Int32} {a : Nat → Nat → Int32} (hB : yB r c) (hM : yM r c n hb kd s a) (hR : yR n 0 h a) (hH : yH (r * c) n h) : ∃ a1, fX6_layCourses s a = some a1 ∧ yU (yOut r c n kd hb 8 h) a1 0 ∧ (∀ i, i < 17 ∨ 27 < i → a1 i = a i) ∧ ∀ j, j < 8 → a1 17 j = a 17 j := by
  obtain ⟨a3, b1, b2, b3, b4⟩ := y_mbegin (a := a) (d := 0) (by decide)
  have hM3 : yM r c n hb kd s a3 := yM_c hM (b2.1 5 (Or.inl (by decide)))
  have hR3 : yR n 0 h a3 := fun q hq => by rw [b2.1 17 (Or.inl (by decide))]; exact hR q hq
  have hcl := yc_le n h
  obtain ⟨a1, u1, u2, u3, _⟩ := y_lay hB 8 0 h a3 0 (by decide) hM3 hR3 hH (by have := hM.2.2.2.2.1; omega) (by decide) b3 b4
  refine ⟨a1, ?_, u1, fun i hi => ?_, fun j hj => ?_⟩
  · rw [yLB_is]
    have e0 : (0 : Int32) = nI 0 := rfl
    rw [e0, b1, zb1_e, u3 rfl, zb1_e]
  · rw [u2.1 i hi, b2.1 i (by omega)]
  · rw [u2.2.1 j (by omega), b2.1 17 (Or.inl (by decide))]
