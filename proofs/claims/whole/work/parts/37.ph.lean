/-! pure: what all courses come to; the class's search -/
def ybeg : Nat → Int32 := fun k => match k with | 2 => -1 | 7 => -1 | _ => 0
def ytk (o u : Nat → Int32) (j : Int32) : Nat → Int32 := fun k => match k with
  | 0 => o 0 + 1
  | 1 => if o 0 = 0 then u 1 else if o 1 ≤ u 1 then o 1 else u 1
  | 2 => if o 0 = 0 then j else if o 1 ≤ u 1 then o 2 else j
  | 3 => o 3 + u 3
  | 4 => if o 4 < u 4 + 1 then u 4 + 1 else o 4
  | 5 => if o 0 = 0 then u 5 + 1 else if o 5 ≤ u 5 + 1 then o 5 else u 5 + 1
  | 6 => o 6 ||| u 6
  | 7 => if o 7 = -1 then if u 7 = -1 then j else o 7 else o 7
  | 8 => o 8 + u 8
  | _ => 0
def yend (o : Nat → Int32) (nb al : Int32) : Nat → Int32 := fun k => match k with
  | 1 => if o 0 ≤ 0 then nb else o 1
  | 3 => if o 0 ≤ 0 then 1 else o 3
  | 6 => if o 0 ≤ 0 then al else o 6
  | 8 => if o 0 ≤ 0 then 1000 * nb else o 8 / o 0
  | k => o k
def yE (o o' : Nat → Int32) : Prop := ∀ k, k < 9 → o k = o' k
theorem y9 {P : Nat → Prop} (h0 : P 0) (h1 : P 1) (h2 : P 2) (h3 : P 3) (h4 : P 4) (h5 : P 5) (h6 : P 6) (h7 : P 7) (h8 : P 8) : ∀ k, k < 9 → P k := by
  intro k hk
  rcases (show k = 0 ∨ k = 1 ∨ k = 2 ∨ k = 3 ∨ k = 4 ∨ k = 5 ∨ k = 6 ∨ k = 7 ∨ k = 8 by omega) with rfl | rfl | rfl | rfl | rfl | rfl | rfl | rfl | rfl <;> assumption
theorem ytk_congr {O U o u : Nat → Int32} {j : Int32} (hO : yE O o) (hU : yE U u) : yE (ytk O U j) (ytk o u j) := by
  have o0 := hO 0 (by decide)
  have o1 := hO 1 (by decide)
  have o2 := hO 2 (by decide)
  have o3 := hO 3 (by decide)
  have o4 := hO 4 (by decide)
  have o5 := hO 5 (by decide)
  have o6 := hO 6 (by decide)
  have o7 := hO 7 (by decide)
  have o8 := hO 8 (by decide)
  have u1 := hU 1 (by decide)
  have u3 := hU 3 (by decide)
  have u4 := hU 4 (by decide)
  have u5 := hU 5 (by decide)
  have u6 := hU 6 (by decide)
  have u7 := hU 7 (by decide)
  have u8 := hU 8 (by decide)
  refine y9 ?_ ?_ ?_ ?_ ?_ ?_ ?_ ?_ ?_
  · show O 0 + 1 = o 0 + 1; rw [o0]
  · show (if O 0 = 0 then U 1 else if O 1 ≤ U 1 then O 1 else U 1) = (if o 0 = 0 then u 1 else if o 1 ≤ u 1 then o 1 else u 1); rw [o0, o1, u1]
  · show (if O 0 = 0 then j else if O 1 ≤ U 1 then O 2 else j) = (if o 0 = 0 then j else if o 1 ≤ u 1 then o 2 else j); rw [o0, o1, o2, u1]
  · show O 3 + U 3 = o 3 + u 3; rw [o3, u3]
  · show (if O 4 < U 4 + 1 then U 4 + 1 else O 4) = (if o 4 < u 4 + 1 then u 4 + 1 else o 4); rw [o4, u4]
  · show (if O 0 = 0 then U 5 + 1 else if O 5 ≤ U 5 + 1 then O 5 else U 5 + 1) = (if o 0 = 0 then u 5 + 1 else if o 5 ≤ u 5 + 1 then o 5 else u 5 + 1); rw [o0, o5, u5]
  · show O 6 ||| U 6 = o 6 ||| u 6; rw [o6, u6]
  · show (if O 7 = -1 then if U 7 = -1 then j else O 7 else O 7) = (if o 7 = -1 then if u 7 = -1 then j else o 7 else o 7); rw [o7, u7]
  · show O 8 + U 8 = o 8 + u 8; rw [o8, u8]
theorem yend_congr {O o : Nat → Int32} {nb al : Int32} (hO : yE O o) : yE (yend O nb al) (yend o nb al) := by
  have o0 := hO 0 (by decide)
  have o1 := hO 1 (by decide)
  have o2 := hO 2 (by decide)
  have o3 := hO 3 (by decide)
  have o4 := hO 4 (by decide)
  have o5 := hO 5 (by decide)
  have o6 := hO 6 (by decide)
  have o7 := hO 7 (by decide)
  have o8 := hO 8 (by decide)
  refine y9 ?_ ?_ ?_ ?_ ?_ ?_ ?_ ?_ ?_
  · exact o0
  · show (if O 0 ≤ 0 then nb else O 1) = (if o 0 ≤ 0 then nb else o 1); rw [o0, o1]
  · exact o2
  · show (if O 0 ≤ 0 then 1 else O 3) = (if o 0 ≤ 0 then 1 else o 3); rw [o0, o3]
  · exact o4
  · exact o5
  · show (if O 0 ≤ 0 then al else O 6) = (if o 0 ≤ 0 then al else o 6); rw [o0, o6]
  · exact o7
  · show (if O 0 ≤ 0 then 1000 * nb else O 8 / O 0) = (if o 0 ≤ 0 then 1000 * nb else o 8 / o 0); rw [o0, o8]
theorem y_begin (O : Nat → Int32) : ∃ O', fX1_begin O = some O' ∧ yE O' ybeg := by
  unfold fX1_begin
  simp only [zlt_e]
  refine ⟨_, rfl, y9 ?_ ?_ ?_ ?_ ?_ ?_ ?_ ?_ ?_⟩ <;> rfl
theorem y_take {O U o u : Nat → Int32} {j : Int32} (hO : yE O o) (hU : yE U u) : ∃ O', fX1_take O U j = some O' ∧ yE O' (ytk o u j) := by
  have main : ∃ O', fX1_take O U j = some O' ∧ yE O' (ytk O U j) := by
    unfold fX1_take
    simp only [zlt_e, zjn_e]
    refine zb1_x (fun Z => Z 1 = (if O 0 = 0 then U 1 else if O 1 ≤ U 1 then O 1 else U 1) ∧ Z 2 = (if O 0 = 0 then j else if O 1 ≤ U 1 then O 2 else j) ∧ ∀ k, k ≠ 1 → k ≠ 2 → Z k = O k) ?_ ?_
    · by_cases c : O 0 = 0
      · rw [if_pos c, if_pos c, if_pos c]
        exact ⟨_, rfl, by rw [y_un (by decide), y_uu], by rw [y_uu], fun k k1 k2 => by rw [y_un k2, y_un k1]⟩
      · rw [if_neg c, if_neg c, if_neg c]
        by_cases c2 : O 1 ≤ U 1
        · rw [if_pos c2, if_pos c2, if_pos c2]
          exact ⟨_, rfl, rfl, rfl, fun _ _ _ => rfl⟩
        · rw [if_neg c2, if_neg c2, if_neg c2]
          exact ⟨_, rfl, by rw [y_un (by decide), y_uu], by rw [y_uu], fun k k1 k2 => by rw [y_un k2, y_un k1]⟩
    · rintro Z ⟨z1, z2, zk⟩
      rw [zk 0 (by decide) (by decide), zk 5 (by decide) (by decide)]
      refine zb1_x (fun Y => Y 5 = (if O 0 = 0 then U 5 + 1 else if O 5 ≤ U 5 + 1 then O 5 else U 5 + 1) ∧ ∀ k, k ≠ 5 → Y k = Z k) ?_ ?_
      · by_cases c : O 0 = 0
        · rw [if_pos c, if_pos c]
          exact ⟨_, rfl, by rw [y_uu], fun k k1 => by rw [y_un k1]⟩
        · rw [if_neg c, if_neg c]
          by_cases c2 : O 5 ≤ U 5 + 1
          · rw [if_pos c2, if_pos c2]
            exact ⟨_, rfl, zk 5 (by decide) (by decide), fun _ _ => rfl⟩
          · rw [if_neg c2, if_neg c2]
            exact ⟨_, rfl, by rw [y_uu], fun k k1 => by rw [y_un k1]⟩
      · rintro Y ⟨y5, yk⟩
        have Y0 : Y 0 = O 0 := by rw [yk 0 (by decide), zk 0 (by decide) (by decide)]
        have Y1 := (yk 1 (by decide)).trans z1
        have Y2 := (yk 2 (by decide)).trans z2
        have Y3 : Y 3 = O 3 := by rw [yk 3 (by decide), zk 3 (by decide) (by decide)]
        have Y4 : Y 4 = O 4 := by rw [yk 4 (by decide), zk 4 (by decide) (by decide)]
        have Y6 : Y 6 = O 6 := by rw [yk 6 (by decide), zk 6 (by decide) (by decide)]
        have Y7 : Y 7 = O 7 := by rw [yk 7 (by decide), zk 7 (by decide) (by decide)]
        have Y8 : Y 8 = O 8 := by rw [yk 8 (by decide), zk 8 (by decide) (by decide)]
        generalize eA : upd Y 4 (if Y 4 < U 4 + 1 then U 4 + 1 else Y 4) = A
        have A4 : A 4 = (if O 4 < U 4 + 1 then U 4 + 1 else O 4) := by rw [← eA, y_uu, Y4]
        have Ak : ∀ k, k ≠ 4 → A k = Y k := fun k k1 => by rw [← eA, y_un k1]
        generalize eB : upd A 3 (A 3 + U 3) = B
        have B3 : B 3 = O 3 + U 3 := by rw [← eB, y_uu, Ak 3 (by decide), Y3]
        have Bk : ∀ k, k ≠ 3 → B k = A k := fun k k1 => by rw [← eB, y_un k1]
        generalize eC : upd B 6 (B 6 ||| U 6) = C
        have C6 : C 6 = O 6 ||| U 6 := by rw [← eC, y_uu, Bk 6 (by decide), Ak 6 (by decide), Y6]
        have Ck : ∀ k, k ≠ 6 → C k = B k := fun k k1 => by rw [← eC, y_un k1]
        have C7 : C 7 = O 7 := by rw [Ck 7 (by decide), Bk 7 (by decide), Ak 7 (by decide), Y7]
        refine zb1_x (fun D => D 7 = (if O 7 = -1 then if U 7 = -1 then j else O 7 else O 7) ∧ ∀ k, k ≠ 7 → D k = C k) ?_ ?_
        · rw [C7]
          by_cases c : O 7 = -1
          · rw [if_pos c, if_pos c]
            by_cases c2 : U 7 = -1
            · rw [if_pos c2, if_pos c2]
              exact ⟨_, rfl, by rw [y_uu], fun k k1 => by rw [y_un k1]⟩
            · rw [if_neg c2, if_neg c2]
              exact ⟨_, rfl, C7, fun _ _ => rfl⟩
          · rw [if_neg c, if_neg c]
            exact ⟨_, rfl, C7, fun _ _ => rfl⟩
        · rintro D ⟨D7, Dk⟩
          have D8 : D 8 = O 8 := by rw [Dk 8 (by decide), Ck 8 (by decide), Bk 8 (by decide), Ak 8 (by decide), Y8]
          have D0 : D 0 = O 0 := by rw [Dk 0 (by decide), Ck 0 (by decide), Bk 0 (by decide), Ak 0 (by decide), Y0]
          refine ⟨_, rfl, y9 ?_ ?_ ?_ ?_ ?_ ?_ ?_ ?_ ?_⟩
          · rw [y_uu, y_un (by decide), D0]; rfl
          · rw [y_un (by decide), y_un (by decide), Dk 1 (by decide), Ck 1 (by decide), Bk 1 (by decide), Ak 1 (by decide), Y1]; rfl
          · rw [y_un (by decide), y_un (by decide), Dk 2 (by decide), Ck 2 (by decide), Bk 2 (by decide), Ak 2 (by decide), Y2]; rfl
          · rw [y_un (by decide), y_un (by decide), Dk 3 (by decide), Ck 3 (by decide), B3]; rfl
          · rw [y_un (by decide), y_un (by decide), Dk 4 (by decide), Ck 4 (by decide), Bk 4 (by decide), A4]; rfl
          · rw [y_un (by decide), y_un (by decide), Dk 5 (by decide), Ck 5 (by decide), Bk 5 (by decide), Ak 5 (by decide), y5]; rfl
          · rw [y_un (by decide), y_un (by decide), Dk 6 (by decide), C6]; rfl
          · rw [y_un (by decide), y_un (by decide), D7]; rfl
          · rw [y_un (by decide), y_uu, D8]; rfl
  obtain ⟨O', h1, h2⟩ := main
  exact ⟨O', h1, fun k hk => (h2 k hk).trans (ytk_congr hO hU k hk)⟩
theorem y_end {O o : Nat → Int32} {nb al : Int32} (hO : yE O o) : ∃ O', fX1_end O nb al = some O' ∧ yE O' (yend o nb al) := by
  have main : ∃ O', fX1_end O nb al = some O' ∧ yE O' (yend O nb al) := by
    unfold fX1_end
    simp only [zlt_e]
    by_cases c : O 0 ≤ 0
    · rw [if_pos c]
      refine ⟨_, rfl, y9 rfl ?_ rfl ?_ rfl rfl ?_ rfl ?_⟩
      · show nb = (if O 0 ≤ 0 then nb else O 1); rw [if_pos c]
      · show (1 : Int32) = (if O 0 ≤ 0 then 1 else O 3); rw [if_pos c]
      · show al = (if O 0 ≤ 0 then al else O 6); rw [if_pos c]
      · show (1000 : Int32) * nb = (if O 0 ≤ 0 then 1000 * nb else O 8 / O 0); rw [if_pos c]
    · rw [if_neg c, zck_t (show zne (O 0) = true from decide_eq_true (fun e => c (by rw [e]; exact (by decide : (0 : Int32) ≤ 0))))]
      refine ⟨_, rfl, y9 rfl ?_ rfl ?_ rfl rfl ?_ rfl ?_⟩
      · show O 1 = (if O 0 ≤ 0 then nb else O 1); rw [if_neg c]
      · show O 3 = (if O 0 ≤ 0 then 1 else O 3); rw [if_neg c]
      · show O 6 = (if O 0 ≤ 0 then al else O 6); rw [if_neg c]
      · show O 8 / O 0 = (if O 0 ≤ 0 then 1000 * nb else O 8 / O 0); rw [if_neg c]
  obtain ⟨O', h1, h2⟩ := main
  exact ⟨O', h1, fun k hk => (h2 k hk).trans (yend_congr hO k hk)⟩
/-- the place of the last peg on the board, as a bit; of the only one -/
def yla : Nat → (Nat → Int32) → Int32
  | 0, _ => 0
  | k + 1, h => if h k = -1 then yla k h else (1 : Int32) <<< (h k &&& 31)
def yal (n : Nat) (h : Nat → Int32) : Int32 := if nI (yc n h) = 1 then yla n h else 0
theorem y_alone {pl n : Nat} {s : Nat → Int32} {a : Nat → Nat → Int32} (hS : yS pl n s a) : fX4_aloneBit s a = some (yal n (a 6)) := by
  have hn := hS.2.1
  unfold fX4_aloneBit yal
  rw [hS.2.2.2.2.2, hS.1]
  by_cases c : nI (yc n (a 6)) = 1
  · rw [if_pos c, if_pos c]
    refine (zb1_t (a0 := yla n (a 6)) ?_ _).trans rfl
    refine zd2 (fun k b j => b = yla k (a 6) ∧ j = nI k) n ?_ ?_ 0 (Nat.zero_le _) ⟨rfl, rfl⟩
    · rintro k b j hk ⟨rfl, rfl⟩
      refine Or.inl ⟨_, _, ?_, rfl, rfl⟩
      rw [if_neg (nI_ge hk (by omega)), y_homeOf hS hk, zb1_e, nI_1]
      show _ = some (Sum.inl ((if a 6 k = -1 then yla k (a 6) else (1 : Int32) <<< (a 6 k &&& 31)), _))
      by_cases c2 : a 6 k = -1
      · rw [if_pos c2, if_pos c2, zb1_e]
      · rw [if_neg c2, if_neg c2, zlt_e, zb1_e]
    · rintro b j ⟨rfl, rfl⟩
      rw [if_pos (nI_le (Nat.le_refl n) (by omega))]
  · rw [if_neg c, if_neg c]
/-- what all courses come to, with so many jumps at most -/
def yOut (r c n : Nat) (kd : Nat → Int32) (hb : Int32) : Nat → (Nat → Int32) → Nat → Int32
  | 0, h => yend ybeg (nI (yc n h)) (yal n h)
  | f + 1, h => yend ((yLL r c n kd h hb n).foldl (fun o x => ytk o (yOut r c n kd hb f (yaft n kd h x.1 x.2)) (nI (100 * x.1 + x.2.1))) ybeg) (nI (yc n h)) (yal n h)
def yF (r c n : Nat) (kd : Nat → Int32) (hb : Int32) (f : Nat) (h : Nat → Int32) (l : List (Nat × Nat × Nat)) : Nat → Int32 := l.foldl (fun o x => ytk o (yOut r c n kd hb f (yaft n kd h x.1 x.2)) (nI (100 * x.1 + x.2.1))) ybeg
theorem yF_snoc {r c n : Nat} {kd : Nat → Int32} {hb : Int32} {f : Nat} {h : Nat → Int32} {l : List (Nat × Nat × Nat)} {x : Nat × Nat × Nat} : yF r c n kd hb f h (l ++ [x]) = ytk (yF r c n kd hb f h l) (yOut r c n kd hb f (yaft n kd h x.1 x.2)) (nI (100 * x.1 + x.2.1)) := by
  unfold yF
  rw [List.foldl_append]
  rfl
theorem yOut_s {r c n : Nat} {kd : Nat → Int32} {hb : Int32} {f : Nat} {h : Nat → Int32} : yOut r c n kd hb (f + 1) h = yend (yF r c n kd hb f h (yLL r c n kd h hb n)) (nI (yc n h)) (yal n h) := rfl
theorem y_ex4 {A0 A1 A2 A3 ρ : Type} {o : Option ((A0 × A1 × A2 × A3) ⊕ ρ)} {I : A0 → A1 → A2 → A3 → Prop} (h : ∃ r, o = some r ∧ ∃ b0 b1 b2 b3, r = .inl (b0, b1, b2, b3) ∧ I b0 b1 b2 b3) : ∃ b0 b1 b2 b3, o = some (.inl (b0, b1, b2, b3)) ∧ I b0 b1 b2 b3 := by
  obtain ⟨r, h1, b0, b1, b2, b3, rfl, h2⟩ := h
  exact ⟨b0, b1, b2, b3, h1, h2⟩
theorem y_look_8 {r c n : Nat} {s : Nat → Int32} {a : Nat → Nat → Int32} (hS : yS (r * c) n s a) (os : Nat → Nat → Int32) : ∃ z, fX5_look_8 s a os = some z ∧ (∀ j, j < 8 → z j = os j) ∧ yE (z 8) (yOut r c n (a 5) (s 1) 0 (a 6)) := by
  unfold fX5_look_8
  obtain ⟨B, eB, hBg⟩ := y_begin (os 8)
  have eu : (if s 2 ≤ (0 : Int32) then some () else some ()) = some () := by split <;> rfl
  rw [eB, zb1_e, zlt_e, eu, zb1_e, y_alone hS, zb1_e, hS.2.2.2.2.2]
  obtain ⟨Z, eZ, hZ⟩ := y_end (O := va_up os 8 B 8) (o := ybeg) (nb := nI (yc n (a 6))) (al := yal n (a 6)) (by rw [y_vu]; exact hBg)
  rw [eZ, zb1_e, zlt_e]
  refine ⟨_, rfl, fun j hj => ?_, ?_⟩
  · rw [y_vn (by omega), y_vn (by omega)]
  · rw [y_vu]; exact hZ
theorem y_look_7 {r c n : Nat} {s gs : Nat → Int32} {a ga : Nat → Nat → Int32} (hB : yB r c) (hG : yG r c gs ga) (hS : yS (r * c) n s a) (hc : yc n (a 6) + 7 ≤ 8) (os : Nat → Nat → Int32) : ∃ z, fX5_look_7 s a gs ga os = some z ∧ z.1 = s ∧ z.2.1 = a ∧ (∀ j, j < 7 → z.2.2 j = os j) ∧ yE (z.2.2 7) (yOut r c n (a 5) (s 1) 1 (a 6)) := by
  have hn := hS.2.1
  have h12 := hB.2.2.2.2
  unfold fX5_look_7
  obtain ⟨B, eB, hBg⟩ := y_begin (os 7)
  rw [eB, zb1_e, zlt_e]
  refine zb3_x (fun z => z.1 = s ∧ z.2.1 = a ∧ (∀ j, j < 7 → z.2.2 j = os j) ∧ yE (z.2.2 7) (yF r c n (a 5) (s 1) 0 (a 6) (yLL r c n (a 5) (a 6) (s 1) n))) ?_ ?_
  · refine zf4 (fun k x S A O => x = nI k ∧ S = s ∧ A = a ∧ (∀ j, j < 7 → O j = os j) ∧ yE (O 7) (yF r c n (a 5) (s 1) 0 (a 6) (yLL r c n (a 5) (a 6) (s 1) k))) _ n ?_ ?_ 0 (Nat.zero_le _) ⟨rfl, rfl, rfl, fun j hj => by rw [y_vn (by omega)], by rw [y_vu]; exact hBg⟩
    · rintro p x S A O hp ⟨e1, e2, e3, hO, hE⟩
      rw [e1, e2, e3, hS.1]
      refine Or.inl ?_
      rw [if_neg (nI_ge hp (by omega))]
      refine y_ex4 (zb3_x (fun z => z.1 = s ∧ z.2.1 = a ∧ (∀ j, j < 7 → z.2.2 j = os j) ∧ yE (z.2.2 7) (yF r c n (a 5) (s 1) 0 (a 6) (yLL r c n (a 5) (a 6) (s 1) (p + 1)))) ?_ ?_)
      · refine zf4 (fun k x S A O => x = nI k ∧ S = s ∧ A = a ∧ (∀ j, j < 7 → O j = os j) ∧ yE (O 7) (yF r c n (a 5) (s 1) 0 (a 6) (yLL r c n (a 5) (a 6) (s 1) p ++ ((List.range k).filterMap (yd r c n (a 5) (a 6) (s 1) p)).map (fun x => (p, x))))) _ 8 ?_ ?_ 0 (Nat.zero_le _) ⟨rfl, rfl, rfl, hO, by rw [show ((List.range 0).filterMap (yd r c n (a 5) (a 6) (s 1) p)).map (fun x => (p, x)) = [] from rfl, List.append_nil]; exact hE⟩
        · rintro d x S A O hd ⟨e1, e2, e3, hO, hE⟩
          rw [e1, e2, e3]
          refine Or.inl ?_
          rw [if_neg (y8g hd), y_target hB hG hS hp hd, zb1_e]
          cases hx : yd r c n (a 5) (a 6) (s 1) p d with
          | none =>
            refine ⟨_, _, _, _, rfl, nI_1 d, rfl, rfl, hO, ?_⟩
            rw [y_fm, hx, show (none : Option (Nat × Nat)).toList = [] from rfl, List.append_nil]
            exact hE
          | some x =>
            obtain ⟨t, m⟩ := x
            have htl := (yd_lt hx).1
            obtain ⟨l1, s', a', l2, l3, l4, _, _, l7, l8, l9, _, l10⟩ := y_leap hB hG hS hp hd hx
            rw [show yI (Option.map Prod.fst (some (t, m))) = nI t from rfl, if_neg (y_nIm t (by simp only at htl; omega)), y_homeOf hS hp, zb1_e, l1, zb1_e, l2, zb2_e]
            obtain ⟨z', hz, k1, k2⟩ := y_look_8 l3 O
            rw [hz, zb1_e, l10, zb2_e]
            generalize hzz : (s', a', z') = z
            have k1 : ∀ j, j < 8 → z.2.2 j = O j := by rw [← hzz]; exact k1
            have k2 : yE (z.2.2 8) (yOut r c n (a' 5) (s' 1) 0 (a' 6)) := by rw [← hzz]; exact k2
            rw [show z' = z.2.2 by rw [← hzz]]
            have q2 : yE (z.2.2 8) (yOut r c n (a 5) (s 1) 0 (yaft n (a 5) (a 6) p (t, m))) := by rw [l8, l7, l4] at k2; exact k2
            obtain ⟨T, hT, kT⟩ := y_take (j := (100 : Int32) * nI p + nI t) (show yE (z.2.2 7) _ by rw [k1 7 (by decide)]; exact hE) q2
            rw [hT, zb1_e, zlt_e]
            refine ⟨_, _, _, _, rfl, nI_1 d, rfl, rfl, fun j hj => ?_, ?_⟩
            · rw [y_vn (by omega), k1 j (by omega)]; exact hO j hj
            · rw [y_vu, y_fm, hx, List.map_append, ← List.append_assoc]
              show yE T (yF r c n (a 5) (s 1) 0 (a 6) (_ ++ [(p, t, m)]))
              rw [yF_snoc]
              have ej : (100 : Int32) * nI p + nI t = nI (100 * p + t) := by rw [show (100 : Int32) = nI 100 from rfl, pk_mul, nI_add]
              rw [ej] at kT
              exact kT
        · rintro x S A O ⟨e1, e2, e3, hO, hE⟩
          rw [e1, e2, e3]
          refine ⟨_, by rw [if_pos y8p], rfl, rfl, hO, ?_⟩
          rw [yJ_d hB hS.2.2.2.1 hp] at hE
          exact hE
      · rintro S A O ⟨e2, e3, hO, hE⟩
        change S = s at e2
        change A = a at e3
        rw [e2, e3]
        exact ⟨_, rfl, _, _, _, _, rfl, nI_1 p, rfl, rfl, hO, hE⟩
    · rintro x S A O ⟨e1, e2, e3, hO, hE⟩
      rw [e1, e2, e3, hS.1]
      exact ⟨_, by rw [if_pos (nI_le (Nat.le_refl n) (by omega))], rfl, rfl, hO, hE⟩
  · rintro S A O ⟨e2, e3, hO, hE⟩
    change S = s at e2
    change A = a at e3
    rw [e2, e3, y_alone hS, zb1_e, hS.2.2.2.2.2]
    obtain ⟨Z, eZ, hZ⟩ := y_end (O := O 7) (nb := nI (yc n (a 6))) (al := yal n (a 6)) hE
    rw [eZ, zb1_e, zlt_e]
    refine ⟨_, rfl, rfl, rfl, fun j hj => ?_, ?_⟩
    · show va_up O 7 Z j = os j
      rw [y_vn (by omega)]; exact hO j hj
    · show yE (va_up O 7 Z 7) _
      rw [y_vu]; exact hZ
theorem y_look_6 {r c n : Nat} {s gs : Nat → Int32} {a ga : Nat → Nat → Int32} (hB : yB r c) (hG : yG r c gs ga) (hS : yS (r * c) n s a) (hc : yc n (a 6) + 6 ≤ 8) (os : Nat → Nat → Int32) : ∃ z, fX5_look_6 s a gs ga os = some z ∧ z.1 = s ∧ z.2.1 = a ∧ (∀ j, j < 6 → z.2.2 j = os j) ∧ yE (z.2.2 6) (yOut r c n (a 5) (s 1) 2 (a 6)) := by
  have hn := hS.2.1
  have h12 := hB.2.2.2.2
  unfold fX5_look_6
  obtain ⟨B, eB, hBg⟩ := y_begin (os 6)
  rw [eB, zb1_e, zlt_e]
  refine zb3_x (fun z => z.1 = s ∧ z.2.1 = a ∧ (∀ j, j < 6 → z.2.2 j = os j) ∧ yE (z.2.2 6) (yF r c n (a 5) (s 1) 1 (a 6) (yLL r c n (a 5) (a 6) (s 1) n))) ?_ ?_
  · refine zf4 (fun k x S A O => x = nI k ∧ S = s ∧ A = a ∧ (∀ j, j < 6 → O j = os j) ∧ yE (O 6) (yF r c n (a 5) (s 1) 1 (a 6) (yLL r c n (a 5) (a 6) (s 1) k))) _ n ?_ ?_ 0 (Nat.zero_le _) ⟨rfl, rfl, rfl, fun j hj => by rw [y_vn (by omega)], by rw [y_vu]; exact hBg⟩
    · rintro p x S A O hp ⟨e1, e2, e3, hO, hE⟩
      rw [e1, e2, e3, hS.1]
      refine Or.inl ?_
      rw [if_neg (nI_ge hp (by omega))]
      refine y_ex4 (zb3_x (fun z => z.1 = s ∧ z.2.1 = a ∧ (∀ j, j < 6 → z.2.2 j = os j) ∧ yE (z.2.2 6) (yF r c n (a 5) (s 1) 1 (a 6) (yLL r c n (a 5) (a 6) (s 1) (p + 1)))) ?_ ?_)
      · refine zf4 (fun k x S A O => x = nI k ∧ S = s ∧ A = a ∧ (∀ j, j < 6 → O j = os j) ∧ yE (O 6) (yF r c n (a 5) (s 1) 1 (a 6) (yLL r c n (a 5) (a 6) (s 1) p ++ ((List.range k).filterMap (yd r c n (a 5) (a 6) (s 1) p)).map (fun x => (p, x))))) _ 8 ?_ ?_ 0 (Nat.zero_le _) ⟨rfl, rfl, rfl, hO, by rw [show ((List.range 0).filterMap (yd r c n (a 5) (a 6) (s 1) p)).map (fun x => (p, x)) = [] from rfl, List.append_nil]; exact hE⟩
        · rintro d x S A O hd ⟨e1, e2, e3, hO, hE⟩
          rw [e1, e2, e3]
          refine Or.inl ?_
          rw [if_neg (y8g hd), y_target hB hG hS hp hd, zb1_e]
          cases hx : yd r c n (a 5) (a 6) (s 1) p d with
          | none =>
            refine ⟨_, _, _, _, rfl, nI_1 d, rfl, rfl, hO, ?_⟩
            rw [y_fm, hx, show (none : Option (Nat × Nat)).toList = [] from rfl, List.append_nil]
            exact hE
          | some x =>
            obtain ⟨t, m⟩ := x
            have htl := (yd_lt hx).1
            obtain ⟨l1, s', a', l2, l3, l4, _, _, l7, l8, l9, _, l10⟩ := y_leap hB hG hS hp hd hx
            rw [show yI (Option.map Prod.fst (some (t, m))) = nI t from rfl, if_neg (y_nIm t (by simp only at htl; omega)), y_homeOf hS hp, zb1_e, l1, zb1_e, l2, zb2_e]
            obtain ⟨z, hz, w1, w2, k1, k2⟩ := y_look_7 hB hG l3 (by omega) O
            rw [hz, show z = (s', a', z.2.2) from Prod.ext w1 (Prod.ext w2 rfl), zb3_e, l10, zb2_e]
            have q2 : yE (z.2.2 7) (yOut r c n (a 5) (s 1) 1 (yaft n (a 5) (a 6) p (t, m))) := by rw [l8, l7, l4] at k2; exact k2
            obtain ⟨T, hT, kT⟩ := y_take (j := (100 : Int32) * nI p + nI t) (show yE (z.2.2 6) _ by rw [k1 6 (by decide)]; exact hE) q2
            rw [hT, zb1_e, zlt_e]
            refine ⟨_, _, _, _, rfl, nI_1 d, rfl, rfl, fun j hj => ?_, ?_⟩
            · rw [y_vn (by omega), k1 j (by omega)]; exact hO j hj
            · rw [y_vu, y_fm, hx, List.map_append, ← List.append_assoc]
              show yE T (yF r c n (a 5) (s 1) 1 (a 6) (_ ++ [(p, t, m)]))
              rw [yF_snoc]
              have ej : (100 : Int32) * nI p + nI t = nI (100 * p + t) := by rw [show (100 : Int32) = nI 100 from rfl, pk_mul, nI_add]
              rw [ej] at kT
              exact kT
        · rintro x S A O ⟨e1, e2, e3, hO, hE⟩
          rw [e1, e2, e3]
          refine ⟨_, by rw [if_pos y8p], rfl, rfl, hO, ?_⟩
          rw [yJ_d hB hS.2.2.2.1 hp] at hE
          exact hE
      · rintro S A O ⟨e2, e3, hO, hE⟩
        change S = s at e2
        change A = a at e3
        rw [e2, e3]
        exact ⟨_, rfl, _, _, _, _, rfl, nI_1 p, rfl, rfl, hO, hE⟩
    · rintro x S A O ⟨e1, e2, e3, hO, hE⟩
      rw [e1, e2, e3, hS.1]
      exact ⟨_, by rw [if_pos (nI_le (Nat.le_refl n) (by omega))], rfl, rfl, hO, hE⟩
  · rintro S A O ⟨e2, e3, hO, hE⟩
    change S = s at e2
    change A = a at e3
    rw [e2, e3, y_alone hS, zb1_e, hS.2.2.2.2.2]
    obtain ⟨Z, eZ, hZ⟩ := y_end (O := O 6) (nb := nI (yc n (a 6))) (al := yal n (a 6)) hE
    rw [eZ, zb1_e, zlt_e]
    refine ⟨_, rfl, rfl, rfl, fun j hj => ?_, ?_⟩
    · show va_up O 6 Z j = os j
      rw [y_vn (by omega)]; exact hO j hj
    · show yE (va_up O 6 Z 6) _
      rw [y_vu]; exact hZ
theorem y_look_5 {r c n : Nat} {s gs : Nat → Int32} {a ga : Nat → Nat → Int32} (hB : yB r c) (hG : yG r c gs ga) (hS : yS (r * c) n s a) (hc : yc n (a 6) + 5 ≤ 8) (os : Nat → Nat → Int32) : ∃ z, fX5_look_5 s a gs ga os = some z ∧ z.1 = s ∧ z.2.1 = a ∧ (∀ j, j < 5 → z.2.2 j = os j) ∧ yE (z.2.2 5) (yOut r c n (a 5) (s 1) 3 (a 6)) := by
  have hn := hS.2.1
  have h12 := hB.2.2.2.2
  unfold fX5_look_5
  obtain ⟨B, eB, hBg⟩ := y_begin (os 5)
  rw [eB, zb1_e, zlt_e]
  refine zb3_x (fun z => z.1 = s ∧ z.2.1 = a ∧ (∀ j, j < 5 → z.2.2 j = os j) ∧ yE (z.2.2 5) (yF r c n (a 5) (s 1) 2 (a 6) (yLL r c n (a 5) (a 6) (s 1) n))) ?_ ?_
  · refine zf4 (fun k x S A O => x = nI k ∧ S = s ∧ A = a ∧ (∀ j, j < 5 → O j = os j) ∧ yE (O 5) (yF r c n (a 5) (s 1) 2 (a 6) (yLL r c n (a 5) (a 6) (s 1) k))) _ n ?_ ?_ 0 (Nat.zero_le _) ⟨rfl, rfl, rfl, fun j hj => by rw [y_vn (by omega)], by rw [y_vu]; exact hBg⟩
    · rintro p x S A O hp ⟨e1, e2, e3, hO, hE⟩
      rw [e1, e2, e3, hS.1]
      refine Or.inl ?_
      rw [if_neg (nI_ge hp (by omega))]
      refine y_ex4 (zb3_x (fun z => z.1 = s ∧ z.2.1 = a ∧ (∀ j, j < 5 → z.2.2 j = os j) ∧ yE (z.2.2 5) (yF r c n (a 5) (s 1) 2 (a 6) (yLL r c n (a 5) (a 6) (s 1) (p + 1)))) ?_ ?_)
      · refine zf4 (fun k x S A O => x = nI k ∧ S = s ∧ A = a ∧ (∀ j, j < 5 → O j = os j) ∧ yE (O 5) (yF r c n (a 5) (s 1) 2 (a 6) (yLL r c n (a 5) (a 6) (s 1) p ++ ((List.range k).filterMap (yd r c n (a 5) (a 6) (s 1) p)).map (fun x => (p, x))))) _ 8 ?_ ?_ 0 (Nat.zero_le _) ⟨rfl, rfl, rfl, hO, by rw [show ((List.range 0).filterMap (yd r c n (a 5) (a 6) (s 1) p)).map (fun x => (p, x)) = [] from rfl, List.append_nil]; exact hE⟩
        · rintro d x S A O hd ⟨e1, e2, e3, hO, hE⟩
          rw [e1, e2, e3]
          refine Or.inl ?_
          rw [if_neg (y8g hd), y_target hB hG hS hp hd, zb1_e]
          cases hx : yd r c n (a 5) (a 6) (s 1) p d with
          | none =>
            refine ⟨_, _, _, _, rfl, nI_1 d, rfl, rfl, hO, ?_⟩
            rw [y_fm, hx, show (none : Option (Nat × Nat)).toList = [] from rfl, List.append_nil]
            exact hE
          | some x =>
            obtain ⟨t, m⟩ := x
            have htl := (yd_lt hx).1
            obtain ⟨l1, s', a', l2, l3, l4, _, _, l7, l8, l9, _, l10⟩ := y_leap hB hG hS hp hd hx
            rw [show yI (Option.map Prod.fst (some (t, m))) = nI t from rfl, if_neg (y_nIm t (by simp only at htl; omega)), y_homeOf hS hp, zb1_e, l1, zb1_e, l2, zb2_e]
            obtain ⟨z, hz, w1, w2, k1, k2⟩ := y_look_6 hB hG l3 (by omega) O
            rw [hz, show z = (s', a', z.2.2) from Prod.ext w1 (Prod.ext w2 rfl), zb3_e, l10, zb2_e]
            have q2 : yE (z.2.2 6) (yOut r c n (a 5) (s 1) 2 (yaft n (a 5) (a 6) p (t, m))) := by rw [l8, l7, l4] at k2; exact k2
            obtain ⟨T, hT, kT⟩ := y_take (j := (100 : Int32) * nI p + nI t) (show yE (z.2.2 5) _ by rw [k1 5 (by decide)]; exact hE) q2
            rw [hT, zb1_e, zlt_e]
            refine ⟨_, _, _, _, rfl, nI_1 d, rfl, rfl, fun j hj => ?_, ?_⟩
            · rw [y_vn (by omega), k1 j (by omega)]; exact hO j hj
            · rw [y_vu, y_fm, hx, List.map_append, ← List.append_assoc]
              show yE T (yF r c n (a 5) (s 1) 2 (a 6) (_ ++ [(p, t, m)]))
              rw [yF_snoc]
              have ej : (100 : Int32) * nI p + nI t = nI (100 * p + t) := by rw [show (100 : Int32) = nI 100 from rfl, pk_mul, nI_add]
              rw [ej] at kT
              exact kT
        · rintro x S A O ⟨e1, e2, e3, hO, hE⟩
          rw [e1, e2, e3]
          refine ⟨_, by rw [if_pos y8p], rfl, rfl, hO, ?_⟩
          rw [yJ_d hB hS.2.2.2.1 hp] at hE
          exact hE
      · rintro S A O ⟨e2, e3, hO, hE⟩
        change S = s at e2
        change A = a at e3
        rw [e2, e3]
        exact ⟨_, rfl, _, _, _, _, rfl, nI_1 p, rfl, rfl, hO, hE⟩
    · rintro x S A O ⟨e1, e2, e3, hO, hE⟩
      rw [e1, e2, e3, hS.1]
      exact ⟨_, by rw [if_pos (nI_le (Nat.le_refl n) (by omega))], rfl, rfl, hO, hE⟩
  · rintro S A O ⟨e2, e3, hO, hE⟩
    change S = s at e2
    change A = a at e3
    rw [e2, e3, y_alone hS, zb1_e, hS.2.2.2.2.2]
    obtain ⟨Z, eZ, hZ⟩ := y_end (O := O 5) (nb := nI (yc n (a 6))) (al := yal n (a 6)) hE
    rw [eZ, zb1_e, zlt_e]
    refine ⟨_, rfl, rfl, rfl, fun j hj => ?_, ?_⟩
    · show va_up O 5 Z j = os j
      rw [y_vn (by omega)]; exact hO j hj
    · show yE (va_up O 5 Z 5) _
      rw [y_vu]; exact hZ
theorem y_look_4 {r c n : Nat} {s gs : Nat → Int32} {a ga : Nat → Nat → Int32} (hB : yB r c) (hG : yG r c gs ga) (hS : yS (r * c) n s a) (hc : yc n (a 6) + 4 ≤ 8) (os : Nat → Nat → Int32) : ∃ z, fX5_look_4 s a gs ga os = some z ∧ z.1 = s ∧ z.2.1 = a ∧ (∀ j, j < 4 → z.2.2 j = os j) ∧ yE (z.2.2 4) (yOut r c n (a 5) (s 1) 4 (a 6)) := by
  have hn := hS.2.1
  have h12 := hB.2.2.2.2
  unfold fX5_look_4
  obtain ⟨B, eB, hBg⟩ := y_begin (os 4)
  rw [eB, zb1_e, zlt_e]
  refine zb3_x (fun z => z.1 = s ∧ z.2.1 = a ∧ (∀ j, j < 4 → z.2.2 j = os j) ∧ yE (z.2.2 4) (yF r c n (a 5) (s 1) 3 (a 6) (yLL r c n (a 5) (a 6) (s 1) n))) ?_ ?_
  · refine zf4 (fun k x S A O => x = nI k ∧ S = s ∧ A = a ∧ (∀ j, j < 4 → O j = os j) ∧ yE (O 4) (yF r c n (a 5) (s 1) 3 (a 6) (yLL r c n (a 5) (a 6) (s 1) k))) _ n ?_ ?_ 0 (Nat.zero_le _) ⟨rfl, rfl, rfl, fun j hj => by rw [y_vn (by omega)], by rw [y_vu]; exact hBg⟩
    · rintro p x S A O hp ⟨e1, e2, e3, hO, hE⟩
      rw [e1, e2, e3, hS.1]
      refine Or.inl ?_
      rw [if_neg (nI_ge hp (by omega))]
      refine y_ex4 (zb3_x (fun z => z.1 = s ∧ z.2.1 = a ∧ (∀ j, j < 4 → z.2.2 j = os j) ∧ yE (z.2.2 4) (yF r c n (a 5) (s 1) 3 (a 6) (yLL r c n (a 5) (a 6) (s 1) (p + 1)))) ?_ ?_)
      · refine zf4 (fun k x S A O => x = nI k ∧ S = s ∧ A = a ∧ (∀ j, j < 4 → O j = os j) ∧ yE (O 4) (yF r c n (a 5) (s 1) 3 (a 6) (yLL r c n (a 5) (a 6) (s 1) p ++ ((List.range k).filterMap (yd r c n (a 5) (a 6) (s 1) p)).map (fun x => (p, x))))) _ 8 ?_ ?_ 0 (Nat.zero_le _) ⟨rfl, rfl, rfl, hO, by rw [show ((List.range 0).filterMap (yd r c n (a 5) (a 6) (s 1) p)).map (fun x => (p, x)) = [] from rfl, List.append_nil]; exact hE⟩
        · rintro d x S A O hd ⟨e1, e2, e3, hO, hE⟩
          rw [e1, e2, e3]
          refine Or.inl ?_
          rw [if_neg (y8g hd), y_target hB hG hS hp hd, zb1_e]
          cases hx : yd r c n (a 5) (a 6) (s 1) p d with
          | none =>
            refine ⟨_, _, _, _, rfl, nI_1 d, rfl, rfl, hO, ?_⟩
            rw [y_fm, hx, show (none : Option (Nat × Nat)).toList = [] from rfl, List.append_nil]
            exact hE
          | some x =>
            obtain ⟨t, m⟩ := x
            have htl := (yd_lt hx).1
            obtain ⟨l1, s', a', l2, l3, l4, _, _, l7, l8, l9, _, l10⟩ := y_leap hB hG hS hp hd hx
            rw [show yI (Option.map Prod.fst (some (t, m))) = nI t from rfl, if_neg (y_nIm t (by simp only at htl; omega)), y_homeOf hS hp, zb1_e, l1, zb1_e, l2, zb2_e]
            obtain ⟨z, hz, w1, w2, k1, k2⟩ := y_look_5 hB hG l3 (by omega) O
            rw [hz, show z = (s', a', z.2.2) from Prod.ext w1 (Prod.ext w2 rfl), zb3_e, l10, zb2_e]
            have q2 : yE (z.2.2 5) (yOut r c n (a 5) (s 1) 3 (yaft n (a 5) (a 6) p (t, m))) := by rw [l8, l7, l4] at k2; exact k2
            obtain ⟨T, hT, kT⟩ := y_take (j := (100 : Int32) * nI p + nI t) (show yE (z.2.2 4) _ by rw [k1 4 (by decide)]; exact hE) q2
            rw [hT, zb1_e, zlt_e]
            refine ⟨_, _, _, _, rfl, nI_1 d, rfl, rfl, fun j hj => ?_, ?_⟩
            · rw [y_vn (by omega), k1 j (by omega)]; exact hO j hj
            · rw [y_vu, y_fm, hx, List.map_append, ← List.append_assoc]
              show yE T (yF r c n (a 5) (s 1) 3 (a 6) (_ ++ [(p, t, m)]))
              rw [yF_snoc]
              have ej : (100 : Int32) * nI p + nI t = nI (100 * p + t) := by rw [show (100 : Int32) = nI 100 from rfl, pk_mul, nI_add]
              rw [ej] at kT
              exact kT
        · rintro x S A O ⟨e1, e2, e3, hO, hE⟩
          rw [e1, e2, e3]
          refine ⟨_, by rw [if_pos y8p], rfl, rfl, hO, ?_⟩
          rw [yJ_d hB hS.2.2.2.1 hp] at hE
          exact hE
      · rintro S A O ⟨e2, e3, hO, hE⟩
        change S = s at e2
        change A = a at e3
        rw [e2, e3]
        exact ⟨_, rfl, _, _, _, _, rfl, nI_1 p, rfl, rfl, hO, hE⟩
    · rintro x S A O ⟨e1, e2, e3, hO, hE⟩
      rw [e1, e2, e3, hS.1]
      exact ⟨_, by rw [if_pos (nI_le (Nat.le_refl n) (by omega))], rfl, rfl, hO, hE⟩
  · rintro S A O ⟨e2, e3, hO, hE⟩
    change S = s at e2
    change A = a at e3
    rw [e2, e3, y_alone hS, zb1_e, hS.2.2.2.2.2]
    obtain ⟨Z, eZ, hZ⟩ := y_end (O := O 4) (nb := nI (yc n (a 6))) (al := yal n (a 6)) hE
    rw [eZ, zb1_e, zlt_e]
    refine ⟨_, rfl, rfl, rfl, fun j hj => ?_, ?_⟩
    · show va_up O 4 Z j = os j
      rw [y_vn (by omega)]; exact hO j hj
    · show yE (va_up O 4 Z 4) _
      rw [y_vu]; exact hZ
theorem y_look_3 {r c n : Nat} {s gs : Nat → Int32} {a ga : Nat → Nat → Int32} (hB : yB r c) (hG : yG r c gs ga) (hS : yS (r * c) n s a) (hc : yc n (a 6) + 3 ≤ 8) (os : Nat → Nat → Int32) : ∃ z, fX5_look_3 s a gs ga os = some z ∧ z.1 = s ∧ z.2.1 = a ∧ (∀ j, j < 3 → z.2.2 j = os j) ∧ yE (z.2.2 3) (yOut r c n (a 5) (s 1) 5 (a 6)) := by
  have hn := hS.2.1
  have h12 := hB.2.2.2.2
  unfold fX5_look_3
  obtain ⟨B, eB, hBg⟩ := y_begin (os 3)
  rw [eB, zb1_e, zlt_e]
  refine zb3_x (fun z => z.1 = s ∧ z.2.1 = a ∧ (∀ j, j < 3 → z.2.2 j = os j) ∧ yE (z.2.2 3) (yF r c n (a 5) (s 1) 4 (a 6) (yLL r c n (a 5) (a 6) (s 1) n))) ?_ ?_
  · refine zf4 (fun k x S A O => x = nI k ∧ S = s ∧ A = a ∧ (∀ j, j < 3 → O j = os j) ∧ yE (O 3) (yF r c n (a 5) (s 1) 4 (a 6) (yLL r c n (a 5) (a 6) (s 1) k))) _ n ?_ ?_ 0 (Nat.zero_le _) ⟨rfl, rfl, rfl, fun j hj => by rw [y_vn (by omega)], by rw [y_vu]; exact hBg⟩
    · rintro p x S A O hp ⟨e1, e2, e3, hO, hE⟩
      rw [e1, e2, e3, hS.1]
      refine Or.inl ?_
      rw [if_neg (nI_ge hp (by omega))]
      refine y_ex4 (zb3_x (fun z => z.1 = s ∧ z.2.1 = a ∧ (∀ j, j < 3 → z.2.2 j = os j) ∧ yE (z.2.2 3) (yF r c n (a 5) (s 1) 4 (a 6) (yLL r c n (a 5) (a 6) (s 1) (p + 1)))) ?_ ?_)
      · refine zf4 (fun k x S A O => x = nI k ∧ S = s ∧ A = a ∧ (∀ j, j < 3 → O j = os j) ∧ yE (O 3) (yF r c n (a 5) (s 1) 4 (a 6) (yLL r c n (a 5) (a 6) (s 1) p ++ ((List.range k).filterMap (yd r c n (a 5) (a 6) (s 1) p)).map (fun x => (p, x))))) _ 8 ?_ ?_ 0 (Nat.zero_le _) ⟨rfl, rfl, rfl, hO, by rw [show ((List.range 0).filterMap (yd r c n (a 5) (a 6) (s 1) p)).map (fun x => (p, x)) = [] from rfl, List.append_nil]; exact hE⟩
        · rintro d x S A O hd ⟨e1, e2, e3, hO, hE⟩
          rw [e1, e2, e3]
          refine Or.inl ?_
          rw [if_neg (y8g hd), y_target hB hG hS hp hd, zb1_e]
          cases hx : yd r c n (a 5) (a 6) (s 1) p d with
          | none =>
            refine ⟨_, _, _, _, rfl, nI_1 d, rfl, rfl, hO, ?_⟩
            rw [y_fm, hx, show (none : Option (Nat × Nat)).toList = [] from rfl, List.append_nil]
            exact hE
          | some x =>
            obtain ⟨t, m⟩ := x
            have htl := (yd_lt hx).1
            obtain ⟨l1, s', a', l2, l3, l4, _, _, l7, l8, l9, _, l10⟩ := y_leap hB hG hS hp hd hx
            rw [show yI (Option.map Prod.fst (some (t, m))) = nI t from rfl, if_neg (y_nIm t (by simp only at htl; omega)), y_homeOf hS hp, zb1_e, l1, zb1_e, l2, zb2_e]
            obtain ⟨z, hz, w1, w2, k1, k2⟩ := y_look_4 hB hG l3 (by omega) O
            rw [hz, show z = (s', a', z.2.2) from Prod.ext w1 (Prod.ext w2 rfl), zb3_e, l10, zb2_e]
            have q2 : yE (z.2.2 4) (yOut r c n (a 5) (s 1) 4 (yaft n (a 5) (a 6) p (t, m))) := by rw [l8, l7, l4] at k2; exact k2
            obtain ⟨T, hT, kT⟩ := y_take (j := (100 : Int32) * nI p + nI t) (show yE (z.2.2 3) _ by rw [k1 3 (by decide)]; exact hE) q2
            rw [hT, zb1_e, zlt_e]
            refine ⟨_, _, _, _, rfl, nI_1 d, rfl, rfl, fun j hj => ?_, ?_⟩
            · rw [y_vn (by omega), k1 j (by omega)]; exact hO j hj
            · rw [y_vu, y_fm, hx, List.map_append, ← List.append_assoc]
              show yE T (yF r c n (a 5) (s 1) 4 (a 6) (_ ++ [(p, t, m)]))
              rw [yF_snoc]
              have ej : (100 : Int32) * nI p + nI t = nI (100 * p + t) := by rw [show (100 : Int32) = nI 100 from rfl, pk_mul, nI_add]
              rw [ej] at kT
              exact kT
        · rintro x S A O ⟨e1, e2, e3, hO, hE⟩
          rw [e1, e2, e3]
          refine ⟨_, by rw [if_pos y8p], rfl, rfl, hO, ?_⟩
          rw [yJ_d hB hS.2.2.2.1 hp] at hE
          exact hE
      · rintro S A O ⟨e2, e3, hO, hE⟩
        change S = s at e2
        change A = a at e3
        rw [e2, e3]
        exact ⟨_, rfl, _, _, _, _, rfl, nI_1 p, rfl, rfl, hO, hE⟩
    · rintro x S A O ⟨e1, e2, e3, hO, hE⟩
      rw [e1, e2, e3, hS.1]
      exact ⟨_, by rw [if_pos (nI_le (Nat.le_refl n) (by omega))], rfl, rfl, hO, hE⟩
  · rintro S A O ⟨e2, e3, hO, hE⟩
    change S = s at e2
    change A = a at e3
    rw [e2, e3, y_alone hS, zb1_e, hS.2.2.2.2.2]
    obtain ⟨Z, eZ, hZ⟩ := y_end (O := O 3) (nb := nI (yc n (a 6))) (al := yal n (a 6)) hE
    rw [eZ, zb1_e, zlt_e]
    refine ⟨_, rfl, rfl, rfl, fun j hj => ?_, ?_⟩
    · show va_up O 3 Z j = os j
      rw [y_vn (by omega)]; exact hO j hj
    · show yE (va_up O 3 Z 3) _
      rw [y_vu]; exact hZ
theorem y_look_2 {r c n : Nat} {s gs : Nat → Int32} {a ga : Nat → Nat → Int32} (hB : yB r c) (hG : yG r c gs ga) (hS : yS (r * c) n s a) (hc : yc n (a 6) + 2 ≤ 8) (os : Nat → Nat → Int32) : ∃ z, fX5_look_2 s a gs ga os = some z ∧ z.1 = s ∧ z.2.1 = a ∧ (∀ j, j < 2 → z.2.2 j = os j) ∧ yE (z.2.2 2) (yOut r c n (a 5) (s 1) 6 (a 6)) := by
  have hn := hS.2.1
  have h12 := hB.2.2.2.2
  unfold fX5_look_2
  obtain ⟨B, eB, hBg⟩ := y_begin (os 2)
  rw [eB, zb1_e, zlt_e]
  refine zb3_x (fun z => z.1 = s ∧ z.2.1 = a ∧ (∀ j, j < 2 → z.2.2 j = os j) ∧ yE (z.2.2 2) (yF r c n (a 5) (s 1) 5 (a 6) (yLL r c n (a 5) (a 6) (s 1) n))) ?_ ?_
  · refine zf4 (fun k x S A O => x = nI k ∧ S = s ∧ A = a ∧ (∀ j, j < 2 → O j = os j) ∧ yE (O 2) (yF r c n (a 5) (s 1) 5 (a 6) (yLL r c n (a 5) (a 6) (s 1) k))) _ n ?_ ?_ 0 (Nat.zero_le _) ⟨rfl, rfl, rfl, fun j hj => by rw [y_vn (by omega)], by rw [y_vu]; exact hBg⟩
    · rintro p x S A O hp ⟨e1, e2, e3, hO, hE⟩
      rw [e1, e2, e3, hS.1]
      refine Or.inl ?_
      rw [if_neg (nI_ge hp (by omega))]
      refine y_ex4 (zb3_x (fun z => z.1 = s ∧ z.2.1 = a ∧ (∀ j, j < 2 → z.2.2 j = os j) ∧ yE (z.2.2 2) (yF r c n (a 5) (s 1) 5 (a 6) (yLL r c n (a 5) (a 6) (s 1) (p + 1)))) ?_ ?_)
      · refine zf4 (fun k x S A O => x = nI k ∧ S = s ∧ A = a ∧ (∀ j, j < 2 → O j = os j) ∧ yE (O 2) (yF r c n (a 5) (s 1) 5 (a 6) (yLL r c n (a 5) (a 6) (s 1) p ++ ((List.range k).filterMap (yd r c n (a 5) (a 6) (s 1) p)).map (fun x => (p, x))))) _ 8 ?_ ?_ 0 (Nat.zero_le _) ⟨rfl, rfl, rfl, hO, by rw [show ((List.range 0).filterMap (yd r c n (a 5) (a 6) (s 1) p)).map (fun x => (p, x)) = [] from rfl, List.append_nil]; exact hE⟩
        · rintro d x S A O hd ⟨e1, e2, e3, hO, hE⟩
          rw [e1, e2, e3]
          refine Or.inl ?_
          rw [if_neg (y8g hd), y_target hB hG hS hp hd, zb1_e]
          cases hx : yd r c n (a 5) (a 6) (s 1) p d with
          | none =>
            refine ⟨_, _, _, _, rfl, nI_1 d, rfl, rfl, hO, ?_⟩
            rw [y_fm, hx, show (none : Option (Nat × Nat)).toList = [] from rfl, List.append_nil]
            exact hE
          | some x =>
            obtain ⟨t, m⟩ := x
            have htl := (yd_lt hx).1
            obtain ⟨l1, s', a', l2, l3, l4, _, _, l7, l8, l9, _, l10⟩ := y_leap hB hG hS hp hd hx
            rw [show yI (Option.map Prod.fst (some (t, m))) = nI t from rfl, if_neg (y_nIm t (by simp only at htl; omega)), y_homeOf hS hp, zb1_e, l1, zb1_e, l2, zb2_e]
            obtain ⟨z, hz, w1, w2, k1, k2⟩ := y_look_3 hB hG l3 (by omega) O
            rw [hz, show z = (s', a', z.2.2) from Prod.ext w1 (Prod.ext w2 rfl), zb3_e, l10, zb2_e]
            have q2 : yE (z.2.2 3) (yOut r c n (a 5) (s 1) 5 (yaft n (a 5) (a 6) p (t, m))) := by rw [l8, l7, l4] at k2; exact k2
            obtain ⟨T, hT, kT⟩ := y_take (j := (100 : Int32) * nI p + nI t) (show yE (z.2.2 2) _ by rw [k1 2 (by decide)]; exact hE) q2
            rw [hT, zb1_e, zlt_e]
            refine ⟨_, _, _, _, rfl, nI_1 d, rfl, rfl, fun j hj => ?_, ?_⟩
            · rw [y_vn (by omega), k1 j (by omega)]; exact hO j hj
            · rw [y_vu, y_fm, hx, List.map_append, ← List.append_assoc]
              show yE T (yF r c n (a 5) (s 1) 5 (a 6) (_ ++ [(p, t, m)]))
              rw [yF_snoc]
              have ej : (100 : Int32) * nI p + nI t = nI (100 * p + t) := by rw [show (100 : Int32) = nI 100 from rfl, pk_mul, nI_add]
              rw [ej] at kT
              exact kT
        · rintro x S A O ⟨e1, e2, e3, hO, hE⟩
          rw [e1, e2, e3]
          refine ⟨_, by rw [if_pos y8p], rfl, rfl, hO, ?_⟩
          rw [yJ_d hB hS.2.2.2.1 hp] at hE
          exact hE
      · rintro S A O ⟨e2, e3, hO, hE⟩
        change S = s at e2
        change A = a at e3
        rw [e2, e3]
        exact ⟨_, rfl, _, _, _, _, rfl, nI_1 p, rfl, rfl, hO, hE⟩
    · rintro x S A O ⟨e1, e2, e3, hO, hE⟩
      rw [e1, e2, e3, hS.1]
      exact ⟨_, by rw [if_pos (nI_le (Nat.le_refl n) (by omega))], rfl, rfl, hO, hE⟩
  · rintro S A O ⟨e2, e3, hO, hE⟩
    change S = s at e2
    change A = a at e3
    rw [e2, e3, y_alone hS, zb1_e, hS.2.2.2.2.2]
    obtain ⟨Z, eZ, hZ⟩ := y_end (O := O 2) (nb := nI (yc n (a 6))) (al := yal n (a 6)) hE
    rw [eZ, zb1_e, zlt_e]
    refine ⟨_, rfl, rfl, rfl, fun j hj => ?_, ?_⟩
    · show va_up O 2 Z j = os j
      rw [y_vn (by omega)]; exact hO j hj
    · show yE (va_up O 2 Z 2) _
      rw [y_vu]; exact hZ
theorem y_look_1 {r c n : Nat} {s gs : Nat → Int32} {a ga : Nat → Nat → Int32} (hB : yB r c) (hG : yG r c gs ga) (hS : yS (r * c) n s a) (hc : yc n (a 6) + 1 ≤ 8) (os : Nat → Nat → Int32) : ∃ z, fX5_look_1 s a gs ga os = some z ∧ z.1 = s ∧ z.2.1 = a ∧ (∀ j, j < 1 → z.2.2 j = os j) ∧ yE (z.2.2 1) (yOut r c n (a 5) (s 1) 7 (a 6)) := by
  have hn := hS.2.1
  have h12 := hB.2.2.2.2
  unfold fX5_look_1
  obtain ⟨B, eB, hBg⟩ := y_begin (os 1)
  rw [eB, zb1_e, zlt_e]
  refine zb3_x (fun z => z.1 = s ∧ z.2.1 = a ∧ (∀ j, j < 1 → z.2.2 j = os j) ∧ yE (z.2.2 1) (yF r c n (a 5) (s 1) 6 (a 6) (yLL r c n (a 5) (a 6) (s 1) n))) ?_ ?_
  · refine zf4 (fun k x S A O => x = nI k ∧ S = s ∧ A = a ∧ (∀ j, j < 1 → O j = os j) ∧ yE (O 1) (yF r c n (a 5) (s 1) 6 (a 6) (yLL r c n (a 5) (a 6) (s 1) k))) _ n ?_ ?_ 0 (Nat.zero_le _) ⟨rfl, rfl, rfl, fun j hj => by rw [y_vn (by omega)], by rw [y_vu]; exact hBg⟩
    · rintro p x S A O hp ⟨e1, e2, e3, hO, hE⟩
      rw [e1, e2, e3, hS.1]
      refine Or.inl ?_
      rw [if_neg (nI_ge hp (by omega))]
      refine y_ex4 (zb3_x (fun z => z.1 = s ∧ z.2.1 = a ∧ (∀ j, j < 1 → z.2.2 j = os j) ∧ yE (z.2.2 1) (yF r c n (a 5) (s 1) 6 (a 6) (yLL r c n (a 5) (a 6) (s 1) (p + 1)))) ?_ ?_)
      · refine zf4 (fun k x S A O => x = nI k ∧ S = s ∧ A = a ∧ (∀ j, j < 1 → O j = os j) ∧ yE (O 1) (yF r c n (a 5) (s 1) 6 (a 6) (yLL r c n (a 5) (a 6) (s 1) p ++ ((List.range k).filterMap (yd r c n (a 5) (a 6) (s 1) p)).map (fun x => (p, x))))) _ 8 ?_ ?_ 0 (Nat.zero_le _) ⟨rfl, rfl, rfl, hO, by rw [show ((List.range 0).filterMap (yd r c n (a 5) (a 6) (s 1) p)).map (fun x => (p, x)) = [] from rfl, List.append_nil]; exact hE⟩
        · rintro d x S A O hd ⟨e1, e2, e3, hO, hE⟩
          rw [e1, e2, e3]
          refine Or.inl ?_
          rw [if_neg (y8g hd), y_target hB hG hS hp hd, zb1_e]
          cases hx : yd r c n (a 5) (a 6) (s 1) p d with
          | none =>
            refine ⟨_, _, _, _, rfl, nI_1 d, rfl, rfl, hO, ?_⟩
            rw [y_fm, hx, show (none : Option (Nat × Nat)).toList = [] from rfl, List.append_nil]
            exact hE
          | some x =>
            obtain ⟨t, m⟩ := x
            have htl := (yd_lt hx).1
            obtain ⟨l1, s', a', l2, l3, l4, _, _, l7, l8, l9, _, l10⟩ := y_leap hB hG hS hp hd hx
            rw [show yI (Option.map Prod.fst (some (t, m))) = nI t from rfl, if_neg (y_nIm t (by simp only at htl; omega)), y_homeOf hS hp, zb1_e, l1, zb1_e, l2, zb2_e]
            obtain ⟨z, hz, w1, w2, k1, k2⟩ := y_look_2 hB hG l3 (by omega) O
            rw [hz, show z = (s', a', z.2.2) from Prod.ext w1 (Prod.ext w2 rfl), zb3_e, l10, zb2_e]
            have q2 : yE (z.2.2 2) (yOut r c n (a 5) (s 1) 6 (yaft n (a 5) (a 6) p (t, m))) := by rw [l8, l7, l4] at k2; exact k2
            obtain ⟨T, hT, kT⟩ := y_take (j := (100 : Int32) * nI p + nI t) (show yE (z.2.2 1) _ by rw [k1 1 (by decide)]; exact hE) q2
            rw [hT, zb1_e, zlt_e]
            refine ⟨_, _, _, _, rfl, nI_1 d, rfl, rfl, fun j hj => ?_, ?_⟩
            · rw [y_vn (by omega), k1 j (by omega)]; exact hO j hj
            · rw [y_vu, y_fm, hx, List.map_append, ← List.append_assoc]
              show yE T (yF r c n (a 5) (s 1) 6 (a 6) (_ ++ [(p, t, m)]))
              rw [yF_snoc]
              have ej : (100 : Int32) * nI p + nI t = nI (100 * p + t) := by rw [show (100 : Int32) = nI 100 from rfl, pk_mul, nI_add]
              rw [ej] at kT
              exact kT
        · rintro x S A O ⟨e1, e2, e3, hO, hE⟩
          rw [e1, e2, e3]
          refine ⟨_, by rw [if_pos y8p], rfl, rfl, hO, ?_⟩
          rw [yJ_d hB hS.2.2.2.1 hp] at hE
          exact hE
      · rintro S A O ⟨e2, e3, hO, hE⟩
        change S = s at e2
        change A = a at e3
        rw [e2, e3]
        exact ⟨_, rfl, _, _, _, _, rfl, nI_1 p, rfl, rfl, hO, hE⟩
    · rintro x S A O ⟨e1, e2, e3, hO, hE⟩
      rw [e1, e2, e3, hS.1]
      exact ⟨_, by rw [if_pos (nI_le (Nat.le_refl n) (by omega))], rfl, rfl, hO, hE⟩
  · rintro S A O ⟨e2, e3, hO, hE⟩
    change S = s at e2
    change A = a at e3
    rw [e2, e3, y_alone hS, zb1_e, hS.2.2.2.2.2]
    obtain ⟨Z, eZ, hZ⟩ := y_end (O := O 1) (nb := nI (yc n (a 6))) (al := yal n (a 6)) hE
    rw [eZ, zb1_e, zlt_e]
    refine ⟨_, rfl, rfl, rfl, fun j hj => ?_, ?_⟩
    · show va_up O 1 Z j = os j
      rw [y_vn (by omega)]; exact hO j hj
    · show yE (va_up O 1 Z 1) _
      rw [y_vu]; exact hZ
theorem y_look_0 {r c n : Nat} {s gs : Nat → Int32} {a ga : Nat → Nat → Int32} (hB : yB r c) (hG : yG r c gs ga) (hS : yS (r * c) n s a) (hc : yc n (a 6) + 0 ≤ 8) (os : Nat → Nat → Int32) : ∃ z, fX5_look_0 s a gs ga os = some z ∧ z.1 = s ∧ z.2.1 = a ∧ (∀ j, j < 0 → z.2.2 j = os j) ∧ yE (z.2.2 0) (yOut r c n (a 5) (s 1) 8 (a 6)) := by
  have hn := hS.2.1
  have h12 := hB.2.2.2.2
  unfold fX5_look_0
  obtain ⟨B, eB, hBg⟩ := y_begin (os 0)
  rw [eB, zb1_e, zlt_e]
  refine zb3_x (fun z => z.1 = s ∧ z.2.1 = a ∧ (∀ j, j < 0 → z.2.2 j = os j) ∧ yE (z.2.2 0) (yF r c n (a 5) (s 1) 7 (a 6) (yLL r c n (a 5) (a 6) (s 1) n))) ?_ ?_
  · refine zf4 (fun k x S A O => x = nI k ∧ S = s ∧ A = a ∧ (∀ j, j < 0 → O j = os j) ∧ yE (O 0) (yF r c n (a 5) (s 1) 7 (a 6) (yLL r c n (a 5) (a 6) (s 1) k))) _ n ?_ ?_ 0 (Nat.zero_le _) ⟨rfl, rfl, rfl, fun j hj => by rw [y_vn (by omega)], by rw [y_vu]; exact hBg⟩
    · rintro p x S A O hp ⟨e1, e2, e3, hO, hE⟩
      rw [e1, e2, e3, hS.1]
      refine Or.inl ?_
      rw [if_neg (nI_ge hp (by omega))]
      refine y_ex4 (zb3_x (fun z => z.1 = s ∧ z.2.1 = a ∧ (∀ j, j < 0 → z.2.2 j = os j) ∧ yE (z.2.2 0) (yF r c n (a 5) (s 1) 7 (a 6) (yLL r c n (a 5) (a 6) (s 1) (p + 1)))) ?_ ?_)
      · refine zf4 (fun k x S A O => x = nI k ∧ S = s ∧ A = a ∧ (∀ j, j < 0 → O j = os j) ∧ yE (O 0) (yF r c n (a 5) (s 1) 7 (a 6) (yLL r c n (a 5) (a 6) (s 1) p ++ ((List.range k).filterMap (yd r c n (a 5) (a 6) (s 1) p)).map (fun x => (p, x))))) _ 8 ?_ ?_ 0 (Nat.zero_le _) ⟨rfl, rfl, rfl, hO, by rw [show ((List.range 0).filterMap (yd r c n (a 5) (a 6) (s 1) p)).map (fun x => (p, x)) = [] from rfl, List.append_nil]; exact hE⟩
        · rintro d x S A O hd ⟨e1, e2, e3, hO, hE⟩
          rw [e1, e2, e3]
          refine Or.inl ?_
          rw [if_neg (y8g hd), y_target hB hG hS hp hd, zb1_e]
          cases hx : yd r c n (a 5) (a 6) (s 1) p d with
          | none =>
            refine ⟨_, _, _, _, rfl, nI_1 d, rfl, rfl, hO, ?_⟩
            rw [y_fm, hx, show (none : Option (Nat × Nat)).toList = [] from rfl, List.append_nil]
            exact hE
          | some x =>
            obtain ⟨t, m⟩ := x
            have htl := (yd_lt hx).1
            obtain ⟨l1, s', a', l2, l3, l4, _, _, l7, l8, l9, _, l10⟩ := y_leap hB hG hS hp hd hx
            rw [show yI (Option.map Prod.fst (some (t, m))) = nI t from rfl, if_neg (y_nIm t (by simp only at htl; omega)), y_homeOf hS hp, zb1_e, l1, zb1_e, l2, zb2_e]
            obtain ⟨z, hz, w1, w2, k1, k2⟩ := y_look_1 hB hG l3 (by omega) O
            rw [hz, show z = (s', a', z.2.2) from Prod.ext w1 (Prod.ext w2 rfl), zb3_e, l10, zb2_e]
            have q2 : yE (z.2.2 1) (yOut r c n (a 5) (s 1) 7 (yaft n (a 5) (a 6) p (t, m))) := by rw [l8, l7, l4] at k2; exact k2
            obtain ⟨T, hT, kT⟩ := y_take (j := (100 : Int32) * nI p + nI t) (show yE (z.2.2 0) _ by rw [k1 0 (by decide)]; exact hE) q2
            rw [hT, zb1_e, zlt_e]
            refine ⟨_, _, _, _, rfl, nI_1 d, rfl, rfl, fun j hj => ?_, ?_⟩
            · rw [y_vn (by omega), k1 j (by omega)]; exact hO j hj
            · rw [y_vu, y_fm, hx, List.map_append, ← List.append_assoc]
              show yE T (yF r c n (a 5) (s 1) 7 (a 6) (_ ++ [(p, t, m)]))
              rw [yF_snoc]
              have ej : (100 : Int32) * nI p + nI t = nI (100 * p + t) := by rw [show (100 : Int32) = nI 100 from rfl, pk_mul, nI_add]
              rw [ej] at kT
              exact kT
        · rintro x S A O ⟨e1, e2, e3, hO, hE⟩
          rw [e1, e2, e3]
          refine ⟨_, by rw [if_pos y8p], rfl, rfl, hO, ?_⟩
          rw [yJ_d hB hS.2.2.2.1 hp] at hE
          exact hE
      · rintro S A O ⟨e2, e3, hO, hE⟩
        change S = s at e2
        change A = a at e3
        rw [e2, e3]
        exact ⟨_, rfl, _, _, _, _, rfl, nI_1 p, rfl, rfl, hO, hE⟩
    · rintro x S A O ⟨e1, e2, e3, hO, hE⟩
      rw [e1, e2, e3, hS.1]
      exact ⟨_, by rw [if_pos (nI_le (Nat.le_refl n) (by omega))], rfl, rfl, hO, hE⟩
  · rintro S A O ⟨e2, e3, hO, hE⟩
    change S = s at e2
    change A = a at e3
    rw [e2, e3, y_alone hS, zb1_e, hS.2.2.2.2.2]
    obtain ⟨Z, eZ, hZ⟩ := y_end (O := O 0) (nb := nI (yc n (a 6))) (al := yal n (a 6)) hE
    rw [eZ, zb1_e, zlt_e]
    refine ⟨_, rfl, rfl, rfl, fun j hj => ?_, ?_⟩
    · show va_up O 0 Z j = os j
      rw [y_vn (by omega)]; exact hO j hj
    · show yE (va_up O 0 Z 0) _
      rw [y_vu]; exact hZ
