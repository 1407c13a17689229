/-! calls: a callee that changes nothing; a callee that changes its cells in place -/
theorem zkeep {D : va_G} {T : List (ClassId × FieldType)} {w wc : va_W} {A : Nat → Prop} {H H1 : Heap} {t : State} (hP : va_P D vwCl w H) (hD : va_D A w) (isC : List Nat) (hC : isC.map (fun i => w[i]?) = wc.map some) (hk : ∀ q : Nat, q < H.size → ¬ va_A wc H.size q → H1[q]? = H[q]?) (hB : zPost D T wc (va_A wc H.size) t) (ht : t.heap = H1) : va_P D vwCl w H1 := by
  obtain ⟨hP1, -, -⟩ := hB
  rw [ht] at hP1
  intro k q hq
  have hl := (hP k q hq).lt
  by_cases hin : va_A wc H.size q.1
  · rcases hin with ⟨j, e, hj⟩ | hge
    · have h1 : (isC.map (fun i => w[i]?))[j]? = some (some (q.1, e)) := by rw [hC, List.getElem?_map, hj]; rfl
      rw [List.getElem?_map] at h1
      cases hi : isC[j]? with
      | none => rw [hi] at h1; cases h1
      | some i =>
        rw [hi] at h1
        have h2 : w[i]? = some (q.1, e) := Option.some.inj h1
        have hki := hD.1 k i q (q.1, e) hq h2 rfl
        subst hki
        rw [hq] at h2
        have h3 : q = (q.1, e) := Option.some.inj h2
        rw [h3]
        exact hP1 j _ hj
    · omega
  · exact (hP k q hq).kept (hk q.1 hl hin)
theorem zin_place {D : va_G} {T : List (ClassId × FieldType)} {w wc w1 w2 : va_W} {A : Nat → Prop} {H H1 : Heap} {t : State} (hP : va_P D vwCl w H) (hD : va_D A w) (isC isR : List Nat) (n : Nat) (wr : va_W) (ad : List Nat) (hC : isC.map (fun i => w[i]?) = wc.map some) (hlen : w2.length = n) (hck : ((List.range n).all (fun k => isC.contains k || isR.contains k) && isR.all (fun k => !isC.contains k)) = true) (h1 : isC.map (fun i => w2[i]?) = w1.map some) (h2a : isR.map (fun i => w2[i]?) = wr.map some) (h2b : isR.map (fun i => w[i]?) = wr.map some) (ha2 : w2.map Prod.fst = ad) (ha1 : w.map Prod.fst = ad)
    (hk : ∀ q : Nat, q < H.size → ¬ va_A wc H.size q → H1[q]? = H[q]?) (hB : zPost D T w1 (va_A wc H.size) t) (ht : t.heap = H1) : va_P D vwCl w2 H1 ∧ va_D A w2 := by
  obtain ⟨hP1, -, -⟩ := hB
  rw [ht] at hP1
  have h2 : isR.map (fun i => w2[i]?) = isR.map (fun i => w[i]?) := h2a.trans h2b.symm
  have ha : w2.map Prod.fst = w.map Prod.fst := ha2.trans ha1.symm
  have adr : ∀ (k : Nat) (q : Nat × va_E), w2[k]? = some q → ∃ q0, w[k]? = some q0 ∧ q0.1 = q.1 := by
    intro k q hq
    have e1 : (w2.map Prod.fst)[k]? = some q.1 := by rw [List.getElem?_map, hq]; rfl
    rw [ha, List.getElem?_map] at e1
    cases hw : w[k]? with
    | none => rw [hw] at e1; cases e1
    | some q0 => rw [hw] at e1; exact ⟨q0, rfl, Option.some.inj e1⟩
  simp only [Bool.and_eq_true, List.all_eq_true, List.mem_range, Bool.or_eq_true, List.contains_iff_mem, Bool.not_eq_true'] at hck
  obtain ⟨ck1, ck2⟩ := hck
  refine ⟨fun k q hq => ?_, ⟨fun i j p q hi hj hpq => ?_, fun k q hq => ?_⟩⟩
  · have hkn : k < n := by rw [← hlen]; exact (List.getElem?_eq_some_iff.mp hq).1
    rcases ck1 k hkn with hin | hin
    · obtain ⟨j, hj⟩ := List.getElem?_of_mem hin
      have e1 : (isC.map (fun i => w2[i]?))[j]? = some (some q) := by rw [List.getElem?_map, hj]; exact congrArg some hq
      rw [h1, List.getElem?_map] at e1
      cases hw : w1[j]? with
      | none => rw [hw] at e1; cases e1
      | some q1 =>
        rw [hw] at e1
        have : q1 = q := Option.some.inj (Option.some.inj e1)
        subst this
        exact hP1 j q1 hw
    · obtain ⟨j, hj⟩ := List.getElem?_of_mem hin
      have e1 : (isR.map (fun i => w2[i]?))[j]? = some (some q) := by rw [List.getElem?_map, hj]; exact congrArg some hq
      rw [h2, List.getElem?_map, hj] at e1
      have hw : w[k]? = some q := Option.some.inj e1
      have hnot : k ∉ isC := by
        have := ck2 k hin
        intro hc
        rw [List.contains_iff_mem.mpr hc] at this
        cases this
      refine (hP k q hw).kept (hk q.1 (hP k q hw).lt fun hA => ?_)
      rcases hA with ⟨j2, e, hj2⟩ | hge
      · have h3 : (isC.map (fun i => w[i]?))[j2]? = some (some (q.1, e)) := by rw [hC, List.getElem?_map, hj2]; rfl
        rw [List.getElem?_map] at h3
        cases hi : isC[j2]? with
        | none => rw [hi] at h3; cases h3
        | some i =>
          rw [hi] at h3
          have hki := hD.1 k i q (q.1, e) hw (Option.some.inj h3) rfl
          subst hki
          exact hnot (List.mem_of_getElem? hi)
      · have := (hP k q hw).lt
        omega
  · obtain ⟨p0, a1, a2⟩ := adr i p hi
    obtain ⟨q0, b1, b2⟩ := adr j q hj
    exact hD.1 i j p0 q0 a1 b1 (a2.trans (hpq.trans b2.symm))
  · obtain ⟨q0, b1, b2⟩ := adr k q hq
    rw [← b2]
    exact hD.2 k q0 b1
theorem zcp_i {p : Program} {l : Launch} {e : Env} {R : Room} {s : State} {m : MethodId} {args a : Array Value} {below : List Frame} {meth : Method} {c : Code} {H : Heap} {locs : List Loc} {Q : State → Prop} {pc cells slots : Nat} {ls : Array Slot} {rest st0 : List Value} {A : Nat → Prop} {D : va_G} {T : List (ClassId × FieldType)} {rv : Int32} {w wc : va_W} (hr : va_Run p l e R s m args below meth c H locs cells slots 0 0 (F0 m pc ls st0) rest (va_Qi (fun r (_ : Unit) => r = rv) (fun _ => zPost D T wc (va_A wc H.size)) (va_A wc H.size) a) (va_A wc H.size)) (hP : va_P D vwCl w H) (hD : va_D A w) (hS : va_S A s.heap H locs) (hFc : ∀ q, va_A wc H.size q → A q) (isC : List Nat) (hC : isC.map (fun i => w[i]?) = wc.map some)
    (kk : ∀ (H1 : Heap) (locs1 : List Loc), va_P D vwCl w H1 → va_S A s.heap H1 locs1 → W p l e R s m args below meth c H1 locs1 cells slots Q (F0 m (pc + 3) ls (.int rv :: rest))) : W p l e R s m args below meth c H locs cells slots Q (F0 m pc ls st0) := by
  refine va_calli hr hS (fun q _ h => hFc q h) hFc (fun r u t H1 locs1 ht hvm hw hB hz1 hk1 hS1 => ?_)
  have hP2 := zkeep hP hD isC hC hk1 hB ht
  obtain rfl : r = rv := hw
  exact kk H1 locs1 hP2 hS1
theorem zcm_i {p : Program} {l : Launch} {e : Env} {R : Room} {s : State} {m : MethodId} {args a : Array Value} {below : List Frame} {meth : Method} {c : Code} {H : Heap} {locs : List Loc} {Q : State → Prop} {pc cells slots : Nat} {ls : Array Slot} {rest st0 : List Value} {A : Nat → Prop} {D : va_G} {T : List (ClassId × FieldType)} {rv : Int32} {wc w1 w2 : va_W} (hr : va_Run p l e R s m args below meth c H locs cells slots 0 0 (F0 m pc ls st0) rest (va_Qi (fun r (_ : Unit) => r = rv) (fun _ => zPost D T w1 (va_A wc H.size)) (va_A wc H.size) a) (va_A wc H.size)) (hS : va_S A s.heap H locs) (hFc : ∀ q, va_A wc H.size q → A q) (hj : ∀ (H1 : Heap) (t : State), (∀ q : Nat, q < H.size → ¬ va_A wc H.size q → H1[q]? = H[q]?) → zPost D T w1 (va_A wc H.size) t → t.heap = H1 → va_P D vwCl w2 H1 ∧ va_D A w2)
    (kk : ∀ (H1 : Heap) (locs1 : List Loc), va_P D vwCl w2 H1 → va_D A w2 → va_S A s.heap H1 locs1 → W p l e R s m args below meth c H1 locs1 cells slots Q (F0 m (pc + 3) ls (.int rv :: rest))) : W p l e R s m args below meth c H locs cells slots Q (F0 m pc ls st0) := by
  refine va_calli hr hS (fun q _ h => hFc q h) hFc (fun r u t H1 locs1 ht hvm hw hB hz1 hk1 hS1 => ?_)
  obtain ⟨hP2, hD2⟩ := hj H1 t hk1 hB ht
  obtain rfl : r = rv := hw
  exact kk H1 locs1 hP2 hD2 hS1
theorem zcp_l {p : Program} {l : Launch} {e : Env} {R : Room} {s : State} {m : MethodId} {args a : Array Value} {below : List Frame} {meth : Method} {c : Code} {H : Heap} {locs : List Loc} {Q : State → Prop} {pc cells slots : Nat} {ls : Array Slot} {rest st0 : List Value} {A : Nat → Prop} {D : va_G} {T : List (ClassId × FieldType)} {rv : Int64} {w wc : va_W} (hr : va_Run p l e R s m args below meth c H locs cells slots 0 0 (F0 m pc ls st0) rest (va_Ql (fun r (_ : Unit) => r = rv) (fun _ => zPost D T wc (va_A wc H.size)) (va_A wc H.size) a) (va_A wc H.size)) (hP : va_P D vwCl w H) (hD : va_D A w) (hS : va_S A s.heap H locs) (hFc : ∀ q, va_A wc H.size q → A q) (isC : List Nat) (hC : isC.map (fun i => w[i]?) = wc.map some)
    (kk : ∀ (H1 : Heap) (locs1 : List Loc), va_P D vwCl w H1 → va_S A s.heap H1 locs1 → W p l e R s m args below meth c H1 locs1 cells slots Q (F0 m (pc + 3) ls (.long rv :: rest))) : W p l e R s m args below meth c H locs cells slots Q (F0 m pc ls st0) := by
  refine va_calll hr hS (fun q _ h => hFc q h) hFc (fun r u t H1 locs1 ht hvm hw hB hz1 hk1 hS1 => ?_)
  have hP2 := zkeep hP hD isC hC hk1 hB ht
  obtain rfl : r = rv := hw
  exact kk H1 locs1 hP2 hS1
theorem zcm_l {p : Program} {l : Launch} {e : Env} {R : Room} {s : State} {m : MethodId} {args a : Array Value} {below : List Frame} {meth : Method} {c : Code} {H : Heap} {locs : List Loc} {Q : State → Prop} {pc cells slots : Nat} {ls : Array Slot} {rest st0 : List Value} {A : Nat → Prop} {D : va_G} {T : List (ClassId × FieldType)} {rv : Int64} {wc w1 w2 : va_W} (hr : va_Run p l e R s m args below meth c H locs cells slots 0 0 (F0 m pc ls st0) rest (va_Ql (fun r (_ : Unit) => r = rv) (fun _ => zPost D T w1 (va_A wc H.size)) (va_A wc H.size) a) (va_A wc H.size)) (hS : va_S A s.heap H locs) (hFc : ∀ q, va_A wc H.size q → A q) (hj : ∀ (H1 : Heap) (t : State), (∀ q : Nat, q < H.size → ¬ va_A wc H.size q → H1[q]? = H[q]?) → zPost D T w1 (va_A wc H.size) t → t.heap = H1 → va_P D vwCl w2 H1 ∧ va_D A w2)
    (kk : ∀ (H1 : Heap) (locs1 : List Loc), va_P D vwCl w2 H1 → va_D A w2 → va_S A s.heap H1 locs1 → W p l e R s m args below meth c H1 locs1 cells slots Q (F0 m (pc + 3) ls (.long rv :: rest))) : W p l e R s m args below meth c H locs cells slots Q (F0 m pc ls st0) := by
  refine va_calll hr hS (fun q _ h => hFc q h) hFc (fun r u t H1 locs1 ht hvm hw hB hz1 hk1 hS1 => ?_)
  obtain ⟨hP2, hD2⟩ := hj H1 t hk1 hB ht
  obtain rfl : r = rv := hw
  exact kk H1 locs1 hP2 hD2 hS1
theorem zcp_v {p : Program} {l : Launch} {e : Env} {R : Room} {s : State} {m : MethodId} {args a : Array Value} {below : List Frame} {meth : Method} {c : Code} {H : Heap} {locs : List Loc} {Q : State → Prop} {pc cells slots : Nat} {ls : Array Slot} {rest st0 : List Value} {A : Nat → Prop} {D : va_G} {T : List (ClassId × FieldType)} {w wc : va_W} (hr : va_Run p l e R s m args below meth c H locs cells slots 0 0 (F0 m pc ls st0) rest (va_Qv (fun (_ : Unit) => True) (fun _ => zPost D T wc (va_A wc H.size)) (va_A wc H.size) a) (va_A wc H.size)) (hP : va_P D vwCl w H) (hD : va_D A w) (hS : va_S A s.heap H locs) (hFc : ∀ q, va_A wc H.size q → A q) (isC : List Nat) (hC : isC.map (fun i => w[i]?) = wc.map some)
    (kk : ∀ (H1 : Heap) (locs1 : List Loc), va_P D vwCl w H1 → va_S A s.heap H1 locs1 → W p l e R s m args below meth c H1 locs1 cells slots Q (F0 m (pc + 3) ls (rest))) : W p l e R s m args below meth c H locs cells slots Q (F0 m pc ls st0) := by
  refine va_callv hr hS (fun q _ h => hFc q h) hFc (fun u t H1 locs1 ht hvm hw hB hz1 hk1 hS1 => ?_)
  have hP2 := zkeep hP hD isC hC hk1 hB ht
  skip
  exact kk H1 locs1 hP2 hS1
theorem zcm_v {p : Program} {l : Launch} {e : Env} {R : Room} {s : State} {m : MethodId} {args a : Array Value} {below : List Frame} {meth : Method} {c : Code} {H : Heap} {locs : List Loc} {Q : State → Prop} {pc cells slots : Nat} {ls : Array Slot} {rest st0 : List Value} {A : Nat → Prop} {D : va_G} {T : List (ClassId × FieldType)} {wc w1 w2 : va_W} (hr : va_Run p l e R s m args below meth c H locs cells slots 0 0 (F0 m pc ls st0) rest (va_Qv (fun (_ : Unit) => True) (fun _ => zPost D T w1 (va_A wc H.size)) (va_A wc H.size) a) (va_A wc H.size)) (hS : va_S A s.heap H locs) (hFc : ∀ q, va_A wc H.size q → A q) (hj : ∀ (H1 : Heap) (t : State), (∀ q : Nat, q < H.size → ¬ va_A wc H.size q → H1[q]? = H[q]?) → zPost D T w1 (va_A wc H.size) t → t.heap = H1 → va_P D vwCl w2 H1 ∧ va_D A w2)
    (kk : ∀ (H1 : Heap) (locs1 : List Loc), va_P D vwCl w2 H1 → va_D A w2 → va_S A s.heap H1 locs1 → W p l e R s m args below meth c H1 locs1 cells slots Q (F0 m (pc + 3) ls (rest))) : W p l e R s m args below meth c H locs cells slots Q (F0 m pc ls st0) := by
  refine va_callv hr hS (fun q _ h => hFc q h) hFc (fun u t H1 locs1 ht hvm hw hB hz1 hk1 hS1 => ?_)
  obtain ⟨hP2, hD2⟩ := hj H1 t hk1 hB ht
  skip
  exact kk H1 locs1 hP2 hD2 hS1
