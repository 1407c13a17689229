/-! the claim out of the walk of the law: its first half (out of the skeleton), the small calls -/
def R_law : String := "PegFieldLaw"
def lw_P (b : Addr) (xs : List Int32) (args : Array Value) (s : State) : Prop := args = #[.ref b] ∧ s.IntsAt b xs ∧ xs.length ≤ 2048 ∧ (Jvm.Cond.and given_1 narrow_1).before args s = true
def lw_Q (_ : Array Value) (s : State) (o : Outcome) (t : State) : Prop := o = .returned (some (.int 1)) ∧ Framed s o t [] 600000 7302250
def lw_Z (below : List Frame) (a : Array Value) (s : State) : State → Prop := fun t => ∃ o, t.status = .running ∧ Ended t below o ∧ lw_Q a s o t
/-- the law's own end, with 1 on the stack, nothing written that was there before, its room as the claim has it -/
theorem lw_ret {p : Program} {l : Launch} {e : Env} {s : State} {m : MethodId} {below : List Frame} {meth : Method} {c : Code} {b : Nat} (hx : p.tables.exec = Jvm.exec) (hb : c.code = code) (hr : meth.sig.returnType = ret) (hlocks : meth.locks = false) {pc : Nat} {H : Heap} {ls : Array Slot} (hdg : decode code pc = .ok (.ireturn, 1)) : W p l e room_1 s m #[Value.ref b] below meth c H [] 600000 7302250 (lw_Z below #[Value.ref b] s) (F0 m pc ls [.int 1]) := by
  intro T hT X
  obtain ⟨fs, hret, hrun, hended, hW, hframe⟩ := X.leave (v := some (.int 1)) (hlocks := hlocks) (fun h => by rw [hr] at h; cases h)
  have hmeth' : T.vm.method? m = some meth := X.method'
  refine ⟨T.setFrames fs, ?_, .returned (some (.int 1)), hrun, hended, rfl, ⟨_, rfl⟩, hW, hframe⟩
  jvm_step X.here [X.here.top, hx, hb, hdg, hmeth', hr, ret, narrow_b1]
  (try refine ⟨rfl, ?_⟩); (try refine ⟨rfl, ?_⟩)
  first | (intro acts; rw [hret _ acts rfl rfl rfl]) | rw [hret _ _ rfl rfl rfl]
  exact Steps.refl _
/-- what holds at the law's entry: the machine, the code, the tables' words (any of lw_tbl by 'hts w (by decide +kernel)'), the script of L ints xs at the cell b, what the Statement gives of the start (any of its parts by flat_of_before) -/
def lw_At (p : Program) (s : State) (m : MethodId) (meth : Method) (c : Code) (b L : Nat) (xs : Nat → Int32) : Prop :=
  p.tables.exec = Jvm.exec ∧ c.code = code ∧ meth.sig.returnType = ret ∧ c.maxLocals = 4 ∧ s.vm.findClass R_law = some m.cls ∧ (∀ w ∈ lw_tbl, w.before #[Value.ref b] s = true) ∧ va_X b L xs s s.heap ∧ b < s.heap.size ∧ meth.locks = false ∧ (Jvm.Cond.and given_1 narrow_1).before #[Value.ref b] s = true
/-! the small calls, with the whole picture -/
theorem yVK_m {r c n b : Nat} {x : Int32} {Ks : Nat → Int32} {Ka : Nat → Nat → Int32} {Ls : Nat → Int32} {La : Nat → Nat → Int32} {Ms M' : Nat → Int32} {Ma B' : Nat → Nat → Int32} (h : yVK r c n b x Ks Ka Ls La Ms Ma) (e : ∀ i, 29 ≤ i → M' i = Ms i) (f : ∀ i, 34 ≤ i → B' i = Ma i) : yVK r c n b x Ks Ka Ls La M' B' := by
  unfold yVK at *
  rw [e 29 (by decide), e 30 (by decide), e 31 (by decide), e 32 (by decide), e 33 (by decide), f 34 (by decide), f 35 (by decide), f 36 (by decide), f 37 (by decide), f 38 (by decide)]
  exact h
theorem yo_letter {r c n b : Nat} {Xs Ps : Nat → Int32} {Pa : Nat → Nat → Int32} {Gs : Nat → Int32} {Ga : Nat → Nat → Int32} {Ns : Nat → Int32} {Na : Nat → Nat → Int32} {Qs : Nat → Int32} {Qa : Nat → Nat → Int32} {Ks : Nat → Int32} {Ka : Nat → Nat → Int32} {Ls : Nat → Int32} {La : Nat → Nat → Int32} {os : Nat → Nat → Int32} {Ms : Nat → Int32} {Ma : Nat → Nat → Int32} (h : yIV r c n b Xs Ps Pa Gs Ga Ns Na Qs Qa Ks Ka Ls La os Ms Ma) (x : Int32) : ∃ v P' A' M' B', fX5_letter Ps Pa x = some (v, P', A') ∧ fX6_letter Ms Ma x = some (v, M', B') ∧ yIV r c n b Xs P' A' Gs Ga Ns Na Qs Qa Ks Ka Ls La os M' B' := by
  obtain ⟨h1, h2, h3, h4, h5, h6, h7, h8, h9⟩ := h
  obtain ⟨v, P', A', M', B', e1, e2, k1, k2, k3⟩ := y_letter h7 x
  refine ⟨v, P', A', M', B', e1, e2, h1, h2, ?_, ?_, ?_, ?_, k1, yVK_m h8 (fun i hi => k2 i (by omega)) (fun i hi => k3 i (by omega)), h9⟩
  · unfold yVM at *; rw [k2 0 (by decide), k2 1 (by decide), k2 2 (by decide), k2 4 (by decide)]; exact h3
  · rw [k2 3 (by decide), k2 7 (by decide), k3 5 (by decide), k3 6 (by decide)]; exact h4
  · rw [k2 8 (by decide)]; exact h5
  · rw [k2 9 (by decide), k3 10 (by decide), k3 11 (by decide), k3 12 (by decide)]; exact h6
theorem yo_blank {r c n b : Nat} {Xs Ps : Nat → Int32} {Pa : Nat → Nat → Int32} {Gs : Nat → Int32} {Ga : Nat → Nat → Int32} {Ns : Nat → Int32} {Na : Nat → Nat → Int32} {Qs : Nat → Int32} {Qa : Nat → Nat → Int32} {Ks : Nat → Int32} {Ka : Nat → Nat → Int32} {Ls : Nat → Int32} {La : Nat → Nat → Int32} {os : Nat → Nat → Int32} {Ms : Nat → Int32} {Ma : Nat → Nat → Int32} (h : yIV r c n b Xs Ps Pa Gs Ga Ns Na Qs Qa Ks Ka Ls La os Ms Ma) : ∃ v P' M', fX5_blank Ps = some (v, P') ∧ fX6_blank Ms = some (v, M') ∧ yIV r c n b Xs P' Pa Gs Ga Ns Na Qs Qa Ks Ka Ls La os M' Ma := by
  obtain ⟨h1, h2, h3, h4, h5, h6, h7, h8, h9⟩ := h
  obtain ⟨v, P', M', e1, e2, k1, k2⟩ := y_blank h7
  refine ⟨v, P', M', e1, e2, h1, h2, ?_, ?_, ?_, ?_, k1, yVK_m h8 (fun i hi => k2 i (by omega)) (fun _ _ => rfl), h9⟩
  · unfold yVM at *; rw [k2 0 (by decide), k2 1 (by decide), k2 2 (by decide), k2 4 (by decide)]; exact h3
  · rw [k2 3 (by decide), k2 7 (by decide)]; exact h4
  · rw [k2 8 (by decide)]; exact h5
  · rw [k2 9 (by decide)]; exact h6
theorem yo_forget {r c n b : Nat} {Xs Ps : Nat → Int32} {Pa : Nat → Nat → Int32} {Gs : Nat → Int32} {Ga : Nat → Nat → Int32} {Ns : Nat → Int32} {Na : Nat → Nat → Int32} {Qs : Nat → Int32} {Qa : Nat → Nat → Int32} {Ks : Nat → Int32} {Ka : Nat → Nat → Int32} {Ls : Nat → Int32} {La : Nat → Nat → Int32} {os : Nat → Nat → Int32} {Ms : Nat → Int32} {Ma : Nat → Nat → Int32} (h : yIV r c n b Xs Ps Pa Gs Ga Ns Na Qs Qa Ks Ka Ls La os Ms Ma) : ∃ v Q' M', fX5_forget Qs = some (v, Q') ∧ fX6_forget Ms = some (v, M') ∧ yIV r c n b Xs Ps Pa Gs Ga Ns Na Q' Qa Ks Ka Ls La os M' Ma := by
  obtain ⟨h1, h2, h3, h4, h5, h6, h7, h8, h9⟩ := h
  obtain ⟨v, Q', M', e1, e2, k1, k2⟩ := y_forget h6
  refine ⟨v, Q', M', e1, e2, h1, h2, ?_, ?_, ?_, k1, ?_, yVK_m h8 (fun i hi => k2 i (by omega)) (fun _ _ => rfl), h9⟩
  · unfold yVM at *; rw [k2 0 (by decide), k2 1 (by decide), k2 2 (by decide), k2 4 (by decide)]; exact h3
  · rw [k2 3 (by decide), k2 7 (by decide)]; exact h4
  · rw [k2 8 (by decide)]; exact h5
  · rw [k2 13 (by decide)]; exact h7
theorem yo_see {r c n b : Nat} {Xs Ps : Nat → Int32} {Pa : Nat → Nat → Int32} {Gs : Nat → Int32} {Ga : Nat → Nat → Int32} {Ns : Nat → Int32} {Na : Nat → Nat → Int32} {Qs : Nat → Int32} {Qa : Nat → Nat → Int32} {Ks : Nat → Int32} {Ka : Nat → Nat → Int32} {Ls : Nat → Int32} {La : Nat → Nat → Int32} {os : Nat → Nat → Int32} {Ms : Nat → Int32} {Ma : Nat → Nat → Int32} (h : yIV r c n b Xs Ps Pa Gs Ga Ns Na Qs Qa Ks Ka Ls La os Ms Ma) (x y k : Int32) : ∃ v Q' A' M' B', fX5_see Ns Qs Qa x y k = some (v, Q', A') ∧ fX6_see Ms Ma x y k = some (v, M', B') ∧ yIV r c n b Xs Ps Pa Gs Ga Ns Na Q' A' Ks Ka Ls La os M' B' := by
  obtain ⟨h1, h2, h3, h4, h5, h6, h7, h8, h9⟩ := h
  obtain ⟨v, Q', A', M', B', e1, e2, k1, k2, k3⟩ := y_see h4.1.1 h3.2.2.2.2 h4.1.2.1 h6 x y k
  refine ⟨v, Q', A', M', B', e1, e2, h1, h2, ?_, ?_, ?_, k1, ?_, yVK_m h8 (fun i hi => k2 i (by omega)) (fun i hi => k3 i (by omega) (by omega) (by omega)), h9⟩
  · unfold yVM at *; rw [k2 0 (by decide), k2 1 (by decide), k2 2 (by decide), k2 4 (by decide)]; exact h3
  · rw [k2 3 (by decide), k2 7 (by decide), k3 5 (by decide) (by decide) (by decide), k3 6 (by decide) (by decide) (by decide)]; exact h4
  · rw [k2 8 (by decide)]; exact h5
  · rw [k2 13 (by decide), k3 14 (by decide) (by decide) (by decide)]; exact h7
theorem yo_count {r c n b : Nat} {Xs Ps : Nat → Int32} {Pa : Nat → Nat → Int32} {Gs : Nat → Int32} {Ga : Nat → Nat → Int32} {Ns : Nat → Int32} {Na : Nat → Nat → Int32} {Qs : Nat → Int32} {Qa : Nat → Nat → Int32} {Ks : Nat → Int32} {Ka : Nat → Nat → Int32} {Ls : Nat → Int32} {La : Nat → Nat → Int32} {os : Nat → Nat → Int32} {Ms : Nat → Int32} {Ma : Nat → Nat → Int32} (h : yIV r c n b Xs Ps Pa Gs Ga Ns Na Qs Qa Ks Ka Ls La os Ms Ma) (x : Int32) : ∃ v B', fX5_count Xs Ps Gs Ga Ns Na Qs x = some v ∧ fX6_count Ms Ma x = some (v, B') ∧ yIV r c n b Xs Ps Pa Gs Ga Ns Na Qs Qa Ks Ka Ls La os Ms B' := by
  obtain ⟨v, B', e1, e2, fr⟩ := y_count h x
  refine ⟨v, B', e1, ?_, yI_a h fr⟩
  unfold fX6_count
  rw [e2, zb2_e]
theorem lg_self (x : Int64) : lg_cmp x x = 0 := by
  unfold lg_cmp
  rw [if_neg (show ¬ x > x from Int64.lt_irrefl), if_pos rfl]
