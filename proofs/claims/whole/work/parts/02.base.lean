/-! literal answers: a method of Java as a function that answers 'none' where the machine would throw or not end -/
def zck {ρ : Type} (b : Bool) (k : Option ρ) : Option ρ := if b = true then k else none
theorem zck_s {ρ : Type} {b : Bool} {k : Option ρ} {r : ρ} (h : zck b k = some r) : b = true ∧ k = some r := by
  unfold zck at h
  by_cases hb : b = true
  · rw [if_pos hb] at h; exact ⟨hb, h⟩
  · rw [if_neg hb] at h; cases h
theorem zck_t {ρ : Type} {b : Bool} (hb : b = true) (k : Option ρ) : zck b k = k := by unfold zck; rw [if_pos hb]
def zin (i : Int32) (n : Nat) : Bool := decide (0 ≤ i.toInt ∧ i.toInt < (n : Int))
theorem zin_s {i : Int32} {n : Nat} (h : zin i n = true) : vp_in i n := vp_in_iff.mpr (of_decide_eq_true h)
def zne (y : Int32) : Bool := decide (¬ y = 0)
theorem zne_s {y : Int32} (h : zne y = true) : ¬ y = 0 := of_decide_eq_true h
def znl (y : Int64) : Bool := decide (¬ y = 0)
theorem znl_s {y : Int64} (h : znl y = true) : ¬ y = 0 := of_decide_eq_true h
def zbo (v : Int32) : Bool := decide (v = 0 ∨ v = 1)
theorem zbo_s {v : Int32} (h : zbo v = true) : narrow .boolean (.int v) = .int v := by
  rcases of_decide_eq_true h with e | e <;> rw [e] <;> decide
theorem zbo_f {v : Int32} (h : zbo v = true) : fits .boolean (.int v) = true := by
  rcases of_decide_eq_true h with e | e <;> rw [e] <;> decide
def zlt {α ρ : Type} (e : α) (k : α → Option ρ) : Option ρ := k e
theorem zlt_s {α ρ : Type} {e : α} {k : α → Option ρ} {r : ρ} (h : zlt e k = some r) {x : α} (ex : x = e) : k x = some r := by subst ex; exact h
def zjn {α ρ : Type} (J : α) (k : α → Option ρ) : Option ρ := k J
theorem zjn_s {α ρ : Type} {J : α} {k : α → Option ρ} {r : ρ} (h : zjn J k = some r) : ∃ J', J' = J ∧ k J' = some r := ⟨J, rfl, h⟩
theorem zif_t {ρ : Type} {c : Prop} {d : Decidable c} {A B : Option ρ} {r : ρ} (hc : c) (h : (@ite (Option ρ) c d A B) = some r) : A = some r := by rw [if_pos hc] at h; exact h
theorem zif_f {ρ : Type} {c : Prop} {d : Decidable c} {A B : Option ρ} {r : ρ} (hc : ¬ c) (h : (@ite (Option ρ) c d A B) = some r) : B = some r := by rw [if_neg hc] at h; exact h
def zbs {α β ρ : Type} (o : Option (α ⊕ β)) (k1 : α → Option ρ) (k2 : β → Option ρ) : Option ρ := match o with
  | none => none
  | some (.inl a) => k1 a
  | some (.inr b) => k2 b
theorem zbs_s {α β ρ : Type} {o : Option (α ⊕ β)} {k1 : α → Option ρ} {k2 : β → Option ρ} {r : ρ} (h : zbs o k1 k2 = some r) : ∃ z, o = some z ∧ (∀ a, z = .inl a → k1 a = some r) ∧ (∀ b, z = .inr b → k2 b = some r) := by
  cases o with
  | none => cases h
  | some z =>
    refine ⟨z, rfl, fun a e => ?_, fun b e => ?_⟩
    · subst e; exact h
    · subst e; exact h
def zitn {σ ρ : Type} (step : σ → Option (σ ⊕ ρ)) : Nat → σ → Option ρ
  | 0, _ => none
  | n + 1, s => match step s with
    | none => none
    | some (.inl s') => zitn step n s'
    | some (.inr r) => some r
theorem zitn_mono {σ ρ : Type} {step : σ → Option (σ ⊕ ρ)} {r : ρ} : ∀ (n k : Nat) (s : σ), zitn step n s = some r → n ≤ k → zitn step k s = some r
  | 0, _, _, h, _ => by cases h
  | n + 1, 0, _, _, hk => absurd hk (Nat.not_succ_le_zero n)
  | n + 1, k + 1, s, h, hk => by
    unfold zitn at h ⊢
    cases hz : step s with
    | none => rw [hz] at h; cases h
    | some z =>
      rw [hz] at h
      cases z with
      | inl s' => exact zitn_mono n k s' h (Nat.le_of_succ_le_succ hk)
      | inr r' => exact h
noncomputable def zit {σ ρ : Type} (step : σ → Option (σ ⊕ ρ)) (s : σ) : Option ρ := @dite (Option ρ) (∃ n, zitn step n s ≠ none) (Classical.propDecidable _) (fun h => zitn step (Classical.choose h) s) (fun _ => none)
theorem zit_of {σ ρ : Type} {step : σ → Option (σ ⊕ ρ)} {s : σ} {r : ρ} {n : Nat} (h : zitn step n s = some r) : zit step s = some r := by
  have hx : ∃ n, zitn step n s ≠ none := ⟨n, by rw [h]; exact fun e => by cases e⟩
  unfold zit
  rw [dif_pos hx]
  cases hm : zitn step (Classical.choose hx) s with
  | none => exact absurd hm (Classical.choose_spec hx)
  | some r' =>
    rcases Nat.le_total n (Classical.choose hx) with q | q
    · exact hm.symm.trans (zitn_mono _ _ _ h q)
    · exact (zitn_mono _ _ _ hm q).symm.trans h
theorem zit_ex {σ ρ : Type} {step : σ → Option (σ ⊕ ρ)} {s : σ} {r : ρ} (h : zit step s = some r) : ∃ n, zitn step n s = some r := by
  unfold zit at h
  by_cases hx : ∃ n, zitn step n s ≠ none
  · rw [dif_pos hx] at h; exact ⟨_, h⟩
  · rw [dif_neg hx] at h; cases h
theorem zit_r {σ ρ : Type} {step : σ → Option (σ ⊕ ρ)} {s : σ} {r : ρ} (h : step s = some (.inr r)) : zit step s = some r :=
  zit_of (n := 1) (by unfold zitn; rw [h])
theorem zit_l {σ ρ : Type} {step : σ → Option (σ ⊕ ρ)} {s s' : σ} {r : ρ} (h : step s = some (.inl s')) (h2 : zit step s' = some r) : zit step s = some r := by
  obtain ⟨n, hn⟩ := zit_ex h2
  exact zit_of (n := n + 1) (by unfold zitn; rw [h]; exact hn)
theorem zit_ind {σ ρ : Type} {step : σ → Option (σ ⊕ ρ)} {r : ρ} (P : σ → Prop) (hs : ∀ s z, step s = some z → (∀ s', z = .inl s' → P s') → (∀ r', z = .inr r' → r' = r) → P s) : ∀ s, zit step s = some r → P s := by
  intro s h
  obtain ⟨n, hn⟩ := zit_ex h
  clear h
  induction n generalizing s with
  | zero => cases hn
  | succ n ih =>
    unfold zitn at hn
    cases hz : step s with
    | none => rw [hz] at hn; cases hn
    | some z =>
      rw [hz] at hn
      cases z with
      | inl s' => exact hs s _ hz (fun s'' e => by cases e; exact ih s' hn) (fun r' e => by cases e)
      | inr r' => exact hs s _ hz (fun s'' e => by cases e) (fun r'' e => by cases e; exact Option.some.inj hn)
theorem zend {ρ : Type} {a b : ρ} (h : some a = some b) : a = b := Option.some.inj h
def zb1 {A0 ρ : Type} (o : Option (A0)) (k : A0 → Option ρ) : Option ρ := match o with
  | none => none
  | some a0 => k a0
theorem zb1_s {A0 ρ : Type} {o : Option (A0)} {k : A0 → Option ρ} {r : ρ} (h : zb1 o k = some r) : ∃ a0, o = some a0 ∧ k a0 = some r := by
  cases o with
  | none => cases h
  | some z => exact ⟨z, rfl, h⟩
theorem zb1_t {A0 ρ : Type} {o : Option (A0)} {a0 : A0} (h : o = some a0) (k : A0 → Option ρ) : zb1 o k = k a0 := by rw [h]; rfl
noncomputable def zi1 {A0 ρ : Type} (f : A0 → Option ((A0) ⊕ ρ)) (a0 : A0) : Option ρ := zit (fun s : A0 => f s) a0
theorem zi1_ind {A0 ρ : Type} {f : A0 → Option ((A0) ⊕ ρ)} {r : ρ} (P : A0 → Prop) (hs : ∀ a0 z, f a0 = some z → (∀ a0', z = .inl a0' → P a0') → (∀ r', z = .inr r' → r' = r) → P a0) {a0 : A0} (h : zi1 f a0 = some r) : P a0 :=
  zit_ind (fun s : A0 => P s) (fun s z h1 h2 h3 => hs s z h1 (fun a0' e => h2 a0' e) h3) _ h
theorem zi1_l {A0 ρ : Type} {f : A0 → Option ((A0) ⊕ ρ)} {a0 a0' : A0} {r : ρ} (h : f a0 = some (.inl a0')) (h2 : zi1 f a0' = some r) : zi1 f a0 = some r := zit_l (s := a0) h h2
theorem zi1_r {A0 ρ : Type} {f : A0 → Option ((A0) ⊕ ρ)} {a0 : A0} {r : ρ} (h : f a0 = some (.inr r)) : zi1 f a0 = some r := zit_r (s := a0) h
def zb2 {A0 A1 ρ : Type} (o : Option (A0 × A1)) (k : A0 → A1 → Option ρ) : Option ρ := match o with
  | none => none
  | some (a0, a1) => k a0 a1
theorem zb2_s {A0 A1 ρ : Type} {o : Option (A0 × A1)} {k : A0 → A1 → Option ρ} {r : ρ} (h : zb2 o k = some r) : ∃ a0 a1, o = some (a0, a1) ∧ k a0 a1 = some r := by
  cases o with
  | none => cases h
  | some z => exact ⟨z.1, z.2, rfl, h⟩
theorem zb2_t {A0 A1 ρ : Type} {o : Option (A0 × A1)} {a0 : A0} {a1 : A1} (h : o = some (a0, a1)) (k : A0 → A1 → Option ρ) : zb2 o k = k a0 a1 := by rw [h]; rfl
noncomputable def zi2 {A0 A1 ρ : Type} (f : A0 → A1 → Option ((A0 × A1) ⊕ ρ)) (a0 : A0) (a1 : A1) : Option ρ := zit (fun s : A0 × A1 => f s.1 s.2) (a0, a1)
theorem zi2_ind {A0 A1 ρ : Type} {f : A0 → A1 → Option ((A0 × A1) ⊕ ρ)} {r : ρ} (P : A0 → A1 → Prop) (hs : ∀ a0 a1 z, f a0 a1 = some z → (∀ a0' a1', z = .inl (a0', a1') → P a0' a1') → (∀ r', z = .inr r' → r' = r) → P a0 a1) {a0 : A0} {a1 : A1} (h : zi2 f a0 a1 = some r) : P a0 a1 :=
  zit_ind (fun s : A0 × A1 => P s.1 s.2) (fun s z h1 h2 h3 => hs s.1 s.2 z h1 (fun a0' a1' e => h2 (a0', a1') e) h3) _ h
theorem zi2_l {A0 A1 ρ : Type} {f : A0 → A1 → Option ((A0 × A1) ⊕ ρ)} {a0 a0' : A0} {a1 a1' : A1} {r : ρ} (h : f a0 a1 = some (.inl (a0', a1'))) (h2 : zi2 f a0' a1' = some r) : zi2 f a0 a1 = some r := zit_l (s := (a0, a1)) h h2
theorem zi2_r {A0 A1 ρ : Type} {f : A0 → A1 → Option ((A0 × A1) ⊕ ρ)} {a0 : A0} {a1 : A1} {r : ρ} (h : f a0 a1 = some (.inr r)) : zi2 f a0 a1 = some r := zit_r (s := (a0, a1)) h
def zb3 {A0 A1 A2 ρ : Type} (o : Option (A0 × A1 × A2)) (k : A0 → A1 → A2 → Option ρ) : Option ρ := match o with
  | none => none
  | some (a0, a1, a2) => k a0 a1 a2
theorem zb3_s {A0 A1 A2 ρ : Type} {o : Option (A0 × A1 × A2)} {k : A0 → A1 → A2 → Option ρ} {r : ρ} (h : zb3 o k = some r) : ∃ a0 a1 a2, o = some (a0, a1, a2) ∧ k a0 a1 a2 = some r := by
  cases o with
  | none => cases h
  | some z => exact ⟨z.1, z.2.1, z.2.2, rfl, h⟩
theorem zb3_t {A0 A1 A2 ρ : Type} {o : Option (A0 × A1 × A2)} {a0 : A0} {a1 : A1} {a2 : A2} (h : o = some (a0, a1, a2)) (k : A0 → A1 → A2 → Option ρ) : zb3 o k = k a0 a1 a2 := by rw [h]; rfl
noncomputable def zi3 {A0 A1 A2 ρ : Type} (f : A0 → A1 → A2 → Option ((A0 × A1 × A2) ⊕ ρ)) (a0 : A0) (a1 : A1) (a2 : A2) : Option ρ := zit (fun s : A0 × A1 × A2 => f s.1 s.2.1 s.2.2) (a0, a1, a2)
theorem zi3_ind {A0 A1 A2 ρ : Type} {f : A0 → A1 → A2 → Option ((A0 × A1 × A2) ⊕ ρ)} {r : ρ} (P : A0 → A1 → A2 → Prop) (hs : ∀ a0 a1 a2 z, f a0 a1 a2 = some z → (∀ a0' a1' a2', z = .inl (a0', a1', a2') → P a0' a1' a2') → (∀ r', z = .inr r' → r' = r) → P a0 a1 a2) {a0 : A0} {a1 : A1} {a2 : A2} (h : zi3 f a0 a1 a2 = some r) : P a0 a1 a2 :=
  zit_ind (fun s : A0 × A1 × A2 => P s.1 s.2.1 s.2.2) (fun s z h1 h2 h3 => hs s.1 s.2.1 s.2.2 z h1 (fun a0' a1' a2' e => h2 (a0', a1', a2') e) h3) _ h
theorem zi3_l {A0 A1 A2 ρ : Type} {f : A0 → A1 → A2 → Option ((A0 × A1 × A2) ⊕ ρ)} {a0 a0' : A0} {a1 a1' : A1} {a2 a2' : A2} {r : ρ} (h : f a0 a1 a2 = some (.inl (a0', a1', a2'))) (h2 : zi3 f a0' a1' a2' = some r) : zi3 f a0 a1 a2 = some r := zit_l (s := (a0, a1, a2)) h h2
theorem zi3_r {A0 A1 A2 ρ : Type} {f : A0 → A1 → A2 → Option ((A0 × A1 × A2) ⊕ ρ)} {a0 : A0} {a1 : A1} {a2 : A2} {r : ρ} (h : f a0 a1 a2 = some (.inr r)) : zi3 f a0 a1 a2 = some r := zit_r (s := (a0, a1, a2)) h
def zb4 {A0 A1 A2 A3 ρ : Type} (o : Option (A0 × A1 × A2 × A3)) (k : A0 → A1 → A2 → A3 → Option ρ) : Option ρ := match o with
  | none => none
  | some (a0, a1, a2, a3) => k a0 a1 a2 a3
theorem zb4_s {A0 A1 A2 A3 ρ : Type} {o : Option (A0 × A1 × A2 × A3)} {k : A0 → A1 → A2 → A3 → Option ρ} {r : ρ} (h : zb4 o k = some r) : ∃ a0 a1 a2 a3, o = some (a0, a1, a2, a3) ∧ k a0 a1 a2 a3 = some r := by
  cases o with
  | none => cases h
  | some z => exact ⟨z.1, z.2.1, z.2.2.1, z.2.2.2, rfl, h⟩
theorem zb4_t {A0 A1 A2 A3 ρ : Type} {o : Option (A0 × A1 × A2 × A3)} {a0 : A0} {a1 : A1} {a2 : A2} {a3 : A3} (h : o = some (a0, a1, a2, a3)) (k : A0 → A1 → A2 → A3 → Option ρ) : zb4 o k = k a0 a1 a2 a3 := by rw [h]; rfl
noncomputable def zi4 {A0 A1 A2 A3 ρ : Type} (f : A0 → A1 → A2 → A3 → Option ((A0 × A1 × A2 × A3) ⊕ ρ)) (a0 : A0) (a1 : A1) (a2 : A2) (a3 : A3) : Option ρ := zit (fun s : A0 × A1 × A2 × A3 => f s.1 s.2.1 s.2.2.1 s.2.2.2) (a0, a1, a2, a3)
theorem zi4_ind {A0 A1 A2 A3 ρ : Type} {f : A0 → A1 → A2 → A3 → Option ((A0 × A1 × A2 × A3) ⊕ ρ)} {r : ρ} (P : A0 → A1 → A2 → A3 → Prop) (hs : ∀ a0 a1 a2 a3 z, f a0 a1 a2 a3 = some z → (∀ a0' a1' a2' a3', z = .inl (a0', a1', a2', a3') → P a0' a1' a2' a3') → (∀ r', z = .inr r' → r' = r) → P a0 a1 a2 a3) {a0 : A0} {a1 : A1} {a2 : A2} {a3 : A3} (h : zi4 f a0 a1 a2 a3 = some r) : P a0 a1 a2 a3 :=
  zit_ind (fun s : A0 × A1 × A2 × A3 => P s.1 s.2.1 s.2.2.1 s.2.2.2) (fun s z h1 h2 h3 => hs s.1 s.2.1 s.2.2.1 s.2.2.2 z h1 (fun a0' a1' a2' a3' e => h2 (a0', a1', a2', a3') e) h3) _ h
theorem zi4_l {A0 A1 A2 A3 ρ : Type} {f : A0 → A1 → A2 → A3 → Option ((A0 × A1 × A2 × A3) ⊕ ρ)} {a0 a0' : A0} {a1 a1' : A1} {a2 a2' : A2} {a3 a3' : A3} {r : ρ} (h : f a0 a1 a2 a3 = some (.inl (a0', a1', a2', a3'))) (h2 : zi4 f a0' a1' a2' a3' = some r) : zi4 f a0 a1 a2 a3 = some r := zit_l (s := (a0, a1, a2, a3)) h h2
theorem zi4_r {A0 A1 A2 A3 ρ : Type} {f : A0 → A1 → A2 → A3 → Option ((A0 × A1 × A2 × A3) ⊕ ρ)} {a0 : A0} {a1 : A1} {a2 : A2} {a3 : A3} {r : ρ} (h : f a0 a1 a2 a3 = some (.inr r)) : zi4 f a0 a1 a2 a3 = some r := zit_r (s := (a0, a1, a2, a3)) h
def zb5 {A0 A1 A2 A3 A4 ρ : Type} (o : Option (A0 × A1 × A2 × A3 × A4)) (k : A0 → A1 → A2 → A3 → A4 → Option ρ) : Option ρ := match o with
  | none => none
  | some (a0, a1, a2, a3, a4) => k a0 a1 a2 a3 a4
theorem zb5_s {A0 A1 A2 A3 A4 ρ : Type} {o : Option (A0 × A1 × A2 × A3 × A4)} {k : A0 → A1 → A2 → A3 → A4 → Option ρ} {r : ρ} (h : zb5 o k = some r) : ∃ a0 a1 a2 a3 a4, o = some (a0, a1, a2, a3, a4) ∧ k a0 a1 a2 a3 a4 = some r := by
  cases o with
  | none => cases h
  | some z => exact ⟨z.1, z.2.1, z.2.2.1, z.2.2.2.1, z.2.2.2.2, rfl, h⟩
theorem zb5_t {A0 A1 A2 A3 A4 ρ : Type} {o : Option (A0 × A1 × A2 × A3 × A4)} {a0 : A0} {a1 : A1} {a2 : A2} {a3 : A3} {a4 : A4} (h : o = some (a0, a1, a2, a3, a4)) (k : A0 → A1 → A2 → A3 → A4 → Option ρ) : zb5 o k = k a0 a1 a2 a3 a4 := by rw [h]; rfl
noncomputable def zi5 {A0 A1 A2 A3 A4 ρ : Type} (f : A0 → A1 → A2 → A3 → A4 → Option ((A0 × A1 × A2 × A3 × A4) ⊕ ρ)) (a0 : A0) (a1 : A1) (a2 : A2) (a3 : A3) (a4 : A4) : Option ρ := zit (fun s : A0 × A1 × A2 × A3 × A4 => f s.1 s.2.1 s.2.2.1 s.2.2.2.1 s.2.2.2.2) (a0, a1, a2, a3, a4)
theorem zi5_ind {A0 A1 A2 A3 A4 ρ : Type} {f : A0 → A1 → A2 → A3 → A4 → Option ((A0 × A1 × A2 × A3 × A4) ⊕ ρ)} {r : ρ} (P : A0 → A1 → A2 → A3 → A4 → Prop) (hs : ∀ a0 a1 a2 a3 a4 z, f a0 a1 a2 a3 a4 = some z → (∀ a0' a1' a2' a3' a4', z = .inl (a0', a1', a2', a3', a4') → P a0' a1' a2' a3' a4') → (∀ r', z = .inr r' → r' = r) → P a0 a1 a2 a3 a4) {a0 : A0} {a1 : A1} {a2 : A2} {a3 : A3} {a4 : A4} (h : zi5 f a0 a1 a2 a3 a4 = some r) : P a0 a1 a2 a3 a4 :=
  zit_ind (fun s : A0 × A1 × A2 × A3 × A4 => P s.1 s.2.1 s.2.2.1 s.2.2.2.1 s.2.2.2.2) (fun s z h1 h2 h3 => hs s.1 s.2.1 s.2.2.1 s.2.2.2.1 s.2.2.2.2 z h1 (fun a0' a1' a2' a3' a4' e => h2 (a0', a1', a2', a3', a4') e) h3) _ h
theorem zi5_l {A0 A1 A2 A3 A4 ρ : Type} {f : A0 → A1 → A2 → A3 → A4 → Option ((A0 × A1 × A2 × A3 × A4) ⊕ ρ)} {a0 a0' : A0} {a1 a1' : A1} {a2 a2' : A2} {a3 a3' : A3} {a4 a4' : A4} {r : ρ} (h : f a0 a1 a2 a3 a4 = some (.inl (a0', a1', a2', a3', a4'))) (h2 : zi5 f a0' a1' a2' a3' a4' = some r) : zi5 f a0 a1 a2 a3 a4 = some r := zit_l (s := (a0, a1, a2, a3, a4)) h h2
theorem zi5_r {A0 A1 A2 A3 A4 ρ : Type} {f : A0 → A1 → A2 → A3 → A4 → Option ((A0 × A1 × A2 × A3 × A4) ⊕ ρ)} {a0 : A0} {a1 : A1} {a2 : A2} {a3 : A3} {a4 : A4} {r : ρ} (h : f a0 a1 a2 a3 a4 = some (.inr r)) : zi5 f a0 a1 a2 a3 a4 = some r := zit_r (s := (a0, a1, a2, a3, a4)) h
def zb6 {A0 A1 A2 A3 A4 A5 ρ : Type} (o : Option (A0 × A1 × A2 × A3 × A4 × A5)) (k : A0 → A1 → A2 → A3 → A4 → A5 → Option ρ) : Option ρ := match o with
  | none => none
  | some (a0, a1, a2, a3, a4, a5) => k a0 a1 a2 a3 a4 a5
theorem zb6_s {A0 A1 A2 A3 A4 A5 ρ : Type} {o : Option (A0 × A1 × A2 × A3 × A4 × A5)} {k : A0 → A1 → A2 → A3 → A4 → A5 → Option ρ} {r : ρ} (h : zb6 o k = some r) : ∃ a0 a1 a2 a3 a4 a5, o = some (a0, a1, a2, a3, a4, a5) ∧ k a0 a1 a2 a3 a4 a5 = some r := by
  cases o with
  | none => cases h
  | some z => exact ⟨z.1, z.2.1, z.2.2.1, z.2.2.2.1, z.2.2.2.2.1, z.2.2.2.2.2, rfl, h⟩
theorem zb6_t {A0 A1 A2 A3 A4 A5 ρ : Type} {o : Option (A0 × A1 × A2 × A3 × A4 × A5)} {a0 : A0} {a1 : A1} {a2 : A2} {a3 : A3} {a4 : A4} {a5 : A5} (h : o = some (a0, a1, a2, a3, a4, a5)) (k : A0 → A1 → A2 → A3 → A4 → A5 → Option ρ) : zb6 o k = k a0 a1 a2 a3 a4 a5 := by rw [h]; rfl
noncomputable def zi6 {A0 A1 A2 A3 A4 A5 ρ : Type} (f : A0 → A1 → A2 → A3 → A4 → A5 → Option ((A0 × A1 × A2 × A3 × A4 × A5) ⊕ ρ)) (a0 : A0) (a1 : A1) (a2 : A2) (a3 : A3) (a4 : A4) (a5 : A5) : Option ρ := zit (fun s : A0 × A1 × A2 × A3 × A4 × A5 => f s.1 s.2.1 s.2.2.1 s.2.2.2.1 s.2.2.2.2.1 s.2.2.2.2.2) (a0, a1, a2, a3, a4, a5)
theorem zi6_ind {A0 A1 A2 A3 A4 A5 ρ : Type} {f : A0 → A1 → A2 → A3 → A4 → A5 → Option ((A0 × A1 × A2 × A3 × A4 × A5) ⊕ ρ)} {r : ρ} (P : A0 → A1 → A2 → A3 → A4 → A5 → Prop) (hs : ∀ a0 a1 a2 a3 a4 a5 z, f a0 a1 a2 a3 a4 a5 = some z → (∀ a0' a1' a2' a3' a4' a5', z = .inl (a0', a1', a2', a3', a4', a5') → P a0' a1' a2' a3' a4' a5') → (∀ r', z = .inr r' → r' = r) → P a0 a1 a2 a3 a4 a5) {a0 : A0} {a1 : A1} {a2 : A2} {a3 : A3} {a4 : A4} {a5 : A5} (h : zi6 f a0 a1 a2 a3 a4 a5 = some r) : P a0 a1 a2 a3 a4 a5 :=
  zit_ind (fun s : A0 × A1 × A2 × A3 × A4 × A5 => P s.1 s.2.1 s.2.2.1 s.2.2.2.1 s.2.2.2.2.1 s.2.2.2.2.2) (fun s z h1 h2 h3 => hs s.1 s.2.1 s.2.2.1 s.2.2.2.1 s.2.2.2.2.1 s.2.2.2.2.2 z h1 (fun a0' a1' a2' a3' a4' a5' e => h2 (a0', a1', a2', a3', a4', a5') e) h3) _ h
theorem zi6_l {A0 A1 A2 A3 A4 A5 ρ : Type} {f : A0 → A1 → A2 → A3 → A4 → A5 → Option ((A0 × A1 × A2 × A3 × A4 × A5) ⊕ ρ)} {a0 a0' : A0} {a1 a1' : A1} {a2 a2' : A2} {a3 a3' : A3} {a4 a4' : A4} {a5 a5' : A5} {r : ρ} (h : f a0 a1 a2 a3 a4 a5 = some (.inl (a0', a1', a2', a3', a4', a5'))) (h2 : zi6 f a0' a1' a2' a3' a4' a5' = some r) : zi6 f a0 a1 a2 a3 a4 a5 = some r := zit_l (s := (a0, a1, a2, a3, a4, a5)) h h2
theorem zi6_r {A0 A1 A2 A3 A4 A5 ρ : Type} {f : A0 → A1 → A2 → A3 → A4 → A5 → Option ((A0 × A1 × A2 × A3 × A4 × A5) ⊕ ρ)} {a0 : A0} {a1 : A1} {a2 : A2} {a3 : A3} {a4 : A4} {a5 : A5} {r : ρ} (h : f a0 a1 a2 a3 a4 a5 = some (.inr r)) : zi6 f a0 a1 a2 a3 a4 a5 = some r := zit_r (s := (a0, a1, a2, a3, a4, a5)) h
def zb7 {A0 A1 A2 A3 A4 A5 A6 ρ : Type} (o : Option (A0 × A1 × A2 × A3 × A4 × A5 × A6)) (k : A0 → A1 → A2 → A3 → A4 → A5 → A6 → Option ρ) : Option ρ := match o with
  | none => none
  | some (a0, a1, a2, a3, a4, a5, a6) => k a0 a1 a2 a3 a4 a5 a6
theorem zb7_s {A0 A1 A2 A3 A4 A5 A6 ρ : Type} {o : Option (A0 × A1 × A2 × A3 × A4 × A5 × A6)} {k : A0 → A1 → A2 → A3 → A4 → A5 → A6 → Option ρ} {r : ρ} (h : zb7 o k = some r) : ∃ a0 a1 a2 a3 a4 a5 a6, o = some (a0, a1, a2, a3, a4, a5, a6) ∧ k a0 a1 a2 a3 a4 a5 a6 = some r := by
  cases o with
  | none => cases h
  | some z => exact ⟨z.1, z.2.1, z.2.2.1, z.2.2.2.1, z.2.2.2.2.1, z.2.2.2.2.2.1, z.2.2.2.2.2.2, rfl, h⟩
theorem zb7_t {A0 A1 A2 A3 A4 A5 A6 ρ : Type} {o : Option (A0 × A1 × A2 × A3 × A4 × A5 × A6)} {a0 : A0} {a1 : A1} {a2 : A2} {a3 : A3} {a4 : A4} {a5 : A5} {a6 : A6} (h : o = some (a0, a1, a2, a3, a4, a5, a6)) (k : A0 → A1 → A2 → A3 → A4 → A5 → A6 → Option ρ) : zb7 o k = k a0 a1 a2 a3 a4 a5 a6 := by rw [h]; rfl
noncomputable def zi7 {A0 A1 A2 A3 A4 A5 A6 ρ : Type} (f : A0 → A1 → A2 → A3 → A4 → A5 → A6 → Option ((A0 × A1 × A2 × A3 × A4 × A5 × A6) ⊕ ρ)) (a0 : A0) (a1 : A1) (a2 : A2) (a3 : A3) (a4 : A4) (a5 : A5) (a6 : A6) : Option ρ := zit (fun s : A0 × A1 × A2 × A3 × A4 × A5 × A6 => f s.1 s.2.1 s.2.2.1 s.2.2.2.1 s.2.2.2.2.1 s.2.2.2.2.2.1 s.2.2.2.2.2.2) (a0, a1, a2, a3, a4, a5, a6)
theorem zi7_ind {A0 A1 A2 A3 A4 A5 A6 ρ : Type} {f : A0 → A1 → A2 → A3 → A4 → A5 → A6 → Option ((A0 × A1 × A2 × A3 × A4 × A5 × A6) ⊕ ρ)} {r : ρ} (P : A0 → A1 → A2 → A3 → A4 → A5 → A6 → Prop) (hs : ∀ a0 a1 a2 a3 a4 a5 a6 z, f a0 a1 a2 a3 a4 a5 a6 = some z → (∀ a0' a1' a2' a3' a4' a5' a6', z = .inl (a0', a1', a2', a3', a4', a5', a6') → P a0' a1' a2' a3' a4' a5' a6') → (∀ r', z = .inr r' → r' = r) → P a0 a1 a2 a3 a4 a5 a6) {a0 : A0} {a1 : A1} {a2 : A2} {a3 : A3} {a4 : A4} {a5 : A5} {a6 : A6} (h : zi7 f a0 a1 a2 a3 a4 a5 a6 = some r) : P a0 a1 a2 a3 a4 a5 a6 :=
  zit_ind (fun s : A0 × A1 × A2 × A3 × A4 × A5 × A6 => P s.1 s.2.1 s.2.2.1 s.2.2.2.1 s.2.2.2.2.1 s.2.2.2.2.2.1 s.2.2.2.2.2.2) (fun s z h1 h2 h3 => hs s.1 s.2.1 s.2.2.1 s.2.2.2.1 s.2.2.2.2.1 s.2.2.2.2.2.1 s.2.2.2.2.2.2 z h1 (fun a0' a1' a2' a3' a4' a5' a6' e => h2 (a0', a1', a2', a3', a4', a5', a6') e) h3) _ h
theorem zi7_l {A0 A1 A2 A3 A4 A5 A6 ρ : Type} {f : A0 → A1 → A2 → A3 → A4 → A5 → A6 → Option ((A0 × A1 × A2 × A3 × A4 × A5 × A6) ⊕ ρ)} {a0 a0' : A0} {a1 a1' : A1} {a2 a2' : A2} {a3 a3' : A3} {a4 a4' : A4} {a5 a5' : A5} {a6 a6' : A6} {r : ρ} (h : f a0 a1 a2 a3 a4 a5 a6 = some (.inl (a0', a1', a2', a3', a4', a5', a6'))) (h2 : zi7 f a0' a1' a2' a3' a4' a5' a6' = some r) : zi7 f a0 a1 a2 a3 a4 a5 a6 = some r := zit_l (s := (a0, a1, a2, a3, a4, a5, a6)) h h2
theorem zi7_r {A0 A1 A2 A3 A4 A5 A6 ρ : Type} {f : A0 → A1 → A2 → A3 → A4 → A5 → A6 → Option ((A0 × A1 × A2 × A3 × A4 × A5 × A6) ⊕ ρ)} {a0 : A0} {a1 : A1} {a2 : A2} {a3 : A3} {a4 : A4} {a5 : A5} {a6 : A6} {r : ρ} (h : f a0 a1 a2 a3 a4 a5 a6 = some (.inr r)) : zi7 f a0 a1 a2 a3 a4 a5 a6 = some r := zit_r (s := (a0, a1, a2, a3, a4, a5, a6)) h
def zb8 {A0 A1 A2 A3 A4 A5 A6 A7 ρ : Type} (o : Option (A0 × A1 × A2 × A3 × A4 × A5 × A6 × A7)) (k : A0 → A1 → A2 → A3 → A4 → A5 → A6 → A7 → Option ρ) : Option ρ := match o with
  | none => none
  | some (a0, a1, a2, a3, a4, a5, a6, a7) => k a0 a1 a2 a3 a4 a5 a6 a7
theorem zb8_s {A0 A1 A2 A3 A4 A5 A6 A7 ρ : Type} {o : Option (A0 × A1 × A2 × A3 × A4 × A5 × A6 × A7)} {k : A0 → A1 → A2 → A3 → A4 → A5 → A6 → A7 → Option ρ} {r : ρ} (h : zb8 o k = some r) : ∃ a0 a1 a2 a3 a4 a5 a6 a7, o = some (a0, a1, a2, a3, a4, a5, a6, a7) ∧ k a0 a1 a2 a3 a4 a5 a6 a7 = some r := by
  cases o with
  | none => cases h
  | some z => exact ⟨z.1, z.2.1, z.2.2.1, z.2.2.2.1, z.2.2.2.2.1, z.2.2.2.2.2.1, z.2.2.2.2.2.2.1, z.2.2.2.2.2.2.2, rfl, h⟩
theorem zb8_t {A0 A1 A2 A3 A4 A5 A6 A7 ρ : Type} {o : Option (A0 × A1 × A2 × A3 × A4 × A5 × A6 × A7)} {a0 : A0} {a1 : A1} {a2 : A2} {a3 : A3} {a4 : A4} {a5 : A5} {a6 : A6} {a7 : A7} (h : o = some (a0, a1, a2, a3, a4, a5, a6, a7)) (k : A0 → A1 → A2 → A3 → A4 → A5 → A6 → A7 → Option ρ) : zb8 o k = k a0 a1 a2 a3 a4 a5 a6 a7 := by rw [h]; rfl
noncomputable def zi8 {A0 A1 A2 A3 A4 A5 A6 A7 ρ : Type} (f : A0 → A1 → A2 → A3 → A4 → A5 → A6 → A7 → Option ((A0 × A1 × A2 × A3 × A4 × A5 × A6 × A7) ⊕ ρ)) (a0 : A0) (a1 : A1) (a2 : A2) (a3 : A3) (a4 : A4) (a5 : A5) (a6 : A6) (a7 : A7) : Option ρ := zit (fun s : A0 × A1 × A2 × A3 × A4 × A5 × A6 × A7 => f s.1 s.2.1 s.2.2.1 s.2.2.2.1 s.2.2.2.2.1 s.2.2.2.2.2.1 s.2.2.2.2.2.2.1 s.2.2.2.2.2.2.2) (a0, a1, a2, a3, a4, a5, a6, a7)
theorem zi8_ind {A0 A1 A2 A3 A4 A5 A6 A7 ρ : Type} {f : A0 → A1 → A2 → A3 → A4 → A5 → A6 → A7 → Option ((A0 × A1 × A2 × A3 × A4 × A5 × A6 × A7) ⊕ ρ)} {r : ρ} (P : A0 → A1 → A2 → A3 → A4 → A5 → A6 → A7 → Prop) (hs : ∀ a0 a1 a2 a3 a4 a5 a6 a7 z, f a0 a1 a2 a3 a4 a5 a6 a7 = some z → (∀ a0' a1' a2' a3' a4' a5' a6' a7', z = .inl (a0', a1', a2', a3', a4', a5', a6', a7') → P a0' a1' a2' a3' a4' a5' a6' a7') → (∀ r', z = .inr r' → r' = r) → P a0 a1 a2 a3 a4 a5 a6 a7) {a0 : A0} {a1 : A1} {a2 : A2} {a3 : A3} {a4 : A4} {a5 : A5} {a6 : A6} {a7 : A7} (h : zi8 f a0 a1 a2 a3 a4 a5 a6 a7 = some r) : P a0 a1 a2 a3 a4 a5 a6 a7 :=
  zit_ind (fun s : A0 × A1 × A2 × A3 × A4 × A5 × A6 × A7 => P s.1 s.2.1 s.2.2.1 s.2.2.2.1 s.2.2.2.2.1 s.2.2.2.2.2.1 s.2.2.2.2.2.2.1 s.2.2.2.2.2.2.2) (fun s z h1 h2 h3 => hs s.1 s.2.1 s.2.2.1 s.2.2.2.1 s.2.2.2.2.1 s.2.2.2.2.2.1 s.2.2.2.2.2.2.1 s.2.2.2.2.2.2.2 z h1 (fun a0' a1' a2' a3' a4' a5' a6' a7' e => h2 (a0', a1', a2', a3', a4', a5', a6', a7') e) h3) _ h
theorem zi8_l {A0 A1 A2 A3 A4 A5 A6 A7 ρ : Type} {f : A0 → A1 → A2 → A3 → A4 → A5 → A6 → A7 → Option ((A0 × A1 × A2 × A3 × A4 × A5 × A6 × A7) ⊕ ρ)} {a0 a0' : A0} {a1 a1' : A1} {a2 a2' : A2} {a3 a3' : A3} {a4 a4' : A4} {a5 a5' : A5} {a6 a6' : A6} {a7 a7' : A7} {r : ρ} (h : f a0 a1 a2 a3 a4 a5 a6 a7 = some (.inl (a0', a1', a2', a3', a4', a5', a6', a7'))) (h2 : zi8 f a0' a1' a2' a3' a4' a5' a6' a7' = some r) : zi8 f a0 a1 a2 a3 a4 a5 a6 a7 = some r := zit_l (s := (a0, a1, a2, a3, a4, a5, a6, a7)) h h2
theorem zi8_r {A0 A1 A2 A3 A4 A5 A6 A7 ρ : Type} {f : A0 → A1 → A2 → A3 → A4 → A5 → A6 → A7 → Option ((A0 × A1 × A2 × A3 × A4 × A5 × A6 × A7) ⊕ ρ)} {a0 : A0} {a1 : A1} {a2 : A2} {a3 : A3} {a4 : A4} {a5 : A5} {a6 : A6} {a7 : A7} {r : ρ} (h : f a0 a1 a2 a3 a4 a5 a6 a7 = some (.inr r)) : zi8 f a0 a1 a2 a3 a4 a5 a6 a7 = some r := zit_r (s := (a0, a1, a2, a3, a4, a5, a6, a7)) h
def zb9 {A0 A1 A2 A3 A4 A5 A6 A7 A8 ρ : Type} (o : Option (A0 × A1 × A2 × A3 × A4 × A5 × A6 × A7 × A8)) (k : A0 → A1 → A2 → A3 → A4 → A5 → A6 → A7 → A8 → Option ρ) : Option ρ := match o with
  | none => none
  | some (a0, a1, a2, a3, a4, a5, a6, a7, a8) => k a0 a1 a2 a3 a4 a5 a6 a7 a8
theorem zb9_s {A0 A1 A2 A3 A4 A5 A6 A7 A8 ρ : Type} {o : Option (A0 × A1 × A2 × A3 × A4 × A5 × A6 × A7 × A8)} {k : A0 → A1 → A2 → A3 → A4 → A5 → A6 → A7 → A8 → Option ρ} {r : ρ} (h : zb9 o k = some r) : ∃ a0 a1 a2 a3 a4 a5 a6 a7 a8, o = some (a0, a1, a2, a3, a4, a5, a6, a7, a8) ∧ k a0 a1 a2 a3 a4 a5 a6 a7 a8 = some r := by
  cases o with
  | none => cases h
  | some z => exact ⟨z.1, z.2.1, z.2.2.1, z.2.2.2.1, z.2.2.2.2.1, z.2.2.2.2.2.1, z.2.2.2.2.2.2.1, z.2.2.2.2.2.2.2.1, z.2.2.2.2.2.2.2.2, rfl, h⟩
theorem zb9_t {A0 A1 A2 A3 A4 A5 A6 A7 A8 ρ : Type} {o : Option (A0 × A1 × A2 × A3 × A4 × A5 × A6 × A7 × A8)} {a0 : A0} {a1 : A1} {a2 : A2} {a3 : A3} {a4 : A4} {a5 : A5} {a6 : A6} {a7 : A7} {a8 : A8} (h : o = some (a0, a1, a2, a3, a4, a5, a6, a7, a8)) (k : A0 → A1 → A2 → A3 → A4 → A5 → A6 → A7 → A8 → Option ρ) : zb9 o k = k a0 a1 a2 a3 a4 a5 a6 a7 a8 := by rw [h]; rfl
noncomputable def zi9 {A0 A1 A2 A3 A4 A5 A6 A7 A8 ρ : Type} (f : A0 → A1 → A2 → A3 → A4 → A5 → A6 → A7 → A8 → Option ((A0 × A1 × A2 × A3 × A4 × A5 × A6 × A7 × A8) ⊕ ρ)) (a0 : A0) (a1 : A1) (a2 : A2) (a3 : A3) (a4 : A4) (a5 : A5) (a6 : A6) (a7 : A7) (a8 : A8) : Option ρ := zit (fun s : A0 × A1 × A2 × A3 × A4 × A5 × A6 × A7 × A8 => f s.1 s.2.1 s.2.2.1 s.2.2.2.1 s.2.2.2.2.1 s.2.2.2.2.2.1 s.2.2.2.2.2.2.1 s.2.2.2.2.2.2.2.1 s.2.2.2.2.2.2.2.2) (a0, a1, a2, a3, a4, a5, a6, a7, a8)
theorem zi9_ind {A0 A1 A2 A3 A4 A5 A6 A7 A8 ρ : Type} {f : A0 → A1 → A2 → A3 → A4 → A5 → A6 → A7 → A8 → Option ((A0 × A1 × A2 × A3 × A4 × A5 × A6 × A7 × A8) ⊕ ρ)} {r : ρ} (P : A0 → A1 → A2 → A3 → A4 → A5 → A6 → A7 → A8 → Prop) (hs : ∀ a0 a1 a2 a3 a4 a5 a6 a7 a8 z, f a0 a1 a2 a3 a4 a5 a6 a7 a8 = some z → (∀ a0' a1' a2' a3' a4' a5' a6' a7' a8', z = .inl (a0', a1', a2', a3', a4', a5', a6', a7', a8') → P a0' a1' a2' a3' a4' a5' a6' a7' a8') → (∀ r', z = .inr r' → r' = r) → P a0 a1 a2 a3 a4 a5 a6 a7 a8) {a0 : A0} {a1 : A1} {a2 : A2} {a3 : A3} {a4 : A4} {a5 : A5} {a6 : A6} {a7 : A7} {a8 : A8} (h : zi9 f a0 a1 a2 a3 a4 a5 a6 a7 a8 = some r) : P a0 a1 a2 a3 a4 a5 a6 a7 a8 :=
  zit_ind (fun s : A0 × A1 × A2 × A3 × A4 × A5 × A6 × A7 × A8 => P s.1 s.2.1 s.2.2.1 s.2.2.2.1 s.2.2.2.2.1 s.2.2.2.2.2.1 s.2.2.2.2.2.2.1 s.2.2.2.2.2.2.2.1 s.2.2.2.2.2.2.2.2) (fun s z h1 h2 h3 => hs s.1 s.2.1 s.2.2.1 s.2.2.2.1 s.2.2.2.2.1 s.2.2.2.2.2.1 s.2.2.2.2.2.2.1 s.2.2.2.2.2.2.2.1 s.2.2.2.2.2.2.2.2 z h1 (fun a0' a1' a2' a3' a4' a5' a6' a7' a8' e => h2 (a0', a1', a2', a3', a4', a5', a6', a7', a8') e) h3) _ h
theorem zi9_l {A0 A1 A2 A3 A4 A5 A6 A7 A8 ρ : Type} {f : A0 → A1 → A2 → A3 → A4 → A5 → A6 → A7 → A8 → Option ((A0 × A1 × A2 × A3 × A4 × A5 × A6 × A7 × A8) ⊕ ρ)} {a0 a0' : A0} {a1 a1' : A1} {a2 a2' : A2} {a3 a3' : A3} {a4 a4' : A4} {a5 a5' : A5} {a6 a6' : A6} {a7 a7' : A7} {a8 a8' : A8} {r : ρ} (h : f a0 a1 a2 a3 a4 a5 a6 a7 a8 = some (.inl (a0', a1', a2', a3', a4', a5', a6', a7', a8'))) (h2 : zi9 f a0' a1' a2' a3' a4' a5' a6' a7' a8' = some r) : zi9 f a0 a1 a2 a3 a4 a5 a6 a7 a8 = some r := zit_l (s := (a0, a1, a2, a3, a4, a5, a6, a7, a8)) h h2
theorem zi9_r {A0 A1 A2 A3 A4 A5 A6 A7 A8 ρ : Type} {f : A0 → A1 → A2 → A3 → A4 → A5 → A6 → A7 → A8 → Option ((A0 × A1 × A2 × A3 × A4 × A5 × A6 × A7 × A8) ⊕ ρ)} {a0 : A0} {a1 : A1} {a2 : A2} {a3 : A3} {a4 : A4} {a5 : A5} {a6 : A6} {a7 : A7} {a8 : A8} {r : ρ} (h : f a0 a1 a2 a3 a4 a5 a6 a7 a8 = some (.inr r)) : zi9 f a0 a1 a2 a3 a4 a5 a6 a7 a8 = some r := zit_r (s := (a0, a1, a2, a3, a4, a5, a6, a7, a8)) h
def zb10 {A0 A1 A2 A3 A4 A5 A6 A7 A8 A9 ρ : Type} (o : Option (A0 × A1 × A2 × A3 × A4 × A5 × A6 × A7 × A8 × A9)) (k : A0 → A1 → A2 → A3 → A4 → A5 → A6 → A7 → A8 → A9 → Option ρ) : Option ρ := match o with
  | none => none
  | some (a0, a1, a2, a3, a4, a5, a6, a7, a8, a9) => k a0 a1 a2 a3 a4 a5 a6 a7 a8 a9
theorem zb10_s {A0 A1 A2 A3 A4 A5 A6 A7 A8 A9 ρ : Type} {o : Option (A0 × A1 × A2 × A3 × A4 × A5 × A6 × A7 × A8 × A9)} {k : A0 → A1 → A2 → A3 → A4 → A5 → A6 → A7 → A8 → A9 → Option ρ} {r : ρ} (h : zb10 o k = some r) : ∃ a0 a1 a2 a3 a4 a5 a6 a7 a8 a9, o = some (a0, a1, a2, a3, a4, a5, a6, a7, a8, a9) ∧ k a0 a1 a2 a3 a4 a5 a6 a7 a8 a9 = some r := by
  cases o with
  | none => cases h
  | some z => exact ⟨z.1, z.2.1, z.2.2.1, z.2.2.2.1, z.2.2.2.2.1, z.2.2.2.2.2.1, z.2.2.2.2.2.2.1, z.2.2.2.2.2.2.2.1, z.2.2.2.2.2.2.2.2.1, z.2.2.2.2.2.2.2.2.2, rfl, h⟩
theorem zb10_t {A0 A1 A2 A3 A4 A5 A6 A7 A8 A9 ρ : Type} {o : Option (A0 × A1 × A2 × A3 × A4 × A5 × A6 × A7 × A8 × A9)} {a0 : A0} {a1 : A1} {a2 : A2} {a3 : A3} {a4 : A4} {a5 : A5} {a6 : A6} {a7 : A7} {a8 : A8} {a9 : A9} (h : o = some (a0, a1, a2, a3, a4, a5, a6, a7, a8, a9)) (k : A0 → A1 → A2 → A3 → A4 → A5 → A6 → A7 → A8 → A9 → Option ρ) : zb10 o k = k a0 a1 a2 a3 a4 a5 a6 a7 a8 a9 := by rw [h]; rfl
noncomputable def zi10 {A0 A1 A2 A3 A4 A5 A6 A7 A8 A9 ρ : Type} (f : A0 → A1 → A2 → A3 → A4 → A5 → A6 → A7 → A8 → A9 → Option ((A0 × A1 × A2 × A3 × A4 × A5 × A6 × A7 × A8 × A9) ⊕ ρ)) (a0 : A0) (a1 : A1) (a2 : A2) (a3 : A3) (a4 : A4) (a5 : A5) (a6 : A6) (a7 : A7) (a8 : A8) (a9 : A9) : Option ρ := zit (fun s : A0 × A1 × A2 × A3 × A4 × A5 × A6 × A7 × A8 × A9 => f s.1 s.2.1 s.2.2.1 s.2.2.2.1 s.2.2.2.2.1 s.2.2.2.2.2.1 s.2.2.2.2.2.2.1 s.2.2.2.2.2.2.2.1 s.2.2.2.2.2.2.2.2.1 s.2.2.2.2.2.2.2.2.2) (a0, a1, a2, a3, a4, a5, a6, a7, a8, a9)
theorem zi10_ind {A0 A1 A2 A3 A4 A5 A6 A7 A8 A9 ρ : Type} {f : A0 → A1 → A2 → A3 → A4 → A5 → A6 → A7 → A8 → A9 → Option ((A0 × A1 × A2 × A3 × A4 × A5 × A6 × A7 × A8 × A9) ⊕ ρ)} {r : ρ} (P : A0 → A1 → A2 → A3 → A4 → A5 → A6 → A7 → A8 → A9 → Prop) (hs : ∀ a0 a1 a2 a3 a4 a5 a6 a7 a8 a9 z, f a0 a1 a2 a3 a4 a5 a6 a7 a8 a9 = some z → (∀ a0' a1' a2' a3' a4' a5' a6' a7' a8' a9', z = .inl (a0', a1', a2', a3', a4', a5', a6', a7', a8', a9') → P a0' a1' a2' a3' a4' a5' a6' a7' a8' a9') → (∀ r', z = .inr r' → r' = r) → P a0 a1 a2 a3 a4 a5 a6 a7 a8 a9) {a0 : A0} {a1 : A1} {a2 : A2} {a3 : A3} {a4 : A4} {a5 : A5} {a6 : A6} {a7 : A7} {a8 : A8} {a9 : A9} (h : zi10 f a0 a1 a2 a3 a4 a5 a6 a7 a8 a9 = some r) : P a0 a1 a2 a3 a4 a5 a6 a7 a8 a9 :=
  zit_ind (fun s : A0 × A1 × A2 × A3 × A4 × A5 × A6 × A7 × A8 × A9 => P s.1 s.2.1 s.2.2.1 s.2.2.2.1 s.2.2.2.2.1 s.2.2.2.2.2.1 s.2.2.2.2.2.2.1 s.2.2.2.2.2.2.2.1 s.2.2.2.2.2.2.2.2.1 s.2.2.2.2.2.2.2.2.2) (fun s z h1 h2 h3 => hs s.1 s.2.1 s.2.2.1 s.2.2.2.1 s.2.2.2.2.1 s.2.2.2.2.2.1 s.2.2.2.2.2.2.1 s.2.2.2.2.2.2.2.1 s.2.2.2.2.2.2.2.2.1 s.2.2.2.2.2.2.2.2.2 z h1 (fun a0' a1' a2' a3' a4' a5' a6' a7' a8' a9' e => h2 (a0', a1', a2', a3', a4', a5', a6', a7', a8', a9') e) h3) _ h
theorem zi10_l {A0 A1 A2 A3 A4 A5 A6 A7 A8 A9 ρ : Type} {f : A0 → A1 → A2 → A3 → A4 → A5 → A6 → A7 → A8 → A9 → Option ((A0 × A1 × A2 × A3 × A4 × A5 × A6 × A7 × A8 × A9) ⊕ ρ)} {a0 a0' : A0} {a1 a1' : A1} {a2 a2' : A2} {a3 a3' : A3} {a4 a4' : A4} {a5 a5' : A5} {a6 a6' : A6} {a7 a7' : A7} {a8 a8' : A8} {a9 a9' : A9} {r : ρ} (h : f a0 a1 a2 a3 a4 a5 a6 a7 a8 a9 = some (.inl (a0', a1', a2', a3', a4', a5', a6', a7', a8', a9'))) (h2 : zi10 f a0' a1' a2' a3' a4' a5' a6' a7' a8' a9' = some r) : zi10 f a0 a1 a2 a3 a4 a5 a6 a7 a8 a9 = some r := zit_l (s := (a0, a1, a2, a3, a4, a5, a6, a7, a8, a9)) h h2
theorem zi10_r {A0 A1 A2 A3 A4 A5 A6 A7 A8 A9 ρ : Type} {f : A0 → A1 → A2 → A3 → A4 → A5 → A6 → A7 → A8 → A9 → Option ((A0 × A1 × A2 × A3 × A4 × A5 × A6 × A7 × A8 × A9) ⊕ ρ)} {a0 : A0} {a1 : A1} {a2 : A2} {a3 : A3} {a4 : A4} {a5 : A5} {a6 : A6} {a7 : A7} {a8 : A8} {a9 : A9} {r : ρ} (h : f a0 a1 a2 a3 a4 a5 a6 a7 a8 a9 = some (.inr r)) : zi10 f a0 a1 a2 a3 a4 a5 a6 a7 a8 a9 = some r := zit_r (s := (a0, a1, a2, a3, a4, a5, a6, a7, a8, a9)) h
def zb11 {A0 A1 A2 A3 A4 A5 A6 A7 A8 A9 A10 ρ : Type} (o : Option (A0 × A1 × A2 × A3 × A4 × A5 × A6 × A7 × A8 × A9 × A10)) (k : A0 → A1 → A2 → A3 → A4 → A5 → A6 → A7 → A8 → A9 → A10 → Option ρ) : Option ρ := match o with
  | none => none
  | some (a0, a1, a2, a3, a4, a5, a6, a7, a8, a9, a10) => k a0 a1 a2 a3 a4 a5 a6 a7 a8 a9 a10
theorem zb11_s {A0 A1 A2 A3 A4 A5 A6 A7 A8 A9 A10 ρ : Type} {o : Option (A0 × A1 × A2 × A3 × A4 × A5 × A6 × A7 × A8 × A9 × A10)} {k : A0 → A1 → A2 → A3 → A4 → A5 → A6 → A7 → A8 → A9 → A10 → Option ρ} {r : ρ} (h : zb11 o k = some r) : ∃ a0 a1 a2 a3 a4 a5 a6 a7 a8 a9 a10, o = some (a0, a1, a2, a3, a4, a5, a6, a7, a8, a9, a10) ∧ k a0 a1 a2 a3 a4 a5 a6 a7 a8 a9 a10 = some r := by
  cases o with
  | none => cases h
  | some z => exact ⟨z.1, z.2.1, z.2.2.1, z.2.2.2.1, z.2.2.2.2.1, z.2.2.2.2.2.1, z.2.2.2.2.2.2.1, z.2.2.2.2.2.2.2.1, z.2.2.2.2.2.2.2.2.1, z.2.2.2.2.2.2.2.2.2.1, z.2.2.2.2.2.2.2.2.2.2, rfl, h⟩
theorem zb11_t {A0 A1 A2 A3 A4 A5 A6 A7 A8 A9 A10 ρ : Type} {o : Option (A0 × A1 × A2 × A3 × A4 × A5 × A6 × A7 × A8 × A9 × A10)} {a0 : A0} {a1 : A1} {a2 : A2} {a3 : A3} {a4 : A4} {a5 : A5} {a6 : A6} {a7 : A7} {a8 : A8} {a9 : A9} {a10 : A10} (h : o = some (a0, a1, a2, a3, a4, a5, a6, a7, a8, a9, a10)) (k : A0 → A1 → A2 → A3 → A4 → A5 → A6 → A7 → A8 → A9 → A10 → Option ρ) : zb11 o k = k a0 a1 a2 a3 a4 a5 a6 a7 a8 a9 a10 := by rw [h]; rfl
noncomputable def zi11 {A0 A1 A2 A3 A4 A5 A6 A7 A8 A9 A10 ρ : Type} (f : A0 → A1 → A2 → A3 → A4 → A5 → A6 → A7 → A8 → A9 → A10 → Option ((A0 × A1 × A2 × A3 × A4 × A5 × A6 × A7 × A8 × A9 × A10) ⊕ ρ)) (a0 : A0) (a1 : A1) (a2 : A2) (a3 : A3) (a4 : A4) (a5 : A5) (a6 : A6) (a7 : A7) (a8 : A8) (a9 : A9) (a10 : A10) : Option ρ := zit (fun s : A0 × A1 × A2 × A3 × A4 × A5 × A6 × A7 × A8 × A9 × A10 => f s.1 s.2.1 s.2.2.1 s.2.2.2.1 s.2.2.2.2.1 s.2.2.2.2.2.1 s.2.2.2.2.2.2.1 s.2.2.2.2.2.2.2.1 s.2.2.2.2.2.2.2.2.1 s.2.2.2.2.2.2.2.2.2.1 s.2.2.2.2.2.2.2.2.2.2) (a0, a1, a2, a3, a4, a5, a6, a7, a8, a9, a10)
theorem zi11_ind {A0 A1 A2 A3 A4 A5 A6 A7 A8 A9 A10 ρ : Type} {f : A0 → A1 → A2 → A3 → A4 → A5 → A6 → A7 → A8 → A9 → A10 → Option ((A0 × A1 × A2 × A3 × A4 × A5 × A6 × A7 × A8 × A9 × A10) ⊕ ρ)} {r : ρ} (P : A0 → A1 → A2 → A3 → A4 → A5 → A6 → A7 → A8 → A9 → A10 → Prop) (hs : ∀ a0 a1 a2 a3 a4 a5 a6 a7 a8 a9 a10 z, f a0 a1 a2 a3 a4 a5 a6 a7 a8 a9 a10 = some z → (∀ a0' a1' a2' a3' a4' a5' a6' a7' a8' a9' a10', z = .inl (a0', a1', a2', a3', a4', a5', a6', a7', a8', a9', a10') → P a0' a1' a2' a3' a4' a5' a6' a7' a8' a9' a10') → (∀ r', z = .inr r' → r' = r) → P a0 a1 a2 a3 a4 a5 a6 a7 a8 a9 a10) {a0 : A0} {a1 : A1} {a2 : A2} {a3 : A3} {a4 : A4} {a5 : A5} {a6 : A6} {a7 : A7} {a8 : A8} {a9 : A9} {a10 : A10} (h : zi11 f a0 a1 a2 a3 a4 a5 a6 a7 a8 a9 a10 = some r) : P a0 a1 a2 a3 a4 a5 a6 a7 a8 a9 a10 :=
  zit_ind (fun s : A0 × A1 × A2 × A3 × A4 × A5 × A6 × A7 × A8 × A9 × A10 => P s.1 s.2.1 s.2.2.1 s.2.2.2.1 s.2.2.2.2.1 s.2.2.2.2.2.1 s.2.2.2.2.2.2.1 s.2.2.2.2.2.2.2.1 s.2.2.2.2.2.2.2.2.1 s.2.2.2.2.2.2.2.2.2.1 s.2.2.2.2.2.2.2.2.2.2) (fun s z h1 h2 h3 => hs s.1 s.2.1 s.2.2.1 s.2.2.2.1 s.2.2.2.2.1 s.2.2.2.2.2.1 s.2.2.2.2.2.2.1 s.2.2.2.2.2.2.2.1 s.2.2.2.2.2.2.2.2.1 s.2.2.2.2.2.2.2.2.2.1 s.2.2.2.2.2.2.2.2.2.2 z h1 (fun a0' a1' a2' a3' a4' a5' a6' a7' a8' a9' a10' e => h2 (a0', a1', a2', a3', a4', a5', a6', a7', a8', a9', a10') e) h3) _ h
theorem zi11_l {A0 A1 A2 A3 A4 A5 A6 A7 A8 A9 A10 ρ : Type} {f : A0 → A1 → A2 → A3 → A4 → A5 → A6 → A7 → A8 → A9 → A10 → Option ((A0 × A1 × A2 × A3 × A4 × A5 × A6 × A7 × A8 × A9 × A10) ⊕ ρ)} {a0 a0' : A0} {a1 a1' : A1} {a2 a2' : A2} {a3 a3' : A3} {a4 a4' : A4} {a5 a5' : A5} {a6 a6' : A6} {a7 a7' : A7} {a8 a8' : A8} {a9 a9' : A9} {a10 a10' : A10} {r : ρ} (h : f a0 a1 a2 a3 a4 a5 a6 a7 a8 a9 a10 = some (.inl (a0', a1', a2', a3', a4', a5', a6', a7', a8', a9', a10'))) (h2 : zi11 f a0' a1' a2' a3' a4' a5' a6' a7' a8' a9' a10' = some r) : zi11 f a0 a1 a2 a3 a4 a5 a6 a7 a8 a9 a10 = some r := zit_l (s := (a0, a1, a2, a3, a4, a5, a6, a7, a8, a9, a10)) h h2
theorem zi11_r {A0 A1 A2 A3 A4 A5 A6 A7 A8 A9 A10 ρ : Type} {f : A0 → A1 → A2 → A3 → A4 → A5 → A6 → A7 → A8 → A9 → A10 → Option ((A0 × A1 × A2 × A3 × A4 × A5 × A6 × A7 × A8 × A9 × A10) ⊕ ρ)} {a0 : A0} {a1 : A1} {a2 : A2} {a3 : A3} {a4 : A4} {a5 : A5} {a6 : A6} {a7 : A7} {a8 : A8} {a9 : A9} {a10 : A10} {r : ρ} (h : f a0 a1 a2 a3 a4 a5 a6 a7 a8 a9 a10 = some (.inr r)) : zi11 f a0 a1 a2 a3 a4 a5 a6 a7 a8 a9 a10 = some r := zit_r (s := (a0, a1, a2, a3, a4, a5, a6, a7, a8, a9, a10)) h
def zb12 {A0 A1 A2 A3 A4 A5 A6 A7 A8 A9 A10 A11 ρ : Type} (o : Option (A0 × A1 × A2 × A3 × A4 × A5 × A6 × A7 × A8 × A9 × A10 × A11)) (k : A0 → A1 → A2 → A3 → A4 → A5 → A6 → A7 → A8 → A9 → A10 → A11 → Option ρ) : Option ρ := match o with
  | none => none
  | some (a0, a1, a2, a3, a4, a5, a6, a7, a8, a9, a10, a11) => k a0 a1 a2 a3 a4 a5 a6 a7 a8 a9 a10 a11
theorem zb12_s {A0 A1 A2 A3 A4 A5 A6 A7 A8 A9 A10 A11 ρ : Type} {o : Option (A0 × A1 × A2 × A3 × A4 × A5 × A6 × A7 × A8 × A9 × A10 × A11)} {k : A0 → A1 → A2 → A3 → A4 → A5 → A6 → A7 → A8 → A9 → A10 → A11 → Option ρ} {r : ρ} (h : zb12 o k = some r) : ∃ a0 a1 a2 a3 a4 a5 a6 a7 a8 a9 a10 a11, o = some (a0, a1, a2, a3, a4, a5, a6, a7, a8, a9, a10, a11) ∧ k a0 a1 a2 a3 a4 a5 a6 a7 a8 a9 a10 a11 = some r := by
  cases o with
  | none => cases h
  | some z => exact ⟨z.1, z.2.1, z.2.2.1, z.2.2.2.1, z.2.2.2.2.1, z.2.2.2.2.2.1, z.2.2.2.2.2.2.1, z.2.2.2.2.2.2.2.1, z.2.2.2.2.2.2.2.2.1, z.2.2.2.2.2.2.2.2.2.1, z.2.2.2.2.2.2.2.2.2.2.1, z.2.2.2.2.2.2.2.2.2.2.2, rfl, h⟩
theorem zb12_t {A0 A1 A2 A3 A4 A5 A6 A7 A8 A9 A10 A11 ρ : Type} {o : Option (A0 × A1 × A2 × A3 × A4 × A5 × A6 × A7 × A8 × A9 × A10 × A11)} {a0 : A0} {a1 : A1} {a2 : A2} {a3 : A3} {a4 : A4} {a5 : A5} {a6 : A6} {a7 : A7} {a8 : A8} {a9 : A9} {a10 : A10} {a11 : A11} (h : o = some (a0, a1, a2, a3, a4, a5, a6, a7, a8, a9, a10, a11)) (k : A0 → A1 → A2 → A3 → A4 → A5 → A6 → A7 → A8 → A9 → A10 → A11 → Option ρ) : zb12 o k = k a0 a1 a2 a3 a4 a5 a6 a7 a8 a9 a10 a11 := by rw [h]; rfl
noncomputable def zi12 {A0 A1 A2 A3 A4 A5 A6 A7 A8 A9 A10 A11 ρ : Type} (f : A0 → A1 → A2 → A3 → A4 → A5 → A6 → A7 → A8 → A9 → A10 → A11 → Option ((A0 × A1 × A2 × A3 × A4 × A5 × A6 × A7 × A8 × A9 × A10 × A11) ⊕ ρ)) (a0 : A0) (a1 : A1) (a2 : A2) (a3 : A3) (a4 : A4) (a5 : A5) (a6 : A6) (a7 : A7) (a8 : A8) (a9 : A9) (a10 : A10) (a11 : A11) : Option ρ := zit (fun s : A0 × A1 × A2 × A3 × A4 × A5 × A6 × A7 × A8 × A9 × A10 × A11 => f s.1 s.2.1 s.2.2.1 s.2.2.2.1 s.2.2.2.2.1 s.2.2.2.2.2.1 s.2.2.2.2.2.2.1 s.2.2.2.2.2.2.2.1 s.2.2.2.2.2.2.2.2.1 s.2.2.2.2.2.2.2.2.2.1 s.2.2.2.2.2.2.2.2.2.2.1 s.2.2.2.2.2.2.2.2.2.2.2) (a0, a1, a2, a3, a4, a5, a6, a7, a8, a9, a10, a11)
theorem zi12_ind {A0 A1 A2 A3 A4 A5 A6 A7 A8 A9 A10 A11 ρ : Type} {f : A0 → A1 → A2 → A3 → A4 → A5 → A6 → A7 → A8 → A9 → A10 → A11 → Option ((A0 × A1 × A2 × A3 × A4 × A5 × A6 × A7 × A8 × A9 × A10 × A11) ⊕ ρ)} {r : ρ} (P : A0 → A1 → A2 → A3 → A4 → A5 → A6 → A7 → A8 → A9 → A10 → A11 → Prop) (hs : ∀ a0 a1 a2 a3 a4 a5 a6 a7 a8 a9 a10 a11 z, f a0 a1 a2 a3 a4 a5 a6 a7 a8 a9 a10 a11 = some z → (∀ a0' a1' a2' a3' a4' a5' a6' a7' a8' a9' a10' a11', z = .inl (a0', a1', a2', a3', a4', a5', a6', a7', a8', a9', a10', a11') → P a0' a1' a2' a3' a4' a5' a6' a7' a8' a9' a10' a11') → (∀ r', z = .inr r' → r' = r) → P a0 a1 a2 a3 a4 a5 a6 a7 a8 a9 a10 a11) {a0 : A0} {a1 : A1} {a2 : A2} {a3 : A3} {a4 : A4} {a5 : A5} {a6 : A6} {a7 : A7} {a8 : A8} {a9 : A9} {a10 : A10} {a11 : A11} (h : zi12 f a0 a1 a2 a3 a4 a5 a6 a7 a8 a9 a10 a11 = some r) : P a0 a1 a2 a3 a4 a5 a6 a7 a8 a9 a10 a11 :=
  zit_ind (fun s : A0 × A1 × A2 × A3 × A4 × A5 × A6 × A7 × A8 × A9 × A10 × A11 => P s.1 s.2.1 s.2.2.1 s.2.2.2.1 s.2.2.2.2.1 s.2.2.2.2.2.1 s.2.2.2.2.2.2.1 s.2.2.2.2.2.2.2.1 s.2.2.2.2.2.2.2.2.1 s.2.2.2.2.2.2.2.2.2.1 s.2.2.2.2.2.2.2.2.2.2.1 s.2.2.2.2.2.2.2.2.2.2.2) (fun s z h1 h2 h3 => hs s.1 s.2.1 s.2.2.1 s.2.2.2.1 s.2.2.2.2.1 s.2.2.2.2.2.1 s.2.2.2.2.2.2.1 s.2.2.2.2.2.2.2.1 s.2.2.2.2.2.2.2.2.1 s.2.2.2.2.2.2.2.2.2.1 s.2.2.2.2.2.2.2.2.2.2.1 s.2.2.2.2.2.2.2.2.2.2.2 z h1 (fun a0' a1' a2' a3' a4' a5' a6' a7' a8' a9' a10' a11' e => h2 (a0', a1', a2', a3', a4', a5', a6', a7', a8', a9', a10', a11') e) h3) _ h
theorem zi12_l {A0 A1 A2 A3 A4 A5 A6 A7 A8 A9 A10 A11 ρ : Type} {f : A0 → A1 → A2 → A3 → A4 → A5 → A6 → A7 → A8 → A9 → A10 → A11 → Option ((A0 × A1 × A2 × A3 × A4 × A5 × A6 × A7 × A8 × A9 × A10 × A11) ⊕ ρ)} {a0 a0' : A0} {a1 a1' : A1} {a2 a2' : A2} {a3 a3' : A3} {a4 a4' : A4} {a5 a5' : A5} {a6 a6' : A6} {a7 a7' : A7} {a8 a8' : A8} {a9 a9' : A9} {a10 a10' : A10} {a11 a11' : A11} {r : ρ} (h : f a0 a1 a2 a3 a4 a5 a6 a7 a8 a9 a10 a11 = some (.inl (a0', a1', a2', a3', a4', a5', a6', a7', a8', a9', a10', a11'))) (h2 : zi12 f a0' a1' a2' a3' a4' a5' a6' a7' a8' a9' a10' a11' = some r) : zi12 f a0 a1 a2 a3 a4 a5 a6 a7 a8 a9 a10 a11 = some r := zit_l (s := (a0, a1, a2, a3, a4, a5, a6, a7, a8, a9, a10, a11)) h h2
theorem zi12_r {A0 A1 A2 A3 A4 A5 A6 A7 A8 A9 A10 A11 ρ : Type} {f : A0 → A1 → A2 → A3 → A4 → A5 → A6 → A7 → A8 → A9 → A10 → A11 → Option ((A0 × A1 × A2 × A3 × A4 × A5 × A6 × A7 × A8 × A9 × A10 × A11) ⊕ ρ)} {a0 : A0} {a1 : A1} {a2 : A2} {a3 : A3} {a4 : A4} {a5 : A5} {a6 : A6} {a7 : A7} {a8 : A8} {a9 : A9} {a10 : A10} {a11 : A11} {r : ρ} (h : f a0 a1 a2 a3 a4 a5 a6 a7 a8 a9 a10 a11 = some (.inr r)) : zi12 f a0 a1 a2 a3 a4 a5 a6 a7 a8 a9 a10 a11 = some r := zit_r (s := (a0, a1, a2, a3, a4, a5, a6, a7, a8, a9, a10, a11)) h
/-! worlds: the cells of each kind of object; s: its numbers by slot; a: its rows by slot; p: the addresses of its rows; j: its longs -/
abbrev zTY (cI cB cO : ClassId) : List (ClassId × FieldType) := [(cI, .int), (cB, .byte), (cO, .object RX1)]
def zwP (cI : ClassId) (o : Nat) (p : Nat → Nat) (s : Nat → Int32) (a : Nat → Nat → Int32) : va_W := [(o, .inr (2, [.ref (p 0), .int (s 1)])), (p 0, .inl (cI, 18, .inl (a 0)))]
def zwG (cI : ClassId) (o : Nat) (p : Nat → Nat) (s : Nat → Int32) (a : Nat → Nat → Int32) : va_W := [(o, .inr (0, [.int (s 0), .int (s 1), .int (s 2), .ref (p 3)])), (p 3, .inl (cI, 96, .inl (a 3)))]
def zwS (cI : ClassId) (o : Nat) (p : Nat → Nat) (g : Nat) (s : Nat → Int32) (a : Nat → Nat → Int32) : va_W := [(o, .inr (4, [.ref g, .int (s 1), .int (s 2), .int (s 3), .int (s 4), .ref (p 5), .ref (p 6), .ref (p 7)])), (p 5, .inl (cI, 8, .inl (a 5))), (p 6, .inl (cI, 8, .inl (a 6))), (p 7, .inl (cI, 12, .inl (a 7)))]
def zwQ (cI : ClassId) (o : Nat) (p : Nat → Nat) (s : Nat → Int32) (a : Nat → Nat → Int32) : va_W := [(o, .inr (3, [.ref (p 0), .ref (p 1), .int (s 2)])), (p 0, .inl (cI, 6, .inl (a 0))), (p 1, .inl (cI, 6, .inl (a 1)))]
def zwO (o : Nat) (s : Nat → Int32) : va_W := [(o, .inr (1, [.int (s 0), .int (s 1), .int (s 2), .int (s 3), .int (s 4), .int (s 5), .int (s 6), .int (s 7), .int (s 8)]))]
def zwM (cI cB : ClassId) (o : Nat) (p : Nat → Nat) (s : Nat → Int32) (j : Nat → Int64) (a : Nat → Nat → Int32) : va_W := [(o, .inr (6, [.int (s 0), .int (s 1), .int (s 2), .int (s 3), .int (s 4), .ref (p 5), .ref (p 6), .int (s 7), .int (s 8), .int (s 9), .ref (p 10), .ref (p 11), .ref (p 12), .int (s 13), .ref (p 14), .int (s 15), .int (s 16), .ref (p 17), .ref (p 18), .ref (p 19), .ref (p 20), .ref (p 21), .ref (p 22), .ref (p 23), .ref (p 24), .ref (p 25), .ref (p 26), .ref (p 27), .long (j 28), .int (s 29), .int (s 30), .int (s 31), .int (s 32), .int (s 33), .ref (p 34), .ref (p 35), .ref (p 36), .ref (p 37), .ref (p 38), .long (j 39)])), (p 5, .inl (cI, 8, .inl (a 5))), (p 6, .inl (cI, 8, .inl (a 6))), (p 10, .inl (cI, 6, .inl (a 10))), (p 11, .inl (cI, 6, .inl (a 11))), (p 12, .inl (cI, 6, .inl (a 12))), (p 14, .inl (cB, 18, .inl (a 14))), (p 17, .inl (cI, 72, .inl (a 17))), (p 18, .inl (cI, 9, .inl (a 18))), (p 19, .inl (cI, 9, .inl (a 19))), (p 20, .inl (cI, 9, .inl (a 20))), (p 21, .inl (cI, 9, .inl (a 21))), (p 22, .inl (cI, 9, .inl (a 22))), (p 23, .inl (cI, 9, .inl (a 23))), (p 24, .inl (cI, 9, .inl (a 24))), (p 25, .inl (cI, 9, .inl (a 25))), (p 26, .inl (cI, 9, .inl (a 26))), (p 27, .inl (cI, 9, .inl (a 27))), (p 34, .inl (cI, 8, .inl (a 34))), (p 35, .inl (cI, 8, .inl (a 35))), (p 36, .inl (cI, 6, .inl (a 36))), (p 37, .inl (cI, 6, .inl (a 37))), (p 38, .inl (cI, 6, .inl (a 38)))]
def zwR (cO : ClassId) (ra : Nat) (oo : Nat → Nat) : va_W := [(ra, .inl (cO, 9, .inr (.inr (.inr (.inr (fun k => if k < 9 then some (oo k) else none))))))]
def zwX (o Po Go No Qo Ko Lo To : Nat) (oo : Nat → Nat) (ra : Nat) (s : Nat → Int32) : va_W := [(o, .inr (5, [.ref Po, .ref Go, .ref No, .ref Qo, .ref Ko, .ref Lo, .int (s 6), .ref To, .ref (oo 0), .ref ra, .int (s 10), .int (s 11), .int (s 12)]))]
/-! the tables that nobody writes, and the words on private members of nest mates -/
def zKL : Nat → Int32 := fun k => match k with | 0 => 112 | 1 => 120 | 2 => 115 | 3 => 102 | _ => 98
def zTA : Nat → Int32 := fun k => match k with | 0 => 31 | 1 => 18 | 2 => 4 | 3 => 8 | _ => 16
def zWC : Nat → Int32 := fun k => match k with | 0 => 29 | 1 => 18 | 2 => 27 | _ => 23
def zRS : Nat → Int32 := fun k => match k with | 0 => -1 | 1 => -1 | 2 => -1 | 3 => 0 | 4 => 0 | 5 => 1 | 6 => 1 | _ => 1
def zCS : Nat → Int32 := fun k => match k with | 0 => -1 | 1 => 0 | 2 => 1 | 3 => -1 | 4 => 1 | 5 => -1 | 6 => 0 | _ => 1
def zWG : Nat → Int32 := fun k => match k with | 0 => 18 | 1 => 29 | 2 => 18 | 3 => 29 | 4 => 29 | 5 => 18 | 6 => 29 | _ => 18
def zTb (n d : String) (ty : FieldType) (N : Nat) (f : Nat → Int32) (A : Nat → Prop) (U : State) (H : Heap) : Prop := ∃ t : Nat, va_Z "PegField" n d (.ref t) A U H ∧ va_T ty t N (fun j => .int (f j)) A U H
theorem zTb.call {n d : String} {ty : FieldType} {N : Nat} {f : Nat → Int32} {A A1 : Nat → Prop} {s U : State} {H0 H : Heap} (h : zTb n d ty N f A s H0) (hv : s.vm.Alike U.vm) (hq : ∀ a : Nat, a < H0.size → ¬ A a → H[a]? = H0[a]?) (hF : ∀ q, A1 q → A q) : zTb n d ty N f A1 U H := by
  obtain ⟨t, h1, h2⟩ := h
  exact ⟨t, ((h1.kept hq).narrow hF).moved hv, ((h2.kept hq).narrow hF).moved hv⟩
def zSta (A : Nat → Prop) (U : State) (H : Heap) : Prop := zTb "KIND_LETTERS" "[C" .char 5 zKL A U H ∧ zTb "TAKEN_AS" "[I" .int 5 zTA A U H ∧ zTb "WHO_COULD" "[I" .int 4 zWC A U H ∧ zTb "ROW_STEPS" "[I" .int 8 zRS A U H ∧ zTb "COLUMN_STEPS" "[I" .int 8 zCS A U H ∧ zTb "WHO_GOES" "[I" .int 8 zWG A U H
theorem zSta.call {A A1 : Nat → Prop} {s U : State} {H0 H : Heap} (h : zSta A s H0) (hv : s.vm.Alike U.vm) (hq : ∀ a : Nat, a < H0.size → ¬ A a → H[a]? = H0[a]?) (hF : ∀ q, A1 q → A q) : zSta A1 U H :=
  ⟨h.1.call hv hq hF, h.2.1.call hv hq hF, h.2.2.1.call hv hq hF, h.2.2.2.1.call hv hq hF, h.2.2.2.2.1.call hv hq hF, h.2.2.2.2.2.call hv hq hF⟩
def zNW : List Cond := [.fieldLinkNest RX5 140 "PegField$State" "jumps" "I" "PegField", .fieldLinkNest RX5 150 "PegField$State" "onBoard" "I" "PegField", .fieldLinkNest RX5 159 "PegField$State" "holes" "I" "PegField", .fieldLinkNest RX5 173 "PegField$Outcome" "fewest" "I" "PegField", .fieldLinkNest RX5 176 "PegField$Outcome" "first" "I" "PegField", .fieldLinkNest RX5 179 "PegField$Outcome" "ways" "I" "PegField", .fieldLinkNest RX5 182 "PegField$Outcome" "longest" "I" "PegField", .fieldLinkNest RX5 185 "PegField$Outcome" "shortest" "I" "PegField", .fieldLinkNest RX5 188 "PegField$Outcome" "alone" "I" "PegField", .fieldLinkNest RX5 191 "PegField$Outcome" "winning" "I" "PegField", .fieldLinkNest RX5 200 "PegField$Outcome" "mean" "I" "PegField", .fieldLinkNest RX5 228 "PegField$Grid" "rows" "I" "PegField", .fieldLinkNest RX5 231 "PegField$Grid" "columns" "I" "PegField", .fieldLinkNest RX5 241 "PegField$Grid" "places" "I" "PegField", .fieldLinkNest RX5 63 "PegField$Page" "size" "I" "PegField", .fieldLinkNest RX5 87 "PegField$Seen" "size" "I" "PegField", .fieldLinkNest RX5 98 "PegField$State" "pegs" "I" "PegField", .fieldLinkNest RX0 25 "PegField" "ROW_STEPS" "[I" "PegField", .fieldLinkNest RX0 28 "PegField" "COLUMN_STEPS" "[I" "PegField", .fieldLinkNest RX2 23 "PegField" "KIND_LETTERS" "[C" "PegField", .fieldLinkNest RX4 38 "PegField$Grid" "places" "I" "PegField", .methodLinkNest RX5 11 yX2_init "PegField", .methodLinkNest RX5 18 yX0_init "PegField", .methodLinkNest RX5 34 yX3_init "PegField", .methodLinkNest RX5 50 yX1_init "PegField", .methodLinkNest RX4 66 yX5_hasBit "PegField", .methodLinkNest RX4 83 yX5_kindGoes "PegField", .methodLinkNest RX4 86 yX5_kindCould "PegField"]
def zNs (U : State) : Prop := (∀ w ∈ zNW, va_Nw w U) ∧ va_AO RX1 U
theorem zNW_warm : ∀ w ∈ zNW, ∀ s U : State, s.WarmedH U.vm → va_Nw w s → va_Nw w U := List.forall_mem_cons.mpr ⟨fun _ _ hW h => va_Nw.warmF hW h, List.forall_mem_cons.mpr ⟨fun _ _ hW h => va_Nw.warmF hW h, List.forall_mem_cons.mpr ⟨fun _ _ hW h => va_Nw.warmF hW h, List.forall_mem_cons.mpr ⟨fun _ _ hW h => va_Nw.warmF hW h, List.forall_mem_cons.mpr ⟨fun _ _ hW h => va_Nw.warmF hW h, List.forall_mem_cons.mpr ⟨fun _ _ hW h => va_Nw.warmF hW h, List.forall_mem_cons.mpr ⟨fun _ _ hW h => va_Nw.warmF hW h, List.forall_mem_cons.mpr ⟨fun _ _ hW h => va_Nw.warmF hW h, List.forall_mem_cons.mpr ⟨fun _ _ hW h => va_Nw.warmF hW h, List.forall_mem_cons.mpr ⟨fun _ _ hW h => va_Nw.warmF hW h, List.forall_mem_cons.mpr ⟨fun _ _ hW h => va_Nw.warmF hW h, List.forall_mem_cons.mpr ⟨fun _ _ hW h => va_Nw.warmF hW h, List.forall_mem_cons.mpr ⟨fun _ _ hW h => va_Nw.warmF hW h, List.forall_mem_cons.mpr ⟨fun _ _ hW h => va_Nw.warmF hW h, List.forall_mem_cons.mpr ⟨fun _ _ hW h => va_Nw.warmF hW h, List.forall_mem_cons.mpr ⟨fun _ _ hW h => va_Nw.warmF hW h, List.forall_mem_cons.mpr ⟨fun _ _ hW h => va_Nw.warmF hW h, List.forall_mem_cons.mpr ⟨fun _ _ hW h => va_Nw.warmF hW h, List.forall_mem_cons.mpr ⟨fun _ _ hW h => va_Nw.warmF hW h, List.forall_mem_cons.mpr ⟨fun _ _ hW h => va_Nw.warmF hW h, List.forall_mem_cons.mpr ⟨fun _ _ hW h => va_Nw.warmF hW h, List.forall_mem_cons.mpr ⟨fun _ _ hW h => va_Nw.warmM hW h, List.forall_mem_cons.mpr ⟨fun _ _ hW h => va_Nw.warmM hW h, List.forall_mem_cons.mpr ⟨fun _ _ hW h => va_Nw.warmM hW h, List.forall_mem_cons.mpr ⟨fun _ _ hW h => va_Nw.warmM hW h, List.forall_mem_cons.mpr ⟨fun _ _ hW h => va_Nw.warmM hW h, List.forall_mem_cons.mpr ⟨fun _ _ hW h => va_Nw.warmM hW h, List.forall_mem_cons.mpr ⟨fun _ _ hW h => va_Nw.warmM hW h, fun _ h => absurd h List.not_mem_nil⟩⟩⟩⟩⟩⟩⟩⟩⟩⟩⟩⟩⟩⟩⟩⟩⟩⟩⟩⟩⟩⟩⟩⟩⟩⟩⟩⟩
theorem zNW_tab : ∀ w ∈ zNW, w.onTables = true := List.forall_mem_cons.mpr ⟨rfl, List.forall_mem_cons.mpr ⟨rfl, List.forall_mem_cons.mpr ⟨rfl, List.forall_mem_cons.mpr ⟨rfl, List.forall_mem_cons.mpr ⟨rfl, List.forall_mem_cons.mpr ⟨rfl, List.forall_mem_cons.mpr ⟨rfl, List.forall_mem_cons.mpr ⟨rfl, List.forall_mem_cons.mpr ⟨rfl, List.forall_mem_cons.mpr ⟨rfl, List.forall_mem_cons.mpr ⟨rfl, List.forall_mem_cons.mpr ⟨rfl, List.forall_mem_cons.mpr ⟨rfl, List.forall_mem_cons.mpr ⟨rfl, List.forall_mem_cons.mpr ⟨rfl, List.forall_mem_cons.mpr ⟨rfl, List.forall_mem_cons.mpr ⟨rfl, List.forall_mem_cons.mpr ⟨rfl, List.forall_mem_cons.mpr ⟨rfl, List.forall_mem_cons.mpr ⟨rfl, List.forall_mem_cons.mpr ⟨rfl, List.forall_mem_cons.mpr ⟨rfl, List.forall_mem_cons.mpr ⟨rfl, List.forall_mem_cons.mpr ⟨rfl, List.forall_mem_cons.mpr ⟨rfl, List.forall_mem_cons.mpr ⟨rfl, List.forall_mem_cons.mpr ⟨rfl, List.forall_mem_cons.mpr ⟨rfl, fun _ h => absurd h List.not_mem_nil⟩⟩⟩⟩⟩⟩⟩⟩⟩⟩⟩⟩⟩⟩⟩⟩⟩⟩⟩⟩⟩⟩⟩⟩⟩⟩⟩⟩
theorem zNs.warm {s U : State} (hW : s.WarmedH U.vm) (h : zNs s) : zNs U := ⟨fun w hw => zNW_warm w hw s U hW (h.1 w hw), h.2.moved hW.alike⟩
theorem zNs.same {s U : State} (hv : s.vm = U.vm) (h : zNs s) : zNs U := ⟨fun w hw => (h.1 w hw).same (zNW_tab w hw) hv, h.2.moved (hv ▸ Vm.Alike.refl s.vm)⟩
theorem zNs.use {s : State} {args : Array Value} (h : zNs s) {w : Cond} (hw : w ∈ zNW) : w.before args s = true := (h.1 w hw).use (zNW_tab w hw)
def zEnv (A : Nat → Prop) (U : State) (H : Heap) : Prop := zSta A U H ∧ zNs U
/-- a method's start and end: its world, the classes, the tables -/
def zPre (D : va_G) (T : List (ClassId × FieldType)) (w : va_W) (sz : Nat) : State → Prop := fun U => U.heap.size = sz ∧ va_P D vwCl w U.heap ∧ va_K D vwCl T U ∧ va_D (fun _ => True) w ∧ zEnv (va_A w sz) U U.heap
def zPost (D : va_G) (T : List (ClassId × FieldType)) (w : va_W) (A : Nat → Prop) : State → Prop := fun t => va_P D vwCl w t.heap ∧ va_K D vwCl T t ∧ va_D A w
theorem zpost {D : va_G} {T : List (ClassId × FieldType)} {w : va_W} {A : Nat → Prop} {H : Heap} {s t : State} (hP : va_P D vwCl w H) (hK : va_K D vwCl T s) (hD : va_D A w) (ht : t.heap = H) (hW : s.WarmedH t.vm) : zPost D T w A t := ⟨by rw [ht]; exact hP, va_K.moved hW.alike hK, hD⟩
theorem zblind {D : va_G} {T : List (ClassId × FieldType)} {w : va_W} {sz : Nat} {av : List Value} : FrameBlind (va_Pc av (zPre D T w sz)) := by
  intro a U g mk q
  obtain ⟨q0, q1, qP, qK, qD, qS, qN⟩ := q
  exact ⟨q0, q1, qP, va_K.moved (u := U) (U := U.calling g mk a) (Vm.Alike.refl U.vm) qK, qD, qS.call (Vm.Alike.refl U.vm) (fun _ _ _ => rfl) (fun _ h => h), zNs.same (s := U) (U := U.calling g mk a) rfl qN⟩
theorem zfm {α β : Type} {f : α → Option β} : ∀ {l : List α} {m : List β}, l.map f = m.map some → l.filterMap f = m
  | [], [], _ => rfl
  | [], _ :: _, h => by cases h
  | _ :: _, [], h => by cases h
  | a :: l, b :: m, h => by
    rw [List.map_cons, List.map_cons] at h
    injection h with h1 h2
    rw [List.filterMap_cons, h1]
    exact congrArg (b :: ·) (zfm h2)
theorem zpre {D : va_G} {T : List (ClassId × FieldType)} {w wc : va_W} {A : Nat → Prop} {s : State} {H : Heap} {locs : List Loc} (hK : va_K D vwCl T s) (hP : va_P D vwCl w H) (hD : va_D A w) (hS : va_S A s.heap H locs) (hE : zEnv A s s.heap) (hF : ∀ q, va_A wc H.size q → A q) (isC : List Nat) (hC : isC.map (fun i => w[i]?) = wc.map some) (hn : va_nd isC = true) (As : List Value) : ∀ U : State, U.heap = H → s.WarmedH U.vm → va_Pc As (zPre D T wc H.size) As.toArray U := by
  intro U hU hW
  refine ⟨rfl, by rw [hU], by rw [hU]; exact hP.sub isC (zfm hC), va_K.moved hW.alike hK, (hD.sub isC hn hC).weaken (fun _ _ _ _ => trivial), ?_, hE.2.warm hW⟩
  rw [hU]
  exact hE.1.call hW.alike hS.2.1 hF
theorem zpreV {D : va_G} {T : List (ClassId × FieldType)} {w wc : va_W} {A : Nat → Prop} {s : State} {H : Heap} {locs : List Loc} (hK : va_K D vwCl T s) (hP : va_P D vwCl w H) (hD : va_D A w) (hS : va_S A s.heap H locs) (hE : zEnv A s s.heap) (hF : ∀ q, va_A wc H.size q → A q) (isC : List Nat) (hC : isC.map (fun i => w[i]?) = wc.map some) (hn : va_nd isC = true) (q0 : Nat) {ci b : Nat} {fs : List Value} {q : vw_C} (hc : vwCl[ci]? = some q) (he : w[q0]? = some (b, .inr (ci, fs))) (As : List Value) : PreV s H q.1 b (va_Pc (.ref b :: As) (zPre D T wc H.size)) As :=
  ⟨zblind, va_recv hK hP hc he, zpre hK hP hD hS hE hF isC hC hn (.ref b :: As)⟩
theorem zpreS {D : va_G} {T : List (ClassId × FieldType)} {w wc : va_W} {A : Nat → Prop} {s : State} {H : Heap} {locs : List Loc} (hK : va_K D vwCl T s) (hP : va_P D vwCl w H) (hD : va_D A w) (hS : va_S A s.heap H locs) (hE : zEnv A s s.heap) (hF : ∀ q, va_A wc H.size q → A q) (isC : List Nat) (hC : isC.map (fun i => w[i]?) = wc.map some) (hn : va_nd isC = true) (As : List Value) : PreS s H (va_Pc As (zPre D T wc H.size)) As :=
  ⟨zblind, zpre hK hP hD hS hE hF isC hC hn As⟩
theorem zjoin {D : va_G} {T : List (ClassId × FieldType)} {w wc w1 w2 : va_W} {A : Nat → Prop} {H H1 : Heap} {t : State} (hP : va_P D vwCl w H) (hD : va_D A w) (isC isR pm : List Nat) (hC : isC.map (fun i => w[i]?) = wc.map some) (hn : va_nd isR = true) (hdis : ∀ i ∈ isR, i ∉ isC) (hlt : ∀ i ∈ isR, i < w.length)
    (hF : ∀ q, va_A wc H.size q → A q) (hk : ∀ q : Nat, q < H.size → ¬ va_A wc H.size q → H1[q]? = H[q]?) (hB : zPost D T w1 (va_A wc H.size) t) (ht : t.heap = H1) (hpn : va_nd pm = true) (hpm : pm.map (fun i => (isR.filterMap (fun i => w[i]?) ++ w1)[i]?) = w2.map some) : va_P D vwCl w2 H1 ∧ va_D A w2 := by
  obtain ⟨hP1, -, hD1⟩ := hB
  rw [ht] at hP1
  have hR : isR.map (fun i => w[i]?) = (isR.filterMap (fun i => w[i]?)).map some := by
    clear hpm hdis hn
    induction isR with
    | nil => rfl
    | cons a l ih =>
      have hl := hlt a List.mem_cons_self
      rw [List.map_cons, List.filterMap_cons, List.getElem?_eq_getElem hl, ih (fun i hi => hlt i (List.mem_cons_of_mem _ hi))]
      rfl
  obtain ⟨a, b⟩ := va_join hP hD isC isR hC hR hn hdis hk hF hP1 hD1
  exact ⟨a.sub pm (zfm hpm), b.sub pm hpn hpm⟩
theorem zne_i {x : Int32} {k : Int} (y : Int32) (hk : y.toInt = k) (h : ¬ x = y) : ¬ x.toInt = k := fun e => h (Int32.toInt_inj.mp (e.trans hk.symm))
theorem zsetP {D : va_G} {w w' : va_W} {H : Heap} (e : w = w') (h : va_P D vwCl w H) : va_P D vwCl w' H := e ▸ h
theorem zsetD {A : Nat → Prop} {w w' : va_W} (e : w = w') (h : va_D A w) : va_D A w' := e ▸ h
theorem zlk (l : List (Int × Int)) (dflt k : Int) (h : ∀ q ∈ l, ¬ k = q.1) : Op.lookupswitch.offset l dflt k = dflt := by
  induction l with
  | nil => rfl
  | cons q r ih =>
    obtain ⟨a, o⟩ := q
    rw [Op.lookupswitch.offset_cons, if_neg (fun e => h (a, o) List.mem_cons_self e.symm)]
    exact ih (fun q hq => h q (List.mem_cons_of_mem _ hq))
def zbt {α β γ ρ : Type} (o : Option (α ⊕ (β ⊕ γ))) (k1 : α → Option ρ) (k2 : β → Option ρ) (k3 : γ → Option ρ) : Option ρ := match o with
  | none => none
  | some (.inl a) => k1 a
  | some (.inr (.inl b)) => k2 b
  | some (.inr (.inr b)) => k3 b
theorem zbt_s {α β γ ρ : Type} {o : Option (α ⊕ (β ⊕ γ))} {k1 : α → Option ρ} {k2 : β → Option ρ} {k3 : γ → Option ρ} {r : ρ} (h : zbt o k1 k2 k3 = some r) : ∃ z, o = some z ∧ (∀ a, z = .inl a → k1 a = some r) ∧ (∀ b, z = .inr (.inl b) → k2 b = some r) ∧ (∀ b, z = .inr (.inr b) → k3 b = some r) := by
  cases o with
  | none => cases h
  | some z => exact ⟨z, rfl, fun a e => by subst e; exact h, fun b e => by subst e; exact h, fun b e => by subst e; exact h⟩
def zu2 {A0 A1 ρ : Type} (k : A0 → A1 → ρ) (q : A0 × A1) : ρ := k q.1 q.2
def zu3 {A0 A1 A2 ρ : Type} (k : A0 → A1 → A2 → ρ) (q : A0 × A1 × A2) : ρ := k q.1 q.2.1 q.2.2
def zu4 {A0 A1 A2 A3 ρ : Type} (k : A0 → A1 → A2 → A3 → ρ) (q : A0 × A1 × A2 × A3) : ρ := k q.1 q.2.1 q.2.2.1 q.2.2.2
def zu5 {A0 A1 A2 A3 A4 ρ : Type} (k : A0 → A1 → A2 → A3 → A4 → ρ) (q : A0 × A1 × A2 × A3 × A4) : ρ := k q.1 q.2.1 q.2.2.1 q.2.2.2.1 q.2.2.2.2
def zu6 {A0 A1 A2 A3 A4 A5 ρ : Type} (k : A0 → A1 → A2 → A3 → A4 → A5 → ρ) (q : A0 × A1 × A2 × A3 × A4 × A5) : ρ := k q.1 q.2.1 q.2.2.1 q.2.2.2.1 q.2.2.2.2.1 q.2.2.2.2.2
def zu7 {A0 A1 A2 A3 A4 A5 A6 ρ : Type} (k : A0 → A1 → A2 → A3 → A4 → A5 → A6 → ρ) (q : A0 × A1 × A2 × A3 × A4 × A5 × A6) : ρ := k q.1 q.2.1 q.2.2.1 q.2.2.2.1 q.2.2.2.2.1 q.2.2.2.2.2.1 q.2.2.2.2.2.2
def zu8 {A0 A1 A2 A3 A4 A5 A6 A7 ρ : Type} (k : A0 → A1 → A2 → A3 → A4 → A5 → A6 → A7 → ρ) (q : A0 × A1 × A2 × A3 × A4 × A5 × A6 × A7) : ρ := k q.1 q.2.1 q.2.2.1 q.2.2.2.1 q.2.2.2.2.1 q.2.2.2.2.2.1 q.2.2.2.2.2.2.1 q.2.2.2.2.2.2.2
theorem zmet_i {l : Launch} {y : MethodName} {ws ws' : List Cond} {rm : Room} {av : List Value} {D : va_G} {T : List (ClassId × FieldType)} {w w1 : va_W} {sz : Nat} {cc : ByteArray} {maxL : Nat} {rv : Int32} (hy : plainName y.cls = true) (hw : ws = Cond.code y cc maxL (some .int) :: ws') (hlen : (lg_sl av).length ≤ maxL) (hrc : rm.cells = 0) (hrs : rm.slots = 0)
    (body : ∀ (p : Program) (e : Env) (s : State) (m : MethodId) (args : Array Value) (below : List Frame) (meth : Method) (c : Code) (R : Room) (Q : State → Prop) (A : Nat → Prop) (ls : Array Slot), p.tables.exec = Jvm.exec → c.code = cc → (∀ w ∈ ws, w.before args s = true) → s.vm.findClass y.cls = some m.cls → c.maxLocals = maxL → va_K D vwCl T s → va_P D vwCl w s.heap → va_D A w → zEnv A s s.heap → (∀ q : Nat, s.heap.size ≤ q → A q) → va_S A s.heap s.heap [] → rm.frames ≤ R.frames → rm.locals ≤ R.locals → lv_has ls maxL (lv_args 0 av) →
      (∀ {H : Heap} {locs : List Loc} {pc : Nat} {ls : Array Slot}, va_P D vwCl w1 H → va_D A w1 → va_S A s.heap H locs → decode cc pc = .ok (.ireturn, 1) → W p l e R s m args below meth c H locs 0 0 Q (F0 m pc ls [.int rv])) →
      W p l e R s m args below meth c s.heap [] 0 0 Q (F0 m 0 ls [])) : Met l y ws rm (va_Pc av (zPre D T w sz)) (va_Qi (fun r (_ : Unit) => r = rv) (fun _ => zPost D T w1 (va_A w sz)) (va_A w sz)) 0 0 (va_A w sz) := by
  refine Met.ofW (cc := cc) (maxL := maxL) (ret := (some .int)) hy hw ?_
  intro p e s m args below meth c s₁ B hml hv
  obtain ⟨rfl, hsz, hP, hK, hD0, hE⟩ := hv
  have hx := B.exec
  have hb := B.bytes
  have hr := B.returns
  have hts := atoms_spec (ws := ws) B.pre
  have hown : s.vm.findClass y.cls = some m.cls := findClass_of_methodNamed B.named
  have hlocks := B.notSynchronized
  subst hsz
  have hD := hD0.self (sz := s.heap.size)
  generalize hAe : va_A w s.heap.size = A at hD hE ⊢
  have hA : ∀ q : Nat, s.heap.size ≤ q → A q := fun q h => by rw [← hAe]; exact Or.inr h
  have hl := lv_entry av (n := maxL) hlen
  rw [lg_entry_eq]
  refine body p e s m av.toArray below meth c (headSpec ws rm).room _ A _ hx hb hts hown hml hK hP hD hE hA va_S.rf (Nat.le_refl _) (Nat.le_refl _) hl ?_
  intro H locs pc ls hP hD hS hd
  exact W.iret hx hb hr (fun t ht hW => ⟨⟨_, (), rfl, rfl, zpost hP hK hD ht hW⟩, hS.F ht⟩) hS.2.2 hd hlocks
theorem zmet_z {l : Launch} {y : MethodName} {ws ws' : List Cond} {rm : Room} {av : List Value} {D : va_G} {T : List (ClassId × FieldType)} {w w1 : va_W} {sz : Nat} {cc : ByteArray} {maxL : Nat} {rv : Int32} (hy : plainName y.cls = true) (hw : ws = Cond.code y cc maxL (some .boolean) :: ws') (hlen : (lg_sl av).length ≤ maxL) (hrc : rm.cells = 0) (hrs : rm.slots = 0)
    (body : ∀ (p : Program) (e : Env) (s : State) (m : MethodId) (args : Array Value) (below : List Frame) (meth : Method) (c : Code) (R : Room) (Q : State → Prop) (A : Nat → Prop) (ls : Array Slot), p.tables.exec = Jvm.exec → c.code = cc → (∀ w ∈ ws, w.before args s = true) → s.vm.findClass y.cls = some m.cls → c.maxLocals = maxL → va_K D vwCl T s → va_P D vwCl w s.heap → va_D A w → zEnv A s s.heap → (∀ q : Nat, s.heap.size ≤ q → A q) → va_S A s.heap s.heap [] → rm.frames ≤ R.frames → rm.locals ≤ R.locals → lv_has ls maxL (lv_args 0 av) →
      (∀ {H : Heap} {locs : List Loc} {pc : Nat} {ls : Array Slot}, va_P D vwCl w1 H → va_D A w1 → va_S A s.heap H locs → narrow .boolean (.int rv) = .int rv → decode cc pc = .ok (.ireturn, 1) → W p l e R s m args below meth c H locs 0 0 Q (F0 m pc ls [.int rv])) →
      W p l e R s m args below meth c s.heap [] 0 0 Q (F0 m 0 ls [])) : Met l y ws rm (va_Pc av (zPre D T w sz)) (va_Qi (fun r (_ : Unit) => r = rv) (fun _ => zPost D T w1 (va_A w sz)) (va_A w sz)) 0 0 (va_A w sz) := by
  refine Met.ofW (cc := cc) (maxL := maxL) (ret := (some .boolean)) hy hw ?_
  intro p e s m args below meth c s₁ B hml hv
  obtain ⟨rfl, hsz, hP, hK, hD0, hE⟩ := hv
  have hx := B.exec
  have hb := B.bytes
  have hr := B.returns
  have hts := atoms_spec (ws := ws) B.pre
  have hown : s.vm.findClass y.cls = some m.cls := findClass_of_methodNamed B.named
  have hlocks := B.notSynchronized
  subst hsz
  have hD := hD0.self (sz := s.heap.size)
  generalize hAe : va_A w s.heap.size = A at hD hE ⊢
  have hA : ∀ q : Nat, s.heap.size ≤ q → A q := fun q h => by rw [← hAe]; exact Or.inr h
  have hl := lv_entry av (n := maxL) hlen
  rw [lg_entry_eq]
  refine body p e s m av.toArray below meth c (headSpec ws rm).room _ A _ hx hb hts hown hml hK hP hD hE hA va_S.rf (Nat.le_refl _) (Nat.le_refl _) hl ?_
  intro H locs pc ls hP hD hS hz hd
  exact W.zret hx hb hr hz (fun t ht hW => ⟨⟨_, (), rfl, rfl, zpost hP hK hD ht hW⟩, hS.F ht⟩) hS.2.2 hd hlocks
theorem zmet_l {l : Launch} {y : MethodName} {ws ws' : List Cond} {rm : Room} {av : List Value} {D : va_G} {T : List (ClassId × FieldType)} {w w1 : va_W} {sz : Nat} {cc : ByteArray} {maxL : Nat} {rv : Int64} (hy : plainName y.cls = true) (hw : ws = Cond.code y cc maxL (some .long) :: ws') (hlen : (lg_sl av).length ≤ maxL) (hrc : rm.cells = 0) (hrs : rm.slots = 0)
    (body : ∀ (p : Program) (e : Env) (s : State) (m : MethodId) (args : Array Value) (below : List Frame) (meth : Method) (c : Code) (R : Room) (Q : State → Prop) (A : Nat → Prop) (ls : Array Slot), p.tables.exec = Jvm.exec → c.code = cc → (∀ w ∈ ws, w.before args s = true) → s.vm.findClass y.cls = some m.cls → c.maxLocals = maxL → va_K D vwCl T s → va_P D vwCl w s.heap → va_D A w → zEnv A s s.heap → (∀ q : Nat, s.heap.size ≤ q → A q) → va_S A s.heap s.heap [] → rm.frames ≤ R.frames → rm.locals ≤ R.locals → lv_has ls maxL (lv_args 0 av) →
      (∀ {H : Heap} {locs : List Loc} {pc : Nat} {ls : Array Slot}, va_P D vwCl w1 H → va_D A w1 → va_S A s.heap H locs → decode cc pc = .ok (.lreturn, 1) → W p l e R s m args below meth c H locs 0 0 Q (F0 m pc ls [.long rv])) →
      W p l e R s m args below meth c s.heap [] 0 0 Q (F0 m 0 ls [])) : Met l y ws rm (va_Pc av (zPre D T w sz)) (va_Ql (fun r (_ : Unit) => r = rv) (fun _ => zPost D T w1 (va_A w sz)) (va_A w sz)) 0 0 (va_A w sz) := by
  refine Met.ofW (cc := cc) (maxL := maxL) (ret := (some .long)) hy hw ?_
  intro p e s m args below meth c s₁ B hml hv
  obtain ⟨rfl, hsz, hP, hK, hD0, hE⟩ := hv
  have hx := B.exec
  have hb := B.bytes
  have hr := B.returns
  have hts := atoms_spec (ws := ws) B.pre
  have hown : s.vm.findClass y.cls = some m.cls := findClass_of_methodNamed B.named
  have hlocks := B.notSynchronized
  subst hsz
  have hD := hD0.self (sz := s.heap.size)
  generalize hAe : va_A w s.heap.size = A at hD hE ⊢
  have hA : ∀ q : Nat, s.heap.size ≤ q → A q := fun q h => by rw [← hAe]; exact Or.inr h
  have hl := lv_entry av (n := maxL) hlen
  rw [lg_entry_eq]
  refine body p e s m av.toArray below meth c (headSpec ws rm).room _ A _ hx hb hts hown hml hK hP hD hE hA va_S.rf (Nat.le_refl _) (Nat.le_refl _) hl ?_
  intro H locs pc ls hP hD hS hd
  exact W.lret hx hb hr (fun t ht hW => ⟨⟨_, (), rfl, rfl, zpost hP hK hD ht hW⟩, hS.F ht⟩) hS.2.2 hd hlocks
theorem zmet_v {l : Launch} {y : MethodName} {ws ws' : List Cond} {rm : Room} {av : List Value} {D : va_G} {T : List (ClassId × FieldType)} {w w1 : va_W} {sz : Nat} {cc : ByteArray} {maxL : Nat} (hy : plainName y.cls = true) (hw : ws = Cond.code y cc maxL none :: ws') (hlen : (lg_sl av).length ≤ maxL) (hrc : rm.cells = 0) (hrs : rm.slots = 0)
    (body : ∀ (p : Program) (e : Env) (s : State) (m : MethodId) (args : Array Value) (below : List Frame) (meth : Method) (c : Code) (R : Room) (Q : State → Prop) (A : Nat → Prop) (ls : Array Slot), p.tables.exec = Jvm.exec → c.code = cc → (∀ w ∈ ws, w.before args s = true) → s.vm.findClass y.cls = some m.cls → c.maxLocals = maxL → va_K D vwCl T s → va_P D vwCl w s.heap → va_D A w → zEnv A s s.heap → (∀ q : Nat, s.heap.size ≤ q → A q) → va_S A s.heap s.heap [] → rm.frames ≤ R.frames → rm.locals ≤ R.locals → lv_has ls maxL (lv_args 0 av) →
      (∀ {H : Heap} {locs : List Loc} {pc : Nat} {ls : Array Slot}, va_P D vwCl w1 H → va_D A w1 → va_S A s.heap H locs → decode cc pc = .ok (.return_, 1) → W p l e R s m args below meth c H locs 0 0 Q (F0 m pc ls [])) →
      W p l e R s m args below meth c s.heap [] 0 0 Q (F0 m 0 ls [])) : Met l y ws rm (va_Pc av (zPre D T w sz)) (va_Qv (fun (_ : Unit) => True) (fun _ => zPost D T w1 (va_A w sz)) (va_A w sz)) 0 0 (va_A w sz) := by
  refine Met.ofW (cc := cc) (maxL := maxL) (ret := none) hy hw ?_
  intro p e s m args below meth c s₁ B hml hv
  obtain ⟨rfl, hsz, hP, hK, hD0, hE⟩ := hv
  have hx := B.exec
  have hb := B.bytes
  have hr := B.returns
  have hts := atoms_spec (ws := ws) B.pre
  have hown : s.vm.findClass y.cls = some m.cls := findClass_of_methodNamed B.named
  have hlocks := B.notSynchronized
  subst hsz
  have hD := hD0.self (sz := s.heap.size)
  generalize hAe : va_A w s.heap.size = A at hD hE ⊢
  have hA : ∀ q : Nat, s.heap.size ≤ q → A q := fun q h => by rw [← hAe]; exact Or.inr h
  have hl := lv_entry av (n := maxL) hlen
  rw [lg_entry_eq]
  refine body p e s m av.toArray below meth c (headSpec ws rm).room _ A _ hx hb hts hown hml hK hP hD hE hA va_S.rf (Nat.le_refl _) (Nat.le_refl _) hl ?_
  intro H locs pc ls hP hD hS hd
  exact W.vret hx hb hr (fun t ht hW => ⟨⟨(), rfl, trivial, zpost hP hK hD ht hW⟩, hS.F ht⟩) hS.2.2 hd hlocks
theorem zcall_i {p : Program} {l : Launch} {e : Env} {R : Room} {s : State} {m : MethodId} {args a : Array Value} {below : List Frame} {meth : Method} {c : Code} {H : Heap} {locs : List Loc} {Q : State → Prop} {pc : Nat} {ls : Array Slot} {rest st0 : List Value} {A : Nat → Prop} {D : va_G} {T : List (ClassId × FieldType)} {w wc w1 w2 : va_W} {rv : Int32} (hr : va_Run p l e R s m args below meth c H locs 0 0 0 0 (F0 m pc ls st0) rest (va_Qi (fun r (_ : Unit) => r = rv) (fun _ => zPost D T w1 (va_A wc H.size)) (va_A wc H.size) a) (va_A wc H.size)) (hP : va_P D vwCl w H) (hD : va_D A w) (hS : va_S A s.heap H locs) (hFc : ∀ q, va_A wc H.size q → A q) (isC isR pm : List Nat) (n : Nat) (hC : isC.map (fun i => w[i]?) = wc.map some) (hlen : w.length = n) (hck : (va_nd isR && isR.all (fun i => decide (i ∉ isC) && decide (i < n)) && va_nd pm) = true) (hpm : pm.map (fun i => (isR.filterMap (fun i => w[i]?) ++ w1)[i]?) = w2.map some)
    (kk : ∀ (H1 : Heap) (locs1 : List Loc), va_P D vwCl w2 H1 → va_D A w2 → va_S A s.heap H1 locs1 → W p l e R s m args below meth c H1 locs1 0 0 Q (F0 m (pc + 3) ls (.int rv :: rest))) : W p l e R s m args below meth c H locs 0 0 Q (F0 m pc ls st0) := by
  refine va_calli hr hS (fun q _ h => hFc q h) hFc (fun r u t H1 locs1 ht hvm hw hB hz1 hk1 hS1 => ?_)
  simp only [Bool.and_eq_true, List.all_eq_true, decide_eq_true_eq] at hck
  obtain ⟨hP2, hD2⟩ := zjoin (w2 := w2) hP hD isC isR pm hC hck.1.1 (fun i hi => (hck.1.2 i hi).1) (fun i hi => by rw [hlen]; exact (hck.1.2 i hi).2) hFc hk1 hB ht hck.2 hpm
  obtain rfl : r = rv := hw
  exact kk H1 locs1 hP2 hD2 hS1
theorem zcall_l {p : Program} {l : Launch} {e : Env} {R : Room} {s : State} {m : MethodId} {args a : Array Value} {below : List Frame} {meth : Method} {c : Code} {H : Heap} {locs : List Loc} {Q : State → Prop} {pc : Nat} {ls : Array Slot} {rest st0 : List Value} {A : Nat → Prop} {D : va_G} {T : List (ClassId × FieldType)} {w wc w1 w2 : va_W} {rv : Int64} (hr : va_Run p l e R s m args below meth c H locs 0 0 0 0 (F0 m pc ls st0) rest (va_Ql (fun r (_ : Unit) => r = rv) (fun _ => zPost D T w1 (va_A wc H.size)) (va_A wc H.size) a) (va_A wc H.size)) (hP : va_P D vwCl w H) (hD : va_D A w) (hS : va_S A s.heap H locs) (hFc : ∀ q, va_A wc H.size q → A q) (isC isR pm : List Nat) (n : Nat) (hC : isC.map (fun i => w[i]?) = wc.map some) (hlen : w.length = n) (hck : (va_nd isR && isR.all (fun i => decide (i ∉ isC) && decide (i < n)) && va_nd pm) = true) (hpm : pm.map (fun i => (isR.filterMap (fun i => w[i]?) ++ w1)[i]?) = w2.map some)
    (kk : ∀ (H1 : Heap) (locs1 : List Loc), va_P D vwCl w2 H1 → va_D A w2 → va_S A s.heap H1 locs1 → W p l e R s m args below meth c H1 locs1 0 0 Q (F0 m (pc + 3) ls (.long rv :: rest))) : W p l e R s m args below meth c H locs 0 0 Q (F0 m pc ls st0) := by
  refine va_calll hr hS (fun q _ h => hFc q h) hFc (fun r u t H1 locs1 ht hvm hw hB hz1 hk1 hS1 => ?_)
  simp only [Bool.and_eq_true, List.all_eq_true, decide_eq_true_eq] at hck
  obtain ⟨hP2, hD2⟩ := zjoin (w2 := w2) hP hD isC isR pm hC hck.1.1 (fun i hi => (hck.1.2 i hi).1) (fun i hi => by rw [hlen]; exact (hck.1.2 i hi).2) hFc hk1 hB ht hck.2 hpm
  obtain rfl : r = rv := hw
  exact kk H1 locs1 hP2 hD2 hS1
theorem zcall_v {p : Program} {l : Launch} {e : Env} {R : Room} {s : State} {m : MethodId} {args a : Array Value} {below : List Frame} {meth : Method} {c : Code} {H : Heap} {locs : List Loc} {Q : State → Prop} {pc : Nat} {ls : Array Slot} {rest st0 : List Value} {A : Nat → Prop} {D : va_G} {T : List (ClassId × FieldType)} {w wc w1 w2 : va_W} (hr : va_Run p l e R s m args below meth c H locs 0 0 0 0 (F0 m pc ls st0) rest (va_Qv (fun (_ : Unit) => True) (fun _ => zPost D T w1 (va_A wc H.size)) (va_A wc H.size) a) (va_A wc H.size)) (hP : va_P D vwCl w H) (hD : va_D A w) (hS : va_S A s.heap H locs) (hFc : ∀ q, va_A wc H.size q → A q) (isC isR pm : List Nat) (n : Nat) (hC : isC.map (fun i => w[i]?) = wc.map some) (hlen : w.length = n) (hck : (va_nd isR && isR.all (fun i => decide (i ∉ isC) && decide (i < n)) && va_nd pm) = true) (hpm : pm.map (fun i => (isR.filterMap (fun i => w[i]?) ++ w1)[i]?) = w2.map some)
    (kk : ∀ (H1 : Heap) (locs1 : List Loc), va_P D vwCl w2 H1 → va_D A w2 → va_S A s.heap H1 locs1 → W p l e R s m args below meth c H1 locs1 0 0 Q (F0 m (pc + 3) ls (rest))) : W p l e R s m args below meth c H locs 0 0 Q (F0 m pc ls st0) := by
  refine va_callv hr hS (fun q _ h => hFc q h) hFc (fun u t H1 locs1 ht hvm hw hB hz1 hk1 hS1 => ?_)
  simp only [Bool.and_eq_true, List.all_eq_true, decide_eq_true_eq] at hck
  obtain ⟨hP2, hD2⟩ := zjoin (w2 := w2) hP hD isC isR pm hC hck.1.1 (fun i hi => (hck.1.2 i hi).1) (fun i hi => by rw [hlen]; exact (hck.1.2 i hi).2) hFc hk1 hB ht hck.2 hpm
  skip
  exact kk H1 locs1 hP2 hD2 hS1
theorem zsameI {D : va_G} {cI cB cO cA : ClassId} {s : State} (h : va_K D vwCl (zTY cI cB cO ++ [(cA, .int)]) s) : cI = cA := by
  have h1 : s.vm.findClass ("[" ++ (FieldType.int).toString) = some cI := (h.2 0 (cI, .int) rfl).2
  have h2 : s.vm.findClass ("[" ++ (FieldType.int).toString) = some cA := (h.2 3 (cA, .int) rfl).2
  exact Option.some.inj (h1.symm.trans h2)
theorem zsameB {D : va_G} {cI cB cO cA : ClassId} {s : State} (h : va_K D vwCl (zTY cI cB cO ++ [(cA, .byte)]) s) : cB = cA := by
  have h1 : s.vm.findClass ("[" ++ (FieldType.byte).toString) = some cB := (h.2 1 (cB, .byte) rfl).2
  have h2 : s.vm.findClass ("[" ++ (FieldType.byte).toString) = some cA := (h.2 3 (cA, .byte) rfl).2
  exact Option.some.inj (h1.symm.trans h2)
theorem zsameO {D : va_G} {cI cB cO cA : ClassId} {s : State} (h : va_K D vwCl (zTY cI cB cO ++ [(cA, .object RX1)]) s) : cO = cA := by
  obtain ⟨_, _, _, _, _, h1⟩ := (h.2 2 (cO, .object RX1) rfl).2
  obtain ⟨_, _, _, _, _, h2⟩ := (h.2 3 (cA, .object RX1) rfl).2
  exact Option.some.inj (h1.symm.trans h2)
theorem zmet_c {S : Type} {l : Launch} {y : MethodName} {ws ws' : List Cond} {rm : Room} {av : List Value} {D : va_G} {T : List (ClassId × FieldType)} {w : va_W} {w1 : S → va_W} {sz mc ms : Nat} {cc : ByteArray} {maxL : Nat} (hy : plainName y.cls = true) (hw : ws = Cond.code y cc maxL none :: ws') (hlen : (lg_sl av).length ≤ maxL) (hn : y.name = "<init>") (_ : rm.cells = rm.cells)
    (body : ∀ (p : Program) (e : Env) (s : State) (m : MethodId) (args : Array Value) (below : List Frame) (meth : Method) (c : Code) (R : Room) (Q : State → Prop) (A : Nat → Prop) (ls : Array Slot), p.tables.exec = Jvm.exec → c.code = cc → (∀ w ∈ ws, w.before args s = true) → s.vm.findClass y.cls = some m.cls → c.maxLocals = maxL → meth.name = "<init>" → va_K D vwCl T s → va_P D vwCl w s.heap → va_D A w → zEnv A s s.heap → (∀ q : Nat, s.heap.size ≤ q → A q) → va_S A s.heap s.heap [] → rm.frames ≤ R.frames → rm.locals ≤ R.locals → rm.cells ≤ R.cells → rm.slots ≤ R.slots → lv_has ls maxL (lv_args 0 av) →
      (∀ {H : Heap} {locs : List Loc} {pc : Nat} {ls : Array Slot} (u : S), va_P D vwCl (w1 u) H → va_D A (w1 u) → va_S A s.heap H locs → decode cc pc = .ok (.return_, 1) → W p l e R s m args below meth c H locs mc ms Q (F0 m pc ls [])) →
      W p l e R s m args below meth c s.heap [] 0 0 Q (F0 m 0 ls [])) : Met l y ws rm (va_Pc av (zPre D T w sz)) (va_Qv (fun (_ : S) => True) (fun u => zPost D T (w1 u) (va_A w sz)) (va_A w sz)) mc ms (va_A w sz) := by
  refine Met.ofW (cc := cc) (maxL := maxL) (ret := none) hy hw ?_
  intro p e s m args below meth c s₁ B hml hv
  obtain ⟨rfl, hsz, hP, hK, hD0, hE⟩ := hv
  have hx := B.exec
  have hb := B.bytes
  have hr := B.returns
  have hts := atoms_spec (ws := ws) B.pre
  have hown : s.vm.findClass y.cls = some m.cls := findClass_of_methodNamed B.named
  have hlocks := B.notSynchronized
  have hin : meth.name = "<init>" := (name_of_methodNamed B.named B.method).1.trans hn
  subst hsz
  have hD := hD0.self (sz := s.heap.size)
  generalize hAe : va_A w s.heap.size = A at hD hE ⊢
  have hA : ∀ q : Nat, s.heap.size ≤ q → A q := fun q h => by rw [← hAe]; exact Or.inr h
  have hl := lv_entry av (n := maxL) hlen
  rw [lg_entry_eq]
  refine body p e s m av.toArray below meth c (headSpec ws rm).room _ A _ hx hb hts hown hml hin hK hP hD hE hA va_S.rf (Nat.le_refl _) (Nat.le_refl _) (Nat.le_refl _) (Nat.le_refl _) hl ?_
  intro H locs pc ls u hP hD hS hd
  exact W.vret hx hb hr (fun t ht hW => ⟨⟨u, rfl, trivial, zpost hP hK hD ht hW⟩, hS.F ht⟩) hS.2.2 hd hlocks
