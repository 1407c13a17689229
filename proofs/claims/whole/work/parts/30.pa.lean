/-! pure: numbers, loops -/
def yb (b : Bool) : Int32 := if b = true then 1 else 0
theorem yb_t : yb true = 1 := rfl
theorem yb_f : yb false = 0 := rfl
theorem yb_1 {b : Bool} : yb b = 1 ↔ b = true := by cases b <;> decide
theorem yb_0 {b : Bool} : yb b = 0 ↔ b = false := by cases b <;> decide
theorem y_zin {k N : Nat} (h : k < N) (hN : N < 2 ^ 31) : zin (nI k) N = true := by
  unfold zin
  rw [nI_toInt (by omega)]
  exact decide_eq_true ⟨by omega, by omega⟩
theorem y_zinE {x : Int32} {N : Nat} (h : zin x N = true) (hN : N < 2 ^ 31) : ∃ k, k < N ∧ x = nI k := vp_in_of (zin_s h) hN
theorem y_zin0 {x : Int32} {N : Nat} (h : zin x N = false) : x.toInt < 0 ∨ (N : Int) ≤ x.toInt := by
  unfold zin at h
  have := of_decide_eq_false h
  omega
theorem y_zin1 {x : Int32} {N : Nat} (h : zin x N = true) : 0 ≤ x.toInt ∧ x.toInt < (N : Int) := of_decide_eq_true h
theorem y_zinK {k N : Nat} (hk : k < 2 ^ 31) (h : ¬ k < N) : zin (nI k) N = false := by
  unfold zin
  rw [nI_toInt hk]
  exact decide_eq_false (by omega)
theorem y_zinm {N : Nat} : zin (-1) N = false := decide_eq_false (by intro h; have : (-1 : Int32).toInt = -1 := rfl; omega)
theorem y_nIm (k : Nat) (hk : k < 2 ^ 31) : ¬ nI k = -1 := by
  intro h
  have h1 : (nI k).toInt = (-1 : Int32).toInt := by rw [h]
  rw [nI_toInt hk] at h1
  have : (-1 : Int32).toInt = -1 := rfl
  omega
theorem y_mnI (k : Nat) (hk : k < 2 ^ 31) : ¬ (-1 : Int32) = nI k := fun h => y_nIm k hk h.symm
theorem y_lt0 {k : Nat} (hk : k < 2 ^ 31) : ¬ nI k < 0 := nI_pos hk
theorem y_i {a b : Nat} (ha : a < 2 ^ 31) (hb : b < 2 ^ 31) (h : nI a = nI b) : a = b := (nI_eq ha hb).mp h
theorem zf1 {A0 ρ : Type} {f : A0 → Option ((A0) ⊕ ρ)} (I : Nat → A0 → Prop) (R : ρ → Prop) (N : Nat) (hs : ∀ k a0, k < N → I k a0 → (∃ b0, f a0 = some (.inl b0) ∧ I (k + 1) b0) ∨ ∃ r, f a0 = some (.inr r) ∧ R r) (hr : ∀ a0, I N a0 → ∃ r, f a0 = some (.inr r) ∧ R r) (k : Nat) (hk : k ≤ N) {a0 : A0} (h0 : I k a0) : ∃ r, zi1 f a0 = some r ∧ R r := by
  have key : ∀ (m k : Nat) (a0 : A0), k + m = N → I k a0 → ∃ r, zi1 f a0 = some r ∧ R r := by
    intro m
    induction m with
    | zero =>
      intro k a0 hk h
      have hk : k = N := by omega
      subst hk
      obtain ⟨r, h1, h2⟩ := hr a0 h
      exact ⟨r, zi1_r h1, h2⟩
    | succ m ih =>
      intro k a0 hk h
      rcases hs k a0 (by omega) h with ⟨b0, h1, h2⟩ | ⟨r, h1, h2⟩
      · obtain ⟨r, h3, h4⟩ := ih (k + 1) b0 (by omega) h2
        exact ⟨r, zi1_l h1 h3, h4⟩
      · exact ⟨r, zi1_r h1, h2⟩
  exact key (N - k) k a0 (by omega) h0
theorem zf2 {A0 A1 ρ : Type} {f : A0 → A1 → Option ((A0 × A1) ⊕ ρ)} (I : Nat → A0 → A1 → Prop) (R : ρ → Prop) (N : Nat) (hs : ∀ k a0 a1, k < N → I k a0 a1 → (∃ b0 b1, f a0 a1 = some (.inl (b0, b1)) ∧ I (k + 1) b0 b1) ∨ ∃ r, f a0 a1 = some (.inr r) ∧ R r) (hr : ∀ a0 a1, I N a0 a1 → ∃ r, f a0 a1 = some (.inr r) ∧ R r) (k : Nat) (hk : k ≤ N) {a0 : A0} {a1 : A1} (h0 : I k a0 a1) : ∃ r, zi2 f a0 a1 = some r ∧ R r := by
  have key : ∀ (m k : Nat) (a0 : A0) (a1 : A1), k + m = N → I k a0 a1 → ∃ r, zi2 f a0 a1 = some r ∧ R r := by
    intro m
    induction m with
    | zero =>
      intro k a0 a1 hk h
      have hk : k = N := by omega
      subst hk
      obtain ⟨r, h1, h2⟩ := hr a0 a1 h
      exact ⟨r, zi2_r h1, h2⟩
    | succ m ih =>
      intro k a0 a1 hk h
      rcases hs k a0 a1 (by omega) h with ⟨b0, b1, h1, h2⟩ | ⟨r, h1, h2⟩
      · obtain ⟨r, h3, h4⟩ := ih (k + 1) b0 b1 (by omega) h2
        exact ⟨r, zi2_l h1 h3, h4⟩
      · exact ⟨r, zi2_r h1, h2⟩
  exact key (N - k) k a0 a1 (by omega) h0
theorem zf3 {A0 A1 A2 ρ : Type} {f : A0 → A1 → A2 → Option ((A0 × A1 × A2) ⊕ ρ)} (I : Nat → A0 → A1 → A2 → Prop) (R : ρ → Prop) (N : Nat) (hs : ∀ k a0 a1 a2, k < N → I k a0 a1 a2 → (∃ b0 b1 b2, f a0 a1 a2 = some (.inl (b0, b1, b2)) ∧ I (k + 1) b0 b1 b2) ∨ ∃ r, f a0 a1 a2 = some (.inr r) ∧ R r) (hr : ∀ a0 a1 a2, I N a0 a1 a2 → ∃ r, f a0 a1 a2 = some (.inr r) ∧ R r) (k : Nat) (hk : k ≤ N) {a0 : A0} {a1 : A1} {a2 : A2} (h0 : I k a0 a1 a2) : ∃ r, zi3 f a0 a1 a2 = some r ∧ R r := by
  have key : ∀ (m k : Nat) (a0 : A0) (a1 : A1) (a2 : A2), k + m = N → I k a0 a1 a2 → ∃ r, zi3 f a0 a1 a2 = some r ∧ R r := by
    intro m
    induction m with
    | zero =>
      intro k a0 a1 a2 hk h
      have hk : k = N := by omega
      subst hk
      obtain ⟨r, h1, h2⟩ := hr a0 a1 a2 h
      exact ⟨r, zi3_r h1, h2⟩
    | succ m ih =>
      intro k a0 a1 a2 hk h
      rcases hs k a0 a1 a2 (by omega) h with ⟨b0, b1, b2, h1, h2⟩ | ⟨r, h1, h2⟩
      · obtain ⟨r, h3, h4⟩ := ih (k + 1) b0 b1 b2 (by omega) h2
        exact ⟨r, zi3_l h1 h3, h4⟩
      · exact ⟨r, zi3_r h1, h2⟩
  exact key (N - k) k a0 a1 a2 (by omega) h0
theorem zf4 {A0 A1 A2 A3 ρ : Type} {f : A0 → A1 → A2 → A3 → Option ((A0 × A1 × A2 × A3) ⊕ ρ)} (I : Nat → A0 → A1 → A2 → A3 → Prop) (R : ρ → Prop) (N : Nat) (hs : ∀ k a0 a1 a2 a3, k < N → I k a0 a1 a2 a3 → (∃ b0 b1 b2 b3, f a0 a1 a2 a3 = some (.inl (b0, b1, b2, b3)) ∧ I (k + 1) b0 b1 b2 b3) ∨ ∃ r, f a0 a1 a2 a3 = some (.inr r) ∧ R r) (hr : ∀ a0 a1 a2 a3, I N a0 a1 a2 a3 → ∃ r, f a0 a1 a2 a3 = some (.inr r) ∧ R r) (k : Nat) (hk : k ≤ N) {a0 : A0} {a1 : A1} {a2 : A2} {a3 : A3} (h0 : I k a0 a1 a2 a3) : ∃ r, zi4 f a0 a1 a2 a3 = some r ∧ R r := by
  have key : ∀ (m k : Nat) (a0 : A0) (a1 : A1) (a2 : A2) (a3 : A3), k + m = N → I k a0 a1 a2 a3 → ∃ r, zi4 f a0 a1 a2 a3 = some r ∧ R r := by
    intro m
    induction m with
    | zero =>
      intro k a0 a1 a2 a3 hk h
      have hk : k = N := by omega
      subst hk
      obtain ⟨r, h1, h2⟩ := hr a0 a1 a2 a3 h
      exact ⟨r, zi4_r h1, h2⟩
    | succ m ih =>
      intro k a0 a1 a2 a3 hk h
      rcases hs k a0 a1 a2 a3 (by omega) h with ⟨b0, b1, b2, b3, h1, h2⟩ | ⟨r, h1, h2⟩
      · obtain ⟨r, h3, h4⟩ := ih (k + 1) b0 b1 b2 b3 (by omega) h2
        exact ⟨r, zi4_l h1 h3, h4⟩
      · exact ⟨r, zi4_r h1, h2⟩
  exact key (N - k) k a0 a1 a2 a3 (by omega) h0
theorem zf5 {A0 A1 A2 A3 A4 ρ : Type} {f : A0 → A1 → A2 → A3 → A4 → Option ((A0 × A1 × A2 × A3 × A4) ⊕ ρ)} (I : Nat → A0 → A1 → A2 → A3 → A4 → Prop) (R : ρ → Prop) (N : Nat) (hs : ∀ k a0 a1 a2 a3 a4, k < N → I k a0 a1 a2 a3 a4 → (∃ b0 b1 b2 b3 b4, f a0 a1 a2 a3 a4 = some (.inl (b0, b1, b2, b3, b4)) ∧ I (k + 1) b0 b1 b2 b3 b4) ∨ ∃ r, f a0 a1 a2 a3 a4 = some (.inr r) ∧ R r) (hr : ∀ a0 a1 a2 a3 a4, I N a0 a1 a2 a3 a4 → ∃ r, f a0 a1 a2 a3 a4 = some (.inr r) ∧ R r) (k : Nat) (hk : k ≤ N) {a0 : A0} {a1 : A1} {a2 : A2} {a3 : A3} {a4 : A4} (h0 : I k a0 a1 a2 a3 a4) : ∃ r, zi5 f a0 a1 a2 a3 a4 = some r ∧ R r := by
  have key : ∀ (m k : Nat) (a0 : A0) (a1 : A1) (a2 : A2) (a3 : A3) (a4 : A4), k + m = N → I k a0 a1 a2 a3 a4 → ∃ r, zi5 f a0 a1 a2 a3 a4 = some r ∧ R r := by
    intro m
    induction m with
    | zero =>
      intro k a0 a1 a2 a3 a4 hk h
      have hk : k = N := by omega
      subst hk
      obtain ⟨r, h1, h2⟩ := hr a0 a1 a2 a3 a4 h
      exact ⟨r, zi5_r h1, h2⟩
    | succ m ih =>
      intro k a0 a1 a2 a3 a4 hk h
      rcases hs k a0 a1 a2 a3 a4 (by omega) h with ⟨b0, b1, b2, b3, b4, h1, h2⟩ | ⟨r, h1, h2⟩
      · obtain ⟨r, h3, h4⟩ := ih (k + 1) b0 b1 b2 b3 b4 (by omega) h2
        exact ⟨r, zi5_l h1 h3, h4⟩
      · exact ⟨r, zi5_r h1, h2⟩
  exact key (N - k) k a0 a1 a2 a3 a4 (by omega) h0
theorem zf6 {A0 A1 A2 A3 A4 A5 ρ : Type} {f : A0 → A1 → A2 → A3 → A4 → A5 → Option ((A0 × A1 × A2 × A3 × A4 × A5) ⊕ ρ)} (I : Nat → A0 → A1 → A2 → A3 → A4 → A5 → Prop) (R : ρ → Prop) (N : Nat) (hs : ∀ k a0 a1 a2 a3 a4 a5, k < N → I k a0 a1 a2 a3 a4 a5 → (∃ b0 b1 b2 b3 b4 b5, f a0 a1 a2 a3 a4 a5 = some (.inl (b0, b1, b2, b3, b4, b5)) ∧ I (k + 1) b0 b1 b2 b3 b4 b5) ∨ ∃ r, f a0 a1 a2 a3 a4 a5 = some (.inr r) ∧ R r) (hr : ∀ a0 a1 a2 a3 a4 a5, I N a0 a1 a2 a3 a4 a5 → ∃ r, f a0 a1 a2 a3 a4 a5 = some (.inr r) ∧ R r) (k : Nat) (hk : k ≤ N) {a0 : A0} {a1 : A1} {a2 : A2} {a3 : A3} {a4 : A4} {a5 : A5} (h0 : I k a0 a1 a2 a3 a4 a5) : ∃ r, zi6 f a0 a1 a2 a3 a4 a5 = some r ∧ R r := by
  have key : ∀ (m k : Nat) (a0 : A0) (a1 : A1) (a2 : A2) (a3 : A3) (a4 : A4) (a5 : A5), k + m = N → I k a0 a1 a2 a3 a4 a5 → ∃ r, zi6 f a0 a1 a2 a3 a4 a5 = some r ∧ R r := by
    intro m
    induction m with
    | zero =>
      intro k a0 a1 a2 a3 a4 a5 hk h
      have hk : k = N := by omega
      subst hk
      obtain ⟨r, h1, h2⟩ := hr a0 a1 a2 a3 a4 a5 h
      exact ⟨r, zi6_r h1, h2⟩
    | succ m ih =>
      intro k a0 a1 a2 a3 a4 a5 hk h
      rcases hs k a0 a1 a2 a3 a4 a5 (by omega) h with ⟨b0, b1, b2, b3, b4, b5, h1, h2⟩ | ⟨r, h1, h2⟩
      · obtain ⟨r, h3, h4⟩ := ih (k + 1) b0 b1 b2 b3 b4 b5 (by omega) h2
        exact ⟨r, zi6_l h1 h3, h4⟩
      · exact ⟨r, zi6_r h1, h2⟩
  exact key (N - k) k a0 a1 a2 a3 a4 a5 (by omega) h0
theorem zd1 {A0 ρ : Type} {f : A0 → Option ((A0) ⊕ ρ)} {z : ρ} (I : Nat → A0 → Prop) (N : Nat) (hs : ∀ k a0, k < N → I k a0 → (∃ b0, f a0 = some (.inl b0) ∧ I (k + 1) b0) ∨ f a0 = some (.inr z)) (hr : ∀ a0, I N a0 → f a0 = some (.inr z)) (k : Nat) (hk : k ≤ N) {a0 : A0} (h0 : I k a0) : zi1 f a0 = some z := by
  obtain ⟨r, h1, h2⟩ := zf1 I (fun r => r = z) N (fun k a0 hk h => (hs k a0 hk h).imp id (fun q => ⟨z, q, rfl⟩)) (fun a0 h => ⟨z, hr a0 h, rfl⟩) k hk h0
  rw [h1, h2]
theorem zb1_x {A0 ρ : Type} {o : Option (A0)} {k : A0 → Option ρ} {R : ρ → Prop} (P : A0 → Prop) (h : ∃ z, o = some z ∧ P z) (hk : ∀ a0, P a0 → ∃ r, k a0 = some r ∧ R r) : ∃ r, zb1 o k = some r ∧ R r := by
  obtain ⟨z, h1, h2⟩ := h
  rw [h1]
  exact hk z h2
theorem zd2 {A0 A1 ρ : Type} {f : A0 → A1 → Option ((A0 × A1) ⊕ ρ)} {z : ρ} (I : Nat → A0 → A1 → Prop) (N : Nat) (hs : ∀ k a0 a1, k < N → I k a0 a1 → (∃ b0 b1, f a0 a1 = some (.inl (b0, b1)) ∧ I (k + 1) b0 b1) ∨ f a0 a1 = some (.inr z)) (hr : ∀ a0 a1, I N a0 a1 → f a0 a1 = some (.inr z)) (k : Nat) (hk : k ≤ N) {a0 : A0} {a1 : A1} (h0 : I k a0 a1) : zi2 f a0 a1 = some z := by
  obtain ⟨r, h1, h2⟩ := zf2 I (fun r => r = z) N (fun k a0 a1 hk h => (hs k a0 a1 hk h).imp id (fun q => ⟨z, q, rfl⟩)) (fun a0 a1 h => ⟨z, hr a0 a1 h, rfl⟩) k hk h0
  rw [h1, h2]
theorem zb2_x {A0 A1 ρ : Type} {o : Option (A0 × A1)} {k : A0 → A1 → Option ρ} {R : ρ → Prop} (P : A0 × A1 → Prop) (h : ∃ z, o = some z ∧ P z) (hk : ∀ a0 a1, P (a0, a1) → ∃ r, k a0 a1 = some r ∧ R r) : ∃ r, zb2 o k = some r ∧ R r := by
  obtain ⟨z, h1, h2⟩ := h
  rw [h1]
  exact hk z.1 z.2 h2
theorem zd3 {A0 A1 A2 ρ : Type} {f : A0 → A1 → A2 → Option ((A0 × A1 × A2) ⊕ ρ)} {z : ρ} (I : Nat → A0 → A1 → A2 → Prop) (N : Nat) (hs : ∀ k a0 a1 a2, k < N → I k a0 a1 a2 → (∃ b0 b1 b2, f a0 a1 a2 = some (.inl (b0, b1, b2)) ∧ I (k + 1) b0 b1 b2) ∨ f a0 a1 a2 = some (.inr z)) (hr : ∀ a0 a1 a2, I N a0 a1 a2 → f a0 a1 a2 = some (.inr z)) (k : Nat) (hk : k ≤ N) {a0 : A0} {a1 : A1} {a2 : A2} (h0 : I k a0 a1 a2) : zi3 f a0 a1 a2 = some z := by
  obtain ⟨r, h1, h2⟩ := zf3 I (fun r => r = z) N (fun k a0 a1 a2 hk h => (hs k a0 a1 a2 hk h).imp id (fun q => ⟨z, q, rfl⟩)) (fun a0 a1 a2 h => ⟨z, hr a0 a1 a2 h, rfl⟩) k hk h0
  rw [h1, h2]
theorem zb3_x {A0 A1 A2 ρ : Type} {o : Option (A0 × A1 × A2)} {k : A0 → A1 → A2 → Option ρ} {R : ρ → Prop} (P : A0 × A1 × A2 → Prop) (h : ∃ z, o = some z ∧ P z) (hk : ∀ a0 a1 a2, P (a0, a1, a2) → ∃ r, k a0 a1 a2 = some r ∧ R r) : ∃ r, zb3 o k = some r ∧ R r := by
  obtain ⟨z, h1, h2⟩ := h
  rw [h1]
  exact hk z.1 z.2.1 z.2.2 h2
theorem zd4 {A0 A1 A2 A3 ρ : Type} {f : A0 → A1 → A2 → A3 → Option ((A0 × A1 × A2 × A3) ⊕ ρ)} {z : ρ} (I : Nat → A0 → A1 → A2 → A3 → Prop) (N : Nat) (hs : ∀ k a0 a1 a2 a3, k < N → I k a0 a1 a2 a3 → (∃ b0 b1 b2 b3, f a0 a1 a2 a3 = some (.inl (b0, b1, b2, b3)) ∧ I (k + 1) b0 b1 b2 b3) ∨ f a0 a1 a2 a3 = some (.inr z)) (hr : ∀ a0 a1 a2 a3, I N a0 a1 a2 a3 → f a0 a1 a2 a3 = some (.inr z)) (k : Nat) (hk : k ≤ N) {a0 : A0} {a1 : A1} {a2 : A2} {a3 : A3} (h0 : I k a0 a1 a2 a3) : zi4 f a0 a1 a2 a3 = some z := by
  obtain ⟨r, h1, h2⟩ := zf4 I (fun r => r = z) N (fun k a0 a1 a2 a3 hk h => (hs k a0 a1 a2 a3 hk h).imp id (fun q => ⟨z, q, rfl⟩)) (fun a0 a1 a2 a3 h => ⟨z, hr a0 a1 a2 a3 h, rfl⟩) k hk h0
  rw [h1, h2]
theorem zb4_x {A0 A1 A2 A3 ρ : Type} {o : Option (A0 × A1 × A2 × A3)} {k : A0 → A1 → A2 → A3 → Option ρ} {R : ρ → Prop} (P : A0 × A1 × A2 × A3 → Prop) (h : ∃ z, o = some z ∧ P z) (hk : ∀ a0 a1 a2 a3, P (a0, a1, a2, a3) → ∃ r, k a0 a1 a2 a3 = some r ∧ R r) : ∃ r, zb4 o k = some r ∧ R r := by
  obtain ⟨z, h1, h2⟩ := h
  rw [h1]
  exact hk z.1 z.2.1 z.2.2.1 z.2.2.2 h2
theorem zd5 {A0 A1 A2 A3 A4 ρ : Type} {f : A0 → A1 → A2 → A3 → A4 → Option ((A0 × A1 × A2 × A3 × A4) ⊕ ρ)} {z : ρ} (I : Nat → A0 → A1 → A2 → A3 → A4 → Prop) (N : Nat) (hs : ∀ k a0 a1 a2 a3 a4, k < N → I k a0 a1 a2 a3 a4 → (∃ b0 b1 b2 b3 b4, f a0 a1 a2 a3 a4 = some (.inl (b0, b1, b2, b3, b4)) ∧ I (k + 1) b0 b1 b2 b3 b4) ∨ f a0 a1 a2 a3 a4 = some (.inr z)) (hr : ∀ a0 a1 a2 a3 a4, I N a0 a1 a2 a3 a4 → f a0 a1 a2 a3 a4 = some (.inr z)) (k : Nat) (hk : k ≤ N) {a0 : A0} {a1 : A1} {a2 : A2} {a3 : A3} {a4 : A4} (h0 : I k a0 a1 a2 a3 a4) : zi5 f a0 a1 a2 a3 a4 = some z := by
  obtain ⟨r, h1, h2⟩ := zf5 I (fun r => r = z) N (fun k a0 a1 a2 a3 a4 hk h => (hs k a0 a1 a2 a3 a4 hk h).imp id (fun q => ⟨z, q, rfl⟩)) (fun a0 a1 a2 a3 a4 h => ⟨z, hr a0 a1 a2 a3 a4 h, rfl⟩) k hk h0
  rw [h1, h2]
theorem zb5_x {A0 A1 A2 A3 A4 ρ : Type} {o : Option (A0 × A1 × A2 × A3 × A4)} {k : A0 → A1 → A2 → A3 → A4 → Option ρ} {R : ρ → Prop} (P : A0 × A1 × A2 × A3 × A4 → Prop) (h : ∃ z, o = some z ∧ P z) (hk : ∀ a0 a1 a2 a3 a4, P (a0, a1, a2, a3, a4) → ∃ r, k a0 a1 a2 a3 a4 = some r ∧ R r) : ∃ r, zb5 o k = some r ∧ R r := by
  obtain ⟨z, h1, h2⟩ := h
  rw [h1]
  exact hk z.1 z.2.1 z.2.2.1 z.2.2.2.1 z.2.2.2.2 h2
theorem zd6 {A0 A1 A2 A3 A4 A5 ρ : Type} {f : A0 → A1 → A2 → A3 → A4 → A5 → Option ((A0 × A1 × A2 × A3 × A4 × A5) ⊕ ρ)} {z : ρ} (I : Nat → A0 → A1 → A2 → A3 → A4 → A5 → Prop) (N : Nat) (hs : ∀ k a0 a1 a2 a3 a4 a5, k < N → I k a0 a1 a2 a3 a4 a5 → (∃ b0 b1 b2 b3 b4 b5, f a0 a1 a2 a3 a4 a5 = some (.inl (b0, b1, b2, b3, b4, b5)) ∧ I (k + 1) b0 b1 b2 b3 b4 b5) ∨ f a0 a1 a2 a3 a4 a5 = some (.inr z)) (hr : ∀ a0 a1 a2 a3 a4 a5, I N a0 a1 a2 a3 a4 a5 → f a0 a1 a2 a3 a4 a5 = some (.inr z)) (k : Nat) (hk : k ≤ N) {a0 : A0} {a1 : A1} {a2 : A2} {a3 : A3} {a4 : A4} {a5 : A5} (h0 : I k a0 a1 a2 a3 a4 a5) : zi6 f a0 a1 a2 a3 a4 a5 = some z := by
  obtain ⟨r, h1, h2⟩ := zf6 I (fun r => r = z) N (fun k a0 a1 a2 a3 a4 a5 hk h => (hs k a0 a1 a2 a3 a4 a5 hk h).imp id (fun q => ⟨z, q, rfl⟩)) (fun a0 a1 a2 a3 a4 a5 h => ⟨z, hr a0 a1 a2 a3 a4 a5 h, rfl⟩) k hk h0
  rw [h1, h2]
theorem zb6_x {A0 A1 A2 A3 A4 A5 ρ : Type} {o : Option (A0 × A1 × A2 × A3 × A4 × A5)} {k : A0 → A1 → A2 → A3 → A4 → A5 → Option ρ} {R : ρ → Prop} (P : A0 × A1 × A2 × A3 × A4 × A5 → Prop) (h : ∃ z, o = some z ∧ P z) (hk : ∀ a0 a1 a2 a3 a4 a5, P (a0, a1, a2, a3, a4, a5) → ∃ r, k a0 a1 a2 a3 a4 a5 = some r ∧ R r) : ∃ r, zb6 o k = some r ∧ R r := by
  obtain ⟨z, h1, h2⟩ := h
  rw [h1]
  exact hk z.1 z.2.1 z.2.2.1 z.2.2.2.1 z.2.2.2.2.1 z.2.2.2.2.2 h2
/-! pure: who stands where; how many are on the board -/
def yn : Nat → (Nat → Int32) → Int32 → Int32
  | 0, _, _ => -1
  | n + 1, h, q => if h n = q then nI n else yn n h q
def yc : Nat → (Nat → Int32) → Nat
  | 0, _ => 0
  | n + 1, h => yc n h + (if h n = -1 then 0 else 1)
theorem yn_cases (n : Nat) (h : Nat → Int32) (q : Int32) : (yn n h q = -1 ∧ ∀ p, p < n → h p ≠ q) ∨ ∃ p, p < n ∧ h p = q ∧ yn n h q = nI p := by
  induction n with
  | zero => exact Or.inl ⟨rfl, fun p hp => absurd hp (Nat.not_lt_zero p)⟩
  | succ n ih =>
    unfold yn
    by_cases c : h n = q
    · rw [if_pos c]; exact Or.inr ⟨n, Nat.lt_succ_self n, c, rfl⟩
    · rw [if_neg c]
      rcases ih with ⟨h1, h2⟩ | ⟨p, h1, h2, h3⟩
      · refine Or.inl ⟨h1, fun p hp => ?_⟩
        rcases Nat.lt_succ_iff_lt_or_eq.mp hp with q1 | q1
        · exact h2 p q1
        · subst q1; exact c
      · exact Or.inr ⟨p, Nat.lt_succ_of_lt h1, h2, h3⟩
theorem yn_none {n : Nat} {h : Nat → Int32} {q : Int32} (hn : ∀ p, p < n → h p ≠ q) : yn n h q = -1 := by
  rcases yn_cases n h q with ⟨h1, _⟩ | ⟨p, h1, h2, _⟩
  · exact h1
  · exact absurd h2 (hn p h1)
theorem yn_congr {n : Nat} {h h' : Nat → Int32} (e : ∀ p, p < n → h p = h' p) (q : Int32) : yn n h q = yn n h' q := by
  induction n with
  | zero => rfl
  | succ n ih => unfold yn; rw [e n (Nat.lt_succ_self n), ih (fun p hp => e p (Nat.lt_succ_of_lt hp))]
theorem yc_congr {n : Nat} {h h' : Nat → Int32} (e : ∀ p, p < n → h p = h' p) : yc n h = yc n h' := by
  induction n with
  | zero => rfl
  | succ n ih => unfold yc; rw [e n (Nat.lt_succ_self n), ih (fun p hp => e p (Nat.lt_succ_of_lt hp))]
theorem yc_le (n : Nat) (h : Nat → Int32) : yc n h ≤ n := by
  induction n with
  | zero => exact Nat.le_refl 0
  | succ n ih => unfold yc; split <;> omega
/-- where the pegs may be: off, or each at a place of its own -/
def yH (pl n : Nat) (h : Nat → Int32) : Prop := (∀ p, p < n → h p = -1 ∨ ∃ q, q < pl ∧ h p = nI q) ∧ ∀ p p', p < n → p' < n → h p = h p' → h p ≠ -1 → p = p'
theorem yn_some {pl n : Nat} {h : Nat → Int32} (hH : yH pl n h) {p : Nat} (hp : p < n) (hm : h p ≠ -1) : yn n h (h p) = nI p := by
  rcases yn_cases n h (h p) with ⟨_, h2⟩ | ⟨p', h1, h2, h3⟩
  · exact absurd rfl (h2 p hp)
  · rw [h3, hH.2 p' p h1 hp h2 (by rw [h2]; exact hm)]
theorem yc_off {n : Nat} {h : Nat → Int32} {p : Nat} (hp : p < n) (hm : h p ≠ -1) : yc n (upd h p (-1)) + 1 = yc n h := by
  induction n with
  | zero => exact absurd hp (Nat.not_lt_zero p)
  | succ n ih =>
    unfold yc
    by_cases e : n = p
    · subst e
      have : yc n (upd h n (-1)) = yc n h := yc_congr (fun k hk => by unfold upd; rw [if_neg (by omega)])
      rw [this]
      have e1 : upd h n (-1) n = -1 := by unfold upd; rw [if_pos rfl]
      rw [e1, if_pos rfl, if_neg hm]
    · have e1 : upd h p (-1) n = h n := by unfold upd; rw [if_neg e]
      have := ih (by omega)
      rw [e1]
      omega
theorem yc_on {n : Nat} {h : Nat → Int32} {p : Nat} (hp : p < n) (hm : h p = -1) {v : Int32} (hv : v ≠ -1) : yc n (upd h p v) = yc n h + 1 := by
  have e : upd (upd h p v) p (-1) = h := by
    funext k
    unfold upd
    by_cases c : k = p
    · rw [if_pos c, c, hm]
    · rw [if_neg c, if_neg c]
  have := yc_off (h := upd h p v) hp (by unfold upd; rw [if_pos rfl]; exact hv)
  rw [e] at this
  omega
theorem y_uu {f : Nat → Int32} {k : Nat} {v : Int32} : upd f k v k = v := by unfold upd; rw [if_pos rfl]
theorem y_un {f : Nat → Int32} {k j : Nat} {v : Int32} (h : j ≠ k) : upd f k v j = f j := by unfold upd; rw [if_neg h]
theorem y_vu {α : Type} {f : Nat → α} {k : Nat} {v : α} : va_up f k v k = v := by unfold va_up; rw [if_pos rfl]
theorem y_vn {α : Type} {f : Nat → α} {k j : Nat} {v : α} (h : j ≠ k) : va_up f k v j = f j := by unfold va_up; rw [if_neg h]
/-! pure: the small methods of the class -/
theorem y_has {r2 : Nat} {s : Nat → Int32} (h2 : s 2 = nI r2) (hr : r2 ≤ 12) (x : Int32) : fX0_has s x = some (yb (zin x r2)) := by
  unfold fX0_has yb zin
  rw [h2]
  have e0 : (0 : Int32).toInt = 0 := rfl
  have e1 : (12 : Int32).toInt = 12 := rfl
  simp only [Int32.lt_iff_toInt_lt, Int32.le_iff_toInt_le, nI_toInt (show r2 < 2 ^ 31 by omega), e0, e1]
  by_cases h : 0 ≤ x.toInt ∧ x.toInt < (r2 : Int)
  · rw [if_neg (by omega), if_neg (by omega), if_neg (by omega), if_pos (decide_eq_true h)]
  · rw [if_neg (c := decide _ = true) (by rw [decide_eq_true_eq]; exact h)]
    (repeat' split) <;> first | rfl | (exfalso; omega)
theorem y_isPeg {n : Nat} {s : Nat → Int32} (h2 : s 2 = nI n) (hn : n ≤ 8) (x : Int32) : fX4_isPeg s x = some (yb (zin x n)) := by
  unfold fX4_isPeg yb zin
  rw [h2]
  have e0 : (0 : Int32).toInt = 0 := rfl
  have e1 : (8 : Int32).toInt = 8 := rfl
  simp only [Int32.lt_iff_toInt_lt, Int32.le_iff_toInt_le, nI_toInt (show n < 2 ^ 31 by omega), e0, e1]
  by_cases h : 0 ≤ x.toInt ∧ x.toInt < (n : Int)
  · rw [if_neg (by omega), if_neg (by omega), if_neg (by omega), if_pos (decide_eq_true h)]
  · rw [if_neg (c := decide _ = true) (by rw [decide_eq_true_eq]; exact h)]
    (repeat' split) <;> first | rfl | (exfalso; omega)
theorem y_within (v lo hi : Int32) : fX6_within v lo hi = some (yb (decide (lo.toInt ≤ v.toInt ∧ v.toInt ≤ hi.toInt))) := by
  unfold fX6_within yb
  simp only [Int32.lt_iff_toInt_lt, Int32.le_iff_toInt_le]
  by_cases h : lo.toInt ≤ v.toInt ∧ v.toInt ≤ hi.toInt
  · rw [if_pos (decide_eq_true h)]
    (repeat' split) <;> first | rfl | (exfalso; omega)
  · rw [if_neg (c := decide _ = true) (by rw [decide_eq_true_eq]; exact h)]
    (repeat' split) <;> first | rfl | (exfalso; omega)
