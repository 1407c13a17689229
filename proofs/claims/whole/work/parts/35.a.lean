/-! pure: how many bits, all jumps as a list -/
def ypop (x : Int32) : Int32 := (List.range 12).foldl (fun b k => b + ((x >>> (nI k &&& 31)) &&& (1 : Int32))) 0
theorem y_size (x : Int32) : fX6_size x = some (ypop x) := by
  unfold fX6_size
  refine (zb1_t (a0 := ypop x) ?_ _).trans rfl
  refine zd2 (fun k b j => b = (List.range k).foldl (fun b k => b + ((x >>> (nI k &&& 31)) &&& (1 : Int32))) 0 ∧ j = nI k) 12 ?_ ?_ 0 (Nat.zero_le _) ⟨rfl, rfl⟩
  · rintro k b j hk ⟨rfl, rfl⟩
    refine Or.inl ⟨_, _, ?_, rfl, rfl⟩
    rw [if_neg (y12g hk), zlt_e, nI_1, List.range_succ, List.foldl_append]
    rfl
  · rintro b j ⟨rfl, rfl⟩
    rw [if_pos y12p]
    rfl
noncomputable def ybchk (i : Nat) : Bool := (List.range 64).all (fun j => decide (fJ6_bitCount_0f7a4 (nI (64 * i + j)) = some (ypop (nI (64 * i + j)))))
theorem ybchk_all : (List.range 64).all ybchk = true := by decide +kernel
theorem y_bits {m : Nat} (h : m < 4096) : fJ6_bitCount_0f7a4 (nI m) = some (ypop (nI m)) := by
  have h1 := List.all_eq_true.mp ybchk_all (m / 64) (List.mem_range.mpr (by omega))
  have h2 := of_decide_eq_true (List.all_eq_true.mp h1 (m % 64) (List.mem_range.mpr (by omega)))
  rw [show 64 * (m / 64) + m % 64 = m by omega] at h2
  exact h2
def yachk (t m : Nat) : Bool := decide ((nI m ||| ((1 : Int32) <<< (nI t &&& 31))) = nI (m + 2 ^ t)) && decide (ypop (nI (m + 2 ^ t)) = ypop (nI m) + 1)
theorem yachk_all : (List.range 12).all (fun t => (List.range (2 ^ t)).all (yachk t)) = true := by decide +kernel
theorem yachk_ok {t m : Nat} (ht : t < 12) (hm : m < 2 ^ t) : (nI m ||| ((1 : Int32) <<< (nI t &&& 31))) = nI (m + 2 ^ t) ∧ ypop (nI (m + 2 ^ t)) = ypop (nI m) + 1 := by
  have h1 := List.all_eq_true.mp (List.all_eq_true.mp yachk_all t (List.mem_range.mpr ht)) m (List.mem_range.mpr hm)
  unfold yachk at h1
  rw [Bool.and_eq_true, decide_eq_true_eq, decide_eq_true_eq] at h1
  exact h1
