/-! ===== the words of the document ===== -/
section RIM
variable {p : Program} {l : Launch} {e : Env} {R : Room} {s : State} {m : MethodId} {args : Array Value} {below : List Frame} {meth : Method} {c : Code} {H : Heap} {locs : List Loc} {cells slots : Nat} {Q : State → Prop}
variable {pc : Nat} {ls : Array Slot} {rest : List Value}
theorem ri_min {x y : Int} (hr : -2147483648 ≤ x ∧ x < 2147483648 ∧ -2147483648 ≤ y ∧ y < 2147483648) (k : ∀ q : Int, (q ≤ x ∧ q ≤ y ∧ (q = x ∨ q = y)) → W p l e R s m args below meth c H locs cells slots Q (F0 m pc ls (.int (iI q) :: rest))) : W p l e R s m args below meth c H locs cells slots Q (F0 m pc ls (.int (if iI y < iI x then iI y else iI x) :: rest)) := by
  have h := iI_lt hr.2.2 ⟨hr.1, hr.2.1⟩
  by_cases hc : iI y < iI x
  · rw [if_pos hc]
    exact k y (by have := h.mp hc; omega)
  · rw [if_neg hc]
    exact k x (by have : ¬ y < x := fun q => hc (h.mpr q); omega)
theorem ri_max {x y : Int} (hr : -2147483648 ≤ x ∧ x < 2147483648 ∧ -2147483648 ≤ y ∧ y < 2147483648) (k : ∀ q : Int, (x ≤ q ∧ y ≤ q ∧ (q = x ∨ q = y)) → W p l e R s m args below meth c H locs cells slots Q (F0 m pc ls (.int (iI q) :: rest))) : W p l e R s m args below meth c H locs cells slots Q (F0 m pc ls (.int (if iI x < iI y then iI y else iI x) :: rest)) := by
  have h := iI_lt ⟨hr.1, hr.2.1⟩ hr.2.2
  by_cases hc : iI x < iI y
  · rw [if_pos hc]
    exact k y (by have := h.mp hc; omega)
  · rw [if_neg hc]
    exact k x (by have : ¬ x < y := fun q => hc (h.mpr q); omega)
theorem ri_abs {x : Int} (hr : -2147483648 < x ∧ x < 2147483648) (k : ∀ q : Int, (0 ≤ q ∧ (q = x ∨ q = -x)) → W p l e R s m args below meth c H locs cells slots Q (F0 m pc ls (.int (iI q) :: rest))) : W p l e R s m args below meth c H locs cells slots Q (F0 m pc ls (.int (if 0 ≤ iI x then iI x else 0 - iI x) :: rest)) := by
  have h : (0 : Int32) ≤ iI x ↔ 0 ≤ x := iI_le (a := 0) (by omega) (by omega)
  by_cases hc : (0 : Int32) ≤ iI x
  · rw [if_pos hc]
    exact k x (by have := h.mp hc; omega)
  · rw [if_neg hc]
    have h1 : ¬ 0 ≤ x := fun q => hc (h.mpr q)
    have h2 : (0 : Int32) - iI x = iI (-x) := by
      have h3 : iI 0 - iI x = iI (0 - x) := iI_sub 0 x
      rw [show (0 : Int) - x = -x by omega] at h3
      exact h3
    rw [h2]
    exact k (-x) (by omega)
end RIM
theorem bp_iff {P P2 : Prop} : bp P = bp P2 ↔ (P ↔ P2) := ⟨fun h => ⟨fun q => bp_1.mp (by rw [← h]; exact bp_t q), fun q => bp_1.mp (by rw [h]; exact bp_t q)⟩, bp_c⟩
/-- what holds of the class's cells at all times -/
def XInv (g : Nat → Nat → Int) : Prop :=
  (∀ j, j < 2880 → 0 ≤ g 2 j ∧ g 2 j ≤ 255) ∧ (∀ j, j < 45 → g 3 j = 0 ∨ g 3 j = 1) ∧ (∀ j, j < 5 → g 3 j = 1) ∧
  (∀ j, j < 5 → 0 ≤ g 5 j ∧ g 5 j ≤ g 7 j ∧ g 7 j ≤ 8 ∧ 0 ≤ g 6 j ∧ g 6 j ≤ g 8 j ∧ g 8 j ≤ 8) ∧
  (∀ j, j < 5 → -8 ≤ g 10 j ∧ g 10 j ≤ 8 ∧ -8 ≤ g 11 j ∧ g 11 j ≤ 8 ∧ -8 ≤ g 12 j ∧ g 12 j ≤ 16 ∧ -8 ≤ g 13 j ∧ g 13 j ≤ 16) ∧
  (∀ j, j < 5 → 0 ≤ g 16 j ∧ g 16 j ≤ 10)
def RInv (g : Nat → Nat → Int) : Prop := ∀ j, j < 5 → (-100 ≤ g 1 j ∧ g 1 j ≤ 100) ∧ (-100 ≤ g 2 j ∧ g 2 j ≤ 100) ∧ (-100 ≤ g 3 j ∧ g 3 j ≤ 100) ∧ (-100 ≤ g 4 j ∧ g 4 j ≤ 100)
theorem xr_parts {g : Nat → Nat → Int} (h : XInv g) : RInv (fun i => g (4 + i)) := fun j hj => by
  have := h.2.2.2.1 j hj
  show (-100 ≤ g 5 j ∧ g 5 j ≤ 100) ∧ (-100 ≤ g 6 j ∧ g 6 j ≤ 100) ∧ (-100 ≤ g 7 j ∧ g 7 j ≤ 100) ∧ (-100 ≤ g 8 j ∧ g 8 j ≤ 100)
  omega
theorem xr_masks {g : Nat → Nat → Int} (h : XInv g) : RInv (fun i => g (9 + i)) := fun j hj => by
  have := h.2.2.2.2.1 j hj
  show (-100 ≤ g 10 j ∧ g 10 j ≤ 100) ∧ (-100 ≤ g 11 j ∧ g 11 j ≤ 100) ∧ (-100 ≤ g 12 j ∧ g 12 j ≤ 100) ∧ (-100 ≤ g 13 j ∧ g 13 j ≤ 100)
  omega
/-- two slots hold the same: both nothing, or the same cells -/
def sameP (f h : Nat → Int) (one other : Int) : Prop := (h one.toNat = 1 ↔ h other.toNat = 1) ∧ (h one.toNat = 1 → ∀ k : Int, 0 ≤ k → k < 64 → f (one * 64 + k).toNat = f (other * 64 + k).toNat)
