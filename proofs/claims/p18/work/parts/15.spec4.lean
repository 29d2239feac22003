/-! ===== the public methods' words ===== -/
theorem aDs_sub {a : Nat → Nat} (h : aDs 17 a) (n : Nat) (hn : n + 5 ≤ 17) : aDs 5 (fun i => a (n + i)) := fun i j hi hj e => by
  have := h (n + i) (n + j) (by omega) (by omega) e
  omega
theorem updG_uu (g : Nat → Nat → Int) (n : Nat) (f h : Nat → Int) : updG (updG g n f) n h = updG g n h := by
  funext i
  unfold updG
  by_cases q : i = n
  · rw [if_pos q, if_pos q]
  · rw [if_neg q, if_neg q, if_neg q]
/-- painting, cell by cell: the cells behind k of them, and how many have changed -/
noncomputable def pst (f : Nat → Int) (t c r w sh : Int) : Nat → (Nat → Int) × Int
  | 0 => (f, 0)
  | k + 1 => (updI (pst f t c r w sh k).1 (t * 64 + (r + (k : Int) / w) * 8 + (c + (k : Int) % w)).toNat sh, (pst f t c r w sh k).2 + bp (¬ (pst f t c r w sh k).1 (t * 64 + (r + (k : Int) / w) * 8 + (c + (k : Int) % w)).toNat = sh))
theorem pst_ix {be ri w : Int} {k : Nat} (hk : (k : Int) = be * w + ri) (h : 0 ≤ ri ∧ ri < w) : (k : Int) / w = be ∧ (k : Int) % w = ri := by
  rw [hk, Int.add_comm]
  refine ⟨?_, ?_⟩
  · rw [Int.add_mul_ediv_right _ _ (by omega), Int.ediv_eq_zero_of_lt h.1 h.2]
    omega
  · rw [Int.add_mul_emod_self_right, Int.emod_eq_of_lt h.1 h.2]
theorem pst_s {f : Nat → Int} {t c r w sh be ri : Int} {k : Nat} (hk : (k : Int) = be * w + ri) (h : 0 ≤ ri ∧ ri < w) : pst f t c r w sh (k + 1) = (updI (pst f t c r w sh k).1 (t * 64 + (r + be) * 8 + (c + ri)).toNat sh, (pst f t c r w sh k).2 + bp (¬ (pst f t c r w sh k).1 (t * 64 + (r + be) * 8 + (c + ri)).toNat = sh)) := by
  show (updI (pst f t c r w sh k).1 (t * 64 + (r + (k : Int) / w) * 8 + (c + (k : Int) % w)).toNat sh, (pst f t c r w sh k).2 + bp (¬ (pst f t c r w sh k).1 (t * 64 + (r + (k : Int) / w) * 8 + (c + (k : Int) % w)).toNat = sh)) = _
  rw [(pst_ix hk h).1, (pst_ix hk h).2]
theorem pst_b {f : Nat → Int} {t c r w sh : Int} (hf : ∀ j, j < 2880 → 0 ≤ f j ∧ f j ≤ 255) (hs : 0 ≤ sh ∧ sh ≤ 255) (k : Nat) : ∀ j, j < 2880 → 0 ≤ (pst f t c r w sh k).1 j ∧ (pst f t c r w sh k).1 j ≤ 255 := by
  induction k with
  | zero => exact hf
  | succ k ih =>
    intro j hj
    show 0 ≤ updI (pst f t c r w sh k).1 _ sh j ∧ updI (pst f t c r w sh k).1 _ sh j ≤ 255
    unfold updI
    split
    · exact hs
    · exact ih j hj
theorem XInv_2 {g : Nat → Nat → Int} {f : Nat → Int} (h : XInv g) (hf : ∀ j, j < 2880 → 0 ≤ f j ∧ f j ≤ 255) : XInv (updG g 2 f) := ⟨hf, h.2.1, h.2.2.1, h.2.2.2.1, h.2.2.2.2.1, h.2.2.2.2.2⟩
theorem XInv_p4 {g : Nat → Nat → Int} {t lf tp w h : Int} (hI : XInv g) (ht : 0 ≤ t ∧ t ≤ 4) (h1 : 0 ≤ lf ∧ 0 ≤ w ∧ lf + w ≤ 8) (h2 : 0 ≤ tp ∧ 0 ≤ h ∧ tp + h ≤ 8) : XInv (putX 4 g t lf tp w h) := by
  refine ⟨hI.1, hI.2.1, hI.2.2.1, fun j hj => ?_, hI.2.2.2.2.1, hI.2.2.2.2.2⟩
  show 0 ≤ updI (g 5) t.toNat lf j ∧ updI (g 5) t.toNat lf j ≤ updI (g 7) t.toNat (lf + w) j ∧ updI (g 7) t.toNat (lf + w) j ≤ 8 ∧ 0 ≤ updI (g 6) t.toNat tp j ∧ updI (g 6) t.toNat tp j ≤ updI (g 8) t.toNat (tp + h) j ∧ updI (g 8) t.toNat (tp + h) j ≤ 8
  have h0 := hI.2.2.2.1 j hj
  unfold updI
  split <;> omega
theorem XInv_p9 {g : Nat → Nat → Int} {t lf tp w h : Int} (hI : XInv g) (ht : 0 ≤ t ∧ t ≤ 4) (h1 : -8 ≤ lf ∧ lf ≤ 8 ∧ 0 ≤ w ∧ w ≤ 8) (h2 : -8 ≤ tp ∧ tp ≤ 8 ∧ 0 ≤ h ∧ h ≤ 8) : XInv (putX 9 g t lf tp w h) := by
  refine ⟨hI.1, hI.2.1, hI.2.2.1, hI.2.2.2.1, fun j hj => ?_, hI.2.2.2.2.2⟩
  show -8 ≤ updI (g 10) t.toNat lf j ∧ updI (g 10) t.toNat lf j ≤ 8 ∧ -8 ≤ updI (g 11) t.toNat tp j ∧ updI (g 11) t.toNat tp j ≤ 8 ∧ -8 ≤ updI (g 12) t.toNat (lf + w) j ∧ updI (g 12) t.toNat (lf + w) j ≤ 16 ∧ -8 ≤ updI (g 13) t.toNat (tp + h) j ∧ updI (g 13) t.toNat (tp + h) j ≤ 16
  have h0 := hI.2.2.2.2.1 j hj
  unfold updI
  split <;> omega
theorem XInv_hi {g : Nat → Nat → Int} {t v : Int} (hI : XInv g) (ht : 0 ≤ t ∧ t ≤ 4) : XInv (hisG g t v) := by
  refine ⟨hI.1, hI.2.1, hI.2.2.1, hI.2.2.2.1, hI.2.2.2.2.1, fun j hj => ?_⟩
  show 0 ≤ updI (g 16) t.toNat (min (g 16 t.toNat + 1) 10) j ∧ updI (g 16) t.toNat (min (g 16 t.toNat + 1) 10) j ≤ 10
  have h0 := hI.2.2.2.2.2 j hj
  have h1 := hI.2.2.2.2.2 t.toNat (by omega)
  unfold updI
  split <;> omega
/-- begin: behind n tests, and how many approved pictures -/
def begG (g : Nat → Nat → Int) (b : Int) : Nat → Nat → Nat → Int
  | 0 => g
  | n + 1 => fmG (begG g b n) b (n : Int)
noncomputable def begC (g : Nat → Nat → Int) (b : Int) : Nat → Int
  | 0 => 0
  | n + 1 => begC g b n + bp (begG g b (n + 1) 3 (5 + b * 5 + (n : Int)).toNat = 1)
theorem XInv_be {g : Nat → Nat → Int} {b : Int} (h : XInv g) (h1 : 0 ≤ b ∧ b ≤ 3) (n : Nat) (hn : n ≤ 5) : XInv (begG g b n) := by
  induction n with
  | zero => exact h
  | succ n ih => exact XInv_fm (ih (by omega)) h1 (by omega)
theorem begC_r (g : Nat → Nat → Int) (b : Int) (n : Nat) : 0 ≤ begC g b n ∧ begC g b n ≤ (n : Int) := by
  induction n with
  | zero => exact ⟨Int.le_refl _, Int.le_refl _⟩
  | succ n ih =>
    have h := bp_r (begG g b (n + 1) 3 (5 + b * 5 + (n : Int)).toNat = 1)
    show 0 ≤ begC g b n + bp _ ∧ begC g b n + bp _ ≤ ((n + 1 : Nat) : Int)
    omega
/-- join: behind n tests; the clashes as a number -/
noncomputable def joiG (g : Nat → Nat → Int) (b : Int) : Nat → Nat → Nat → Int
  | 0 => g
  | n + 1 => iteG (claP (joiG g b n) b (n : Int)) (joiG g b n) (fmG (toG (joiG g b n) b (n : Int)) b (n : Int))
noncomputable def joiC (g : Nat → Nat → Int) (b : Int) : Nat → Int
  | 0 => 0
  | n + 1 => joiC g b n + bp (claP (joiG g b n) b (n : Int)) * p2 (n : Int)
theorem XInv_jo {g : Nat → Nat → Int} {b : Int} (h : XInv g) (h1 : 0 ≤ b ∧ b ≤ 3) (n : Nat) (hn : n ≤ 5) : XInv (joiG g b n) := by
  induction n with
  | zero => exact h
  | succ n ih =>
    have h2 := ih (by omega)
    show XInv (iteG (claP (joiG g b n) b (n : Int)) (joiG g b n) (fmG (toG (joiG g b n) b (n : Int)) b (n : Int)))
    by_cases q : claP (joiG g b n) b (n : Int)
    · rw [iteG_t q]; exact h2
    · rw [iteG_f q]; exact XInv_fm (XInv_to h2 h1 (by omega)) h1 (by omega)
theorem p2_s (n : Nat) : p2 ((n + 1 : Nat) : Int) = p2 (n : Int) * 2 := by
  unfold p2
  rw [Int.toNat_natCast, Int.toNat_natCast, Nat.pow_succ]
  omega
theorem joiC_r (g : Nat → Nat → Int) (b : Int) (n : Nat) : 0 ≤ joiC g b n ∧ joiC g b n < p2 (n : Int) := by
  induction n with
  | zero => exact ⟨Int.le_refl _, (by decide : (0 : Int) < p2 0)⟩
  | succ n ih =>
    show 0 ≤ joiC g b n + bp _ * p2 (n : Int) ∧ joiC g b n + bp _ * p2 (n : Int) < p2 ((n + 1 : Nat) : Int)
    rw [p2_s]
    rcases bp_01 (claP (joiG g b n) b (n : Int)) with h | h <;> rw [h] <;> omega
theorem or_pN : ∀ n : Nat, n < 5 → ∀ m : Nat, m < 2 ^ n → iI (m : Int) ||| iI ((2 ^ n : Nat) : Int) = iI ((m + 2 ^ n : Nat) : Int) := by decide +kernel
theorem or_p {n m : Int} (h : 0 ≤ n ∧ n < 5) (hm : 0 ≤ m ∧ m < p2 n) : iI m ||| iI (p2 n) = iI (m + p2 n) := by
  have h1 := or_pN n.toNat (by omega) m.toNat (by unfold p2 at hm; omega)
  rw [show ((m.toNat : Nat) : Int) = m by omega] at h1
  rw [show iI (m + p2 n) = iI ((m.toNat + 2 ^ n.toNat : Nat) : Int) by congr 1; unfold p2; omega]
  exact h1
/-- the doubt out of the results -/
def dbt (x n : Int) : Int := if n < 2 then 0 else 100 * chg x n / (n - 1)
theorem chg_r (x n : Int) : 0 ≤ chg x n ∧ chg x n ≤ 9 := by
  unfold chg popc
  omega
theorem fstD_ex (D : Int → Prop) : ∃ v, fstD D v := by
  by_cases h : ∃ k : Int, (0 ≤ k ∧ k < 64) ∧ D k
  · obtain ⟨k, hk, hd⟩ := h
    obtain ⟨j, ⟨hj, hdj⟩, hmin⟩ := pk_least (fun j : Nat => j < 64 ∧ D (j : Int)) ⟨k.toNat, by omega, by rw [show ((k.toNat : Nat) : Int) = k by omega]; exact hd⟩
    refine ⟨(j : Int), Or.inr ⟨by omega, hdj, fun i h1 h2 q => hmin i.toNat (by omega) ⟨by omega, ?_⟩⟩⟩
    rw [show ((i.toNat : Nat) : Int) = i by omega]
    exact q
  · exact ⟨-1, Or.inl ⟨rfl, fun k h1 h2 q => h ⟨k, ⟨h1, h2⟩, q⟩⟩⟩
theorem fdE_rr (D : Int → Prop) : -1 ≤ fdE D ∧ fdE D < 64 := fdE_r D (fstD_ex D)
