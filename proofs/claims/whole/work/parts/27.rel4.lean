/-! ===== the results and the doubt ===== -/
theorem hb_s {x v : Int} (hv : v = 0 ∨ v = 1) {i : Nat} (hi : i < 9) : hb (2 * x + v) (i + 1) = hb x i := by
  unfold hb
  have h9 : i = 0 ∨ i = 1 ∨ i = 2 ∨ i = 3 ∨ i = 4 ∨ i = 5 ∨ i = 6 ∨ i = 7 ∨ i = 8 := by omega
  rcases h9 with rfl | rfl | rfl | rfl | rfl | rfl | rfl | rfl | rfl <;> simp only [Nat.reduceAdd, Nat.reducePow] <;> omega
theorem hb_0 {x v : Int} (hv : v = 0 ∨ v = 1) : (hb (2 * x + v) 0 : Int) = v := by
  unfold hb
  simp only [Nat.reducePow]
  omega
theorem Rel_hi {g m : Nat → Nat → Int} (h : Rel g m) (hM : MInv m) {t v : Int} (ht : 0 ≤ t ∧ t ≤ 4) (hv : v = 0 ∨ v = 1) : Rel (hisG g t v) (mhG m t v) := by
  have hm7 := hM.2.2.2.2.2.1
  have h7 := hm7 t.toNat (by omega)
  have ht0 := h.2.2.2.2.2 t ht
  unfold relH at ht0
  have key : ∀ u : Int, (0 ≤ u ∧ u ≤ 4) → relH (hisG g t v) (mhG m t v) u := by
    intro u hu
    have hu0 := h.2.2.2.2.2 u hu
    unfold relH at hu0
    have h7u := hm7 u.toNat (by omega)
    by_cases full : m 7 t.toNat = 10
    · rw [mhG_f full]
      show updI (g 16) t.toNat (min (g 16 t.toNat + 1) 10) u.toNat = updI (updI (m 7) t.toNat 9) t.toNat 10 u.toNat ∧ ∀ k : Nat, k < (updI (updI (m 7) t.toNat 9) t.toNat 10 u.toNat).toNat → updI (shK (m 6) (10 * t).toNat 9) (10 * t + 9).toNat v (10 * u + (k : Int)).toNat = (hb (updI (g 15) t.toNat (2 * g 15 t.toNat + v) u.toNat) ((updI (updI (m 7) t.toNat 9) t.toNat 10 u.toNat).toNat - 1 - k) : Int)
      by_cases e : u = t
      · subst e
        have e7 : updI (updI (m 7) u.toNat 9) u.toNat 10 u.toNat = 10 := by
          unfold updI
          rw [if_pos rfl]
        have e15 : updI (g 15) u.toNat (2 * g 15 u.toNat + v) u.toNat = 2 * g 15 u.toNat + v := by
          unfold updI
          rw [if_pos rfl]
        have e16 : updI (g 16) u.toNat (min (g 16 u.toNat + 1) 10) u.toNat = min (g 16 u.toNat + 1) 10 := by
          unfold updI
          rw [if_pos rfl]
        rw [e7, e15, e16]
        refine ⟨by omega, fun k hk => ?_⟩
        by_cases k9 : k = 9
        · subst k9
          have e6 : updI (shK (m 6) (10 * u).toNat 9) (10 * u + 9).toNat v (10 * u + ((9 : Nat) : Int)).toNat = v := by
            unfold updI
            rw [if_pos (by omega)]
          rw [e6]
          exact (hb_0 hv).symm
        · have h1 := ht0.2 (k + 1) (by omega)
          have e6 : updI (shK (m 6) (10 * u).toNat 9) (10 * u + 9).toNat v (10 * u + (k : Int)).toNat = m 6 (10 * u + ((k + 1 : Nat) : Int)).toNat := by
            unfold updI shK
            rw [if_neg (by omega), if_pos (by omega)]
            congr 1
            omega
          rw [e6, h1, show (m 7 u.toNat).toNat - 1 - (k + 1) = 8 - k by omega, show (10 : Int).toNat - 1 - k = (8 - k) + 1 by omega, hb_s hv (by omega)]
      · have e7 : updI (updI (m 7) t.toNat 9) t.toNat 10 u.toNat = m 7 u.toNat := by
          unfold updI
          rw [if_neg (by omega), if_neg (by omega)]
        have e15 : updI (g 15) t.toNat (2 * g 15 t.toNat + v) u.toNat = g 15 u.toNat := by
          unfold updI
          rw [if_neg (by omega)]
        have e16 : updI (g 16) t.toNat (min (g 16 t.toNat + 1) 10) u.toNat = g 16 u.toNat := by
          unfold updI
          rw [if_neg (by omega)]
        rw [e7, e15, e16]
        refine ⟨hu0.1, fun k hk => ?_⟩
        have e6 : updI (shK (m 6) (10 * t).toNat 9) (10 * t + 9).toNat v (10 * u + (k : Int)).toNat = m 6 (10 * u + (k : Int)).toNat := by
          unfold updI shK
          rw [if_neg (by omega), if_neg (by omega)]
        rw [e6]
        exact hu0.2 k hk
    · rw [mhG_n full]
      show updI (g 16) t.toNat (min (g 16 t.toNat + 1) 10) u.toNat = updI (m 7) t.toNat (m 7 t.toNat + 1) u.toNat ∧ ∀ k : Nat, k < (updI (m 7) t.toNat (m 7 t.toNat + 1) u.toNat).toNat → updI (m 6) (10 * t + m 7 t.toNat).toNat v (10 * u + (k : Int)).toNat = (hb (updI (g 15) t.toNat (2 * g 15 t.toNat + v) u.toNat) ((updI (m 7) t.toNat (m 7 t.toNat + 1) u.toNat).toNat - 1 - k) : Int)
      by_cases e : u = t
      · subst e
        have e7 : updI (m 7) u.toNat (m 7 u.toNat + 1) u.toNat = m 7 u.toNat + 1 := by
          unfold updI
          rw [if_pos rfl]
        have e15 : updI (g 15) u.toNat (2 * g 15 u.toNat + v) u.toNat = 2 * g 15 u.toNat + v := by
          unfold updI
          rw [if_pos rfl]
        have e16 : updI (g 16) u.toNat (min (g 16 u.toNat + 1) 10) u.toNat = min (g 16 u.toNat + 1) 10 := by
          unfold updI
          rw [if_pos rfl]
        rw [e7, e15, e16]
        refine ⟨by omega, fun k hk => ?_⟩
        by_cases kn : (k : Int) = m 7 u.toNat
        · have e6 : updI (m 6) (10 * u + m 7 u.toNat).toNat v (10 * u + (k : Int)).toNat = v := by
            unfold updI
            rw [if_pos (by omega)]
          rw [e6, show (m 7 u.toNat + 1).toNat - 1 - k = 0 by omega]
          exact (hb_0 hv).symm
        · have h1 := ht0.2 k (by omega)
          have e6 : updI (m 6) (10 * u + m 7 u.toNat).toNat v (10 * u + (k : Int)).toNat = m 6 (10 * u + (k : Int)).toNat := by
            unfold updI
            rw [if_neg (by omega)]
          rw [e6, h1, show (m 7 u.toNat + 1).toNat - 1 - k = ((m 7 u.toNat).toNat - 1 - k) + 1 by omega, hb_s hv (by omega)]
      · have e7 : updI (m 7) t.toNat (m 7 t.toNat + 1) u.toNat = m 7 u.toNat := by
          unfold updI
          rw [if_neg (by omega)]
        have e15 : updI (g 15) t.toNat (2 * g 15 t.toNat + v) u.toNat = g 15 u.toNat := by
          unfold updI
          rw [if_neg (by omega)]
        have e16 : updI (g 16) t.toNat (min (g 16 t.toNat + 1) 10) u.toNat = g 16 u.toNat := by
          unfold updI
          rw [if_neg (by omega)]
        rw [e7, e15, e16]
        refine ⟨hu0.1, fun k hk => ?_⟩
        have e6 : updI (m 6) (10 * t + m 7 t.toNat).toNat v (10 * u + (k : Int)).toNat = m 6 (10 * u + (k : Int)).toNat := by
          unfold updI
          rw [if_neg (by omega)]
        rw [e6]
        exact hu0.2 k hk
  have hfix : ∀ i : Nat, i < 6 → mhG m t v i = m i := fun i hi => by
    by_cases full : m 7 t.toNat = 10
    · rw [mhG_f full]
      unfold updG
      rw [if_neg (by omega), if_neg (by omega)]
    · rw [mhG_n full]
      unfold updG
      rw [if_neg (by omega), if_neg (by omega)]
  have f1 := hfix 1 (by omega)
  have f2 := hfix 2 (by omega)
  have f3 := hfix 3 (by omega)
  have f4 := hfix 4 (by omega)
  have f5 := hfix 5 (by omega)
  refine ⟨fun j hj => ?_, fun p hp hk k hk2 => ?_, fun p hp => ?_, fun u hu => ?_, fun u hu => ?_, key⟩
  · rw [f1]; exact h.1 j hj
  · rw [f3] at hk; rw [f2]; exact h.2.1 p hp hk k hk2
  · rw [f3]; exact h.2.2.1 p hp
  · unfold relP; rw [f4]; exact h.2.2.2.1 u hu
  · unfold relM; rw [f5]; exact h.2.2.2.2.1 u hu
theorem MInv_hi {m : Nat → Nat → Int} (hM : MInv m) {t v : Int} (ht : 0 ≤ t ∧ t ≤ 4) (hv : v = 0 ∨ v = 1) : MInv (mhG m t v) := by
  have h7 := hM.2.2.2.2.2.1 t.toNat (by omega)
  by_cases full : m 7 t.toNat = 10
  · rw [mhG_f full]
    refine ⟨hM.1, hM.2.1, hM.2.2.1, hM.2.2.2.1, fun j hj => ?_, fun j hj => ?_, hM.2.2.2.2.2.2⟩
    · show updI (shK (m 6) (10 * t).toNat 9) (10 * t + 9).toNat v j = 0 ∨ updI (shK (m 6) (10 * t).toNat 9) (10 * t + 9).toNat v j = 1
      unfold updI
      split
      · exact hv
      · exact shK_01 hM.2.2.2.2.1 (by omega) j hj
    · show 0 ≤ updI (updI (m 7) t.toNat 9) t.toNat 10 j ∧ updI (updI (m 7) t.toNat 9) t.toNat 10 j ≤ 10
      have h0 := hM.2.2.2.2.2.1 j hj
      unfold updI
      split
      · omega
      · exact h0
  · rw [mhG_n full]
    refine ⟨hM.1, hM.2.1, hM.2.2.1, hM.2.2.2.1, fun j hj => ?_, fun j hj => ?_, hM.2.2.2.2.2.2⟩
    · show updI (m 6) (10 * t + m 7 t.toNat).toNat v j = 0 ∨ updI (m 6) (10 * t + m 7 t.toNat).toNat v j = 1
      unfold updI
      split
      · exact hv
      · exact hM.2.2.2.2.1 j hj
    · show 0 ≤ updI (m 7) t.toNat (m 7 t.toNat + 1) j ∧ updI (m 7) t.toNat (m 7 t.toNat + 1) j ≤ 10
      have h0 := hM.2.2.2.2.2.1 j hj
      unfold updI
      split <;> omega
def trnN (h n : Nat) : Nat → Nat
  | 0 => 0
  | j + 1 => trnN h n j + if h / 2 ^ (n - 1 - (j + 1)) % 2 = h / 2 ^ (n - 1 - j) % 2 then 0 else 1
theorem trn_N (f : Nat → Int) (b x : Int) (n : Nat) (hf : ∀ k : Nat, k < n → f (b + (k : Int)).toNat = (hb x (n - 1 - k) : Int)) (j : Nat) (hj : j + 1 ≤ n) : trn f b j = (trnN (x % 1024).toNat n j : Int) := by
  induction j with
  | zero => rfl
  | succ j ih =>
    have h1 := hf (j + 1) (by omega)
    have h2 := hf j (by omega)
    show trn f b j + bp (¬ f (b + ((j : Int) + 1)).toNat = f (b + (j : Int)).toNat) = ((trnN (x % 1024).toNat n j + if (x % 1024).toNat / 2 ^ (n - 1 - (j + 1)) % 2 = (x % 1024).toNat / 2 ^ (n - 1 - j) % 2 then 0 else 1 : Nat) : Int)
    rw [ih (by omega), show b + ((j : Int) + 1) = b + ((j + 1 : Nat) : Int) by omega, h1, h2]
    unfold hb
    by_cases e : (x % 1024).toNat / 2 ^ (n - 1 - (j + 1)) % 2 = (x % 1024).toNat / 2 ^ (n - 1 - j) % 2
    · rw [if_pos e, bp_f (fun q => q (by rw [e]))]
      omega
    · rw [if_neg e]
      have e9 : ¬ (((x % 1024).toNat / 2 ^ (n - 1 - (j + 1)) % 2 : Nat) : Int) = (((x % 1024).toNat / 2 ^ (n - 1 - j) % 2 : Nat) : Int) := fun q => e (Int.ofNat.inj q)
      rw [bp_t e9]
      omega
set_option maxRecDepth 100000 in
theorem pop_trn : ∀ n : Nat, n < 11 → 2 ≤ n → ∀ h : Nat, h < 1024 → popc ((h ^^^ h / 2) % 2 ^ (n - 1)) = (trnN h n (n - 1) : Int) := by decide +kernel
theorem ch_h (x : Int) {k : Nat} (hk : 1 ≤ k ∧ k ≤ 9) : ((x % 4294967296).toNat ^^^ (x % 4294967296).toNat / 2) % 2 ^ k = ((x % 1024).toNat ^^^ (x % 1024).toNat / 2) % 2 ^ k := by
  rw [Nat.xor_mod_two_pow, Nat.xor_mod_two_pow]
  have h9 : k = 1 ∨ k = 2 ∨ k = 3 ∨ k = 4 ∨ k = 5 ∨ k = 6 ∨ k = 7 ∨ k = 8 ∨ k = 9 := by omega
  have a1 : (x % 4294967296).toNat % 2 ^ k = (x % 1024).toNat % 2 ^ k := by
    rcases h9 with rfl | rfl | rfl | rfl | rfl | rfl | rfl | rfl | rfl <;> simp only [Nat.reducePow] <;> omega
  have a2 : (x % 4294967296).toNat / 2 % 2 ^ k = (x % 1024).toNat / 2 % 2 ^ k := by
    rcases h9 with rfl | rfl | rfl | rfl | rfl | rfl | rfl | rfl | rfl <;> simp only [Nat.reducePow] <;> omega
  rw [a1, a2]
theorem Rel_db {g m : Nat → Nat → Int} (h : Rel g m) (hM : MInv m) {t : Int} (ht : 0 ≤ t ∧ t ≤ 4) : dbt (g 15 t.toNat) (g 16 t.toNat) = mdb (m 6) t (m 7 t.toNat) := by
  have h0 := h.2.2.2.2.2 t ht
  unfold relH at h0
  have h7 := hM.2.2.2.2.2.1 t.toNat (by omega)
  unfold dbt mdb
  rw [h0.1]
  by_cases e : m 7 t.toNat < 2
  · rw [if_pos e, if_pos e]
  · rw [if_neg e, if_neg e]
    have e1 := trn_N (m 6) (10 * t) (g 15 t.toNat) (m 7 t.toNat).toNat h0.2 (m 7 t.toNat - 1).toNat (by omega)
    have e2 := pop_trn (m 7 t.toNat).toNat (by omega) (by omega) (g 15 t.toNat % 1024).toNat (by omega)
    have e3 : chg (g 15 t.toNat) (m 7 t.toNat) = popc (((g 15 t.toNat % 1024).toNat ^^^ (g 15 t.toNat % 1024).toNat / 2) % 2 ^ ((m 7 t.toNat).toNat - 1)) := by
      unfold chg chY
      rw [Int.toNat_natCast, show (m 7 t.toNat - 1).toNat = (m 7 t.toNat).toNat - 1 by omega, ch_h _ (by omega)]
    rw [e3, e2, e1, show (m 7 t.toNat - 1).toNat = (m 7 t.toNat).toNat - 1 by omega]
