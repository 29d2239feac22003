/-! ===== the reference's walks over moves; its branches ===== -/
theorem scan_0 {F : Int → Int → Prop} (h : ¬ F 0 0) : ∀ c1 r1 : Int, in5 c1 r1 → (r1.natAbs : Int) + (c1.natAbs : Int) < 1 → ¬ F c1 r1 := fun c1 r1 _ q => by
  rw [show c1 = 0 by omega, show r1 = 0 by omega]
  exact h
theorem scan_k {F : Int → Int → Prop} {far k : Int} (h : ∀ c1 r1 : Int, in5 c1 r1 → (r1.natAbs : Int) + (c1.natAbs : Int) = far → 5 * (r1 + 2) + (c1 + 2) < k → ¬ F c1 r1) (hk : 0 ≤ k ∧ k < 25) (h1 : ¬ (((k / 5 - 2).natAbs : Int) + ((k % 5 - 2).natAbs : Int) = far) ∨ ¬ F (k % 5 - 2) (k / 5 - 2)) : ∀ c1 r1 : Int, in5 c1 r1 → (r1.natAbs : Int) + (c1.natAbs : Int) = far → 5 * (r1 + 2) + (c1 + 2) < k + 1 → ¬ F c1 r1 := fun c1 r1 i q1 q2 => by
  rcases Int.lt_or_eq_of_le (show 5 * (r1 + 2) + (c1 + 2) ≤ k by omega) with q | q
  · exact h c1 r1 i q1 q
  · have i2 := i
    unfold in5 at i2
    have e1 : c1 = k % 5 - 2 := by omega
    have e2 : r1 = k / 5 - 2 := by omega
    rw [e1, e2] at q1 ⊢
    exact h1.elim (fun z => absurd q1 z) (fun z => z)
theorem scan_far {F : Int → Int → Prop} {far : Int} (h : ∀ c1 r1 : Int, in5 c1 r1 → (r1.natAbs : Int) + (c1.natAbs : Int) < far → ¬ F c1 r1) (h2 : ∀ c1 r1 : Int, in5 c1 r1 → (r1.natAbs : Int) + (c1.natAbs : Int) = far → 5 * (r1 + 2) + (c1 + 2) < 25 → ¬ F c1 r1) : ∀ c1 r1 : Int, in5 c1 r1 → (r1.natAbs : Int) + (c1.natAbs : Int) < far + 1 → ¬ F c1 r1 := fun c1 r1 i q => by
  rcases Int.lt_or_eq_of_le (show (r1.natAbs : Int) + (c1.natAbs : Int) ≤ far by omega) with z | z
  · exact h c1 r1 i z
  · have i2 := i
    unfold in5 at i2
    exact h2 c1 r1 i z (by omega)
theorem scan_end {F : Int → Int → Prop} (h : ∀ c1 r1 : Int, in5 c1 r1 → (r1.natAbs : Int) + (c1.natAbs : Int) < 5 → ¬ F c1 r1) : bestP F 0 0 := Or.inr ⟨rfl, rfl, fun c1 r1 i => h c1 r1 i (by unfold in5 at i; omega)⟩
theorem scan_hit {F : Int → Int → Prop} {far k : Int} (h : ∀ c1 r1 : Int, in5 c1 r1 → (r1.natAbs : Int) + (c1.natAbs : Int) < far → ¬ F c1 r1) (h2 : ∀ c1 r1 : Int, in5 c1 r1 → (r1.natAbs : Int) + (c1.natAbs : Int) = far → 5 * (r1 + 2) + (c1 + 2) < k → ¬ F c1 r1) (hk : 0 ≤ k ∧ k < 25) (hf : ((k / 5 - 2).natAbs : Int) + ((k % 5 - 2).natAbs : Int) = far) (hF : F (k % 5 - 2) (k / 5 - 2)) : bestP F (k % 5 - 2) (k / 5 - 2) := Or.inl ⟨by unfold in5; omega, hF, fun c1 r1 i f => by
  have a1 : ¬ ((r1.natAbs : Int) + (c1.natAbs : Int) < far) := fun q => h c1 r1 i q f
  have a2 : ¬ ((r1.natAbs : Int) + (c1.natAbs : Int) = far ∧ 5 * (r1 + 2) + (c1 + 2) < k) := fun q => h2 c1 r1 i q.1 q.2 f
  unfold in5 at i
  unfold keyP
  omega⟩
theorem mhG_f {g : Nat → Nat → Int} {t v : Int} (h : g 7 t.toNat = 10) : mhG g t v = updG (updG g 6 (updI (shK (g 6) (10 * t).toNat 9) (10 * t + 9).toNat v)) 7 (updI (updI (g 7) t.toNat 9) t.toNat 10) := by
  unfold mhG
  rw [if_pos h]
theorem mhG_n {g : Nat → Nat → Int} {t v : Int} (h : ¬ g 7 t.toNat = 10) : mhG g t v = updG (updG g 6 (updI (g 6) (10 * t + g 7 t.toNat).toNat v)) 7 (updI (g 7) t.toNat (g 7 t.toNat + 1)) := by
  unfold mhG
  rw [if_neg h]
theorem mt_f {g : Nat → Nat → Int} {b t : Int} (h : ¬ (¬ sameP (g 2) (g 3) (5 * b + t) (5 * (4 + b - 1) + t) ∧ sameP (g 2) (g 3) (5 * 0 + t) (5 * (4 + b - 1) + t))) : mtG g b t = g := by
  unfold mtG
  exact iteG_f h
theorem mj_cl {g : Nat → Nat → Int} {b : Int} {n : Nat} (h1 : ¬ sameP ((mjG g b n) 2) ((mjG g b n) 3) (5 * b + (n : Int)) (5 * (4 + b - 1) + (n : Int))) (h2 : ¬ sameP ((mjG g b n) 2) ((mjG g b n) 3) (5 * 0 + (n : Int)) (5 * (4 + b - 1) + (n : Int))) (h3 : ¬ sameP ((mjG g b n) 2) ((mjG g b n) 3) (5 * 0 + (n : Int)) (5 * b + (n : Int))) : mjG g b (n + 1) = mjG g b n ∧ mjC g b (n + 1) = mjC g b n + p2 (n : Int) := by
  have e := mt_f (g := mjG g b n) (b := b) (t := (n : Int)) (fun q => h2 q.2)
  have hc : mclP (mjG g b n) b (n : Int) := by
    refine ⟨⟨h1, h2⟩, ?_⟩
    rw [e]
    exact h3
  refine ⟨?_, ?_⟩
  · show iteG (mclP (mjG g b n) b (n : Int)) _ _ = _
    rw [iteG_t hc, e]
  · show mjC g b n + bp (mclP (mjG g b n) b (n : Int)) * p2 (n : Int) = _
    rw [bp_t hc]
    omega
theorem mj_no {g : Nat → Nat → Int} {b : Int} {n : Nat} (hc : ¬ mclP (mjG g b n) b (n : Int)) {g2 : Nat → Nat → Int} (he : mtG (mjG g b n) b (n : Int) = g2) : mjG g b (n + 1) = cpM (cpM g2 (5 * 0 + (n : Int)) (5 * (4 + b - 1) + (n : Int))) (5 * 0 + (n : Int)) (5 * b + (n : Int)) ∧ mjC g b (n + 1) = mjC g b n := by
  refine ⟨?_, ?_⟩
  · show iteG (mclP (mjG g b n) b (n : Int)) _ _ = _
    rw [iteG_f hc, he]
  · show mjC g b n + bp (mclP (mjG g b n) b (n : Int)) * p2 (n : Int) = _
    rw [bp_f hc]
    omega
theorem mj_same {g : Nat → Nat → Int} {b : Int} {n : Nat} (h1 : sameP ((mjG g b n) 2) ((mjG g b n) 3) (5 * b + (n : Int)) (5 * (4 + b - 1) + (n : Int))) : mjG g b (n + 1) = cpM (cpM (mjG g b n) (5 * 0 + (n : Int)) (5 * (4 + b - 1) + (n : Int))) (5 * 0 + (n : Int)) (5 * b + (n : Int)) ∧ mjC g b (n + 1) = mjC g b n :=
  mj_no (fun q => q.1.1 h1) (mt_f (fun q => q.1 h1))
theorem mj_free {g : Nat → Nat → Int} {b : Int} {n : Nat} (h1 : ¬ sameP ((mjG g b n) 2) ((mjG g b n) 3) (5 * b + (n : Int)) (5 * (4 + b - 1) + (n : Int))) (h2 : sameP ((mjG g b n) 2) ((mjG g b n) 3) (5 * 0 + (n : Int)) (5 * (4 + b - 1) + (n : Int))) : mjG g b (n + 1) = cpM (cpM (cpM (mjG g b n) (5 * b + (n : Int)) (5 * 0 + (n : Int))) (5 * 0 + (n : Int)) (5 * (4 + b - 1) + (n : Int))) (5 * 0 + (n : Int)) (5 * b + (n : Int)) ∧ mjC g b (n + 1) = mjC g b n :=
  mj_no (fun q => q.1.2 h2) (by unfold mtG; exact iteG_t ⟨h1, h2⟩)
theorem mj_ok {g : Nat → Nat → Int} {b : Int} {n : Nat} (h2 : ¬ sameP ((mjG g b n) 2) ((mjG g b n) 3) (5 * 0 + (n : Int)) (5 * (4 + b - 1) + (n : Int))) (h3 : sameP ((mjG g b n) 2) ((mjG g b n) 3) (5 * 0 + (n : Int)) (5 * b + (n : Int))) : mjG g b (n + 1) = cpM (cpM (mjG g b n) (5 * 0 + (n : Int)) (5 * (4 + b - 1) + (n : Int))) (5 * 0 + (n : Int)) (5 * b + (n : Int)) ∧ mjC g b (n + 1) = mjC g b n := by
  have e := mt_f (g := mjG g b n) (b := b) (t := (n : Int)) (fun q => h2 q.2)
  exact mj_no (fun q => q.2 (by rw [e]; exact h3)) e
theorem shK_0 (f : Nat → Int) (b : Nat) : shK f b 0 = f := by
  funext j
  unfold shK
  rw [if_neg (by omega)]
