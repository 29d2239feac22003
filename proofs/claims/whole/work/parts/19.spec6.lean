/-! ===== what the reference's writings keep ===== -/
theorem pst_bN {N : Nat} {f : Nat → Int} {t c r w sh : Int} (hf : ∀ j, j < N → 0 ≤ f j ∧ f j ≤ 255) (hs : 0 ≤ sh ∧ sh ≤ 255) (k : Nat) : ∀ j, j < N → 0 ≤ (pst f t c r w sh k).1 j ∧ (pst f t c r w sh k).1 j ≤ 255 := by
  induction k with
  | zero => exact hf
  | succ k ih =>
    intro j hj
    show 0 ≤ updI (pst f t c r w sh k).1 _ sh j ∧ updI (pst f t c r w sh k).1 _ sh j ≤ 255
    unfold updI
    split
    · exact hs
    · exact ih j hj
theorem b01 {x : Int} (h : x = 0 ∨ x = 1) : x = bp (x = 1) := by
  rcases h with h | h
  · rw [bp_f (by omega)]; exact h
  · rw [bp_t h]; exact h
theorem MInv_1 {g : Nat → Nat → Int} {f : Nat → Int} (h : MInv g) (hf : ∀ j, j < 320 → 0 ≤ f j ∧ f j ≤ 255) : MInv (updG g 1 f) := ⟨hf, h.2⟩
theorem MInv_cp {g : Nat → Nat → Int} {fr to : Int} (h : MInv g) (h1 : 0 ≤ fr ∧ fr ≤ 34) (h2 : 0 ≤ to ∧ to ≤ 34) : MInv (cpM g fr to) := by
  obtain ⟨a1, a2, a3, a4⟩ := h
  refine ⟨a1, fun j hj => ?_, fun j hj => ?_, a4⟩
  · show 0 ≤ cpyI (g 2) (fr * 64).toNat (to * 64).toNat j ∧ cpyI (g 2) (fr * 64).toNat (to * 64).toNat j ≤ 255
    unfold cpyI
    split
    · exact a2 _ (by omega)
    · exact a2 j hj
  · show updI (g 3) to.toNat (g 3 fr.toNat) j = 0 ∨ updI (g 3) to.toNat (g 3 fr.toNat) j = 1
    unfold updI
    split
    · exact a3 _ (by omega)
    · exact a3 j hj
theorem cpK_at (f : Nat → Int) {y z : Int} {k : Nat} (hy : 0 ≤ y) (hz : 0 ≤ z) (hk : k < 64) : cpK f (y * 64).toNat (z * 64).toNat k f ((y * 64).toNat + k) = f ((y * 64).toNat + k) := by
  unfold cpK
  rw [if_neg]
  rintro ⟨h1, h2⟩
  omega
/-- both fields of the move, 0 -/
def zrG (g : Nat → Nat → Int) : Nat → Nat → Int := updG g 0 (updI (updI (g 0) 8 0) 9 0)
theorem MInv_zr {g : Nat → Nat → Int} (h : MInv g) : MInv (zrG g) := ⟨h.1, h.2.1, h.2.2.1, h.2.2.2.1, h.2.2.2.2.1, h.2.2.2.2.2.1, by show (-2 ≤ (0 : Int) ∧ (0 : Int) ≤ 2) ∧ (-2 ≤ (0 : Int) ∧ (0 : Int) ≤ 2); omega⟩
theorem MInv_mv {g : Nat → Nat → Int} (F : Int → Int → Prop) (h : MInv g) : MInv (mvG g F) := ⟨h.1, h.2.1, h.2.2.1, h.2.2.2.1, h.2.2.2.2.1, h.2.2.2.2.2.1, by
  have h1 := (mvE_in F).2
  unfold in5 at h1
  show (-2 ≤ (mvE F).1 ∧ (mvE F).1 ≤ 2) ∧ (-2 ≤ (mvE F).2 ∧ (mvE F).2 ≤ 2)
  exact h1⟩
theorem zr_set (g : Nat → Nat → Int) (x y : Int) : updG (updG (zrG g) 0 (updI ((zrG g) 0) 8 x)) 0 (updI ((updG (zrG g) 0 (updI ((zrG g) 0) 8 x)) 0) 9 y) = updG g 0 (updI (updI (g 0) 8 x) 9 y) := by
  unfold zrG
  rw [updG_uu, updG_uu]
  congr 1
  funext j
  show updI (updI (updI (updI (g 0) 8 0) 9 0) 8 x) 9 y j = updI (updI (g 0) 8 x) 9 y j
  unfold updI
  split
  · rfl
  · split
    · rfl
    · rfl
theorem mvG_of {g : Nat → Nat → Int} {F : Int → Int → Prop} {dc dr : Int} (h : bestP F dc dr) : mvG g F = updG g 0 (updI (updI (g 0) 8 dc) 9 dr) := by
  unfold mvG
  rw [mvE_eq h]
/-- setPart, setMask -/
def spG (g : Nat → Nat → Int) (t c r w h : Int) : Nat → Nat → Int := updG (updG g 4 (updI (updI (updI (updI (g 4) (4 * t).toNat c) (4 * t + 1).toNat r) (4 * t + 2).toNat w) (4 * t + 3).toNat h)) 5 (updI (g 5) (4 * t + 2).toNat 0)
def smG (g : Nat → Nat → Int) (t c r w h : Int) : Nat → Nat → Int := updG g 5 (updI (updI (updI (updI (g 5) (4 * t).toNat c) (4 * t + 1).toNat r) (4 * t + 2).toNat w) (4 * t + 3).toNat h)
/-- approve -/
def apG (g : Nat → Nat → Int) (b t : Int) : Nat → Nat → Int := updG (updG g 3 (updI (g 3) (5 * b + t).toNat 1)) 2 (cpK (g 2) (t * 64).toNat ((5 * b + t) * 64).toNat 64 (g 1))
/-- begin, join -/
def mbG (g : Nat → Nat → Int) (b : Int) : Nat → Nat → Nat → Int
  | 0 => g
  | n + 1 => cpM (cpM (mbG g b n) (5 * 0 + (n : Int)) (5 * b + (n : Int))) (5 * 0 + (n : Int)) (5 * (4 + b - 1) + (n : Int))
noncomputable def mbC (g : Nat → Nat → Int) (b : Int) : Nat → Int
  | 0 => 0
  | n + 1 => mbC g b n + bp (mbG g b (n + 1) 3 (5 * 0 + (n : Int)).toNat = 1)
theorem MInv_mb {g : Nat → Nat → Int} {b : Int} (h : MInv g) (hb : 1 ≤ b ∧ b ≤ 3) (n : Nat) (hn : n ≤ 5) : MInv (mbG g b n) := by
  induction n with
  | zero => exact h
  | succ n ih => exact MInv_cp (MInv_cp (ih (by omega)) (by omega) (by omega)) (by omega) (by omega)
theorem mbC_r (g : Nat → Nat → Int) (b : Int) (n : Nat) : 0 ≤ mbC g b n ∧ mbC g b n ≤ (n : Int) := by
  induction n with
  | zero => exact ⟨Int.le_refl _, Int.le_refl _⟩
  | succ n ih =>
    have h := bp_r (mbG g b (n + 1) 3 (5 * 0 + (n : Int)).toNat = 1)
    show 0 ≤ mbC g b n + bp _ ∧ mbC g b n + bp _ ≤ ((n + 1 : Nat) : Int)
    omega
/-- a test that clashes; what is taken over -/
def mcP (g : Nat → Nat → Int) (b t : Int) : Prop := ¬ sameP (g 2) (g 3) (5 * b + t) (5 * (4 + b - 1) + t) ∧ ¬ sameP (g 2) (g 3) (5 * 0 + t) (5 * (4 + b - 1) + t)
noncomputable def mtG (g : Nat → Nat → Int) (b t : Int) : Nat → Nat → Int := iteG (¬ sameP (g 2) (g 3) (5 * b + t) (5 * (4 + b - 1) + t) ∧ sameP (g 2) (g 3) (5 * 0 + t) (5 * (4 + b - 1) + t)) (cpM g (5 * b + t) (5 * 0 + t)) g
noncomputable def mclP (g : Nat → Nat → Int) (b t : Int) : Prop := mcP g b t ∧ ¬ sameP ((mtG g b t) 2) ((mtG g b t) 3) (5 * 0 + t) (5 * b + t)
noncomputable def mjG (g : Nat → Nat → Int) (b : Int) : Nat → Nat → Nat → Int
  | 0 => g
  | n + 1 => iteG (mclP (mjG g b n) b (n : Int)) (mtG (mjG g b n) b (n : Int)) (cpM (cpM (mtG (mjG g b n) b (n : Int)) (5 * 0 + (n : Int)) (5 * (4 + b - 1) + (n : Int))) (5 * 0 + (n : Int)) (5 * b + (n : Int)))
noncomputable def mjC (g : Nat → Nat → Int) (b : Int) : Nat → Int
  | 0 => 0
  | n + 1 => mjC g b n + bp (mclP (mjG g b n) b (n : Int)) * p2 (n : Int)
theorem MInv_mt {g : Nat → Nat → Int} {b t : Int} (h : MInv g) (hb : 1 ≤ b ∧ b ≤ 3) (ht : 0 ≤ t ∧ t ≤ 4) : MInv (mtG g b t) := by
  unfold mtG
  by_cases q : ¬ sameP (g 2) (g 3) (5 * b + t) (5 * (4 + b - 1) + t) ∧ sameP (g 2) (g 3) (5 * 0 + t) (5 * (4 + b - 1) + t)
  · rw [iteG_t q]; exact MInv_cp h (by omega) (by omega)
  · rw [iteG_f q]; exact h
theorem MInv_mj {g : Nat → Nat → Int} {b : Int} (h : MInv g) (hb : 1 ≤ b ∧ b ≤ 3) (n : Nat) (hn : n ≤ 5) : MInv (mjG g b n) := by
  induction n with
  | zero => exact h
  | succ n ih =>
    have h2 := MInv_mt (t := (n : Int)) (ih (by omega)) hb (by omega)
    show MInv (iteG _ _ _)
    by_cases q : mclP (mjG g b n) b (n : Int)
    · rw [iteG_t q]; exact h2
    · rw [iteG_f q]; exact MInv_cp (MInv_cp h2 (by omega) (by omega)) (by omega) (by omega)
theorem mjC_r (g : Nat → Nat → Int) (b : Int) (n : Nat) : 0 ≤ mjC g b n ∧ mjC g b n < p2 (n : Int) := by
  induction n with
  | zero => exact ⟨Int.le_refl _, (by decide : (0 : Int) < p2 0)⟩
  | succ n ih =>
    show 0 ≤ mjC g b n + bp _ * p2 (n : Int) ∧ mjC g b n + bp _ * p2 (n : Int) < p2 ((n + 1 : Nat) : Int)
    rw [p2_s]
    rcases bp_01 (mclP (mjG g b n) b (n : Int)) with h | h <;> rw [h] <;> omega
/-- run's history -/
def mhG (g : Nat → Nat → Int) (t v : Int) : Nat → Nat → Int :=
  if g 7 t.toNat = 10 then updG (updG g 6 (updI (shK (g 6) (10 * t).toNat 9) (10 * t + 9).toNat v)) 7 (updI (updI (g 7) t.toNat 9) t.toNat 10)
  else updG (updG g 6 (updI (g 6) (10 * t + g 7 t.toNat).toNat v)) 7 (updI (g 7) t.toNat (g 7 t.toNat + 1))
theorem shK_01 {f : Nat → Int} (h : ∀ j, j < 50 → f j = 0 ∨ f j = 1) {b n : Nat} (hb : b + n < 50) : ∀ j, j < 50 → shK f b n j = 0 ∨ shK f b n j = 1 := fun j hj => by
  unfold shK
  split
  · exact h _ (by omega)
  · exact h j hj
/-- how often the results turn -/
noncomputable def trn (f : Nat → Int) (b : Int) : Nat → Int
  | 0 => 0
  | n + 1 => trn f b n + bp (¬ f (b + ((n : Int) + 1)).toNat = f (b + (n : Int)).toNat)
theorem trn_r (f : Nat → Int) (b : Int) (n : Nat) : 0 ≤ trn f b n ∧ trn f b n ≤ (n : Int) := by
  induction n with
  | zero => exact ⟨Int.le_refl _, Int.le_refl _⟩
  | succ n ih =>
    have h := bp_r (¬ f (b + ((n : Int) + 1)).toNat = f (b + (n : Int)).toNat)
    show 0 ≤ trn f b n + bp _ ∧ trn f b n + bp _ ≤ ((n + 1 : Nat) : Int)
    omega
noncomputable def mdb (f : Nat → Int) (t m : Int) : Int := if m < 2 then 0 else 100 * trn f (10 * t) (m - 1).toNat / (m - 1)
