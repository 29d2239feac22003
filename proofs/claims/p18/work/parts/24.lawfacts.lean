/-! ===== what comparing, branches and runs have in common ===== -/
theorem fd_spec (D : Int → Prop) : fstD D (fdE D) := by
  obtain ⟨v, hv⟩ := fstD_ex D
  rw [← fdE_eq hv]
  exact hv
theorem cnt_pre {D : Int → Prop} (n : Nat) (h : ∀ k : Int, 0 ≤ k → k < (n : Int) → ¬ D k) : cntE D n = 0 := by
  induction n with
  | zero => rfl
  | succ n ih =>
    show cntE D n + bp (D (n : Int)) = 0
    rw [ih (fun k h1 h2 => h k h1 (by omega)), bp_f (h (n : Int) (by omega) (by omega))]
    rfl
theorem cnt_add (D : Int → Prop) (m k : Nat) : cntE D m ≤ cntE D (m + k) ∧ cntE D (m + k) ≤ cntE D m + (k : Int) := by
  induction k with
  | zero => exact ⟨Int.le_refl _, by show cntE D m ≤ _; omega⟩
  | succ k ih =>
    have h := bp_r (D ((m + k : Nat) : Int))
    show cntE D m ≤ cntE D (m + k) + bp (D ((m + k : Nat) : Int)) ∧ cntE D (m + k) + bp (D ((m + k : Nat) : Int)) ≤ cntE D m + ((k + 1 : Nat) : Int)
    omega
theorem fd_cnt (D : Int → Prop) : (fdE D = -1 ↔ cntE D 64 = 0) ∧ -1 ≤ fdE D ∧ fdE D < 64 ∧ fdE D + cntE D 64 ≤ 64 := by
  have hr := cntE_r D 64
  rcases fd_spec D with ⟨e, n⟩ | ⟨r, d, n⟩
  · have h0 := cnt_pre (D := D) 64 (fun k h1 h2 => n k h1 (by omega))
    omega
  · obtain ⟨m, hm⟩ : ∃ m : Nat, fdE D = (m : Int) := ⟨(fdE D).toNat, by omega⟩
    have h0 := cnt_pre (D := D) m (fun k h1 h2 => n k h1 (by omega))
    have h1 := (cnt_add D m (64 - m)).2
    rw [show m + (64 - m) = 64 by omega] at h1
    have h2 := (cnt_add D (m + 1) (63 - m)).1
    rw [show m + 1 + (63 - m) = 64 by omega] at h2
    have h3 : cntE D (m + 1) = cntE D m + bp (D (m : Int)) := rfl
    rw [bp_t (by rw [← hm]; exact d)] at h3
    omega
noncomputable def mvV (g : Nat → Nat → Int) (b t n : Int) : Int := mvN (fitP (px (g 2) t) (px (g 2) (5 + b * 5 + t)) n (g 5 t.toNat) (g 6 t.toNat) (g 7 t.toNat) (g 8 t.toNat))
noncomputable def sfV (g : Nat → Nat → Int) (b t n : Int) : Int := cntE (sofD (px (g 2) t) (px (g 2) (5 + b * 5 + t)) n) 64
theorem mvV_r (g : Nat → Nat → Int) (b t n : Int) : (4848 ≤ mvV g b t n ∧ mvV g b t n ≤ 5252) ∧ (-2 ≤ mvV g b t n / 100 - 50 ∧ mvV g b t n / 100 - 50 ≤ 2) ∧ (-2 ≤ mvV g b t n % 100 - 50 ∧ mvV g b t n % 100 - 50 ≤ 2) := by
  unfold mvV
  generalize fitP (px (g 2) t) (px (g 2) (5 + b * 5 + t)) n (g 5 t.toNat) (g 6 t.toNat) (g 7 t.toNat) (g 8 t.toNat) = F
  have h1 := mvN_in F
  have h2 := mvN_c F
  have h3 := (mvE_in F).2
  unfold in5 at h3
  omega
theorem sfV_r (g : Nat → Nat → Int) (b t n : Int) : 0 ≤ sfV g b t n ∧ sfV g b t n ≤ 64 := by
  have := cntE_r (sofD (px (g 2) t) (px (g 2) (5 + b * 5 + t)) n) 64
  unfold sfV
  omega
theorem cnt_255 {g : Nat → Nat → Int} (hI : XInv g) {b t : Int} (hb : 0 ≤ b ∧ b ≤ 3) (ht : 0 ≤ t ∧ t ≤ 4) : cntE (CD g b t 255) 64 = 0 := by
  refine cnt_pre 64 (fun k h1 h2 h => ?_)
  have h3 := hI.1 (t * 64 + k / 8 * 8 + k % 8).toNat (by omega)
  have h4 := hI.1 ((5 + b * 5 + t) * 64 + k / 8 * 8 + k % 8).toNat (by omega)
  have h5 : difP _ _ _ _ _ _ _ _ _ _ _ _ _ _ _ := h
  exact h5.1 (by
    show g 2 (t * 64 + k / 8 * 8 + k % 8).toNat - g 2 ((5 + b * 5 + t) * 64 + k / 8 * 8 + k % 8).toNat ≤ 255 ∧ g 2 ((5 + b * 5 + t) * 64 + k / 8 * 8 + k % 8).toNat - g 2 (t * 64 + k / 8 * 8 + k % 8).toNat ≤ 255
    omega)
theorem ru_3 (g : Nat → Nat → Int) (b t n : Int) : ruG g b t n 3 = g 3 := by
  by_cases h : okC g b t n
  · rw [ruG_t g b t n h]; rfl
  · rw [ruG_f g b t n h]
theorem ru_16 {g : Nat → Nat → Int} {b t n : Int} (h : okC g b t n) : ruG g b t n 16 t.toNat = min (g 16 t.toNat + 1) 10 := by
  rw [ruG_t g b t n h]
  show updI (g 16) t.toNat (min (g 16 t.toNat + 1) 10) t.toNat = _
  exact updI_s _ _ _
theorem XInv_ru {g : Nat → Nat → Int} (hI : XInv g) (b n : Int) {t : Int} (ht : 0 ≤ t ∧ t ≤ 4) : XInv (ruG g b t n) := by
  by_cases h : okC g b t n
  · rw [ruG_t g b t n h]; exact XInv_hi hI ht
  · rw [ruG_f g b t n h]; exact hI
/-! two slots hold the same -/
def eqS (g : Nat → Nat → Int) (x : Int) (h : Nat → Nat → Int) (y : Int) : Prop := g 3 x.toNat = h 3 y.toNat ∧ ∀ k : Int, 0 ≤ k → k < 64 → g 2 (x * 64 + k).toNat = h 2 (y * 64 + k).toNat
theorem eqS.rf (g : Nat → Nat → Int) (x : Int) : eqS g x g x := ⟨rfl, fun _ _ _ => rfl⟩
theorem eqS.sy {g h : Nat → Nat → Int} {x y : Int} (q : eqS g x h y) : eqS h y g x := ⟨q.1.symm, fun k h1 h2 => (q.2 k h1 h2).symm⟩
theorem eqS.tr {g h f : Nat → Nat → Int} {x y z : Int} (q : eqS g x h y) (r : eqS h y f z) : eqS g x f z := ⟨q.1.trans r.1, fun k h1 h2 => (q.2 k h1 h2).trans (r.2 k h1 h2)⟩
theorem eqS.same {g : Nat → Nat → Int} {x y : Int} (q : eqS g x g y) : sameP (g 2) (g 3) x y := ⟨by rw [q.1], fun _ => q.2⟩
theorem cp_to (g : Nat → Nat → Int) {fr to : Int} (h1 : 0 ≤ fr ∧ fr ≤ 44) (h2 : 0 ≤ to ∧ to ≤ 44) : eqS (cpG g fr to) to g fr := by
  refine ⟨?_, fun k k0 k1 => ?_⟩
  · show updI (g 3) to.toNat (g 3 fr.toNat) to.toNat = g 3 fr.toNat
    exact updI_s _ _ _
  · show cpyI (g 2) (fr * 64).toNat (to * 64).toNat (to * 64 + k).toNat = _
    unfold cpyI
    rw [if_pos (by omega)]
    congr 1
    omega
theorem cp_ne (g : Nat → Nat → Int) {fr to z : Int} (h1 : 0 ≤ fr ∧ fr ≤ 44) (h2 : 0 ≤ to ∧ to ≤ 44) (h3 : 0 ≤ z ∧ z ≤ 44) (hne : z ≠ to) : eqS (cpG g fr to) z g z := by
  refine ⟨?_, fun k k0 k1 => ?_⟩
  · show updI (g 3) to.toNat (g 3 fr.toNat) z.toNat = g 3 z.toNat
    exact updI_n _ _ (by omega)
  · show cpyI (g 2) (fr * 64).toNat (to * 64).toNat (z * 64 + k).toNat = _
    unfold cpyI
    rw [if_neg (by omega)]
/-- followMain: the branch and its base become the branch 0 -/
theorem fm_s (g : Nat → Nat → Int) {b t : Int} (hb : 1 ≤ b ∧ b ≤ 3) (ht : 0 ≤ t ∧ t ≤ 4) : eqS (fmG g b t) (5 + b * 5 + t) g (5 + t) ∧ eqS (fmG g b t) (25 + b * 5 + t) g (5 + t) ∧ ∀ z : Int, 0 ≤ z → z ≤ 44 → z ≠ 5 + b * 5 + t → z ≠ 25 + b * 5 + t → eqS (fmG g b t) z g z := by
  have e0 : 5 + 0 * 5 + t = 5 + t := by omega
  have hm : eqS (cpG g (5 + 0 * 5 + t) (25 + b * 5 + t)) (5 + t) g (5 + t) := cp_ne g (by omega) (by omega) (by omega) (by omega)
  refine ⟨?_, ?_, fun z h1 h2 h3 h4 => ?_⟩
  · have h := cp_to (cpG g (5 + 0 * 5 + t) (25 + b * 5 + t)) (fr := 5 + 0 * 5 + t) (to := 5 + b * 5 + t) (by omega) (by omega)
    rw [e0] at h hm
    show eqS (cpG (cpG g (5 + 0 * 5 + t) (25 + b * 5 + t)) (5 + 0 * 5 + t) (5 + b * 5 + t)) _ _ _
    rw [e0]
    exact h.tr hm
  · have h := cp_ne (cpG g (5 + 0 * 5 + t) (25 + b * 5 + t)) (fr := 5 + 0 * 5 + t) (to := 5 + b * 5 + t) (z := 25 + b * 5 + t) (by omega) (by omega) (by omega) (by omega)
    have h9 := cp_to g (fr := 5 + 0 * 5 + t) (to := 25 + b * 5 + t) (by omega) (by omega)
    rw [e0] at h h9
    show eqS (cpG (cpG g (5 + 0 * 5 + t) (25 + b * 5 + t)) (5 + 0 * 5 + t) (5 + b * 5 + t)) _ _ _
    rw [e0]
    exact h.tr h9
  · exact (cp_ne (cpG g (5 + 0 * 5 + t) (25 + b * 5 + t)) (fr := 5 + 0 * 5 + t) (to := 5 + b * 5 + t) (by omega) (by omega) ⟨h1, h2⟩ h3).tr (cp_ne g (by omega) (by omega) ⟨h1, h2⟩ h4)
theorem be_s (g : Nat → Nat → Int) {b : Int} (hb : 1 ≤ b ∧ b ≤ 3) (n : Nat) (hn : n ≤ 5) : (∀ t : Int, 0 ≤ t → t < (n : Int) → eqS (begG g b n) (5 + b * 5 + t) g (5 + t) ∧ eqS (begG g b n) (25 + b * 5 + t) g (5 + t)) ∧ ∀ z : Int, 0 ≤ z → z ≤ 9 → eqS (begG g b n) z g z := by
  induction n with
  | zero => exact ⟨fun t h1 h2 => absurd h2 (by omega), fun z _ _ => eqS.rf g z⟩
  | succ n ih =>
    obtain ⟨i1, i2⟩ := ih (by omega)
    obtain ⟨f1, f2, f3⟩ := fm_s (begG g b n) hb (t := (n : Int)) (by omega)
    refine ⟨fun t h1 h2 => ?_, fun z h1 h2 => (f3 z h1 (by omega) (by omega) (by omega)).tr (i2 z h1 h2)⟩
    rcases Int.lt_or_eq_of_le (show t ≤ (n : Int) by omega) with q | q
    · exact ⟨(f3 _ (by omega) (by omega) (by omega) (by omega)).tr (i1 t h1 q).1, (f3 _ (by omega) (by omega) (by omega) (by omega)).tr (i1 t h1 q).2⟩
    · rw [q]
      exact ⟨f1.tr (i2 _ (by omega) (by omega)), f2.tr (i2 _ (by omega) (by omega))⟩
/-- join, where each picture of the branch 0 is the base's -/
def JB (g : Nat → Nat → Int) (b : Int) : Prop := ∀ t : Int, 0 ≤ t → t ≤ 4 → eqS g (5 + t) g (25 + b * 5 + t)
theorem jo_s {g : Nat → Nat → Int} {b : Int} (hb : 1 ≤ b ∧ b ≤ 3) (hJ : JB g b) (n : Nat) (hn : n ≤ 5) : joiC g b n = 0 ∧ (∀ t : Int, 0 ≤ t → t ≤ 4 → eqS (joiG g b n) (5 + b * 5 + t) g (5 + b * 5 + t) ∧ eqS (joiG g b n) t g t ∧ (t < (n : Int) → eqS (joiG g b n) (5 + t) g (5 + b * 5 + t) ∧ eqS (joiG g b n) (25 + b * 5 + t) g (5 + b * 5 + t)) ∧ ((n : Int) ≤ t → eqS (joiG g b n) (5 + t) g (5 + t) ∧ eqS (joiG g b n) (25 + b * 5 + t) g (25 + b * 5 + t))) := by
  induction n with
  | zero => exact ⟨rfl, fun t _ _ => ⟨eqS.rf g _, eqS.rf g _, fun h => absurd h (by omega), fun _ => ⟨eqS.rf g _, eqS.rf g _⟩⟩⟩
  | succ n ih =>
    obtain ⟨i0, i1⟩ := ih (by omega)
    have e0 : 5 + 0 * 5 + (n : Int) = 5 + (n : Int) := by omega
    obtain ⟨j1, j2, -, j4⟩ := i1 (n : Int) (by omega) (by omega)
    obtain ⟨j5, j6⟩ := j4 (Int.le_refl _)
    have hmb : sameP (joiG g b n 2) (joiG g b n 3) (5 + 0 * 5 + (n : Int)) (25 + b * 5 + (n : Int)) := by
      rw [e0]
      exact (j5.tr ((hJ _ (by omega) (by omega)).tr j6.sy)).same
    have hc : ¬ claP (joiG g b n) b (n : Int) := fun q => q.2.1 hmb
    have e1 : joiG g b (n + 1) = fmG (toG (joiG g b n) b (n : Int)) b (n : Int) := by
      show iteG _ _ _ = _
      exact iteG_f hc
    have e2 : toG (joiG g b n) b (n : Int) = cpG (joiG g b n) (5 + b * 5 + (n : Int)) (5 + (n : Int)) := by
      unfold toG
      rw [iteG_t hmb, e0]
    rw [e1, e2]
    have k1 := cp_to (joiG g b n) (fr := 5 + b * 5 + (n : Int)) (to := 5 + (n : Int)) (by omega) (by omega)
    have k2 : ∀ z : Int, 0 ≤ z → z ≤ 44 → z ≠ 5 + (n : Int) → eqS (cpG (joiG g b n) (5 + b * 5 + (n : Int)) (5 + (n : Int))) z (joiG g b n) z := fun z h1 h2 h3 => cp_ne _ (by omega) (by omega) ⟨h1, h2⟩ h3
    generalize cpG (joiG g b n) (5 + b * 5 + (n : Int)) (5 + (n : Int)) = h at k1 k2 ⊢
    obtain ⟨f1, f2, f3⟩ := fm_s h hb (t := (n : Int)) (by omega)
    refine ⟨?_, fun t h1 h2 => ?_⟩
    · show joiC g b n + bp (claP (joiG g b n) b (n : Int)) * p2 (n : Int) = 0
      rw [bp_f hc, i0]
      omega
    obtain ⟨l1, l2, l3, l4⟩ := i1 t h1 h2
    refine ⟨?_, ?_, fun h3 => ?_, fun h3 => ?_⟩
    · by_cases q : t = (n : Int)
      · rw [q]; exact f1.tr (k1.tr j1)
      · exact (f3 _ (by omega) (by omega) (by omega) (by omega)).tr ((k2 _ (by omega) (by omega) (by omega)).tr l1)
    · exact (f3 _ (by omega) (by omega) (by omega) (by omega)).tr ((k2 _ (by omega) (by omega) (by omega)).tr l2)
    · by_cases q : t = (n : Int)
      · rw [q]; exact ⟨(f3 _ (by omega) (by omega) (by omega) (by omega)).tr (k1.tr j1), f2.tr (k1.tr j1)⟩
      · obtain ⟨m1, m2⟩ := l3 (by omega)
        exact ⟨(f3 _ (by omega) (by omega) (by omega) (by omega)).tr ((k2 _ (by omega) (by omega) (by omega)).tr m1), (f3 _ (by omega) (by omega) (by omega) (by omega)).tr ((k2 _ (by omega) (by omega) (by omega)).tr m2)⟩
    · obtain ⟨m1, m2⟩ := l4 (by omega)
      exact ⟨(f3 _ (by omega) (by omega) (by omega) (by omega)).tr ((k2 _ (by omega) (by omega) (by omega)).tr m1), (f3 _ (by omega) (by omega) (by omega) (by omega)).tr ((k2 _ (by omega) (by omega) (by omega)).tr m2)⟩
/-- the picture is as it is approved: nothing differs, nothing has moved -/
theorem px_eq {g : Nat → Nat → Int} {x y : Int} (h : eqS g x g y) {c r : Int} (hc : 0 ≤ c ∧ c ≤ 7) (hr : 0 ≤ r ∧ r ≤ 7) : px (g 2) x c r = px (g 2) y c r := by
  have h1 := h.2 (r * 8 + c) (by omega) (by omega)
  show g 2 (x * 64 + r * 8 + c).toNat = g 2 (y * 64 + r * 8 + c).toNat
  rw [show x * 64 + r * 8 + c = x * 64 + (r * 8 + c) by omega, show y * 64 + r * 8 + c = y * 64 + (r * 8 + c) by omega]
  exact h1
theorem cnt_eq {g : Nat → Nat → Int} {b t n : Int} (h : eqS g t g (5 + b * 5 + t)) (hn : 0 ≤ n) : cntE (CD g b t n) 64 = 0 := by
  refine cnt_pre 64 (fun k h1 h2 q => ?_)
  have h5 : difP _ _ _ _ _ _ _ _ _ _ _ _ _ _ _ := q
  exact h5.1 (by
    have h6 := px_eq h (c := k % 8) (r := k / 8) (by omega) (by omega)
    rw [h6]
    omega)
theorem mv_eq {g : Nat → Nat → Int} (hI : XInv g) {b t n : Int} (h : eqS g t g (5 + b * 5 + t)) (ht : 0 ≤ t ∧ t ≤ 4) (hn : 0 ≤ n) : mvV g b t n = 5050 := by
  have hp := hI.2.2.2.1 t.toNat (by omega)
  unfold mvV
  rw [mvN_of (best_00 (fun c r h1 h2 h3 h4 => ⟨⟨by omega, by omega⟩, by
    rw [show c + 0 = c by omega, show r + 0 = r by omega, px_eq h (c := c) (r := r) (by omega) (by omega)]
    omega⟩))]
  rfl
/-- the four worlds of a branch that is begun, joined, approved, joined -/
def b1G (g : Nat → Nat → Int) (b : Int) : Nat → Nat → Int := begG g b 5
noncomputable def b2G (g : Nat → Nat → Int) (b : Int) : Nat → Nat → Int := joiG (b1G g b) b 5
noncomputable def b3G (g : Nat → Nat → Int) (b t : Int) : Nat → Nat → Int := cpG (b2G g b) t (5 + b * 5 + t)
noncomputable def b4G (g : Nat → Nat → Int) (b t : Int) : Nat → Nat → Int := joiG (b3G g b t) b 5
theorem b_1 (g : Nat → Nat → Int) {b t : Int} (hb : 1 ≤ b ∧ b ≤ 3) (ht : 0 ≤ t ∧ t ≤ 4) : eqS (b1G g b) (5 + b * 5 + t) (b1G g b) (5 + t) ∧ JB (b1G g b) b := by
  obtain ⟨i1, i2⟩ := be_s g hb 5 (by omega)
  exact ⟨((i1 t ht.1 (by omega)).1).tr (i2 _ (by omega) (by omega)).sy, fun u h1 h2 => (i2 _ (by omega) (by omega)).tr (i1 u h1 (by omega)).2.sy⟩
theorem b_2 (g : Nat → Nat → Int) {b t : Int} (hb : 1 ≤ b ∧ b ≤ 3) (ht : 0 ≤ t ∧ t ≤ 4) : joiC (b1G g b) b 5 = 0 ∧ eqS (b2G g b) (5 + b * 5 + t) (b1G g b) (5 + t) ∧ JB (b2G g b) b := by
  obtain ⟨i1, i2⟩ := b_1 g hb ht
  obtain ⟨j0, j1⟩ := jo_s hb i2 5 (by omega)
  exact ⟨j0, (j1 t ht.1 ht.2).1.tr i1, fun u h1 h2 => by
    obtain ⟨m1, m2⟩ := (j1 u h1 h2).2.2.1 (by omega)
    exact m1.tr m2.sy⟩
theorem b_3 {g : Nat → Nat → Int} (hI : XInv g) {b t : Int} (hb : 1 ≤ b ∧ b ≤ 3) (ht : 0 ≤ t ∧ t ≤ 4) : XInv (b1G g b) ∧ XInv (b2G g b) ∧ XInv (b3G g b t) ∧ eqS (b3G g b t) t (b3G g b t) (5 + b * 5 + t) ∧ b3G g b t 3 (5 + b * 5 + t).toNat = 1 ∧ joiC (b3G g b t) b 5 = 0 := by
  have h1 : XInv (b1G g b) := XInv_be hI (by omega) 5 (by omega)
  have h2 : XInv (b2G g b) := XInv_jo h1 (by omega) 5 (by omega)
  have h3 : XInv (b3G g b t) := XInv_cp h2 (by omega) (by omega)
  have k1 := cp_to (b2G g b) (fr := t) (to := 5 + b * 5 + t) (by omega) (by omega)
  have k2 := cp_ne (b2G g b) (fr := t) (to := 5 + b * 5 + t) (z := t) (by omega) (by omega) (by omega) (by omega)
  obtain ⟨-, -, j⟩ := b_2 g hb ht
  have hJ : JB (b3G g b t) b := fun u q1 q2 => (cp_ne (b2G g b) (fr := t) (to := 5 + b * 5 + t) (z := 5 + u) (by omega) (by omega) (by omega) (by omega)).tr ((j u q1 q2).tr (cp_ne (b2G g b) (fr := t) (to := 5 + b * 5 + t) (z := 25 + b * 5 + u) (by omega) (by omega) (by omega) (by omega)).sy)
  exact ⟨h1, h2, h3, k2.tr k1.sy, k1.1.trans (h2.2.2.1 t.toNat (by omega)), (jo_s hb hJ 5 (by omega)).1⟩
theorem b_4 {g : Nat → Nat → Int} (hI : XInv g) {b t : Int} (hb : 1 ≤ b ∧ b ≤ 3) (ht : 0 ≤ t ∧ t ≤ 4) : XInv (b4G g b t) ∧ eqS (b4G g b t) t (b4G g b t) (5 + 0 * 5 + t) ∧ b4G g b t 3 (5 + 0 * 5 + t).toNat = 1 := by
  obtain ⟨h1, h2, h3, h4, h5, -⟩ := b_3 hI hb ht
  obtain ⟨-, -, j⟩ := b_2 g hb ht
  have hJ : JB (b3G g b t) b := fun u q1 q2 => (cp_ne (b2G g b) (fr := t) (to := 5 + b * 5 + t) (z := 5 + u) (by omega) (by omega) (by omega) (by omega)).tr ((j u q1 q2).tr (cp_ne (b2G g b) (fr := t) (to := 5 + b * 5 + t) (z := 25 + b * 5 + u) (by omega) (by omega) (by omega) (by omega)).sy)
  obtain ⟨-, i⟩ := jo_s hb hJ 5 (by omega)
  obtain ⟨-, l2, l3, -⟩ := i t ht.1 ht.2
  have l5 := (l3 (by omega)).1
  have e0 : 5 + 0 * 5 + t = 5 + t := by omega
  rw [e0]
  exact ⟨XInv_jo h3 (by omega) 5 (by omega), l2.tr (h4.tr l5.sy), l5.1.trans h5⟩
