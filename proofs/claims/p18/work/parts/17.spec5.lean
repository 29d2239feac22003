/-! ===== the reference's words ===== -/
def MInv (g : Nat → Nat → Int) : Prop :=
  (∀ j, j < 320 → 0 ≤ g 1 j ∧ g 1 j ≤ 255) ∧ (∀ j, j < 2240 → 0 ≤ g 2 j ∧ g 2 j ≤ 255) ∧ (∀ j, j < 35 → g 3 j = 0 ∨ g 3 j = 1) ∧
  (∀ t : Int, (0 ≤ t ∧ t ≤ 4) → (0 ≤ g 4 (4 * t).toNat ∧ 0 ≤ g 4 (4 * t + 1).toNat ∧ 0 ≤ g 4 (4 * t + 2).toNat ∧ 0 ≤ g 4 (4 * t + 3).toNat ∧ g 4 (4 * t).toNat + g 4 (4 * t + 2).toNat ≤ 8 ∧ g 4 (4 * t + 1).toNat + g 4 (4 * t + 3).toNat ≤ 8) ∧
    (-8 ≤ g 5 (4 * t).toNat ∧ g 5 (4 * t).toNat ≤ 8 ∧ -8 ≤ g 5 (4 * t + 1).toNat ∧ g 5 (4 * t + 1).toNat ≤ 8 ∧ 0 ≤ g 5 (4 * t + 2).toNat ∧ g 5 (4 * t + 2).toNat ≤ 8 ∧ 0 ≤ g 5 (4 * t + 3).toNat ∧ g 5 (4 * t + 3).toNat ≤ 8) ∧ (g 4 (4 * t + 2).toNat = 0 → g 5 (4 * t + 2).toNat = 0)) ∧
  (∀ j, j < 50 → g 6 j = 0 ∨ g 6 j = 1) ∧ (∀ j, j < 5 → 0 ≤ g 7 j ∧ g 7 j ≤ 10) ∧ ((-2 ≤ g 0 8 ∧ g 0 8 ≤ 2) ∧ (-2 ≤ g 0 9 ∧ g 0 9 ≤ 2))
/-- the number of the exception -/
def thG (g : Nat → Nat → Int) (v : Int) : Nat → Nat → Int := updG g 0 (updI (g 0) 0 v)
theorem MInv_th {g : Nat → Nat → Int} (h : MInv g) (v : Int) : MInv (thG g v) := h
theorem mul88 {w h : Int} (hw : 0 ≤ w ∧ w ≤ 8) (hh : 0 ≤ h ∧ h ≤ 8) : 0 ≤ w * h ∧ w * h ≤ 64 := by
  refine ⟨Int.mul_nonneg hw.1 hh.1, ?_⟩
  have h1 : w * h ≤ 8 * 8 := Int.mul_le_mul hw.2 hh.2 hh.1 (by omega)
  omega
theorem kdiv {w h k : Int} (hk : 0 ≤ k) (hlt : k < w * h) (hw : 0 ≤ w) : 0 < w ∧ (0 ≤ k / w ∧ k / w < h) ∧ (0 ≤ k % w ∧ k % w < w) := by
  have hw0 : 0 < w := by
    rcases Int.lt_or_eq_of_le hw with q | q
    · exact q
    · rw [← q, Int.zero_mul] at hlt; omega
  refine ⟨hw0, ⟨Int.ediv_nonneg hk hw, ?_⟩, Int.emod_nonneg _ (by omega), Int.emod_lt_of_pos _ hw0⟩
  exact Int.ediv_lt_of_lt_mul hw0 (by rw [Int.mul_comm]; exact hlt)
/-- the part's cells, one after the other -/
def fitK (P Q : Int → Int → Int) (b lf tp w dc dr : Int) (n : Int) : Prop := ∀ k : Int, 0 ≤ k → k < n → fitC P Q b dc dr (lf + k % w) (tp + k / w)
theorem fit_k {P Q : Int → Int → Int} {b lf tp w h dc dr : Int} (hw : 0 ≤ w) (hh : 0 ≤ h) : fitK P Q b lf tp w dc dr (w * h) ↔ fitP P Q b lf tp (lf + w) (tp + h) dc dr := by
  constructor
  · intro q c r h1 h2 h3 h4
    have hw0 : 0 < w := by omega
    have e1 : ((r - tp) * w + (c - lf)) / w = r - tp := by
      rw [Int.add_comm, Int.add_mul_ediv_right _ _ (by omega), Int.ediv_eq_zero_of_lt (by omega) (by omega)]
      omega
    have e2 : ((r - tp) * w + (c - lf)) % w = c - lf := by
      rw [Int.add_comm, Int.add_mul_emod_self_right, Int.emod_eq_of_lt (by omega) (by omega)]
    have hlt : (r - tp) * w + (c - lf) < w * h := by
      have e3 : (r - tp + 1) * w ≤ h * w := Int.mul_le_mul_of_nonneg_right (by omega) hw
      rw [Int.add_mul, Int.mul_comm h w] at e3
      omega
    have e4 : 0 ≤ (r - tp) * w := Int.mul_nonneg (by omega) hw
    have := q ((r - tp) * w + (c - lf)) (by omega) hlt
    rw [e1, e2] at this
    rw [show lf + (c - lf) = c by omega, show tp + (r - tp) = r by omega] at this
    exact this
  · intro q k h1 h2
    obtain ⟨a1, a2, a3⟩ := kdiv h1 h2 hw
    exact q _ _ (by omega) (by omega) (by omega) (by omega)
theorem fitK_s {P Q : Int → Int → Int} {b lf tp w dc dr k : Int} (h0 : 0 ≤ k) (h : fitK P Q b lf tp w dc dr k) (h1 : fitC P Q b dc dr (lf + k % w) (tp + k / w)) : fitK P Q b lf tp w dc dr (k + 1) := fun j a b2 => by
  rcases Int.lt_or_eq_of_le (show j ≤ k by omega) with q | q
  · exact h j a q
  · rw [q]; exact h1
theorem inR_m {lf tp w h c r : Int} : ((lf ≤ c ∧ c ≤ lf + w - 1) ∧ (tp ≤ r ∧ r ≤ tp + h - 1)) ↔ inR lf tp (lf + w) (tp + h) c r := by unfold inR; omega
theorem inR_s {lf tp w h c r dc dr : Int} : ((lf + dc ≤ c ∧ c ≤ lf + dc + w - 1) ∧ (tp + dr ≤ r ∧ r ≤ tp + dr + h - 1)) ↔ inR lf tp (lf + w) (tp + h) (c - dc) (r - dr) := by unfold inR; omega
theorem inR_k {lf tp ml mt w h c r dc dr : Int} : ((lf + dc + ml ≤ c ∧ c ≤ lf + dc + ml + w - 1) ∧ (tp + dr + mt ≤ r ∧ r ≤ tp + dr + mt + h - 1)) ↔ inR ml mt (ml + w) (mt + h) (c - dc - lf) (r - dr - tp) := by unfold inR; omega
/-- out of a comparison: masked, or moved -/
def loP (lf tp ri bo ml mt mr mb dc dr c r : Int) : Prop := (¬ (dc = 0 ∧ dr = 0) ∧ (inR lf tp ri bo c r ∨ inR lf tp ri bo (c - dc) (r - dr))) ∨ inR ml mt mr mb (c - dc - lf) (r - dr - tp)
theorem dif_lo {P Q : Int → Int → Int} {b lf tp ri bo ml mt mr mb dc dr c r : Int} : difP P Q b lf tp ri bo ml mt mr mb dc dr c r ↔ (¬ (P c r - Q c r ≤ b ∧ Q c r - P c r ≤ b) ∧ ¬ softP P Q b c r ∧ ¬ loP lf tp ri bo ml mt mr mb dc dr c r) :=
  ⟨fun h => ⟨h.1, h.2.2.2, fun q => q.elim h.2.1 h.2.2.1⟩, fun h => ⟨h.1, fun q => h.2.2 (Or.inl q), fun q => h.2.2 (Or.inr q), h.2.1⟩⟩
/-- findMove -/
noncomputable def mvG (g : Nat → Nat → Int) (F : Int → Int → Prop) : Nat → Nat → Int := updG g 0 (updI (updI (g 0) 8 (mvE F).1) 9 (mvE F).2)
/-- copy, in the reference -/
def cpM (g : Nat → Nat → Int) (fr to : Int) : Nat → Nat → Int := updG (updG g 3 (updI (g 3) to.toNat (g 3 fr.toNat))) 2 (cpyI (g 2) (fr * 64).toNat (to * 64).toNat)
/-- copying, cell by cell -/
def cpK (f : Nat → Int) (sp dp n : Nat) (h : Nat → Int) : Nat → Int := fun j => if dp ≤ j ∧ j < dp + n then h (sp + (j - dp)) else f j
theorem cpK_s (f h : Nat → Int) (sp dp n : Nat) : updI (cpK f sp dp n h) (dp + n) (h (sp + n)) = cpK f sp dp (n + 1) h := by
  funext j
  unfold updI cpK
  by_cases q : j = dp + n
  · rw [if_pos q, if_pos (by omega)]
    congr 1
    omega
  · rw [if_neg q]
    by_cases q2 : dp ≤ j ∧ j < dp + n
    · rw [if_pos q2, if_pos (by omega)]
    · rw [if_neg q2, if_neg (by omega)]
theorem cpK_0 (f h : Nat → Int) (sp dp : Nat) : cpK f sp dp 0 h = f := by
  funext j
  unfold cpK
  rw [if_neg (by omega)]
/-- run's history, in the reference: shifted where full -/
def shK (f : Nat → Int) (b n : Nat) : Nat → Int := fun j => if b ≤ j ∧ j < b + n then f (j + 1) else f j
theorem shK_s (f : Nat → Int) (b n : Nat) : updI (shK f b n) (b + n) (f (b + n + 1)) = shK f b (n + 1) := by
  funext j
  unfold updI shK
  by_cases q : j = b + n
  · rw [if_pos q, if_pos (by omega), q]
  · rw [if_neg q]
    by_cases q2 : b ≤ j ∧ j < b + n
    · rw [if_pos q2, if_pos (by omega)]
    · rw [if_neg q2, if_neg (by omega)]
theorem shK_at (f : Nat → Int) (b n j : Nat) (h : b + n ≤ j) : shK f b n j = f j := by
  unfold shK
  rw [if_neg (by omega)]
/-- two places hold the same, as far as k cells -/
def samK (f h : Nat → Int) (y z k : Int) : Prop := (h y.toNat = 1 ↔ h z.toNat = 1) ∧ ∀ j : Int, 0 ≤ j → j < k → f (y * 64 + j).toNat = f (z * 64 + j).toNat
theorem fit_kE {P Q : Int → Int → Int} {b lf tp w h dc dr k : Int} (hk : k = w * h) (hw : 0 ≤ w) (hh : 0 ≤ h) : fitK P Q b lf tp w dc dr k ↔ fitP P Q b lf tp (lf + w) (tp + h) dc dr := by
  rw [hk]
  exact fit_k hw hh
