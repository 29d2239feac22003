/-! ===== comparing, in the document's words; pure rows ===== -/
/-- the picture of a slot, by column and row -/
def px (f : Nat → Int) (s : Int) : Int → Int → Int := fun c r => f (s * 64 + r * 8 + c).toNat
def isNb (c r c1 r1 : Int) : Prop := (c - 1 ≤ c1 ∧ c1 ≤ c + 1) ∧ (r - 1 ≤ r1 ∧ r1 ≤ r + 1) ∧ (0 ≤ c1 ∧ c1 ≤ 7) ∧ (0 ≤ r1 ∧ r1 ≤ 7)
def nbP (P : Int → Int → Int) (c r v : Int) : Prop := ∃ c1 r1, isNb c r c1 r1 ∧ v = P c1 r1
/-- a cell is soft -/
def softP (P Q : Int → Int → Int) (b c r : Int) : Prop := ∃ lo hi, nbP P c r lo ∧ nbP P c r hi ∧ (∀ v, nbP P c r v → lo ≤ v ∧ v ≤ hi) ∧ b < hi - lo ∧ lo ≤ Q c r ∧ Q c r ≤ hi
/-- the least and the greatest of the neighbours that have been seen -/
def accP (P : Int → Int → Int) (c r lo gr : Int) (V : Int → Int → Prop) : Prop := (0 ≤ lo ∧ lo ≤ 255) ∧ (0 ≤ gr ∧ gr ≤ 255) ∧ (lo = 255 ∨ nbP P c r lo) ∧ (gr = 0 ∨ nbP P c r gr) ∧ ∀ c1 r1, isNb c r c1 r1 → V c1 r1 → lo ≤ P c1 r1 ∧ P c1 r1 ≤ gr
theorem acc_0 (P : Int → Int → Int) (c r : Int) {V : Int → Int → Prop} (hV : ∀ c1 r1, isNb c r c1 r1 → ¬ V c1 r1) : accP P c r 255 0 V := ⟨by omega, by omega, Or.inl rfl, Or.inl rfl, fun c1 r1 h1 h2 => absurd h2 (hV c1 r1 h1)⟩
theorem acc_w {P : Int → Int → Int} {c r lo gr : Int} {V V2 : Int → Int → Prop} (h : accP P c r lo gr V) (hV : ∀ c1 r1, isNb c r c1 r1 → V2 c1 r1 → V c1 r1) : accP P c r lo gr V2 := ⟨h.1, h.2.1, h.2.2.1, h.2.2.2.1, fun c1 r1 h1 h2 => h.2.2.2.2 c1 r1 h1 (hV c1 r1 h1 h2)⟩
theorem acc_s {P : Int → Int → Int} {c r lo gr lo2 gr2 c0 r0 : Int} {V V2 : Int → Int → Prop} (h : accP P c r lo gr V) (hn : isNb c r c0 r0) (hb : 0 ≤ P c0 r0 ∧ P c0 r0 ≤ 255) (h1 : lo2 ≤ lo ∧ lo2 ≤ P c0 r0 ∧ (lo2 = lo ∨ lo2 = P c0 r0)) (h2 : gr ≤ gr2 ∧ P c0 r0 ≤ gr2 ∧ (gr2 = gr ∨ gr2 = P c0 r0)) (hV : ∀ c1 r1, isNb c r c1 r1 → V2 c1 r1 → V c1 r1 ∨ (c1 = c0 ∧ r1 = r0)) : accP P c r lo2 gr2 V2 := by
  obtain ⟨a1, a2, a3, a4, a5⟩ := h
  refine ⟨by omega, by omega, ?_, ?_, fun c1 r1 q1 q2 => ?_⟩
  · rcases h1.2.2 with e | e
    · rw [e]; exact a3
    · exact Or.inr ⟨c0, r0, hn, e⟩
  · rcases h2.2.2 with e | e
    · rw [e]; exact a4
    · exact Or.inr ⟨c0, r0, hn, e⟩
  · rcases hV c1 r1 q1 q2 with h | ⟨rfl, rfl⟩
    · have := a5 c1 r1 q1 h
      omega
    · omega
theorem acc_e {P Q : Int → Int → Int} {b c r lo gr : Int} {V : Int → Int → Prop} (h : accP P c r lo gr V) (hV : ∀ c1 r1, isNb c r c1 r1 → V c1 r1) (hc : (0 ≤ c ∧ c ≤ 7) ∧ (0 ≤ r ∧ r ≤ 7)) (hb : 0 ≤ P c r ∧ P c r ≤ 255) (h0 : 0 ≤ b) : softP P Q b c r ↔ (¬ (lo - gr ≤ b ∧ gr - lo ≤ b) ∧ lo ≤ Q c r ∧ Q c r ≤ gr) := by
  obtain ⟨a1, a2, a3, a4, a5⟩ := h
  have hn : isNb c r c r := ⟨by omega, by omega, hc.1, hc.2⟩
  have hcc := a5 c r hn (hV c r hn)
  have n1 : nbP P c r lo := a3.elim (fun e => ⟨c, r, hn, by omega⟩) id
  have n2 : nbP P c r gr := a4.elim (fun e => ⟨c, r, hn, by omega⟩) id
  constructor
  · rintro ⟨l1, g1, q1, q2, q3, q4, q5, q6⟩
    have e1 := q3 _ n1
    have e2 := q3 _ n2
    obtain ⟨c1, r1, w1, w2⟩ := q1
    obtain ⟨c2, r2, w3, w4⟩ := q2
    have e3 := a5 c1 r1 w1 (hV _ _ w1)
    have e4 := a5 c2 r2 w3 (hV _ _ w3)
    omega
  · rintro ⟨q1, q2, q3⟩
    exact ⟨lo, gr, n1, n2, fun v ⟨c1, r1, w1, w2⟩ => by rw [w2]; exact a5 c1 r1 w1 (hV _ _ w1), by omega, q2, q3⟩
/-- the part's cell (c, r), moved, is alike to the approved one -/
def fitC (P Q : Int → Int → Int) (b dc dr c r : Int) : Prop := ((0 ≤ c + dc ∧ c + dc ≤ 7) ∧ (0 ≤ r + dr ∧ r + dr ≤ 7)) ∧ (P (c + dc) (r + dr) - Q c r ≤ b ∧ Q c r - P (c + dc) (r + dr) ≤ b)
def fitP (P Q : Int → Int → Int) (b lf tp ri bo dc dr : Int) : Prop := ∀ c r : Int, lf ≤ c → c < ri → tp ≤ r → r < bo → fitC P Q b dc dr c r
def in5 (dc dr : Int) : Prop := (-2 ≤ dc ∧ dc ≤ 2) ∧ (-2 ≤ dr ∧ dr ≤ 2)
/-- of two moves the one that counts -/
def keyP (dc dr c1 r1 : Int) : Prop := (dc.natAbs : Int) + dr.natAbs < (c1.natAbs : Int) + r1.natAbs ∨ ((dc.natAbs : Int) + dr.natAbs = (c1.natAbs : Int) + r1.natAbs ∧ (dr < r1 ∨ (dr = r1 ∧ dc ≤ c1)))
def bestP (F : Int → Int → Prop) (dc dr : Int) : Prop := (in5 dc dr ∧ F dc dr ∧ ∀ c1 r1, in5 c1 r1 → F c1 r1 → keyP dc dr c1 r1) ∨ (dc = 0 ∧ dr = 0 ∧ ∀ c1 r1, in5 c1 r1 → ¬ F c1 r1)
noncomputable def mvE (F : Int → Int → Prop) : Int × Int := @Classical.epsilon (Int × Int) ⟨(0, 0)⟩ (fun q => bestP F q.1 q.2)
theorem best_u {F : Int → Int → Prop} {a b c d : Int} (h1 : bestP F a b) (h2 : bestP F c d) : a = c ∧ b = d := by
  rcases h1 with ⟨i1, f1, m1⟩ | ⟨rfl, rfl, n1⟩
  · rcases h2 with ⟨i2, f2, m2⟩ | ⟨rfl, rfl, n2⟩
    · have k1 := m1 c d i2 f2
      have k2 := m2 a b i1 f1
      unfold keyP at k1 k2
      omega
    · exact absurd f1 (n2 a b i1)
  · rcases h2 with ⟨i2, f2, m2⟩ | ⟨rfl, rfl, n2⟩
    · exact absurd f2 (n1 c d i2)
    · exact ⟨rfl, rfl⟩
theorem mvE_eq {F : Int → Int → Prop} {dc dr : Int} (h : bestP F dc dr) : mvE F = (dc, dr) := by
  have h1 : bestP F (mvE F).1 (mvE F).2 := @Classical.epsilon_spec (Int × Int) (fun q => bestP F q.1 q.2) ⟨(dc, dr), h⟩
  obtain ⟨e1, e2⟩ := best_u h1 h
  exact Prod.ext e1 e2
theorem best_ex (F : Int → Int → Prop) : ∃ dc dr, bestP F dc dr := by
  by_cases h : ∃ dc dr, in5 dc dr ∧ F dc dr
  · obtain ⟨a, b, hi, hf⟩ := h
    obtain ⟨k, ⟨dc, dr, i1, f1, e1⟩, hmin⟩ := pk_least (fun k => ∃ dc dr, in5 dc dr ∧ F dc dr ∧ ((dc.natAbs : Int) + dr.natAbs) * 25 + (dr + 2) * 5 + (dc + 2) = (k : Int)) ⟨(((a.natAbs : Int) + b.natAbs) * 25 + (b + 2) * 5 + (a + 2)).toNat, a, b, hi, hf, by unfold in5 at hi; omega⟩
    refine ⟨dc, dr, Or.inl ⟨i1, f1, fun c1 r1 i2 f2 => ?_⟩⟩
    unfold keyP
    unfold in5 at i1 i2
    by_cases hk : (((c1.natAbs : Int) + r1.natAbs) * 25 + (r1 + 2) * 5 + (c1 + 2)).toNat < k
    · exact absurd ⟨c1, r1, i2, f2, by omega⟩ (hmin _ hk)
    · omega
  · exact ⟨0, 0, Or.inr ⟨rfl, rfl, fun c1 r1 i f => h ⟨c1, r1, i, f⟩⟩⟩
theorem mvE_in (F : Int → Int → Prop) : bestP F (mvE F).1 (mvE F).2 ∧ in5 (mvE F).1 (mvE F).2 := by
  obtain ⟨dc, dr, h⟩ := best_ex F
  rw [mvE_eq h]
  refine ⟨h, ?_⟩
  rcases h with ⟨i, -, -⟩ | ⟨rfl, rfl, -⟩
  · exact i
  · unfold in5; omega
/-- how the part has moved, as the method move answers it -/
noncomputable def mvN (F : Int → Int → Prop) : Int := 5050 + 100 * (mvE F).2 + (mvE F).1
theorem mvN_in (F : Int → Int → Prop) : 4848 ≤ mvN F ∧ mvN F ≤ 5252 := by
  have h := (mvE_in F).2
  unfold mvN
  unfold in5 at h
  omega
theorem mvN_c (F : Int → Int → Prop) : mvN F % 100 - 50 = (mvE F).1 ∧ mvN F / 100 - 50 = (mvE F).2 := by
  have h := (mvE_in F).2
  unfold mvN
  unfold in5 at h
  omega
theorem mvN_of {F : Int → Int → Prop} {dc dr : Int} (h : bestP F dc dr) : mvN F = 5050 + 100 * dr + dc := by
  unfold mvN
  rw [mvE_eq h]
theorem best_00 {F : Int → Int → Prop} (h : F 0 0) : bestP F 0 0 := Or.inl ⟨by unfold in5; omega, h, fun c1 r1 _ _ => by unfold keyP; omega⟩
/-- the best of the moves that have been seen -/
def fstP (F : Int → Int → Prop) (found least : Int) (V : Int → Int → Prop) : Prop := (found = 5050 ∧ least = 5 ∧ ∀ c1 r1, in5 c1 r1 → V c1 r1 → ¬ F c1 r1) ∨ (∃ dc dr : Int, in5 dc dr ∧ V dc dr ∧ F dc dr ∧ found = 5050 + 100 * dr + dc ∧ least = (dc.natAbs : Int) + dr.natAbs ∧ ∀ c1 r1, in5 c1 r1 → V c1 r1 → F c1 r1 → keyP dc dr c1 r1)
theorem fst_r {F : Int → Int → Prop} {found least : Int} {V : Int → Int → Prop} (h : fstP F found least V) : 0 ≤ least ∧ least ≤ 5 ∧ 4848 ≤ found ∧ found ≤ 5252 := by
  rcases h with ⟨h1, h2, -⟩ | ⟨dc, dr, i, -, -, h1, h2, -⟩
  · omega
  · unfold in5 at i; omega
theorem fst_w {F : Int → Int → Prop} {found least : Int} {V V2 : Int → Int → Prop} (h : fstP F found least V) (h12 : ∀ c1 r1, in5 c1 r1 → (V c1 r1 ↔ V2 c1 r1)) : fstP F found least V2 := by
  rcases h with ⟨h1, h2, h3⟩ | ⟨dc, dr, i, v, f, h1, h2, h3⟩
  · exact Or.inl ⟨h1, h2, fun c1 r1 a b => h3 c1 r1 a ((h12 c1 r1 a).mpr b)⟩
  · exact Or.inr ⟨dc, dr, i, (h12 _ _ i).mp v, f, h1, h2, fun c1 r1 a b => h3 c1 r1 a ((h12 c1 r1 a).mpr b)⟩
theorem fst_take {F : Int → Int → Prop} {found least c0 r0 : Int} {V V2 : Int → Int → Prop} (h : fstP F found least V) (h0 : in5 c0 r0) (hl : (c0.natAbs : Int) + r0.natAbs < least) (hf : F c0 r0) (h12 : ∀ c1 r1, in5 c1 r1 → (V2 c1 r1 ↔ V c1 r1 ∨ (c1 = c0 ∧ r1 = r0))) : fstP F (5050 + 100 * r0 + c0) ((c0.natAbs : Int) + r0.natAbs) V2 := by
  refine Or.inr ⟨c0, r0, h0, (h12 _ _ h0).mpr (Or.inr ⟨rfl, rfl⟩), hf, rfl, rfl, fun c1 r1 i v f => ?_⟩
  rcases (h12 _ _ i).mp v with q | ⟨rfl, rfl⟩
  · rcases h with ⟨-, -, h3⟩ | ⟨dc, dr, i2, v2, f2, -, h2, h3⟩
    · exact absurd f (h3 c1 r1 i q)
    · have k := h3 c1 r1 i q f
      unfold keyP at k ⊢
      omega
  · unfold keyP; omega
theorem fst_skip {F : Int → Int → Prop} {found least c0 r0 : Int} {V V2 : Int → Int → Prop} (h : fstP F found least V) (h0 : in5 c0 r0) (hl : least ≤ (c0.natAbs : Int) + r0.natAbs ∨ ¬ F c0 r0) (hlex : ∀ c1 r1, V c1 r1 → r1 < r0 ∨ (r1 = r0 ∧ c1 < c0)) (h12 : ∀ c1 r1, in5 c1 r1 → (V2 c1 r1 ↔ V c1 r1 ∨ (c1 = c0 ∧ r1 = r0))) : fstP F found least V2 := by
  rcases h with ⟨h1, h2, h3⟩ | ⟨dc, dr, i, v, f, h1, h2, h3⟩
  · refine Or.inl ⟨h1, h2, fun c1 r1 a b => ?_⟩
    rcases (h12 _ _ a).mp b with q | ⟨rfl, rfl⟩
    · exact h3 c1 r1 a q
    · rcases hl with q | q
      · unfold in5 at h0; omega
      · exact q
  · refine Or.inr ⟨dc, dr, i, (h12 _ _ i).mpr (Or.inl v), f, h1, h2, fun c1 r1 a b q => ?_⟩
    rcases (h12 _ _ a).mp b with w | ⟨rfl, rfl⟩
    · exact h3 c1 r1 a w q
    · rcases hl with z | z
      · have := hlex dc dr v
        unfold keyP
        omega
      · exact absurd q z
theorem fst_e {F : Int → Int → Prop} {found least : Int} {V : Int → Int → Prop} (h : fstP F found least V) (hV : ∀ c1 r1, in5 c1 r1 → V c1 r1) : found = mvN F := by
  rcases h with ⟨h1, h2, h3⟩ | ⟨dc, dr, i, v, f, h1, h2, h3⟩
  · rw [mvN_of (Or.inr ⟨rfl, rfl, fun c1 r1 a => h3 c1 r1 a (hV c1 r1 a)⟩)]
    omega
  · rw [mvN_of (Or.inl ⟨i, f, fun c1 r1 a => h3 c1 r1 a (hV c1 r1 a)⟩)]
    exact h1
/-- a cell of a rectangle -/
def inR (lf tp ri bo c r : Int) : Prop := (lf ≤ c ∧ c < ri) ∧ (tp ≤ r ∧ r < bo)
/-- a cell differs; dc, dr: how the part has moved; lf .. bo: the part; ml .. mb: the mask, from the part's upper left cell -/
def difP (P Q : Int → Int → Int) (b lf tp ri bo ml mt mr mb dc dr c r : Int) : Prop :=
  ¬ (P c r - Q c r ≤ b ∧ Q c r - P c r ≤ b) ∧ ¬ (¬ (dc = 0 ∧ dr = 0) ∧ (inR lf tp ri bo c r ∨ inR lf tp ri bo (c - dc) (r - dr))) ∧ ¬ inR ml mt mr mb (c - dc - lf) (r - dr - tp) ∧ ¬ softP P Q b c r
/-- the first place where D holds, or -1 -/
def fstD (D : Int → Prop) (v : Int) : Prop := (v = -1 ∧ ∀ k : Int, 0 ≤ k → k < 64 → ¬ D k) ∨ ((0 ≤ v ∧ v < 64) ∧ D v ∧ ∀ k : Int, 0 ≤ k → k < v → ¬ D k)
noncomputable def fdE (D : Int → Prop) : Int := @Classical.epsilon Int ⟨0⟩ (fstD D)
theorem fdE_eq {D : Int → Prop} {v : Int} (h : fstD D v) : v = fdE D := by
  have h1 : fstD D (fdE D) := @Classical.epsilon_spec Int (fstD D) ⟨v, h⟩
  generalize fdE D = w at h1
  rcases h with ⟨e1, n1⟩ | ⟨i1, d1, n1⟩ <;> rcases h1 with ⟨e2, n2⟩ | ⟨i2, d2, n2⟩
  · omega
  · exact absurd d2 (n1 w (by omega) (by omega))
  · exact absurd d1 (n2 v (by omega) (by omega))
  · rcases Int.lt_trichotomy v w with q | q | q
    · exact absurd d1 (n2 v (by omega) q)
    · exact q
    · exact absurd d2 (n1 w (by omega) q)
theorem fdE_r (D : Int → Prop) (h : ∃ v, fstD D v) : -1 ≤ fdE D ∧ fdE D < 64 := by
  obtain ⟨v, hv⟩ := h
  rw [← fdE_eq hv]
  rcases hv with ⟨e1, -⟩ | ⟨i1, -, -⟩ <;> omega
/-- at how many of the first n places D holds -/
noncomputable def cntE (D : Int → Prop) : Nat → Int
  | 0 => 0
  | n + 1 => cntE D n + bp (D (n : Int))
theorem cntE_r (D : Int → Prop) (n : Nat) : 0 ≤ cntE D n ∧ cntE D n ≤ (n : Int) := by
  induction n with
  | zero => exact ⟨Int.le_refl _, Int.le_refl _⟩
  | succ n ih =>
    have h := bp_r (D (n : Int))
    show 0 ≤ cntE D n + bp (D (n : Int)) ∧ cntE D n + bp (D (n : Int)) ≤ ((n + 1 : Nat) : Int)
    omega
theorem cntE_t {D : Int → Prop} {i : Int} (h0 : 0 ≤ i) (h : D i) : cntE D i.toNat + 1 = cntE D (i + 1).toNat := by
  have e : (i + 1).toNat = i.toNat + 1 := by omega
  rw [e]
  show _ = cntE D i.toNat + bp (D (i.toNat : Int))
  rw [show ((i.toNat : Nat) : Int) = i by omega, bp_t h]
theorem cntE_f {D : Int → Prop} {i : Int} (h0 : 0 ≤ i) (h : ¬ D i) : cntE D i.toNat = cntE D (i + 1).toNat := by
  have e : (i + 1).toNat = i.toNat + 1 := by omega
  rw [e]
  show _ = cntE D i.toNat + bp (D (i.toNat : Int))
  rw [show ((i.toNat : Nat) : Int) = i by omega, bp_f h]
  omega
/-- which cells differ, by their numbers -/
def cmpD (P Q : Int → Int → Int) (b lf tp ri bo ml mt mr mb : Int) : Int → Prop := fun k => difP P Q b lf tp ri bo ml mt mr mb (mvE (fitP P Q b lf tp ri bo)).1 (mvE (fitP P Q b lf tp ri bo)).2 (k % 8) (k / 8)
def sofD (P Q : Int → Int → Int) (b : Int) : Int → Prop := fun k => softP P Q b (k % 8) (k / 8)
