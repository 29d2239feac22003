/-! ===== the class beside the reference ===== -/
/-- the class's slot of a place of the reference's -/
def slP (p : Nat) : Nat := if p < 20 then p + 5 else p + 10
theorem slP_r {p : Nat} (h : p < 35) : 5 ≤ slP p ∧ slP p < 45 := by
  unfold slP
  split <;> omega
theorem slP_i {p q : Nat} (h : slP p = slP q) : p = q := by
  unfold slP at h
  split at h <;> split at h <;> omega
/-- a bit of the results -/
def hb (x : Int) (i : Nat) : Nat := (x % 1024).toNat / 2 ^ i % 2
def relH (g m : Nat → Nat → Int) (t : Int) : Prop := g 16 t.toNat = m 7 t.toNat ∧ ∀ k : Nat, k < (m 7 t.toNat).toNat → m 6 (10 * t + (k : Int)).toNat = (hb (g 15 t.toNat) ((m 7 t.toNat).toNat - 1 - k) : Int)
def relP (g m : Nat → Nat → Int) (t : Int) : Prop := g 5 t.toNat = m 4 (4 * t).toNat ∧ g 6 t.toNat = m 4 (4 * t + 1).toNat ∧ g 7 t.toNat = m 4 (4 * t).toNat + m 4 (4 * t + 2).toNat ∧ g 8 t.toNat = m 4 (4 * t + 1).toNat + m 4 (4 * t + 3).toNat
def relM (g m : Nat → Nat → Int) (t : Int) : Prop := (m 5 (4 * t + 2).toNat = 0 ∧ g 12 t.toNat = g 10 t.toNat) ∨ (g 10 t.toNat = m 5 (4 * t).toNat ∧ g 11 t.toNat = m 5 (4 * t + 1).toNat ∧ g 12 t.toNat = m 5 (4 * t).toNat + m 5 (4 * t + 2).toNat ∧ g 13 t.toNat = m 5 (4 * t + 1).toNat + m 5 (4 * t + 3).toNat)
def Rel (g m : Nat → Nat → Int) : Prop :=
  (∀ j, j < 320 → g 2 j = m 1 j) ∧ (∀ p, p < 35 → m 3 p = 1 → ∀ k, k < 64 → g 2 (slP p * 64 + k) = m 2 (p * 64 + k)) ∧ (∀ p, p < 35 → g 3 (slP p) = m 3 p) ∧
  (∀ t : Int, (0 ≤ t ∧ t ≤ 4) → relP g m t) ∧ (∀ t : Int, (0 ≤ t ∧ t ≤ 4) → relM g m t) ∧ (∀ t : Int, (0 ≤ t ∧ t ≤ 4) → relH g m t)
theorem Rel_0 : Rel z1 z0 := by
  refine ⟨fun j _ => ?_, fun p _ h => ?_, fun p hp => ?_, fun t _ => ⟨rfl, rfl, rfl, rfl⟩, fun t _ => Or.inl ⟨rfl, rfl⟩, fun t _ => ⟨rfl, fun k hk => absurd hk (Nat.not_lt_zero k)⟩⟩
  · show (if (2 : Nat) = 3 ∧ j < 5 then (1 : Int) else 0) = 0
    rw [if_neg (fun q => absurd q.1 (by decide))]
  · exact absurd (show (0 : Int) = 1 from h) (by decide)
  · have := slP_r hp
    show (if (3 : Nat) = 3 ∧ slP p < 5 then (1 : Int) else 0) = 0
    rw [if_neg (fun q => absurd q.2 (by omega))]
theorem XInv_z1 : XInv z1 := by
  refine ⟨fun j _ => ?_, fun j _ => ?_, fun j hj => ?_, fun j _ => ?_, fun j _ => ?_, fun j _ => ?_⟩
  · show 0 ≤ (if (2 : Nat) = 3 ∧ j < 5 then (1 : Int) else 0) ∧ (if (2 : Nat) = 3 ∧ j < 5 then (1 : Int) else 0) ≤ 255
    split <;> omega
  · show (if (3 : Nat) = 3 ∧ j < 5 then (1 : Int) else 0) = 0 ∨ (if (3 : Nat) = 3 ∧ j < 5 then (1 : Int) else 0) = 1
    split
    · exact Or.inr rfl
    · exact Or.inl rfl
  · show (if (3 : Nat) = 3 ∧ j < 5 then (1 : Int) else 0) = 1
    rw [if_pos ⟨rfl, hj⟩]
  · exact (by decide : (0 : Int) ≤ 0 ∧ (0 : Int) ≤ 0 ∧ (0 : Int) ≤ 8 ∧ (0 : Int) ≤ 0 ∧ (0 : Int) ≤ 0 ∧ (0 : Int) ≤ 8)
  · exact (by decide : -8 ≤ (0 : Int) ∧ (0 : Int) ≤ 8 ∧ -8 ≤ (0 : Int) ∧ (0 : Int) ≤ 8 ∧ -8 ≤ (0 : Int) ∧ (0 : Int) ≤ 16 ∧ -8 ≤ (0 : Int) ∧ (0 : Int) ≤ 16)
  · exact (by decide : (0 : Int) ≤ 0 ∧ (0 : Int) ≤ 10)
theorem MInv_z0 : MInv z0 := ⟨fun _ _ => (by decide : (0 : Int) ≤ 0 ∧ (0 : Int) ≤ 255), fun _ _ => (by decide : (0 : Int) ≤ 0 ∧ (0 : Int) ≤ 255), fun _ _ => Or.inl rfl, fun _ _ => ⟨(by decide : (0 : Int) ≤ 0 ∧ (0 : Int) ≤ 0 ∧ (0 : Int) ≤ 0 ∧ (0 : Int) ≤ 0 ∧ (0 : Int) + 0 ≤ 8 ∧ (0 : Int) + 0 ≤ 8), (by decide : -8 ≤ (0 : Int) ∧ (0 : Int) ≤ 8 ∧ -8 ≤ (0 : Int) ∧ (0 : Int) ≤ 8 ∧ (0 : Int) ≤ 0 ∧ (0 : Int) ≤ 8 ∧ (0 : Int) ≤ 0 ∧ (0 : Int) ≤ 8), fun _ => rfl⟩, fun _ _ => Or.inl rfl, fun _ _ => (by decide : (0 : Int) ≤ 0 ∧ (0 : Int) ≤ 10), (by decide : (-2 ≤ (0 : Int) ∧ (0 : Int) ≤ 2) ∧ (-2 ≤ (0 : Int) ∧ (0 : Int) ≤ 2))⟩
theorem Rel_th {g m : Nat → Nat → Int} (h : Rel g m) (v : Int) : Rel g (thG m v) := h
theorem Rel_mv {g m : Nat → Nat → Int} (h : Rel g m) (F : Int → Int → Prop) : Rel g (mvG m F) := h
/-! what looks the same answers the same -/
theorem fitP_c {P Q P2 Q2 : Int → Int → Int} (hP : ∀ c r : Int, (0 ≤ c ∧ c ≤ 7) → (0 ≤ r ∧ r ≤ 7) → P c r = P2 c r) (hQ : ∀ c r : Int, (0 ≤ c ∧ c ≤ 7) → (0 ≤ r ∧ r ≤ 7) → Q c r = Q2 c r) {b lf tp ri bo : Int} (h : 0 ≤ lf ∧ ri ≤ 8 ∧ 0 ≤ tp ∧ bo ≤ 8) : fitP P Q b lf tp ri bo = fitP P2 Q2 b lf tp ri bo := by
  funext dc dr
  apply propext
  refine ⟨fun q c r h1 h2 h3 h4 => ?_, fun q c r h1 h2 h3 h4 => ?_⟩
  · obtain ⟨q1, q2⟩ := q c r h1 h2 h3 h4
    refine ⟨q1, ?_⟩
    rw [← hP _ _ q1.1 q1.2, ← hQ c r (by omega) (by omega)]
    exact q2
  · obtain ⟨q1, q2⟩ := q c r h1 h2 h3 h4
    refine ⟨q1, ?_⟩
    rw [hP _ _ q1.1 q1.2, hQ c r (by omega) (by omega)]
    exact q2
theorem nbP_c {P P2 : Int → Int → Int} (hP : ∀ c r : Int, (0 ≤ c ∧ c ≤ 7) → (0 ≤ r ∧ r ≤ 7) → P c r = P2 c r) (c r v : Int) : nbP P c r v ↔ nbP P2 c r v :=
  ⟨fun ⟨c1, r1, i, e⟩ => ⟨c1, r1, i, by rw [e]; exact hP _ _ i.2.2.1 i.2.2.2⟩, fun ⟨c1, r1, i, e⟩ => ⟨c1, r1, i, by rw [e]; exact (hP _ _ i.2.2.1 i.2.2.2).symm⟩⟩
theorem softP_c {P Q P2 Q2 : Int → Int → Int} (hP : ∀ c r : Int, (0 ≤ c ∧ c ≤ 7) → (0 ≤ r ∧ r ≤ 7) → P c r = P2 c r) (hQ : ∀ c r : Int, (0 ≤ c ∧ c ≤ 7) → (0 ≤ r ∧ r ≤ 7) → Q c r = Q2 c r) (b : Int) {c r : Int} (hc : 0 ≤ c ∧ c ≤ 7) (hr : 0 ≤ r ∧ r ≤ 7) : softP P Q b c r ↔ softP P2 Q2 b c r := by
  have hn : nbP P c r = nbP P2 c r := by
    funext v
    exact propext (nbP_c hP c r v)
  unfold softP
  rw [hn, hQ c r hc hr]
theorem inR_e {lf tp ri bo c r : Int} (h : ri ≤ lf) : ¬ inR lf tp ri bo c r := by
  unfold inR
  omega
theorem difP_c {P Q P2 Q2 : Int → Int → Int} (hP : ∀ c r : Int, (0 ≤ c ∧ c ≤ 7) → (0 ≤ r ∧ r ≤ 7) → P c r = P2 c r) (hQ : ∀ c r : Int, (0 ≤ c ∧ c ≤ 7) → (0 ≤ r ∧ r ≤ 7) → Q c r = Q2 c r) {b lf tp ri bo ml mt mr mb ml2 mt2 mr2 mb2 dc dr : Int} (hm : ∀ c r : Int, inR ml mt mr mb c r ↔ inR ml2 mt2 mr2 mb2 c r) {c r : Int} (hc : 0 ≤ c ∧ c ≤ 7) (hr : 0 ≤ r ∧ r ≤ 7) : difP P Q b lf tp ri bo ml mt mr mb dc dr c r ↔ difP P2 Q2 b lf tp ri bo ml2 mt2 mr2 mb2 dc dr c r := by
  have h1 := softP_c hP hQ b hc hr
  unfold difP
  rw [hP c r hc hr, hQ c r hc hr, propext h1, propext (hm (c - dc - lf) (r - dr - tp))]
theorem fdE_c {D D2 : Int → Prop} (h : ∀ k : Int, 0 ≤ k → k < 64 → (D k ↔ D2 k)) : fdE D = fdE D2 := by
  have e : fstD D = fstD D2 := by
    funext v
    apply propext
    refine ⟨fun q => ?_, fun q => ?_⟩
    · rcases q with ⟨q1, q2⟩ | ⟨q1, q2, q3⟩
      · exact Or.inl ⟨q1, fun k a b z => q2 k a b ((h k a b).mpr z)⟩
      · exact Or.inr ⟨q1, (h v q1.1 q1.2).mp q2, fun k a b z => q3 k a b ((h k a (by omega)).mpr z)⟩
    · rcases q with ⟨q1, q2⟩ | ⟨q1, q2, q3⟩
      · exact Or.inl ⟨q1, fun k a b z => q2 k a b ((h k a b).mp z)⟩
      · exact Or.inr ⟨q1, (h v q1.1 q1.2).mpr q2, fun k a b z => q3 k a b ((h k a (by omega)).mp z)⟩
  unfold fdE
  rw [e]
theorem cntE_c {D D2 : Int → Prop} (h : ∀ k : Int, 0 ≤ k → k < 64 → (D k ↔ D2 k)) (n : Nat) (hn : n ≤ 64) : cntE D n = cntE D2 n := by
  induction n with
  | zero => rfl
  | succ n ih =>
    have h1 := h (n : Int) (by omega) (by omega)
    have e := ih (by omega)
    show cntE D n + bp (D (n : Int)) = cntE D2 n + bp (D2 (n : Int))
    rw [e, bp_c h1]
theorem Rel_px {g m : Nat → Nat → Int} (h : Rel g m) {t : Int} (ht : 0 ≤ t ∧ t ≤ 4) : ∀ c r : Int, (0 ≤ c ∧ c ≤ 7) → (0 ≤ r ∧ r ≤ 7) → px (g 2) t c r = px (m 1) t c r := fun c r hc hr => h.1 (t * 64 + r * 8 + c).toNat (by omega)
theorem Rel_pq {g m : Nat → Nat → Int} (h : Rel g m) {b t : Int} (hb : 0 ≤ b ∧ b ≤ 3) (ht : 0 ≤ t ∧ t ≤ 4) (hk : m 3 (5 * b + t).toNat = 1) : ∀ c r : Int, (0 ≤ c ∧ c ≤ 7) → (0 ≤ r ∧ r ≤ 7) → px (g 2) (5 + b * 5 + t) c r = px (m 2) (5 * b + t) c r := fun c r hc hr => by
  have h1 := h.2.1 (5 * b + t).toNat (by omega) hk (r * 8 + c).toNat (by omega)
  have e1 : slP (5 * b + t).toNat = (5 * b + t).toNat + 5 := by
    unfold slP
    rw [if_pos (by omega)]
  rw [e1] at h1
  show g 2 ((5 + b * 5 + t) * 64 + r * 8 + c).toNat = m 2 ((5 * b + t) * 64 + r * 8 + c).toNat
  rw [show ((5 + b * 5 + t) * 64 + r * 8 + c).toNat = ((5 * b + t).toNat + 5) * 64 + (r * 8 + c).toNat by omega, show ((5 * b + t) * 64 + r * 8 + c).toNat = (5 * b + t).toNat * 64 + (r * 8 + c).toNat by omega]
  exact h1
theorem Rel_hd {g m : Nat → Nat → Int} (h : Rel g m) {b t : Int} (hb : 0 ≤ b ∧ b ≤ 3) (ht : 0 ≤ t ∧ t ≤ 4) : g 3 (5 + b * 5 + t).toNat = m 3 (5 * b + t).toNat := by
  have h1 := h.2.2.1 (5 * b + t).toNat (by omega)
  unfold slP at h1
  rw [if_pos (by omega)] at h1
  rw [show (5 + b * 5 + t).toNat = (5 * b + t).toNat + 5 by omega]
  exact h1
theorem Rel_rect {g m : Nat → Nat → Int} (h : Rel g m) {t : Int} (ht : 0 ≤ t ∧ t ≤ 4) : g 5 t.toNat = m 4 (4 * t).toNat ∧ g 6 t.toNat = m 4 (4 * t + 1).toNat ∧ g 7 t.toNat = m 4 (4 * t).toNat + m 4 (4 * t + 2).toNat ∧ g 8 t.toNat = m 4 (4 * t + 1).toNat + m 4 (4 * t + 3).toNat := h.2.2.2.1 t ht
/-- the moves of both -/
theorem Rel_F {g m : Nat → Nat → Int} (h : Rel g m) (hM : MInv m) {b t n : Int} (hb : 0 ≤ b ∧ b ≤ 3) (ht : 0 ≤ t ∧ t ≤ 4) (hk : m 3 (5 * b + t).toNat = 1) : fitP (px (g 2) t) (px (g 2) (5 + b * 5 + t)) n (g 5 t.toNat) (g 6 t.toNat) (g 7 t.toNat) (g 8 t.toNat) = fitP (px (m 1) t) (px (m 2) (5 * b + t)) n (m 4 (4 * t).toNat) (m 4 (4 * t + 1).toNat) (m 4 (4 * t).toNat + m 4 (4 * t + 2).toNat) (m 4 (4 * t + 1).toNat + m 4 (4 * t + 3).toNat) := by
  have hr := Rel_rect h ht
  have hp := (hM.2.2.2.1 t ht).1
  rw [hr.1, hr.2.1, hr.2.2.1, hr.2.2.2]
  exact fitP_c (Rel_px h ht) (Rel_pq h hb ht hk) (by omega)
theorem Rel_mk {g m : Nat → Nat → Int} (h : Rel g m) {t : Int} (ht : 0 ≤ t ∧ t ≤ 4) : ∀ c r : Int, inR (g 10 t.toNat) (g 11 t.toNat) (g 12 t.toNat) (g 13 t.toNat) c r ↔ inR (m 5 (4 * t).toNat) (m 5 (4 * t + 1).toNat) (m 5 (4 * t).toNat + m 5 (4 * t + 2).toNat) (m 5 (4 * t + 1).toNat + m 5 (4 * t + 3).toNat) c r := fun c r => by
  rcases h.2.2.2.2.1 t ht with ⟨h1, h2⟩ | ⟨h1, h2, h3, h4⟩
  · exact ⟨fun q => absurd q (inR_e (by omega)), fun q => absurd q (inR_e (by omega))⟩
  · rw [h1, h2, h3, h4]
theorem Rel_D {g m : Nat → Nat → Int} (h : Rel g m) (hM : MInv m) {b t n : Int} (hb : 0 ≤ b ∧ b ≤ 3) (ht : 0 ≤ t ∧ t ≤ 4) (hk : m 3 (5 * b + t).toNat = 1) : ∀ k : Int, 0 ≤ k → k < 64 → (cmpD (px (g 2) t) (px (g 2) (5 + b * 5 + t)) n (g 5 t.toNat) (g 6 t.toNat) (g 7 t.toNat) (g 8 t.toNat) (g 10 t.toNat) (g 11 t.toNat) (g 12 t.toNat) (g 13 t.toNat) k ↔
    cmpD (px (m 1) t) (px (m 2) (5 * b + t)) n (m 4 (4 * t).toNat) (m 4 (4 * t + 1).toNat) (m 4 (4 * t).toNat + m 4 (4 * t + 2).toNat) (m 4 (4 * t + 1).toNat + m 4 (4 * t + 3).toNat) (m 5 (4 * t).toNat) (m 5 (4 * t + 1).toNat) (m 5 (4 * t).toNat + m 5 (4 * t + 2).toNat) (m 5 (4 * t + 1).toNat + m 5 (4 * t + 3).toNat) k) := fun k h0 h1 => by
  have hr := Rel_rect h ht
  unfold cmpD
  rw [Rel_F h hM hb ht hk, hr.1, hr.2.1, hr.2.2.1, hr.2.2.2]
  exact difP_c (Rel_px h ht) (Rel_pq h hb ht hk) (Rel_mk h ht) (by omega) (by omega)
theorem Rel_S {g m : Nat → Nat → Int} (h : Rel g m) {b t n : Int} (hb : 0 ≤ b ∧ b ≤ 3) (ht : 0 ≤ t ∧ t ≤ 4) (hk : m 3 (5 * b + t).toNat = 1) : ∀ k : Int, 0 ≤ k → k < 64 → (sofD (px (g 2) t) (px (g 2) (5 + b * 5 + t)) n k ↔ sofD (px (m 1) t) (px (m 2) (5 * b + t)) n k) := fun k h0 h1 => softP_c (Rel_px h ht) (Rel_pq h hb ht hk) n (by omega) (by omega)
theorem fd_neg (D : Int → Prop) : fdE D < 0 ↔ fdE D = -1 := by
  have := fdE_rr D
  omega
