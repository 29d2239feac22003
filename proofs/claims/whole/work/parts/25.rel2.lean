/-! ===== each command keeps both alike ===== -/
theorem Rel_cp {g m : Nat → Nat → Int} (h : Rel g m) {y z y2 z2 : Int} (hy : 0 ≤ y2 ∧ y2 < 35) (hz : 0 ≤ z2 ∧ z2 < 35) (ey : y = (slP y2.toNat : Int)) (ez : z = (slP z2.toNat : Int)) : Rel (cpG g y z) (cpM m y2 z2) := by
  have ry := slP_r (p := y2.toNat) (by omega)
  have rz := slP_r (p := z2.toNat) (by omega)
  refine ⟨fun j hj => ?_, fun p hp hk k hk2 => ?_, fun p hp => ?_, h.2.2.2⟩
  · show cpyI (g 2) (y * 64).toNat (z * 64).toNat j = m 1 j
    unfold cpyI
    rw [if_neg (by omega)]
    exact h.1 j hj
  · have hk' : updI (m 3) z2.toNat (m 3 y2.toNat) p = 1 := hk
    have rp := slP_r hp
    show cpyI (g 2) (y * 64).toNat (z * 64).toNat (slP p * 64 + k) = cpyI (m 2) (y2 * 64).toNat (z2 * 64).toNat (p * 64 + k)
    unfold cpyI
    unfold updI at hk'
    by_cases e : p = z2.toNat
    · rw [if_pos e] at hk'
      subst e
      rw [if_pos (by omega), if_pos (by omega)]
      have h1 := h.2.1 y2.toNat (by omega) hk' k hk2
      rw [show (y * 64).toNat + (slP z2.toNat * 64 + k - (z * 64).toNat) = slP y2.toNat * 64 + k by omega, show (y2 * 64).toNat + (z2.toNat * 64 + k - (z2 * 64).toNat) = y2.toNat * 64 + k by omega]
      exact h1
    · rw [if_neg e] at hk'
      have e2 : slP p ≠ slP z2.toNat := fun q => e (slP_i q)
      rw [if_neg (by omega), if_neg (by omega)]
      exact h.2.1 p hp hk' k hk2
  · show updI (g 3) z.toNat (g 3 y.toNat) (slP p) = updI (m 3) z2.toNat (m 3 y2.toNat) p
    unfold updI
    by_cases e : p = z2.toNat
    · rw [if_pos e, if_pos (by rw [e]; omega), show y.toNat = slP y2.toNat by omega]
      exact h.2.2.1 y2.toNat (by omega)
    · have e2 : slP p ≠ slP z2.toNat := fun q => e (slP_i q)
      rw [if_neg e, if_neg (by omega)]
      exact h.2.2.1 p hp
theorem sl_ap {b t : Int} (hb : 0 ≤ b ∧ b ≤ 3) (ht : 0 ≤ t ∧ t ≤ 4) : 5 + b * 5 + t = (slP (5 * b + t).toNat : Int) := by
  unfold slP
  rw [if_pos (by omega)]
  omega
theorem sl_ba {b t : Int} (hb : 1 ≤ b ∧ b ≤ 3) (ht : 0 ≤ t ∧ t ≤ 4) : 25 + b * 5 + t = (slP (5 * (4 + b - 1) + t).toNat : Int) := by
  unfold slP
  rw [if_neg (by omega)]
  omega
theorem Rel_sa {g m : Nat → Nat → Int} (h : Rel g m) {y z y2 z2 : Int} (hy : 0 ≤ y2 ∧ y2 < 35) (hz : 0 ≤ z2 ∧ z2 < 35) (ey : y = (slP y2.toNat : Int)) (ez : z = (slP z2.toNat : Int)) : sameP (g 2) (g 3) y z ↔ sameP (m 2) (m 3) y2 z2 := by
  have h1 := h.2.2.1 y2.toNat (by omega)
  have h2 := h.2.2.1 z2.toNat (by omega)
  unfold sameP
  rw [show y.toNat = slP y2.toNat by omega, show z.toNat = slP z2.toNat by omega, h1, h2]
  refine ⟨fun ⟨q1, q2⟩ => ⟨q1, fun q3 k a b => ?_⟩, fun ⟨q1, q2⟩ => ⟨q1, fun q3 k a b => ?_⟩⟩
  · have e1 := h.2.1 y2.toNat (by omega) q3 k.toNat (by omega)
    have e2 := h.2.1 z2.toNat (by omega) (q1.mp q3) k.toNat (by omega)
    have e3 := q2 q3 k a b
    rw [show (y * 64 + k).toNat = slP y2.toNat * 64 + k.toNat by omega, show (z * 64 + k).toNat = slP z2.toNat * 64 + k.toNat by omega, e1, e2] at e3
    rw [show (y2 * 64 + k).toNat = y2.toNat * 64 + k.toNat by omega, show (z2 * 64 + k).toNat = z2.toNat * 64 + k.toNat by omega]
    exact e3
  · have e1 := h.2.1 y2.toNat (by omega) q3 k.toNat (by omega)
    have e2 := h.2.1 z2.toNat (by omega) (q1.mp q3) k.toNat (by omega)
    have e3 := q2 q3 k a b
    rw [show (y2 * 64 + k).toNat = y2.toNat * 64 + k.toNat by omega, show (z2 * 64 + k).toNat = z2.toNat * 64 + k.toNat by omega] at e3
    rw [show (y * 64 + k).toNat = slP y2.toNat * 64 + k.toNat by omega, show (z * 64 + k).toNat = slP z2.toNat * 64 + k.toNat by omega, e1, e2]
    exact e3
theorem sameP_s {f h : Nat → Int} {y z : Int} (q : sameP f h y z) : sameP f h z y := ⟨q.1.symm, fun a k b c => (q.2 (q.1.mpr a) k b c).symm⟩
/-- taking over what the same picture already is -/
theorem Rel_id {g m : Nat → Nat → Int} (h : Rel g m) (hM : MInv m) {y z y2 z2 x2 : Int} (hy : 0 ≤ y2 ∧ y2 < 35) (hz : 0 ≤ z2 ∧ z2 < 35) (hx : 0 ≤ x2 ∧ x2 < 35) (ey : y = (slP y2.toNat : Int)) (ez : z = (slP z2.toNat : Int)) (s1 : sameP (m 2) (m 3) y2 x2) (s2 : sameP (m 2) (m 3) z2 x2) : Rel (cpG g y z) m := by
  have ry := slP_r (p := y2.toNat) (by omega)
  have rz := slP_r (p := z2.toNat) (by omega)
  have h01 := hM.2.2.1 y2.toNat (by omega)
  have h02 := hM.2.2.1 z2.toNat (by omega)
  have e0 : m 3 y2.toNat = m 3 z2.toNat := by
    have a1 : m 3 y2.toNat = 1 ↔ m 3 z2.toNat = 1 := s1.1.trans s2.1.symm
    omega
  refine ⟨fun j hj => ?_, fun p hp hk k hk2 => ?_, fun p hp => ?_, h.2.2.2⟩
  · show cpyI (g 2) (y * 64).toNat (z * 64).toNat j = m 1 j
    unfold cpyI
    rw [if_neg (by omega)]
    exact h.1 j hj
  · have rp := slP_r hp
    show cpyI (g 2) (y * 64).toNat (z * 64).toNat (slP p * 64 + k) = m 2 (p * 64 + k)
    unfold cpyI
    by_cases e : p = z2.toNat
    · subst e
      rw [if_pos (by omega)]
      have hky : m 3 y2.toNat = 1 := e0.trans hk
      have h1 := h.2.1 y2.toNat (by omega) hky k hk2
      have h2 := s1.2 hky (k : Int) (by omega) (by omega)
      have h3 := s2.2 hk (k : Int) (by omega) (by omega)
      rw [show (y * 64).toNat + (slP z2.toNat * 64 + k - (z * 64).toNat) = slP y2.toNat * 64 + k by omega, h1]
      rw [show (y2 * 64 + (k : Int)).toNat = y2.toNat * 64 + k by omega] at h2
      rw [show (z2 * 64 + (k : Int)).toNat = z2.toNat * 64 + k by omega] at h3
      exact h2.trans h3.symm
    · have e2 : slP p ≠ slP z2.toNat := fun q => e (slP_i q)
      rw [if_neg (by omega)]
      exact h.2.1 p hp hk k hk2
  · show updI (g 3) z.toNat (g 3 y.toNat) (slP p) = m 3 p
    unfold updI
    by_cases e : p = z2.toNat
    · rw [if_pos (by rw [e]; omega), show y.toNat = slP y2.toNat by omega, h.2.2.1 y2.toNat (by omega), e]
      exact e0
    · have e2 : slP p ≠ slP z2.toNat := fun q => e (slP_i q)
      rw [if_neg (by omega)]
      exact h.2.2.1 p hp
theorem cpM_comm (m : Nat → Nat → Int) {y z w : Int} (hy : 0 ≤ y) (hz : 0 ≤ z) (hw : 0 ≤ w) (h1 : y ≠ z) (h2 : y ≠ w) (h3 : z ≠ w) : cpM (cpM m y z) y w = cpM (cpM m y w) y z := by
  funext i j
  by_cases i2 : i = 2
  · subst i2
    show cpyI (cpyI (m 2) (y * 64).toNat (z * 64).toNat) (y * 64).toNat (w * 64).toNat j = cpyI (cpyI (m 2) (y * 64).toNat (w * 64).toNat) (y * 64).toNat (z * 64).toNat j
    unfold cpyI
    by_cases a : (w * 64).toNat ≤ j ∧ j < (w * 64).toNat + 64
    · rw [if_pos a, if_neg (by omega), if_neg (by omega), if_pos a]
    · rw [if_neg a]
      by_cases b : (z * 64).toNat ≤ j ∧ j < (z * 64).toNat + 64
      · rw [if_pos b, if_pos b, if_neg (by omega)]
      · rw [if_neg b, if_neg b, if_neg a]
  · by_cases i3 : i = 3
    · subst i3
      show updI (updI (m 3) z.toNat (m 3 y.toNat)) w.toNat (updI (m 3) z.toNat (m 3 y.toNat) y.toNat) j = updI (updI (m 3) w.toNat (m 3 y.toNat)) z.toNat (updI (m 3) w.toNat (m 3 y.toNat) y.toNat) j
      unfold updI
      rw [if_neg (show ¬ y.toNat = z.toNat by omega), if_neg (show ¬ y.toNat = w.toNat by omega)]
      by_cases a : j = w.toNat
      · rw [if_pos a, if_neg (by omega), if_pos a]
      · rw [if_neg a]
        by_cases b : j = z.toNat
        · rw [if_pos b, if_pos b]
        · rw [if_neg b, if_neg b, if_neg a]
    · unfold cpM updG
      rw [if_neg i2, if_neg i3, if_neg i2, if_neg i3, if_neg i2, if_neg i3, if_neg i2, if_neg i3]
/-- followMain -/
theorem Rel_fm {g m : Nat → Nat → Int} (h : Rel g m) {b t : Int} (hb : 1 ≤ b ∧ b ≤ 3) (ht : 0 ≤ t ∧ t ≤ 4) : Rel (fmG g b t) (cpM (cpM m (5 * 0 + t) (5 * (4 + b - 1) + t)) (5 * 0 + t) (5 * b + t)) :=
  Rel_cp (Rel_cp h (by omega) (by omega) (sl_ap (b := 0) (by omega) ht) (sl_ba hb ht)) (by omega) (by omega) (sl_ap (b := 0) (by omega) ht) (sl_ap (by omega) ht)
theorem Rel_be {g m : Nat → Nat → Int} (h : Rel g m) {b : Int} (hb : 1 ≤ b ∧ b ≤ 3) (n : Nat) (hn : n ≤ 5) : Rel (begG g b n) (mbG m b n) ∧ begC g b n = mbC m b n := by
  induction n with
  | zero => exact ⟨h, rfl⟩
  | succ n ih =>
    obtain ⟨i1, i2⟩ := ih (by omega)
    have h1 := Rel_fm i1 hb (t := (n : Int)) (by omega)
    rw [cpM_comm _ (by omega) (by omega) (by omega) (by omega) (by omega) (by omega)] at h1
    have hR : Rel (begG g b (n + 1)) (mbG m b (n + 1)) := h1
    refine ⟨hR, ?_⟩
    show begC g b n + bp (begG g b (n + 1) 3 (5 + b * 5 + (n : Int)).toNat = 1) = mbC m b n + bp (mbG m b (n + 1) 3 (5 * 0 + (n : Int)).toNat = 1)
    have e1 := Rel_hd hR (b := b) (t := (n : Int)) (by omega) (by omega)
    have e2 : mbG m b (n + 1) 3 (5 * b + (n : Int)).toNat = mbG m b (n + 1) 3 (5 * 0 + (n : Int)).toNat := by
      show updI (updI (mbG m b n 3) (5 * b + (n : Int)).toNat (mbG m b n 3 (5 * 0 + (n : Int)).toNat)) (5 * (4 + b - 1) + (n : Int)).toNat _ (5 * b + (n : Int)).toNat = updI (updI (mbG m b n 3) (5 * b + (n : Int)).toNat (mbG m b n 3 (5 * 0 + (n : Int)).toNat)) (5 * (4 + b - 1) + (n : Int)).toNat _ (5 * 0 + (n : Int)).toNat
      unfold updI
      rw [if_neg (by omega), if_pos rfl, if_neg (by omega), if_neg (by omega)]
    rw [e1, e2, i2]
theorem Rel_cl {g m : Nat → Nat → Int} (h : Rel g m) {b t : Int} (hb : 1 ≤ b ∧ b ≤ 3) (ht : 0 ≤ t ∧ t ≤ 4) : claP g b t ↔ mclP m b t := by
  have a1 := Rel_sa h (y2 := 5 * b + t) (z2 := 5 * (4 + b - 1) + t) (by omega) (by omega) (sl_ap (by omega) ht) (sl_ba hb ht)
  have a2 := Rel_sa h (y2 := 5 * 0 + t) (z2 := 5 * (4 + b - 1) + t) (by omega) (by omega) (sl_ap (b := 0) (by omega) ht) (sl_ba hb ht)
  have a3 := Rel_sa h (y2 := 5 * b + t) (z2 := 5 * 0 + t) (by omega) (by omega) (sl_ap (by omega) ht) (sl_ap (b := 0) (by omega) ht)
  unfold claP mclP mcP
  refine ⟨fun q => ?_, fun q => ?_⟩
  · have e := mt_f (g := m) (b := b) (t := t) (fun z => q.2.1 (a2.mpr z.2))
    rw [e]
    exact ⟨⟨fun z => q.1 (a1.mpr z), fun z => q.2.1 (a2.mpr z)⟩, fun z => q.2.2 (a3.mpr (sameP_s z))⟩
  · have e := mt_f (g := m) (b := b) (t := t) (fun z => q.1.2 z.2)
    rw [e] at q
    exact ⟨fun z => q.1.1 (a1.mp z), fun z => q.1.2 (a2.mp z), fun z => q.2 (sameP_s (a3.mp z))⟩
theorem Rel_to {g m : Nat → Nat → Int} (h : Rel g m) (hM : MInv m) {b t : Int} (hb : 1 ≤ b ∧ b ≤ 3) (ht : 0 ≤ t ∧ t ≤ 4) : Rel (toG g b t) (mtG m b t) := by
  have a1 := Rel_sa h (y2 := 5 * b + t) (z2 := 5 * (4 + b - 1) + t) (by omega) (by omega) (sl_ap (by omega) ht) (sl_ba hb ht)
  have a2 := Rel_sa h (y2 := 5 * 0 + t) (z2 := 5 * (4 + b - 1) + t) (by omega) (by omega) (sl_ap (b := 0) (by omega) ht) (sl_ba hb ht)
  unfold toG
  by_cases q2 : sameP (g 2) (g 3) (5 + 0 * 5 + t) (25 + b * 5 + t)
  · rw [iteG_t q2]
    by_cases q1 : sameP (g 2) (g 3) (5 + b * 5 + t) (25 + b * 5 + t)
    · rw [mt_f (fun z => z.1 (a1.mp q1))]
      exact Rel_id h hM (by omega) (by omega) (by omega) (sl_ap (by omega) ht) (sl_ap (b := 0) (by omega) ht) (a1.mp q1) (a2.mp q2)
    · unfold mtG
      rw [iteG_t ⟨fun z => q1 (a1.mpr z), a2.mp q2⟩]
      exact Rel_cp h (by omega) (by omega) (sl_ap (by omega) ht) (sl_ap (b := 0) (by omega) ht)
  · rw [iteG_f q2, mt_f (fun z => q2 (a2.mpr z.2))]
    exact h
theorem Rel_jo {g m : Nat → Nat → Int} (h : Rel g m) (hM : MInv m) {b : Int} (hb : 1 ≤ b ∧ b ≤ 3) (n : Nat) (hn : n ≤ 5) : Rel (joiG g b n) (mjG m b n) ∧ joiC g b n = mjC m b n := by
  induction n with
  | zero => exact ⟨h, rfl⟩
  | succ n ih =>
    obtain ⟨i1, i2⟩ := ih (by omega)
    have hM2 := MInv_mj hM hb n (by omega)
    have hc := Rel_cl i1 hb (t := (n : Int)) (by omega)
    refine ⟨?_, ?_⟩
    · show Rel (iteG (claP (joiG g b n) b (n : Int)) (joiG g b n) (fmG (toG (joiG g b n) b (n : Int)) b (n : Int))) (iteG (mclP (mjG m b n) b (n : Int)) (mtG (mjG m b n) b (n : Int)) (cpM (cpM (mtG (mjG m b n) b (n : Int)) (5 * 0 + (n : Int)) (5 * (4 + b - 1) + (n : Int))) (5 * 0 + (n : Int)) (5 * b + (n : Int))))
      by_cases q : claP (joiG g b n) b (n : Int)
      · have q2 := hc.mp q
        rw [iteG_t q, iteG_t q2, mt_f (fun z => q2.1.2 z.2)]
        exact i1
      · rw [iteG_f q, iteG_f (fun z => q (hc.mpr z))]
        exact Rel_fm (Rel_to i1 hM2 hb (by omega)) hb (by omega)
    · show joiC g b n + bp (claP (joiG g b n) b (n : Int)) * p2 (n : Int) = mjC m b n + bp (mclP (mjG m b n) b (n : Int)) * p2 (n : Int)
      rw [i2, bp_c hc]
