/-! ===== painting, parts, masks, approving, histories ===== -/
theorem pst_c {f f2 : Nat → Int} (hf : ∀ j, j < 320 → f j = f2 j) {t c r w h sh : Int} (ht : 0 ≤ t ∧ t ≤ 4) (hc : (0 ≤ c ∧ c ≤ 7) ∧ (0 ≤ r ∧ r ≤ 7)) (hw : 1 ≤ w ∧ w ≤ 8 - c) (hh : 1 ≤ h ∧ h ≤ 8 - r) (k : Nat) (hk : (k : Int) ≤ w * h) : (∀ j, j < 320 → (pst f t c r w sh k).1 j = (pst f2 t c r w sh k).1 j) ∧ (∀ j, 320 ≤ j → (pst f t c r w sh k).1 j = f j) ∧ (pst f t c r w sh k).2 = (pst f2 t c r w sh k).2 := by
  induction k with
  | zero => exact ⟨hf, fun _ _ => rfl, rfl⟩
  | succ k ih =>
    obtain ⟨i1, i2, i3⟩ := ih (by omega)
    obtain ⟨d1, d2, d3⟩ := kdiv (w := w) (h := h) (k := (k : Int)) (by omega) (by omega) (by omega)
    have hix : (t * 64 + (r + (k : Int) / w) * 8 + (c + (k : Int) % w)).toNat < 320 := by omega
    refine ⟨fun j hj => ?_, fun j hj => ?_, ?_⟩
    · show updI (pst f t c r w sh k).1 _ sh j = updI (pst f2 t c r w sh k).1 _ sh j
      unfold updI
      by_cases e : j = (t * 64 + (r + (k : Int) / w) * 8 + (c + (k : Int) % w)).toNat
      · rw [if_pos e, if_pos e]
      · rw [if_neg e, if_neg e]
        exact i1 j hj
    · show updI (pst f t c r w sh k).1 (t * 64 + (r + (k : Int) / w) * 8 + (c + (k : Int) % w)).toNat sh j = f j
      unfold updI
      rw [if_neg (by omega)]
      exact i2 j hj
    · show (pst f t c r w sh k).2 + bp (¬ (pst f t c r w sh k).1 _ = sh) = (pst f2 t c r w sh k).2 + bp (¬ (pst f2 t c r w sh k).1 _ = sh)
      rw [i3, i1 _ hix]
theorem Rel_pa {g m : Nat → Nat → Int} (h : Rel g m) {t c r w hh sh : Int} (hok : (0 ≤ t ∧ t ≤ 4) ∧ (((0 ≤ c ∧ c ≤ 7) ∧ (0 ≤ r ∧ r ≤ 7)) ∧ (1 ≤ w ∧ w ≤ 8 - c) ∧ (1 ≤ hh ∧ hh ≤ 8 - r)) ∧ (0 ≤ sh ∧ sh ≤ 255)) : Rel (updG g 2 (pst (g 2) t c r w sh (w * hh).toNat).1) (updG (thG m 0) 1 (pst (m 1) t c r w sh (w * hh).toNat).1) ∧ (pst (g 2) t c r w sh (w * hh).toNat).2 = (pst (m 1) t c r w sh (w * hh).toNat).2 := by
  have hm := mul88 (w := w) (h := hh) (by omega) (by omega)
  obtain ⟨p1, p2, p3⟩ := pst_c (sh := sh) h.1 hok.1 hok.2.1.1 hok.2.1.2.1 hok.2.1.2.2 (w * hh).toNat (by omega)
  refine ⟨⟨p1, fun p hp hk k hk2 => ?_, h.2.2.1, h.2.2.2⟩, p3⟩
  have hs := slP_r hp
  exact (p2 (slP p * 64 + k) (by omega)).trans (h.2.1 p hp hk k hk2)
theorem XInv_pa {g : Nat → Nat → Int} (h : XInv g) {t c r w sh : Int} (hs : 0 ≤ sh ∧ sh ≤ 255) (n : Nat) : XInv (updG g 2 (pst (g 2) t c r w sh n).1) := XInv_2 h (pst_b h.1 hs n)
theorem MInv_pa {m : Nat → Nat → Int} (h : MInv m) {t c r w sh : Int} (hs : 0 ≤ sh ∧ sh ≤ 255) (n : Nat) : MInv (updG (thG m 0) 1 (pst (m 1) t c r w sh n).1) := MInv_1 (MInv_th h 0) (pst_bN h.1 hs n)
theorem upd4 (f : Nat → Int) {t u c r w h : Int} (ht : 0 ≤ t) (hu : 0 ≤ u) : let F := updI (updI (updI (updI f (4 * t).toNat c) (4 * t + 1).toNat r) (4 * t + 2).toNat w) (4 * t + 3).toNat h
    (u = t → F (4 * u).toNat = c ∧ F (4 * u + 1).toNat = r ∧ F (4 * u + 2).toNat = w ∧ F (4 * u + 3).toNat = h) ∧ (u ≠ t → F (4 * u).toNat = f (4 * u).toNat ∧ F (4 * u + 1).toNat = f (4 * u + 1).toNat ∧ F (4 * u + 2).toNat = f (4 * u + 2).toNat ∧ F (4 * u + 3).toNat = f (4 * u + 3).toNat) := by
  intro F
  refine ⟨fun e => ?_, fun e => ?_⟩
  · subst e
    refine ⟨?_, ?_, ?_, ?_⟩
    · show updI (updI (updI (updI f _ c) _ r) _ w) _ h _ = c
      unfold updI
      rw [if_neg (by omega), if_neg (by omega), if_neg (by omega), if_pos rfl]
    · show updI (updI (updI (updI f _ c) _ r) _ w) _ h _ = r
      unfold updI
      rw [if_neg (by omega), if_neg (by omega), if_pos rfl]
    · show updI (updI (updI (updI f _ c) _ r) _ w) _ h _ = w
      unfold updI
      rw [if_neg (by omega), if_pos rfl]
    · show updI (updI (updI (updI f _ c) _ r) _ w) _ h _ = h
      unfold updI
      rw [if_pos rfl]
  · refine ⟨?_, ?_, ?_, ?_⟩
    · show updI (updI (updI (updI f _ c) _ r) _ w) _ h _ = f _
      unfold updI
      rw [if_neg (by omega), if_neg (by omega), if_neg (by omega), if_neg (by omega)]
    · show updI (updI (updI (updI f _ c) _ r) _ w) _ h _ = f _
      unfold updI
      rw [if_neg (by omega), if_neg (by omega), if_neg (by omega), if_neg (by omega)]
    · show updI (updI (updI (updI f _ c) _ r) _ w) _ h _ = f _
      unfold updI
      rw [if_neg (by omega), if_neg (by omega), if_neg (by omega), if_neg (by omega)]
    · show updI (updI (updI (updI f _ c) _ r) _ w) _ h _ = f _
      unfold updI
      rw [if_neg (by omega), if_neg (by omega), if_neg (by omega), if_neg (by omega)]
theorem updT (f : Nat → Int) {t u v : Int} (ht : 0 ≤ t) (hu : 0 ≤ u) : (u = t → updI f t.toNat v u.toNat = v) ∧ (u ≠ t → updI f t.toNat v u.toNat = f u.toNat) := by
  unfold updI
  refine ⟨fun e => ?_, fun e => ?_⟩
  · rw [if_pos (by rw [e])]
  · rw [if_neg (by omega)]
theorem Rel_sp {g m : Nat → Nat → Int} (h : Rel g m) {t c r w hh : Int} (ht : 0 ≤ t ∧ t ≤ 4) : Rel (putX 9 (putX 4 g t c r w hh) t 0 0 0 0) (spG (thG m 0) t c r w hh) := by
  refine ⟨h.1, h.2.1, h.2.2.1, fun u hu => ?_, fun u hu => ?_, h.2.2.2.2.2⟩
  · have h0 := h.2.2.2.1 u hu
    have a := upd4 (m 4) (t := t) (u := u) (c := c) (r := r) (w := w) (h := hh) ht.1 hu.1
    show updI (g 5) t.toNat c u.toNat = _ ∧ updI (g 6) t.toNat r u.toNat = _ ∧ updI (g 7) t.toNat (c + w) u.toNat = _ ∧ updI (g 8) t.toNat (r + hh) u.toNat = _
    have b1 := updT (g 5) (v := c) ht.1 hu.1
    have b2 := updT (g 6) (v := r) ht.1 hu.1
    have b3 := updT (g 7) (v := c + w) ht.1 hu.1
    have b4 := updT (g 8) (v := r + hh) ht.1 hu.1
    by_cases e : u = t
    · obtain ⟨c1, c2, c3, c4⟩ := a.1 e
      exact ⟨(b1.1 e).trans c1.symm, (b2.1 e).trans c2.symm, (b3.1 e).trans (congr (congrArg HAdd.hAdd c1.symm) c3.symm), (b4.1 e).trans (congr (congrArg HAdd.hAdd c2.symm) c4.symm)⟩
    · obtain ⟨c1, c2, c3, c4⟩ := a.2 e
      exact ⟨((b1.2 e).trans h0.1).trans c1.symm, ((b2.2 e).trans h0.2.1).trans c2.symm, ((b3.2 e).trans h0.2.2.1).trans (congr (congrArg HAdd.hAdd c1.symm) c3.symm), ((b4.2 e).trans h0.2.2.2).trans (congr (congrArg HAdd.hAdd c2.symm) c4.symm)⟩
  · have h0 := h.2.2.2.2.1 u hu
    have b1 := updT (g 10) (v := 0) ht.1 hu.1
    have b2 := updT (g 11) (v := 0) ht.1 hu.1
    have b3 := updT (g 12) (v := 0 + 0) ht.1 hu.1
    have b4 := updT (g 13) (v := 0 + 0) ht.1 hu.1
    show (updI (m 5) (4 * t + 2).toNat 0 (4 * u + 2).toNat = 0 ∧ updI (g 12) t.toNat (0 + 0) u.toNat = updI (g 10) t.toNat 0 u.toNat) ∨ (updI (g 10) t.toNat 0 u.toNat = updI (m 5) (4 * t + 2).toNat 0 (4 * u).toNat ∧ updI (g 11) t.toNat 0 u.toNat = updI (m 5) (4 * t + 2).toNat 0 (4 * u + 1).toNat ∧ updI (g 12) t.toNat (0 + 0) u.toNat = updI (m 5) (4 * t + 2).toNat 0 (4 * u).toNat + updI (m 5) (4 * t + 2).toNat 0 (4 * u + 2).toNat ∧ updI (g 13) t.toNat (0 + 0) u.toNat = updI (m 5) (4 * t + 2).toNat 0 (4 * u + 1).toNat + updI (m 5) (4 * t + 2).toNat 0 (4 * u + 3).toNat)
    by_cases e : u = t
    · refine Or.inl ⟨?_, (b3.1 e).trans (b1.1 e).symm⟩
      unfold updI
      rw [if_pos (by rw [e])]
    · rw [b1.2 e, b2.2 e, b3.2 e, b4.2 e]
      unfold updI
      rw [if_neg (show ¬ (4 * u + 2).toNat = (4 * t + 2).toNat by omega), if_neg (show ¬ (4 * u).toNat = (4 * t + 2).toNat by omega), if_neg (show ¬ (4 * u + 1).toNat = (4 * t + 2).toNat by omega), if_neg (show ¬ (4 * u + 3).toNat = (4 * t + 2).toNat by omega)]
      exact h0
theorem Rel_sm {g m : Nat → Nat → Int} (h : Rel g m) {t c r w hh : Int} (ht : 0 ≤ t ∧ t ≤ 4) : Rel (putX 9 g t c r w hh) (smG (thG m 0) t c r w hh) := by
  refine ⟨h.1, h.2.1, h.2.2.1, h.2.2.2.1, fun u hu => ?_, h.2.2.2.2.2⟩
  have h0 := h.2.2.2.2.1 u hu
  have a := upd4 (m 5) (t := t) (u := u) (c := c) (r := r) (w := w) (h := hh) ht.1 hu.1
  have b1 := updT (g 10) (v := c) ht.1 hu.1
  have b2 := updT (g 11) (v := r) ht.1 hu.1
  have b3 := updT (g 12) (v := c + w) ht.1 hu.1
  have b4 := updT (g 13) (v := r + hh) ht.1 hu.1
  show (_ = 0 ∧ updI (g 12) t.toNat (c + w) u.toNat = updI (g 10) t.toNat c u.toNat) ∨ (updI (g 10) t.toNat c u.toNat = _ ∧ updI (g 11) t.toNat r u.toNat = _ ∧ updI (g 12) t.toNat (c + w) u.toNat = _ ∧ updI (g 13) t.toNat (r + hh) u.toNat = _)
  by_cases e : u = t
  · obtain ⟨c1, c2, c3, c4⟩ := a.1 e
    exact Or.inr ⟨(b1.1 e).trans c1.symm, (b2.1 e).trans c2.symm, (b3.1 e).trans (congr (congrArg HAdd.hAdd c1.symm) c3.symm), (b4.1 e).trans (congr (congrArg HAdd.hAdd c2.symm) c4.symm)⟩
  · obtain ⟨c1, c2, c3, c4⟩ := a.2 e
    rcases h0 with ⟨q1, q2⟩ | ⟨q1, q2, q3, q4⟩
    · exact Or.inl ⟨c3.trans q1, ((b3.2 e).trans q2).trans (b1.2 e).symm⟩
    · exact Or.inr ⟨((b1.2 e).trans q1).trans c1.symm, ((b2.2 e).trans q2).trans c2.symm, ((b3.2 e).trans q3).trans (congr (congrArg HAdd.hAdd c1.symm) c3.symm), ((b4.2 e).trans q4).trans (congr (congrArg HAdd.hAdd c2.symm) c4.symm)⟩
/-- whether a part is there -/
theorem Rel_part {g m : Nat → Nat → Int} (h : Rel g m) (hM : MInv m) {t : Int} (ht : 0 ≤ t ∧ t ≤ 4) : g 5 t.toNat < g 7 t.toNat ↔ ¬ m 4 (4 * t + 2).toNat = 0 := by
  have h0 := h.2.2.2.1 t ht
  unfold relP at h0
  have h1 := (hM.2.2.2.1 t ht).1
  omega
theorem MInv_sp {m : Nat → Nat → Int} (h : MInv m) {t c r w hh : Int} (ht : 0 ≤ t ∧ t ≤ 4) (hc : (0 ≤ c ∧ c ≤ 7) ∧ (0 ≤ r ∧ r ≤ 7)) (hw : 1 ≤ w ∧ w ≤ 8 - c) (h2 : 1 ≤ hh ∧ hh ≤ 8 - r) : MInv (spG (thG m 0) t c r w hh) := by
  refine ⟨h.1, h.2.1, h.2.2.1, fun u hu => ?_, h.2.2.2.2⟩
  have h0 := h.2.2.2.1 u hu
  have a := upd4 (m 4) (t := t) (u := u) (c := c) (r := r) (w := w) (h := hh) ht.1 hu.1
  have d : ∀ i : Int, (0 ≤ i ∧ i ≤ 3) → (spG (thG m 0) t c r w hh) 5 (4 * u + i).toNat = if u = t ∧ i = 2 then 0 else m 5 (4 * u + i).toNat := fun i hi => by
    show updI (m 5) (4 * t + 2).toNat 0 (4 * u + i).toNat = _
    unfold updI
    by_cases e : u = t ∧ i = 2
    · rw [if_pos (by rw [e.1, e.2]), if_pos e]
    · rw [if_neg (by omega), if_neg e]
  have d0 := d 0 (by omega)
  have d1 := d 1 (by omega)
  have d2 := d 2 (by omega)
  have d3 := d 3 (by omega)
  rw [show 4 * u + 0 = 4 * u by omega] at d0
  show ((0 ≤ (spG (thG m 0) t c r w hh) 4 (4 * u).toNat ∧ 0 ≤ (spG (thG m 0) t c r w hh) 4 (4 * u + 1).toNat ∧ 0 ≤ (spG (thG m 0) t c r w hh) 4 (4 * u + 2).toNat ∧ 0 ≤ (spG (thG m 0) t c r w hh) 4 (4 * u + 3).toNat ∧ (spG (thG m 0) t c r w hh) 4 (4 * u).toNat + (spG (thG m 0) t c r w hh) 4 (4 * u + 2).toNat ≤ 8 ∧ (spG (thG m 0) t c r w hh) 4 (4 * u + 1).toNat + (spG (thG m 0) t c r w hh) 4 (4 * u + 3).toNat ≤ 8) ∧ _ ∧ _)
  by_cases e : u = t
  · obtain ⟨c1, c2, c3, c4⟩ := a.1 e
    have c1 : (spG (thG m 0) t c r w hh) 4 (4 * u).toNat = c := c1
    have c2 : (spG (thG m 0) t c r w hh) 4 (4 * u + 1).toNat = r := c2
    have c3 : (spG (thG m 0) t c r w hh) 4 (4 * u + 2).toNat = w := c3
    have c4 : (spG (thG m 0) t c r w hh) 4 (4 * u + 3).toNat = hh := c4
    rw [if_neg (by omega)] at d0 d1 d3
    rw [if_pos ⟨e, rfl⟩] at d2
    rw [c1, c2, c3, c4, d0, d1, d2, d3]
    omega
  · obtain ⟨c1, c2, c3, c4⟩ := a.2 e
    have c1 : (spG (thG m 0) t c r w hh) 4 (4 * u).toNat = m 4 (4 * u).toNat := c1
    have c2 : (spG (thG m 0) t c r w hh) 4 (4 * u + 1).toNat = m 4 (4 * u + 1).toNat := c2
    have c3 : (spG (thG m 0) t c r w hh) 4 (4 * u + 2).toNat = m 4 (4 * u + 2).toNat := c3
    have c4 : (spG (thG m 0) t c r w hh) 4 (4 * u + 3).toNat = m 4 (4 * u + 3).toNat := c4
    rw [if_neg (fun z => e z.1)] at d0 d1 d2 d3
    rw [c1, c2, c3, c4, d0, d1, d2, d3]
    exact h0
theorem MInv_sm {m : Nat → Nat → Int} (h : MInv m) {t c r w hh : Int} (ht : 0 ≤ t ∧ t ≤ 4) (hc : (-8 ≤ c ∧ c ≤ 8) ∧ (-8 ≤ r ∧ r ≤ 8)) (hw : 1 ≤ w ∧ w ≤ 8) (h2 : 1 ≤ hh ∧ hh ≤ 8) (hp : ¬ m 4 (4 * t + 2).toNat = 0) : MInv (smG (thG m 0) t c r w hh) := by
  refine ⟨h.1, h.2.1, h.2.2.1, fun u hu => ?_, h.2.2.2.2⟩
  have h0 := h.2.2.2.1 u hu
  have a := upd4 (m 5) (t := t) (u := u) (c := c) (r := r) (w := w) (h := hh) ht.1 hu.1
  refine ⟨h0.1, ?_, ?_⟩
  · show -8 ≤ (smG (thG m 0) t c r w hh) 5 (4 * u).toNat ∧ (smG (thG m 0) t c r w hh) 5 (4 * u).toNat ≤ 8 ∧ -8 ≤ (smG (thG m 0) t c r w hh) 5 (4 * u + 1).toNat ∧ (smG (thG m 0) t c r w hh) 5 (4 * u + 1).toNat ≤ 8 ∧ 0 ≤ (smG (thG m 0) t c r w hh) 5 (4 * u + 2).toNat ∧ (smG (thG m 0) t c r w hh) 5 (4 * u + 2).toNat ≤ 8 ∧ 0 ≤ (smG (thG m 0) t c r w hh) 5 (4 * u + 3).toNat ∧ (smG (thG m 0) t c r w hh) 5 (4 * u + 3).toNat ≤ 8
    by_cases e : u = t
    · obtain ⟨c1, c2, c3, c4⟩ := a.1 e
      have c1 : (smG (thG m 0) t c r w hh) 5 (4 * u).toNat = c := c1
      have c2 : (smG (thG m 0) t c r w hh) 5 (4 * u + 1).toNat = r := c2
      have c3 : (smG (thG m 0) t c r w hh) 5 (4 * u + 2).toNat = w := c3
      have c4 : (smG (thG m 0) t c r w hh) 5 (4 * u + 3).toNat = hh := c4
      rw [c1, c2, c3, c4]
      omega
    · obtain ⟨c1, c2, c3, c4⟩ := a.2 e
      have c1 : (smG (thG m 0) t c r w hh) 5 (4 * u).toNat = m 5 (4 * u).toNat := c1
      have c2 : (smG (thG m 0) t c r w hh) 5 (4 * u + 1).toNat = m 5 (4 * u + 1).toNat := c2
      have c3 : (smG (thG m 0) t c r w hh) 5 (4 * u + 2).toNat = m 5 (4 * u + 2).toNat := c3
      have c4 : (smG (thG m 0) t c r w hh) 5 (4 * u + 3).toNat = m 5 (4 * u + 3).toNat := c4
      rw [c1, c2, c3, c4]
      exact h0.2.1
  · intro q
    have q : m 4 (4 * u + 2).toNat = 0 := q
    by_cases e : u = t
    · rw [e] at q
      exact absurd q hp
    · exact ((a.2 e).2.2.1).trans (h0.2.2 q)
theorem Rel_ap {g m : Nat → Nat → Int} (h : Rel g m) (hI : XInv g) {b t : Int} (hb : 0 ≤ b ∧ b ≤ 3) (ht : 0 ≤ t ∧ t ≤ 4) : Rel (cpG g t (5 + b * 5 + t)) (apG (thG m 0) b t) := by
  have ez := sl_ap hb ht
  have rz := slP_r (p := (5 * b + t).toNat) (by omega)
  refine ⟨fun j hj => ?_, fun p hp hk k hk2 => ?_, fun p hp => ?_, h.2.2.2⟩
  · show cpyI (g 2) (t * 64).toNat ((5 + b * 5 + t) * 64).toNat j = m 1 j
    unfold cpyI
    rw [if_neg (by omega)]
    exact h.1 j hj
  · have hk' : updI (m 3) (5 * b + t).toNat 1 p = 1 := hk
    have rp := slP_r hp
    show cpyI (g 2) (t * 64).toNat ((5 + b * 5 + t) * 64).toNat (slP p * 64 + k) = cpK (m 2) (t * 64).toNat ((5 * b + t) * 64).toNat 64 (m 1) (p * 64 + k)
    unfold cpyI cpK
    unfold updI at hk'
    by_cases e : p = (5 * b + t).toNat
    · subst e
      rw [if_pos (by omega), if_pos (by omega)]
      have h1 := h.1 ((t * 64).toNat + k) (by omega)
      rw [show (t * 64).toNat + (slP (5 * b + t).toNat * 64 + k - ((5 + b * 5 + t) * 64).toNat) = (t * 64).toNat + k by omega, show (t * 64).toNat + ((5 * b + t).toNat * 64 + k - ((5 * b + t) * 64).toNat) = (t * 64).toNat + k by omega]
      exact h1
    · rw [if_neg e] at hk'
      have e2 : slP p ≠ slP (5 * b + t).toNat := fun q => e (slP_i q)
      rw [if_neg (by omega), if_neg (by omega)]
      exact h.2.1 p hp hk' k hk2
  · show updI (g 3) (5 + b * 5 + t).toNat (g 3 t.toNat) (slP p) = updI (m 3) (5 * b + t).toNat 1 p
    unfold updI
    by_cases e : p = (5 * b + t).toNat
    · rw [if_pos e, if_pos (by rw [e]; omega)]
      exact hI.2.2.1 t.toNat (by omega)
    · have e2 : slP p ≠ slP (5 * b + t).toNat := fun q => e (slP_i q)
      rw [if_neg e, if_neg (by omega)]
      exact h.2.2.1 p hp
theorem MInv_ap {m : Nat → Nat → Int} (h : MInv m) {b t : Int} (hb : 0 ≤ b ∧ b ≤ 3) (ht : 0 ≤ t ∧ t ≤ 4) : MInv (apG (thG m 0) b t) := by
  refine ⟨h.1, fun j hj => ?_, fun j hj => ?_, h.2.2.2⟩
  · show 0 ≤ cpK (m 2) (t * 64).toNat ((5 * b + t) * 64).toNat 64 (m 1) j ∧ cpK (m 2) (t * 64).toNat ((5 * b + t) * 64).toNat 64 (m 1) j ≤ 255
    unfold cpK
    split
    · exact h.1 _ (by omega)
    · exact h.2.1 j hj
  · show updI (m 3) (5 * b + t).toNat 1 j = 0 ∨ updI (m 3) (5 * b + t).toNat 1 j = 1
    unfold updI
    split
    · exact Or.inr rfl
    · exact h.2.2.1 j hj
