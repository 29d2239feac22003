/-! ===== what writings keep; the checks' words ===== -/
theorem bc_popI {y : Int} (h : 0 ≤ y ∧ y ≤ 511) : bcF (iI y) = iI (popc y.toNat) := by
  have h1 := bc_pop y.toNat (by omega)
  rw [show ((y.toNat : Nat) : Int) = y by omega] at h1
  exact h1
noncomputable def iteG (P : Prop) (x y : Nat → Nat → Int) : Nat → Nat → Int := @ite _ P (Classical.propDecidable P) x y
theorem iteG_t {P : Prop} {x y : Nat → Nat → Int} (h : P) : iteG P x y = x := by unfold iteG; exact if_pos h
theorem iteG_f {P : Prop} {x y : Nat → Nat → Int} (h : ¬ P) : iteG P x y = y := by unfold iteG; exact if_neg h
theorem XInv_cp {g : Nat → Nat → Int} {fr to : Int} (h : XInv g) (h1 : 0 ≤ fr ∧ fr ≤ 44) (h2 : 5 ≤ to ∧ to ≤ 44) : XInv (cpG g fr to) := by
  obtain ⟨a1, a2, a3, a4, a5, a6⟩ := h
  refine ⟨fun j hj => ?_, fun j hj => ?_, fun j hj => ?_, a4, a5, a6⟩
  · show 0 ≤ cpyI (g 2) (fr * 64).toNat (to * 64).toNat j ∧ cpyI (g 2) (fr * 64).toNat (to * 64).toNat j ≤ 255
    unfold cpyI
    split
    · exact a1 _ (by omega)
    · exact a1 j hj
  · show updI (g 3) to.toNat (g 3 fr.toNat) j = 0 ∨ updI (g 3) to.toNat (g 3 fr.toNat) j = 1
    unfold updI
    split
    · exact a2 _ (by omega)
    · exact a2 j hj
  · show updI (g 3) to.toNat (g 3 fr.toNat) j = 1
    rw [updI_n _ _ (by omega)]
    exact a3 j hj
/-- followMain -/
def fmG (g : Nat → Nat → Int) (b t : Int) : Nat → Nat → Int := cpG (cpG g (5 + 0 * 5 + t) (25 + b * 5 + t)) (5 + 0 * 5 + t) (5 + b * 5 + t)
theorem XInv_fm {g : Nat → Nat → Int} {b t : Int} (h : XInv g) (h1 : 0 ≤ b ∧ b ≤ 3) (h2 : 0 ≤ t ∧ t ≤ 4) : XInv (fmG g b t) := XInv_cp (XInv_cp h (by omega) (by omega)) (by omega) (by omega)
/-- takeOver -/
noncomputable def toG (g : Nat → Nat → Int) (b t : Int) : Nat → Nat → Int := iteG (sameP (g 2) (g 3) (5 + 0 * 5 + t) (25 + b * 5 + t)) (cpG g (5 + b * 5 + t) (5 + 0 * 5 + t)) g
theorem XInv_to {g : Nat → Nat → Int} {b t : Int} (h : XInv g) (h1 : 0 ≤ b ∧ b ≤ 3) (h2 : 0 ≤ t ∧ t ≤ 4) : XInv (toG g b t) := by
  unfold toG
  by_cases q : sameP (g 2) (g 3) (5 + 0 * 5 + t) (25 + b * 5 + t)
  · rw [iteG_t q]; exact XInv_cp h (by omega) (by omega)
  · rw [iteG_f q]; exact h
def claP (g : Nat → Nat → Int) (b t : Int) : Prop := ¬ sameP (g 2) (g 3) (5 + b * 5 + t) (25 + b * 5 + t) ∧ ¬ sameP (g 2) (g 3) (5 + 0 * 5 + t) (25 + b * 5 + t) ∧ ¬ sameP (g 2) (g 3) (5 + b * 5 + t) (5 + 0 * 5 + t)
def cB (H0 : Heap) (sa : Nat → Nat) (U : State) : Prop := U.heap = H0 ∧ tX sa (fun _ => False) U
theorem cB_bl {H0 : Heap} {sa : Nat → Nat} : Bl (cB H0 sa) := fun U g mk a h => ⟨h.1, tX_bl U g mk a h.2⟩
theorem cB_in {s : State} {sa : Nat → Nat} {A : Nat → Prop} (hT : tX sa A s) : ∀ U : State, U.heap = s.heap → s.WarmedH U.vm → cB s.heap sa U := fun U hU hW => ⟨hU, tX_in va_S.rf (fun _ h => h.elim) hT U hU hW⟩
def dB (H0 : Heap) (sa : Nat → Nat) (D : va_G) (kk : Nat → ClassId) (ws : va_W) (U : State) : Prop := cB H0 sa U ∧ wB D kk ws U
theorem dB_bl {H0 : Heap} {sa : Nat → Nat} {D : va_G} {kk : Nat → ClassId} {ws : va_W} : Bl (dB H0 sa D kk ws) := fun U g mk a h => ⟨cB_bl U g mk a h.1, wB_bl U g mk a h.2⟩
theorem dB_in {s : State} {sa : Nat → Nat} {A : Nat → Prop} {D : va_G} {kk : Nat → ClassId} {ws : va_W} (hT : tX sa A s) (hP : va_P D vwCl ws s.heap) (hK : va_K D vwCl (TY kk) s) (hN : xN s) : ∀ U : State, U.heap = s.heap → s.WarmedH U.vm → dB s.heap sa D kk ws U := fun U hU hW => ⟨cB_in hT U hU hW, wB_in hP hK hN U hU hW⟩
/-- a public method's start -/
def pB (sa : Nat → Nat) (D : va_G) (a : Nat → Nat) (kk : Nat → ClassId) (g : Nat → Nat → Int) (U : State) : Prop := tX sa (aA 17 a) U ∧ wB D kk (xW a kk g) U
theorem pB_bl {sa : Nat → Nat} {D : va_G} {a : Nat → Nat} {kk : Nat → ClassId} {g : Nat → Nat → Int} : Bl (pB sa D a kk g) := fun U g mk a h => ⟨tX_bl U g mk a h.1, wB_bl U g mk a h.2⟩
/-- the arguments of a comparison -/
def cmpA (b t n : Int) : Prop := (0 ≤ b ∧ b ≤ 3) ∧ (0 ≤ t ∧ t ≤ 4) ∧ (0 ≤ n ∧ n ≤ 255)
/-- what a comparison throws -/
def cmpE (g : Nat → Nat → Int) (b t n : Int) (X : String) : Prop := (X = "java/lang/IllegalArgumentException" ∧ ¬ cmpA b t n) ∨ (X = "java/lang/IllegalStateException" ∧ cmpA b t n ∧ ¬ g 3 (5 + b * 5 + t).toNat = 1)
