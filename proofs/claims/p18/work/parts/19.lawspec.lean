/-! ===== the property's own law: its words ===== -/
noncomputable def iteI (P : Prop) (x y : Int) : Int := @ite _ P (Classical.propDecidable P) x y
theorem iteI_t {P : Prop} {x y : Int} (h : P) : iteI P x y = x := by unfold iteI; exact if_pos h
theorem iteI_f {P : Prop} {x y : Int} (h : ¬ P) : iteI P x y = y := by unfold iteI; exact if_neg h
theorem and_31 (v : Int) : iI v &&& iI 2147483647 = iI (v % 2147483648) := by
  have em : (iI 2147483647).toBitVec.toNat = 2 ^ 31 - 1 := by decide
  rw [pk_and (iI v) 31 em, iI_bv, iI_nI]
  congr 1
  omega
theorem shr_k {v : Int} (hv : -2147483648 ≤ v ∧ v < 2147483648) {k : Int} (n : Nat) (hk : ((iI k &&& 31 : Int32).toBitVec.smod 32).toNat = n) : iI v >>> (iI k &&& 31) = iI (v / ((2 ^ n : Nat) : Int)) := by
  have h1 := pk_shr (iI v) (iI k &&& 31) n hk
  rw [iI_toInt hv, Int.shiftRight_eq_div_pow] at h1
  rw [← iI_of (iI v >>> (iI k &&& 31)), h1]
/-- low(v, n) -/
def lwF (v n : Int) : Int := v % 2147483648 % n
theorem lwF_r (v : Int) {n : Int} (h : 0 < n) : 0 ≤ lwF v n ∧ lwF v n < n := ⟨Int.emod_nonneg _ (by omega), Int.emod_lt_of_pos _ h⟩
/-- the cell k of the script, as the law reads it -/
def clV (L : Nat) (xs : Nat → Int32) (k : Int) : Int := if k < (L : Int) then (xs k.toNat).toInt else (iI (7919 * (k + 839) * (k + 997))).toInt
theorem i32_r (x : Int32) : -2147483648 ≤ x.toInt ∧ x.toInt < 2147483648 := ⟨Int32.le_toInt x, Int32.toInt_lt x⟩
theorem clV_r (L : Nat) (xs : Nat → Int32) (k : Int) : -2147483648 ≤ clV L xs k ∧ clV L xs k < 2147483648 := by
  unfold clV
  split
  · exact i32_r _
  · exact i32_r _
def xB (b L : Nat) (xs : Nat → Int32) (U : State) : Prop := va_X b L xs U U.heap
theorem xB_bl {b L : Nat} {xs : Nat → Int32} : Bl (xB b L xs) := fun U g mk a h => va_X.moved (u := U) (U := U.calling g mk a) (Vm.Alike.refl U.vm) h
theorem xB_in {s : State} {b L : Nat} {xs : Nat → Int32} {H : Heap} {locs : List Loc} {A : Nat → Prop} (hS : va_S A s.heap H locs) (hX : va_X b L xs s s.heap) (hbl : b < s.heap.size) (hbA : ¬ A b) : ∀ U : State, U.heap = H → s.WarmedH U.vm → xB b L xs U := fun U hU hW => va_X.moved hW.alike (by rw [hU]; exact hX.kept (hS.2.1 b hbl hbA))
/-! the law's own answers, and the class's cells behind them -/
def CD (g : Nat → Nat → Int) (b t n : Int) : Int → Prop := cmpD (px (g 2) t) (px (g 2) (5 + b * 5 + t)) n (g 5 t.toNat) (g 6 t.toNat) (g 7 t.toNat) (g 8 t.toNat) (g 10 t.toNat) (g 11 t.toNat) (g 12 t.toNat) (g 13 t.toNat)
def okP (t c r w h sh : Int) : Prop := (0 ≤ t ∧ t ≤ 4) ∧ (((0 ≤ c ∧ c ≤ 7) ∧ (0 ≤ r ∧ r ≤ 7)) ∧ (1 ≤ w ∧ w ≤ 8 - c) ∧ (1 ≤ h ∧ h ≤ 8 - r)) ∧ (0 ≤ sh ∧ sh ≤ 255)
def okS (t c r w h : Int) : Prop := (0 ≤ t ∧ t ≤ 4) ∧ ((0 ≤ c ∧ c ≤ 7) ∧ (0 ≤ r ∧ r ≤ 7)) ∧ (1 ≤ w ∧ w ≤ 8 - c) ∧ (1 ≤ h ∧ h ≤ 8 - r)
def okM (g : Nat → Nat → Int) (t c r w h : Int) : Prop := ((0 ≤ t ∧ t ≤ 4) ∧ (-8 ≤ c ∧ c ≤ 8) ∧ (-8 ≤ r ∧ r ≤ 8) ∧ (1 ≤ w ∧ w ≤ 8) ∧ (1 ≤ h ∧ h ≤ 8)) ∧ g 5 t.toNat < g 7 t.toNat
def okA (b t : Int) : Prop := (0 ≤ b ∧ b ≤ 3) ∧ (0 ≤ t ∧ t ≤ 4)
def okC (g : Nat → Nat → Int) (b t n : Int) : Prop := cmpA b t n ∧ g 3 (5 + b * 5 + t).toNat = 1
noncomputable def paR (g : Nat → Nat → Int) (t c r w h sh : Int) : Int := iteI (okP t c r w h sh) (pst (g 2) t c r w sh (w * h).toNat).2 (-99999)
noncomputable def paG (g : Nat → Nat → Int) (t c r w h sh : Int) : Nat → Nat → Int := iteG (okP t c r w h sh) (updG g 2 (pst (g 2) t c r w sh (w * h).toNat).1) g
noncomputable def spR (t c r w h : Int) : Int := iteI (okS t c r w h) 0 (-99999)
noncomputable def spG (g : Nat → Nat → Int) (t c r w h : Int) : Nat → Nat → Int := iteG (okS t c r w h) (putX 9 (putX 4 g t c r w h) t 0 0 0 0) g
noncomputable def smR (g : Nat → Nat → Int) (t c r w h : Int) : Int := iteI (okM g t c r w h) 0 (-99999)
noncomputable def smG (g : Nat → Nat → Int) (t c r w h : Int) : Nat → Nat → Int := iteG (okM g t c r w h) (putX 9 g t c r w h) g
noncomputable def apR (g : Nat → Nat → Int) (b t : Int) : Int := iteI (okA b t) (bp (g 3 (5 + b * 5 + t).toNat = 1)) (-99999)
noncomputable def apG (g : Nat → Nat → Int) (b t : Int) : Nat → Nat → Int := iteG (okA b t) (cpG g t (5 + b * 5 + t)) g
noncomputable def beR (g : Nat → Nat → Int) (b : Int) : Int := iteI (1 ≤ b ∧ b ≤ 3) (begC g b 5) (-99999)
noncomputable def beG (g : Nat → Nat → Int) (b : Int) : Nat → Nat → Int := iteG (1 ≤ b ∧ b ≤ 3) (begG g b 5) g
noncomputable def joR (g : Nat → Nat → Int) (b : Int) : Int := iteI (1 ≤ b ∧ b ≤ 3) (joiC g b 5) (-99999)
noncomputable def joG (g : Nat → Nat → Int) (b : Int) : Nat → Nat → Int := iteG (1 ≤ b ∧ b ≤ 3) (joiG g b 5) g
noncomputable def ruR (g : Nat → Nat → Int) (b t n : Int) : Int := iteI (cmpA b t n) (iteI (g 3 (5 + b * 5 + t).toNat = 1) (bp (fdE (CD g b t n) < 0)) (-99998)) (-99999)
noncomputable def ruG (g : Nat → Nat → Int) (b t n : Int) : Nat → Nat → Int := iteG (okC g b t n) (hisG g t (bp (fdE (CD g b t n) < 0))) g
noncomputable def dfR (g : Nat → Nat → Int) (b t n : Int) : Int := iteI (cmpA b t n) (iteI (g 3 (5 + b * 5 + t).toNat = 1) (cntE (CD g b t n) 64) (-1)) (-99999)
theorem ruR_3 {g : Nat → Nat → Int} {b t n : Int} (h1 : cmpA b t n) (h2 : ¬ g 3 (5 + b * 5 + t).toNat = 1) : ruR g b t n = -99998 := by unfold ruR; rw [iteI_t h1, iteI_f h2]
theorem ruR_2 {g : Nat → Nat → Int} {b t n : Int} (h1 : ¬ cmpA b t n) : ruR g b t n = -99999 := by unfold ruR; rw [iteI_f h1]
theorem ruR_1 {g : Nat → Nat → Int} {b t n : Int} (h : okC g b t n) : ruR g b t n = bp (fdE (CD g b t n) < 0) := by unfold ruR; rw [iteI_t h.1, iteI_t h.2]
theorem dfR_3 {g : Nat → Nat → Int} {b t n : Int} (h1 : cmpA b t n) (h2 : ¬ g 3 (5 + b * 5 + t).toNat = 1) : dfR g b t n = -1 := by unfold dfR; rw [iteI_t h1, iteI_f h2]
theorem dfR_2 {g : Nat → Nat → Int} {b t n : Int} (h1 : ¬ cmpA b t n) : dfR g b t n = -99999 := by unfold dfR; rw [iteI_f h1]
theorem dfR_1 {g : Nat → Nat → Int} {b t n : Int} (h : okC g b t n) : dfR g b t n = cntE (CD g b t n) 64 := by unfold dfR; rw [iteI_t h.1, iteI_t h.2]
/-! what a method of the law finds: one object's cells; at least N cells in all -/
def qB (sa : Nat → Nat) (D : va_G) (a : Nat → Nat) (kk : Nat → ClassId) (g : Nat → Nat → Int) (N : Nat) (U : State) : Prop := tX sa (aA 17 a) U ∧ va_P D vwCl (xW a kk g) U.heap ∧ va_K D vwCl (TY kk) U ∧ xN U ∧ va_Nc "java/lang/IllegalStateException" "java/lang/IllegalArgumentException" U ∧ N ≤ U.heap.size
theorem qB_bl {sa : Nat → Nat} {D : va_G} {a : Nat → Nat} {kk : Nat → ClassId} {g : Nat → Nat → Int} {N : Nat} : Bl (qB sa D a kk g N) := fun U g mk a h => ⟨tX_bl U g mk a h.1, h.2.1, va_K.moved (u := U) (U := U.calling g mk a) (Vm.Alike.refl U.vm) h.2.2.1, xN_bl U g mk a h.2.2.2.1, va_Nc.moved (u := U) (U := U.calling g mk a) (Vm.Alike.refl U.vm) h.2.2.2.2.1, h.2.2.2.2.2⟩
theorem qB_in {s : State} {sa : Nat → Nat} {D : va_G} {a : Nat → Nat} {kk : Nat → ClassId} {g : Nat → Nat → Int} {N : Nat} {H : Heap} {locs : List Loc} {A : Nat → Prop} (hS : va_S A s.heap H locs) (hAB : ∀ q, aA 17 a q → A q) (hT : tX sa A s) (hP : va_P D vwCl (xW a kk g) H) (hK : va_K D vwCl (TY kk) s) (hN : xN s) (hC : va_Nc "java/lang/IllegalStateException" "java/lang/IllegalArgumentException" s) (hz : N ≤ H.size) : ∀ U : State, U.heap = H → s.WarmedH U.vm → qB sa D a kk g N U := fun U hU hW2 => ⟨tX_in hS hAB hT U hU hW2, by rw [hU]; exact hP, va_K.moved hW2.alike hK, xN_warm hW2 hN, hC.moved hW2.alike, by rw [hU]; exact hz⟩
/-- a public method's start, in the midst of another's run -/
theorem pB_i2 {s : State} {sa : Nat → Nat} {D : va_G} {a : Nat → Nat} {kk : Nat → ClassId} {g : Nat → Nat → Int} {H : Heap} {locs : List Loc} {A : Nat → Prop} (hS : va_S A s.heap H locs) (hAB : ∀ q, aA 17 a q → A q) (hT : tX sa A s) (hP : va_P D vwCl (xW a kk g) H) (hK : va_K D vwCl (TY kk) s) (hN : xN s) : ∀ U : State, U.heap = H → s.WarmedH U.vm → pB sa D a kk g U := fun U hU hW2 => ⟨tX_in hS hAB hT U hU hW2, wB_in hP hK hN U hU hW2⟩
/-- two objects' cells -/
def bA (a a2 : Nat → Nat) : Nat → Prop := fun q => aA 17 a q ∨ aA 17 a2 q
def rB (sa : Nat → Nat) (D : va_G) (a a2 : Nat → Nat) (kk : Nat → ClassId) (g : Nat → Nat → Int) (N : Nat) (U : State) : Prop := tX sa (bA a a2) U ∧ va_P D vwCl (xW a kk g) U.heap ∧ va_P D vwCl (xW a2 kk g) U.heap ∧ va_K D vwCl (TY kk) U ∧ xN U ∧ va_Nc "java/lang/IllegalStateException" "java/lang/IllegalArgumentException" U ∧ N ≤ U.heap.size
theorem rB_bl {sa : Nat → Nat} {D : va_G} {a a2 : Nat → Nat} {kk : Nat → ClassId} {g : Nat → Nat → Int} {N : Nat} : Bl (rB sa D a a2 kk g N) := fun U g mk a h => ⟨tX_bl U g mk a h.1, h.2.1, h.2.2.1, va_K.moved (u := U) (U := U.calling g mk a) (Vm.Alike.refl U.vm) h.2.2.2.1, xN_bl U g mk a h.2.2.2.2.1, va_Nc.moved (u := U) (U := U.calling g mk a) (Vm.Alike.refl U.vm) h.2.2.2.2.2.1, h.2.2.2.2.2.2⟩
theorem rB_in {s : State} {sa : Nat → Nat} {D : va_G} {a a2 : Nat → Nat} {kk : Nat → ClassId} {g : Nat → Nat → Int} {N : Nat} {H : Heap} {locs : List Loc} {A : Nat → Prop} (hS : va_S A s.heap H locs) (hAB : ∀ q, bA a a2 q → A q) (hT : tX sa A s) (hP : va_P D vwCl (xW a kk g) H) (hP2 : va_P D vwCl (xW a2 kk g) H) (hK : va_K D vwCl (TY kk) s) (hN : xN s) (hC : va_Nc "java/lang/IllegalStateException" "java/lang/IllegalArgumentException" s) (hz : N ≤ H.size) : ∀ U : State, U.heap = H → s.WarmedH U.vm → rB sa D a a2 kk g N U := fun U hU hW2 => ⟨tX_in hS hAB hT U hU hW2, by rw [hU]; exact hP, by rw [hU]; exact hP2, va_K.moved hW2.alike hK, xN_warm hW2 hN, hC.moved hW2.alike, by rw [hU]; exact hz⟩
theorem va_P.un {D : va_G} {ws : va_W} {H H1 : Heap} (h : va_P D vwCl ws H) {A : Nat → Prop} (hk : ∀ q : Nat, q < H.size → ¬ A q → H1[q]? = H[q]?) (hA : ∀ (k : Nat) (q : Nat × va_E), ws[k]? = some q → ¬ A q.1) : va_P D vwCl ws H1 := h.kept (fun k q hq => hk q.1 ((h k q hq).lt) (hA k q hq))
theorem x_un2 {a : Nat → Nat} {kk : Nat → ClassId} {g : Nat → Nat → Int} {A : Nat → Prop} (h : ∀ j, j < 17 → ¬ A (a j)) : ∀ (k : Nat) (q : Nat × va_E), (xW a kk g)[k]? = some q → ¬ A q.1 := by
  intro k q hq
  have h1 : ((xW a kk g).map Prod.fst)[k]? = some q.1 := by rw [List.getElem?_map, hq]; rfl
  have h2 : (xW a kk g).map Prod.fst = (List.range 17).map a := rfl
  rw [h2, List.getElem?_map] at h1
  rcases Nat.lt_or_ge k 17 with hk | hk
  · rw [List.getElem?_range hk] at h1
    rw [← Option.some.inj h1]
    exact h k hk
  · rw [List.getElem?_eq_none (by rw [List.length_range]; exact hk)] at h1
    cases h1
theorem ap_1 {a a2 : Nat → Nat} (h : ∀ i j, i < 17 → j < 17 → a i ≠ a2 j) : ∀ j, j < 17 → ¬ aA 17 a (a2 j) := fun j hj ⟨k, hk, e⟩ => h k j hk hj e.symm
theorem ap_2 {a a2 : Nat → Nat} (h : ∀ i j, i < 17 → j < 17 → a i ≠ a2 j) : ∀ j, j < 17 → ¬ aA 17 a2 (a j) := fun j hj ⟨k, hk, e⟩ => h j k hj hk e
section RISH
variable {p : Program} {l : Launch} {e : Env} {R : Room} {s : State} {m : MethodId} {args : Array Value} {below : List Frame} {meth : Method} {c : Code} {H : Heap} {locs : List Loc} {cells slots : Nat} {Q : State → Prop}
variable {cc : ByteArray} {pc : Nat} {ls : Array Slot} {rest : List Value}
theorem ri_ishr (hexec : p.tables.exec = Jvm.exec) (hb : c.code = cc) {v k : Int} (hv : -2147483648 ≤ v ∧ v < 2147483648) (n : Nat) {d : Int} (hk : ((iI k &&& 31 : Int32).toBitVec.smod 32).toNat = n) (hd : ((2 ^ n : Nat) : Int) = d) (hdg : decode cc pc = .ok (.ishr, 1)) (kk : W p l e R s m args below meth c H locs cells slots Q (F0 m (pc + 1) ls (.int (iI (v / d)) :: rest))) : W p l e R s m args below meth c H locs cells slots Q (F0 m pc ls (.int (iI k) :: .int (iI v) :: rest)) :=
  lv_ishr hexec hb hdg (by rw [shr_k hv n hk, hd]; exact kk)
end RISH
