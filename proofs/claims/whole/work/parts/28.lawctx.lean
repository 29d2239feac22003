/-! ===== the law: what holds all along, and at each turn ===== -/
def LCx (p : Program) (l : Launch) (s : State) (m : MethodId) (meth : Method) (c : Code) (b L : Nat) (xs : Nat → Int32) (D : va_G) (kk : Nat → ClassId) (a a2 : Nat → Nat) (o : Nat) (sa : Nat → Nat) : Prop :=
  (p.tables.exec = Jvm.exec ∧ c.code = cL_law ∧ c.maxLocals = 7 ∧ s.vm.findClass RL = some m.cls ∧ (∀ w ∈ wsL_law, w.before (#[Value.ref b] : Array Value) s = true) ∧ va_X b L xs s s.heap ∧ b < s.heap.size ∧ L ≤ 3584) ∧
  (l.stackTraces = false ∧ va_K D vwCl (TY kk) s ∧ xN s ∧ tX sa (fun q => s.heap.size ≤ q) s ∧ va_Nc "java/lang/IllegalStateException" "java/lang/IllegalArgumentException" s) ∧
  (aDs 17 a ∧ aDs 8 a2 ∧ (∀ i, i < 17 → a i ≠ o) ∧ (∀ j, j < 8 → a2 j ≠ o) ∧ (∀ i j, i < 17 → j < 8 → a i ≠ a2 j) ∧ (∀ i, i < 17 → s.heap.size ≤ a i) ∧ (∀ j, j < 8 → s.heap.size ≤ a2 j) ∧ s.heap.size ≤ o)
def LSt (s : State) (D : va_G) (kk : Nat → ClassId) (a a2 : Nat → Nat) (o : Nat) (g mm : Nat → Nat → Int) (f : Nat → Int64) (H : Heap) (locs : List Loc) : Prop :=
  va_P D vwCl (xW a kk g) H ∧ va_P D vwCl (outW o kk f) H ∧ va_P D vwCl (mW a2 kk mm) H ∧ va_S (fun q => s.heap.size ≤ q) s.heap H locs ∧ Rel g mm ∧ XInv g ∧ MInv mm
theorem i32_r (x : Int32) : -2147483648 ≤ x.toInt ∧ x.toInt < 2147483648 := ⟨Int32.le_toInt x, Int32.toInt_lt x⟩
theorem lB_in {s : State} {sa : Nat → Nat} {D : va_G} {a : Nat → Nat} {kk : Nat → ClassId} {g : Nat → Nat → Int} {o : Nat} {f : Nat → Int64} {H : Heap} {locs : List Loc} {A : Nat → Prop} (hS : va_S A s.heap H locs) (hAB : ∀ q, oA a o q → A q) (hT : tX sa A s) (hP : va_P D vwCl (xW a kk g) H) (hW : va_P D vwCl (outW o kk f) H) (hK : va_K D vwCl (TY kk) s) (hN : xN s) (hC : va_Nc "java/lang/IllegalStateException" "java/lang/IllegalArgumentException" s) : ∀ U : State, U.heap = H → s.WarmedH U.vm → lB sa D a kk g o f U := fun U hU hW2 => ⟨tX_in hS hAB hT U hU hW2, by rw [hU]; exact hP, by rw [hU]; exact hW, va_K.moved hW2.alike hK, xN_warm hW2 hN, hC.moved hW2.alike⟩
theorem m_un {a2 : Nat → Nat} {kk : Nat → ClassId} {g : Nat → Nat → Int} {A : Nat → Prop} (h : ∀ j, j < 8 → ¬ A (a2 j)) : ∀ (k : Nat) (q : Nat × va_E), (mW a2 kk g)[k]? = some q → ¬ A q.1 := by
  intro k q hq
  have h1 : ((mW a2 kk g).map Prod.fst)[k]? = some q.1 := by rw [List.getElem?_map, hq]; rfl
  have h2 : (mW a2 kk g).map Prod.fst = (List.range 8).map a2 := rfl
  rw [h2, List.getElem?_map] at h1
  rcases Nat.lt_or_ge k 8 with hk | hk
  · rw [List.getElem?_range hk] at h1
    rw [← Option.some.inj h1]
    exact h k hk
  · rw [List.getElem?_eq_none (by rw [List.length_range]; exact hk)] at h1
    cases h1
theorem x_un2 {a : Nat → Nat} {kk : Nat → ClassId} {g : Nat → Nat → Int} {A : Nat → Prop} (h : ∀ j, j < 17 → ¬ A (a j)) : ∀ (k : Nat) (q : Nat × va_E), (xW a kk g)[k]? = some q → ¬ A q.1 := by
  intro k q hq
  have h1 : ((xW a kk g).map Prod.fst)[k]? = some q.1 := by rw [List.getElem?_map, hq]; rfl
  have h2 : (xW a kk g).map Prod.fst = (List.range 17).map a := rfl
  rw [h2, List.getElem?_map] at h1
  rcases Nat.lt_or_ge k 17 with hk | hk
  · rw [List.getElem?_range hk] at h1
    rw [← Option.some.inj h1]
    exact h k hk
  · rw [List.getElem?_eq_none (by rw [List.length_range]; exact hk)] at h1
    cases h1
theorem o_un2 {o : Nat} {kk : Nat → ClassId} {f : Nat → Int64} {A : Nat → Prop} (h : ¬ A o) : ∀ (k : Nat) (q : Nat × va_E), (outW o kk f)[k]? = some q → ¬ A q.1 := by
  intro k q hq
  have h1 := (List.getElem?_eq_some_iff.mp hq).1
  have h2 : k = 0 := Nat.lt_one_iff.mp h1
  subst h2
  have h3 : (outW o kk f)[0]? = some (o, .inl (kk 2, 1, .inr (.inl f))) := rfl
  rw [h3] at hq
  rw [← (congrArg Prod.fst (Option.some.inj hq))]
  exact h
theorem cmp_0 (x : Int64) : lg_cmp x x = iI 0 := by
  have h : lg_cmp x x = 0 := by simp [lg_cmp]
  rw [h]
  rfl
section RILAW
variable {p : Program} {l : Launch} {e : Env} {R : Room} {s : State} {m : MethodId} {args : Array Value} {below : List Frame} {meth : Method} {c : Code} {H : Heap} {locs : List Loc} {cells slots : Nat} {Q : State → Prop}
variable {cc : ByteArray} {pc : Nat} {ls : Array Slot} {rest : List Value} {A : Nat → Prop}
/-- an int of the script -/
theorem ri_sld (hexec : p.tables.exec = Jvm.exec) (hb : c.code = cc) {b L : Nat} {xs : Nat → Int32} (hX : va_X b L xs s s.heap) (hbl : b < s.heap.size) (hbA : ¬ A b) (hS : va_S A s.heap H locs) {i : Int} (hi : 0 ≤ i ∧ i < (L : Int)) (hL : L < 2147483648) (hdg : decode cc pc = .ok (.iaload, 1)) (kk : W p l e R s m args below meth c H locs cells slots Q (F0 m (pc + 1) ls (.int (iI (xs i.toNat).toInt) :: rest))) : W p l e R s m args below meth c H locs cells slots Q (F0 m pc ls (.int (iI i) :: .ref b :: rest)) :=
  va_sld hexec hb hX hbl hbA hS (iI_in hi hL) hdg (by
    rw [iI_cl ⟨hi.1, by omega⟩, ← iI_of (xs i.toNat)]
    exact kk)
end RILAW
theorem mh_0 (g : Nat → Nat → Int) (t v : Int) : mhG g t v 0 0 = g 0 0 := by
  by_cases full : g 7 t.toNat = 10
  · rw [mhG_f full]
    rfl
  · rw [mhG_n full]
    rfl
theorem run_R {g m : Nat → Nat → Int} (hR : Rel g m) (hM : MInv m) {b t n : Int} (hok : cmpA b t n ∧ g 3 (5 + b * 5 + t).toNat = 1) {F : Int → Int → Prop} : Rel (hisG g t (bp (fdE (cmpD (px (g 2) t) (px (g 2) (5 + b * 5 + t)) n (g 5 t.toNat) (g 6 t.toNat) (g 7 t.toNat) (g 8 t.toNat) (g 10 t.toNat) (g 11 t.toNat) (g 12 t.toNat) (g 13 t.toNat)) < 0)))
    (mhG (mvG (thG m 0) F) t (bp (fdE (cmpD (px (m 1) t) (px (m 2) (5 * b + t)) n (m 4 (4 * t).toNat) (m 4 (4 * t + 1).toNat) (m 4 (4 * t).toNat + m 4 (4 * t + 2).toNat) (m 4 (4 * t + 1).toNat + m 4 (4 * t + 3).toNat) (m 5 (4 * t).toNat) (m 5 (4 * t + 1).toNat) (m 5 (4 * t).toNat + m 5 (4 * t + 2).toNat) (m 5 (4 * t + 1).toNat + m 5 (4 * t + 3).toNat)) = -1))) := by
  have hk : m 3 (5 * b + t).toNat = 1 := (Rel_hd hR hok.1.1 hok.1.2.1).symm.trans hok.2
  have e := fdE_c (Rel_D (n := n) hR hM hok.1.1 hok.1.2.1 hk)
  rw [e, bp_c (fd_neg _)]
  exact Rel_hi (m := mvG (thG m 0) F) (Rel_mv (Rel_th hR 0) F) (MInv_mv F (MInv_th hM 0)) hok.1.2.1 (bp_01 _)
theorem mt_00 (g : Nat → Nat → Int) (b t : Int) : mtG g b t 0 = g 0 := by
  unfold mtG
  by_cases q : ¬ sameP (g 2) (g 3) (5 * b + t) (5 * (4 + b - 1) + t) ∧ sameP (g 2) (g 3) (5 * 0 + t) (5 * (4 + b - 1) + t)
  · rw [iteG_t q]
    rfl
  · rw [iteG_f q]
theorem mj_00 (g : Nat → Nat → Int) (b : Int) (n : Nat) : mjG g b n 0 = g 0 := by
  induction n with
  | zero => rfl
  | succ n ih =>
    show iteG (mclP (mjG g b n) b (n : Int)) _ _ 0 = g 0
    by_cases q : mclP (mjG g b n) b (n : Int)
    · rw [iteG_t q, mt_00]
      exact ih
    · rw [iteG_f q]
      exact (mt_00 (mjG g b n) b (n : Int)).trans ih
