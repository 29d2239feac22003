/-! ===== the law's own methods ===== -/
def outW (o : Nat) (kk : Nat → ClassId) (f : Nat → Int64) : va_W := [(o, .inl (kk 2, 1, .inr (.inl f)))]
def oA (a : Nat → Nat) (o : Nat) : Nat → Prop := fun q => aA 17 a q ∨ q = o
theorem outD {a : Nat → Nat} {o : Nat} {kk : Nat → ClassId} {f : Nat → Int64} : va_D (oA a o) (outW o kk f) := by
  have key : ∀ (k : Nat) (q : Nat × va_E), (outW o kk f)[k]? = some q → k = 0 ∧ q.1 = o := by
    intro k q h
    have h1 := (List.getElem?_eq_some_iff.mp h).1
    have h2 : k = 0 := Nat.lt_one_iff.mp h1
    subst h2
    have h3 : (outW o kk f)[0]? = some (o, .inl (kk 2, 1, .inr (.inl f))) := rfl
    rw [h3] at h
    exact ⟨rfl, (congrArg Prod.fst (Option.some.inj h)).symm⟩
  exact ⟨fun i j p q hi hj _ => (key i p hi).1.trans (key j q hj).1.symm, fun k q hq => Or.inr (key k q hq).2⟩
/-- a start of one of them -/
def lB (sa : Nat → Nat) (D : va_G) (a : Nat → Nat) (kk : Nat → ClassId) (g : Nat → Nat → Int) (o : Nat) (f : Nat → Int64) (U : State) : Prop := tX sa (oA a o) U ∧ va_P D vwCl (xW a kk g) U.heap ∧ va_P D vwCl (outW o kk f) U.heap ∧ va_K D vwCl (TY kk) U ∧ xN U ∧ va_Nc "java/lang/IllegalStateException" "java/lang/IllegalArgumentException" U
theorem lB_bl {sa : Nat → Nat} {D : va_G} {a : Nat → Nat} {kk : Nat → ClassId} {g : Nat → Nat → Int} {o : Nat} {f : Nat → Int64} : Bl (lB sa D a kk g o f) := fun U g mk a h => ⟨tX_bl U g mk a h.1, h.2.1, h.2.2.1, va_K.moved (u := U) (U := U.calling g mk a) (Vm.Alike.refl U.vm) h.2.2.2.1, xN_bl U g mk a h.2.2.2.2.1, va_Nc.moved (u := U) (U := U.calling g mk a) (Vm.Alike.refl U.vm) h.2.2.2.2.2⟩
theorem pB_in {s : State} {sa : Nat → Nat} {D : va_G} {a : Nat → Nat} {kk : Nat → ClassId} {g : Nat → Nat → Int} {o : Nat} (hT : tX sa (oA a o) s) (hP : va_P D vwCl (xW a kk g) s.heap) (hK : va_K D vwCl (TY kk) s) (hN : xN s) : ∀ U : State, U.heap = s.heap → s.WarmedH U.vm → pB sa D a kk g U := fun U hU hW => ⟨tX_in va_S.rf (fun _ h => Or.inl h) hT U hU hW, wB_in hP hK hN U hU hW⟩
theorem va_P.un {D : va_G} {ws : va_W} {H H1 : Heap} (h : va_P D vwCl ws H) {A : Nat → Prop} (hk : ∀ q : Nat, q < H.size → ¬ A q → H1[q]? = H[q]?) (hA : ∀ (k : Nat) (q : Nat × va_E), ws[k]? = some q → ¬ A q.1) : va_P D vwCl ws H1 := h.kept (fun k q hq => hk q.1 ((h k q hq).lt) (hA k q hq))
theorem out_un {a : Nat → Nat} {o : Nat} {kk : Nat → ClassId} {f : Nat → Int64} (hO : ∀ i, i < 17 → a i ≠ o) : ∀ (k : Nat) (q : Nat × va_E), (outW o kk f)[k]? = some q → ¬ aA 17 a q.1 := by
  intro k q h z
  have h1 := (List.getElem?_eq_some_iff.mp h).1
  have h2 : k = 0 := Nat.lt_one_iff.mp h1
  subst h2
  have h3 : (outW o kk f)[0]? = some (o, .inl (kk 2, 1, .inr (.inl f))) := rfl
  rw [h3] at h
  obtain ⟨i, hi, e⟩ := z
  have h4 : q.1 = o := (congrArg Prod.fst (Option.some.inj h)).symm
  exact hO i hi (e.symm.trans h4)

theorem x_un {a : Nat → Nat} {o : Nat} {kk : Nat → ClassId} {g : Nat → Nat → Int} (hO : ∀ i, i < 17 → a i ≠ o) : ∀ (k : Nat) (q : Nat × va_E), (xW a kk g)[k]? = some q → ¬ q.1 = o := by
  intro k q h z
  have h1 : ((xW a kk g).map Prod.fst)[k]? = some q.1 := by rw [List.getElem?_map, h]; rfl
  have h2 : (xW a kk g).map Prod.fst = (List.range 17).map a := rfl
  rw [h2, List.getElem?_map] at h1
  rcases Nat.lt_or_ge k 17 with hk | hk
  · rw [List.getElem?_range hk] at h1
    exact hO k hk ((Option.some.inj h1).trans z)
  · rw [List.getElem?_eq_none (by rw [List.length_range]; exact hk)] at h1
    cases h1
section RIOUT
variable {p : Program} {l : Launch} {e : Env} {R : Room} {s : State} {m : MethodId} {args : Array Value} {below : List Frame} {meth : Method} {c : Code} {H : Heap} {locs : List Loc} {cells slots : Nat} {Q : State → Prop}
variable {cc : ByteArray} {pc : Nat} {ls : Array Slot} {rest : List Value} {D : va_G} {A : Nat → Prop} {H0 : Heap} {a : Nat → Nat} {o : Nat} {kk : Nat → ClassId} {f : Nat → Int64}
/-- the answer goes into the row of one -/
theorem ro_last (hexec : p.tables.exec = Jvm.exec) (hb : c.code = cc) (hK : va_K D vwCl (TY kk) s) (hP : va_P D vwCl (outW o kk f) H) (hS : va_S (oA a o) H0 H locs) {x : Int64} (hdg : decode cc pc = .ok (.lastore, 1))
    (k : ∀ (H1 : Heap) (locs1 : List Loc), va_P D vwCl (outW o kk (vp_updL f 0 x)) H1 → (∀ q : Nat, q < H.size → ¬ q = o → H1[q]? = H[q]?) → va_S (oA a o) H0 H1 locs1 → W p l e R s m args below meth c H1 locs1 cells slots Q (F0 m (pc + 1) ls rest)) : W p l e R s m args below meth c H locs cells slots Q (F0 m pc ls (.long x :: .int (iI 0) :: .ref o :: rest)) := by
  have hD : va_D (fun q => q = o) (outW o kk f) := by
    have h0 : va_D (oA a o) (outW o kk f) := outD
    refine ⟨h0.1, fun k q h => ?_⟩
    have h1 := (List.getElem?_eq_some_iff.mp h).1
    have h2 : k = 0 := Nat.lt_one_iff.mp h1
    subst h2
    have h3 : (outW o kk f)[0]? = some (o, .inl (kk 2, 1, .inr (.inl f))) := rfl
    rw [h3] at h
    exact (congrArg Prod.fst (Option.some.inj h)).symm
  have h0 : (outW o kk f)[0]? = some (o, .inl (kk 2, 1, .inr (.inl f))) := rfl
  have hin : vp_in (iI 0) 1 := iI_in (by decide) (by decide)
  have hA9 : oA a o o := Or.inr rfl
  refine W.last hexec hb (hP 0 _ h0) ((hK.2 2 _ rfl).1 1 (fun j => .long (f j))) (fun q => by cases q) (by show ¬ (iI 0 < 0 ∨ (arrV _ _ _).slots.size ≤ _); rw [arrV_size]; exact hin) rfl rfl hdg fun H1 e1 z oq => ?_
  refine k H1 _ (hP.set hD h0 ?_ oq) (fun q _ h2 => oq q h2) (hS.put z oq hA9)
  show H1[o]? = some (vp_cell _ _)
  rw [e1]
  rw [vp_cell_l, vp_cell_l, arrV_store]
  congr 2
  funext q
  have e0 : (iI 0).toNatClampNeg = 0 := rfl
  rw [e0]
  unfold updV vp_updL
  by_cases hq : q = 0
  · rw [if_pos hq, if_pos hq]
  · rw [if_neg hq, if_neg hq]
end RIOUT

set_option maxHeartbeats 4000000 in
set_option maxRecDepth 100000 in
theorem kL_paint_ok (l : Launch) (D : va_G) (a : Nat → Nat) (kk : Nat → ClassId) (g : Nat → Nat → Int) (sa : Nat → Nat) (o : Nat) (f : Nat → Int64) (hst : l.stackTraces = false) (t : Int) (c : Int) (r : Int) (w : Int) (h : Int) (sh : Int) (hA : aDs 17 a) (hO : ∀ i, i < 17 → a i ≠ o) (hI : XInv g) (yt : -2147483648 ≤ t ∧ t < 2147483648) (yc : -2147483648 ≤ c ∧ c < 2147483648) (yr : -2147483648 ≤ r ∧ r < 2147483648) (yw : -2147483648 ≤ w ∧ w < 2147483648) (yh : -2147483648 ≤ h ∧ h < 2147483648) (ysh : -2147483648 ≤ sh ∧ sh < 2147483648) (hok : (0 ≤ t ∧ t ≤ 4) ∧ (((0 ≤ c ∧ c ≤ 7) ∧ (0 ≤ r ∧ r ≤ 7)) ∧ (1 ≤ w ∧ w ≤ 8 - c) ∧ (1 ≤ h ∧ h ≤ 8 - r)) ∧ (0 ≤ sh ∧ sh ≤ 255)) : WI l yL_paint wsL_paint ({ frames := 8, cells := 1, slots := 6, locals := 133 }) [.ref (a 0), .int (iI t), .int (iI c), .int (iI r), .int (iI w), .int (iI h), .int (iI sh), .ref o] (lB sa D a kk g o f) (0) (fun H => va_P D vwCl (xW a kk (updG g 2 (pst (g 2) t c r w sh (w * h).toNat).1)) H ∧ va_P D vwCl (outW o kk (vp_updL f 0 (iI ((pst (g 2) t c r w sh (w * h).toNat).2)).toInt64)) H) (oA a o) 1 6 := by
  refine va_MetW (cc := cL_paint) (maxL := 9) (ret := some .int) (hh := [(0, 18, 21, 13)]) (by decide) rfl ?_
  intro zp ze s zm av zb zt zc s₁ B hml hv
  obtain ⟨rfl, hT, hP, hW, hK, hN, hC⟩ := hv
  have hx := B.exec
  have hb := B.bytes
  have hr := B.returns
  have hts := atoms_spec (ws := wsL_paint) B.pre
  have hown : s.vm.findClass RL = some zm.cls := findClass_of_methodNamed B.named
  have hlocks := B.notSynchronized
  have hxt := vx_table (x := yL_paint) B (hts (.codeWith yL_paint cL_paint 9 (some .int) [(0, 18, 21, 13)]) (List.mem_of_getElem? (i := 0) rfl))
  have hS : va_S (oA a o) s.heap s.heap [] := va_S.rf
  have CF : CallFix zp zm zc cL_paint 9 s ([.ref (a 0), .int (iI t), .int (iI c), .int (iI r), .int (iI w), .int (iI h), .int (iI sh), .ref o] : List Value).toArray wsL_paint RL := ⟨hx, hb, hml, hown, hts⟩
  have hl := lv_entry ([.ref (a 0), .int (iI t), .int (iI c), .int (iI r), .int (iI w), .int (iI h), .int (iI sh), .ref o] : List Value) (n := 9) (Nat.le_of_ble_eq_true rfl)
  rw [lg_entry_eq]
  generalize (lg_sl ([.ref (a 0), .int (iI t), .int (iI c), .int (iI r), .int (iI w), .int (iI h), .int (iI sh), .ref o] : List Value) ++ List.replicate (9 - (lg_sl ([.ref (a 0), .int (iI t), .int (iI c), .int (iI r), .int (iI w), .int (iI h), .int (iI sh), .ref o] : List Value)).length) Slot.unset).toArray = ls at hl ⊢
  have hl : lv_has ls 9 [(0, .ref (a 0)), (1, .int (iI t)), (2, .int (iI c)), (3, .int (iI r)), (4, .int (iI w)), (5, .int (iI h)), (6, .int (iI sh)), (7, .ref o)] := hl
  refine lv_aload hx hb dL_paint_0 (lv_at hl 7 rfl) ?_
  refine ri_iconst hx hb dL_paint_2 ?_
  refine lv_aload_n hx hb dL_paint_3 rfl (lv_at hl 0 rfl) ?_
  refine lv_iload_n hx hb dL_paint_4 rfl (lv_at hl 1 rfl) ?_
  refine lv_iload_n hx hb dL_paint_5 rfl (lv_at hl 2 rfl) ?_
  refine lv_iload_n hx hb dL_paint_6 rfl (lv_at hl 3 rfl) ?_
  refine lv_iload hx hb dL_paint_7 (lv_at hl 4 rfl) ?_
  refine lv_iload hx hb dL_paint_9 (lv_at hl 5 rfl) ?_
  refine lv_iload hx hb dL_paint_11 (lv_at hl 6 rfl) ?_
  refine vx_calli (ri_runVX (b := a 0) (As := [.int (iI t), .int (iI c), .int (iI r), .int (iI w), .int (iI h), .int (iI sh)]) (rest := [.int (iI 0), .ref o]) CF (k_X3_paint l D a kk g sa hst t c r w h sh hA hI yt yc yr yw yh ysh) gL_paint_X3_paint f_X3_paint rfl (va_recv hK hP (ci := 3) (q0 := 0) rfl rfl) ⟨rfl, rfl, (Nat.le_of_ble_eq_true rfl), (Nat.le_of_ble_eq_true rfl), (Nat.le_of_ble_eq_true rfl), (Nat.le_of_ble_eq_true rfl)⟩ pB_bl (pB_in hT hP hK hN) rfl hl.1 rfl (Nat.le_of_ble_eq_true rfl) dL_paint_13) hS (fun q _ h => Or.inl h) (fun q h => Or.inl h) (fun _ _ h => h.elim) (fun X ce q9 _ tz H1 locs1 ht hvm _ hB hz hk hS1 hce hcv hcl => ?_) (fun rz _ tz H1 locs1 ht hvm hp hB hz hk hS => ?_)
  · exact absurd hok hB.2
  · have hP2 : va_P D vwCl (xW a kk (updG g 2 (pst (g 2) t c r w sh (w * h).toNat).1)) H1 := ht ▸ hB
    have hW2 := hW.un hk (out_un hO)
    obtain ⟨_, hpr⟩ := hp
    subst hpr
    refine lv_i2l (v := (iI ((pst (g 2) t c r w sh (w * h).toNat).2)).toInt64) hx hb dL_paint_16 rfl ?_
    refine ro_last (x := (iI ((pst (g 2) t c r w sh (w * h).toNat).2)).toInt64) hx hb hK hW2 hS dL_paint_17 (fun H2 locs2 hW3 hq2 hS => ?_)
    have hP3 : va_P D vwCl (xW a kk (updG g 2 (pst (g 2) t c r w sh (w * h).toNat).1)) H2 := hP2.un (A := fun q => q = o) hq2 (x_un hO)
    have hW4 : va_P D vwCl (outW o kk (vp_updL f 0 (iI ((pst (g 2) t c r w sh (w * h).toNat).2)).toInt64)) H2 := by
      exact hW3
    refine lv_goto (tgt := 25) hx hb dL_paint_18 (by decide) ?_
    refine ri_iconst hx hb dL_paint_25 ?_
    exact ri_iretW (A := oA a o) (PP := (fun H => va_P D vwCl (xW a kk (updG g 2 (pst (g 2) t c r w sh (w * h).toNat).1)) H ∧ va_P D vwCl (outW o kk (vp_updL f 0 (iI ((pst (g 2) t c r w sh (w * h).toNat).2)).toInt64)) H)) hx hb hr hlocks hS ⟨hP3, hW4⟩ dL_paint_26 rfl

set_option maxHeartbeats 4000000 in
set_option maxRecDepth 100000 in
theorem kL_paint_no (l : Launch) (D : va_G) (a : Nat → Nat) (kk : Nat → ClassId) (g : Nat → Nat → Int) (sa : Nat → Nat) (o : Nat) (f : Nat → Int64) (hst : l.stackTraces = false) (t : Int) (c : Int) (r : Int) (w : Int) (h : Int) (sh : Int) (hA : aDs 17 a) (hO : ∀ i, i < 17 → a i ≠ o) (hI : XInv g) (yt : -2147483648 ≤ t ∧ t < 2147483648) (yc : -2147483648 ≤ c ∧ c < 2147483648) (yr : -2147483648 ≤ r ∧ r < 2147483648) (yw : -2147483648 ≤ w ∧ w < 2147483648) (yh : -2147483648 ≤ h ∧ h < 2147483648) (ysh : -2147483648 ≤ sh ∧ sh < 2147483648) (hno : ¬ ((0 ≤ t ∧ t ≤ 4) ∧ (((0 ≤ c ∧ c ≤ 7) ∧ (0 ≤ r ∧ r ≤ 7)) ∧ (1 ≤ w ∧ w ≤ 8 - c) ∧ (1 ≤ h ∧ h ≤ 8 - r)) ∧ (0 ≤ sh ∧ sh ≤ 255))) : WI l yL_paint wsL_paint ({ frames := 8, cells := 1, slots := 6, locals := 133 }) [.ref (a 0), .int (iI t), .int (iI c), .int (iI r), .int (iI w), .int (iI h), .int (iI sh), .ref o] (lB sa D a kk g o f) (1) (fun H => va_P D vwCl (xW a kk g) H ∧ va_P D vwCl (outW o kk f) H) (oA a o) 1 6 := by
  refine va_MetW (cc := cL_paint) (maxL := 9) (ret := some .int) (hh := [(0, 18, 21, 13)]) (by decide) rfl ?_
  intro zp ze s zm av zb zt zc s₁ B hml hv
  obtain ⟨rfl, hT, hP, hW, hK, hN, hC⟩ := hv
  have hx := B.exec
  have hb := B.bytes
  have hr := B.returns
  have hts := atoms_spec (ws := wsL_paint) B.pre
  have hown : s.vm.findClass RL = some zm.cls := findClass_of_methodNamed B.named
  have hlocks := B.notSynchronized
  have hxt := vx_table (x := yL_paint) B (hts (.codeWith yL_paint cL_paint 9 (some .int) [(0, 18, 21, 13)]) (List.mem_of_getElem? (i := 0) rfl))
  have hS : va_S (oA a o) s.heap s.heap [] := va_S.rf
  have CF : CallFix zp zm zc cL_paint 9 s ([.ref (a 0), .int (iI t), .int (iI c), .int (iI r), .int (iI w), .int (iI h), .int (iI sh), .ref o] : List Value).toArray wsL_paint RL := ⟨hx, hb, hml, hown, hts⟩
  have hl := lv_entry ([.ref (a 0), .int (iI t), .int (iI c), .int (iI r), .int (iI w), .int (iI h), .int (iI sh), .ref o] : List Value) (n := 9) (Nat.le_of_ble_eq_true rfl)
  rw [lg_entry_eq]
  generalize (lg_sl ([.ref (a 0), .int (iI t), .int (iI c), .int (iI r), .int (iI w), .int (iI h), .int (iI sh), .ref o] : List Value) ++ List.replicate (9 - (lg_sl ([.ref (a 0), .int (iI t), .int (iI c), .int (iI r), .int (iI w), .int (iI h), .int (iI sh), .ref o] : List Value)).length) Slot.unset).toArray = ls at hl ⊢
  have hl : lv_has ls 9 [(0, .ref (a 0)), (1, .int (iI t)), (2, .int (iI c)), (3, .int (iI r)), (4, .int (iI w)), (5, .int (iI h)), (6, .int (iI sh)), (7, .ref o)] := hl
  refine lv_aload hx hb dL_paint_0 (lv_at hl 7 rfl) ?_
  refine ri_iconst hx hb dL_paint_2 ?_
  refine lv_aload_n hx hb dL_paint_3 rfl (lv_at hl 0 rfl) ?_
  refine lv_iload_n hx hb dL_paint_4 rfl (lv_at hl 1 rfl) ?_
  refine lv_iload_n hx hb dL_paint_5 rfl (lv_at hl 2 rfl) ?_
  refine lv_iload_n hx hb dL_paint_6 rfl (lv_at hl 3 rfl) ?_
  refine lv_iload hx hb dL_paint_7 (lv_at hl 4 rfl) ?_
  refine lv_iload hx hb dL_paint_9 (lv_at hl 5 rfl) ?_
  refine lv_iload hx hb dL_paint_11 (lv_at hl 6 rfl) ?_
  refine vx_calli (ri_runVX (b := a 0) (As := [.int (iI t), .int (iI c), .int (iI r), .int (iI w), .int (iI h), .int (iI sh)]) (rest := [.int (iI 0), .ref o]) CF (k_X3_paint l D a kk g sa hst t c r w h sh hA hI yt yc yr yw yh ysh) gL_paint_X3_paint f_X3_paint rfl (va_recv hK hP (ci := 3) (q0 := 0) rfl rfl) ⟨rfl, rfl, (Nat.le_of_ble_eq_true rfl), (Nat.le_of_ble_eq_true rfl), (Nat.le_of_ble_eq_true rfl), (Nat.le_of_ble_eq_true rfl)⟩ pB_bl (pB_in hT hP hK hN) rfl hl.1 rfl (Nat.le_of_ble_eq_true rfl) dL_paint_13) hS (fun q _ h => Or.inl h) (fun q h => Or.inl h) (fun _ _ h => h.elim) (fun X ce q9 _ tz H1 locs1 ht hvm _ hB hz hk hS1 hce hcv hcl => ?_) (fun rz _ tz H1 locs1 ht hvm hp hB hz hk hS => ?_)
  · have hP1 := hP.un hk (fun _ _ _ z => z)
    have hW1 := hW.un hk (fun _ _ _ z => z)
    obtain ⟨hX, hB⟩ := hB
    subst hX
    refine vx_catch hown [] ⟨0, 18, 21, 13⟩ [] hxt (fun z hz => absurd hz List.not_mem_nil) rfl (by decide) (hts _ (List.mem_of_getElem? (i := 1) rfl)) (va_Nw.use rfl hT.2.2.2.2.2.2.2.2.1) hce hcv hcl ?_
    refine lv_astore (lv' := (8, .ref q9) :: [(0, .ref (a 0)), (1, .int (iI t)), (2, .int (iI c)), (3, .int (iI r)), (4, .int (iI w)), (5, .int (iI h)), (6, .int (iI sh)), (7, .ref o)]) hx hb dL_paint_21 hl (by decide) rfl (fun ls hl => ?_)
    refine ri_iconst hx hb dL_paint_23 ?_
    exact ri_iretW (A := oA a o) (PP := (fun H => va_P D vwCl (xW a kk g) H ∧ va_P D vwCl (outW o kk f) H)) hx hb hr hlocks hS1 ⟨hP1, hW1⟩ dL_paint_24 rfl
  · exact absurd hp.1 hno

set_option maxHeartbeats 4000000 in
set_option maxRecDepth 100000 in
theorem kL_shade_ok (l : Launch) (D : va_G) (a : Nat → Nat) (kk : Nat → ClassId) (g : Nat → Nat → Int) (sa : Nat → Nat) (o : Nat) (f : Nat → Int64) (hst : l.stackTraces = false) (t : Int) (c : Int) (r : Int) (hA : aDs 17 a) (hO : ∀ i, i < 17 → a i ≠ o) (hI : XInv g) (yt : -2147483648 ≤ t ∧ t < 2147483648) (yc : -2147483648 ≤ c ∧ c < 2147483648) (yr : -2147483648 ≤ r ∧ r < 2147483648) (hok : (0 ≤ t ∧ t ≤ 4) ∧ ((0 ≤ c ∧ c ≤ 7) ∧ (0 ≤ r ∧ r ≤ 7))) : WI l yL_shade wsL_shade ({ frames := 8, cells := 1, slots := 6, locals := 127 }) [.ref (a 0), .int (iI t), .int (iI c), .int (iI r), .ref o] (lB sa D a kk g o f) (0) (fun H => va_P D vwCl (xW a kk (g)) H ∧ va_P D vwCl (outW o kk (vp_updL f 0 (iI (g 2 (t * 64 + r * 8 + c).toNat)).toInt64)) H) (oA a o) 1 6 := by
  refine va_MetW (cc := cL_shade) (maxL := 6) (ret := some .int) (hh := [(0, 12, 15, 13)]) (by decide) rfl ?_
  intro zp ze s zm av zb zt zc s₁ B hml hv
  obtain ⟨rfl, hT, hP, hW, hK, hN, hC⟩ := hv
  have hx := B.exec
  have hb := B.bytes
  have hr := B.returns
  have hts := atoms_spec (ws := wsL_shade) B.pre
  have hown : s.vm.findClass RL = some zm.cls := findClass_of_methodNamed B.named
  have hlocks := B.notSynchronized
  have hxt := vx_table (x := yL_shade) B (hts (.codeWith yL_shade cL_shade 6 (some .int) [(0, 12, 15, 13)]) (List.mem_of_getElem? (i := 0) rfl))
  have hS : va_S (oA a o) s.heap s.heap [] := va_S.rf
  have CF : CallFix zp zm zc cL_shade 6 s ([.ref (a 0), .int (iI t), .int (iI c), .int (iI r), .ref o] : List Value).toArray wsL_shade RL := ⟨hx, hb, hml, hown, hts⟩
  have hl := lv_entry ([.ref (a 0), .int (iI t), .int (iI c), .int (iI r), .ref o] : List Value) (n := 6) (Nat.le_of_ble_eq_true rfl)
  rw [lg_entry_eq]
  generalize (lg_sl ([.ref (a 0), .int (iI t), .int (iI c), .int (iI r), .ref o] : List Value) ++ List.replicate (6 - (lg_sl ([.ref (a 0), .int (iI t), .int (iI c), .int (iI r), .ref o] : List Value)).length) Slot.unset).toArray = ls at hl ⊢
  have hl : lv_has ls 6 [(0, .ref (a 0)), (1, .int (iI t)), (2, .int (iI c)), (3, .int (iI r)), (4, .ref o)] := hl
  refine lv_aload hx hb dL_shade_0 (lv_at hl 4 rfl) ?_
  refine ri_iconst hx hb dL_shade_2 ?_
  refine lv_aload_n hx hb dL_shade_3 rfl (lv_at hl 0 rfl) ?_
  refine lv_iload_n hx hb dL_shade_4 rfl (lv_at hl 1 rfl) ?_
  refine lv_iload_n hx hb dL_shade_5 rfl (lv_at hl 2 rfl) ?_
  refine lv_iload_n hx hb dL_shade_6 rfl (lv_at hl 3 rfl) ?_
  refine vx_calli (ri_runVX (b := a 0) (As := [.int (iI t), .int (iI c), .int (iI r)]) (rest := [.int (iI 0), .ref o]) CF (k_X3_shade l D a kk g sa hst t c r hA hI yt yc yr) gL_shade_X3_shade f_X3_shade rfl (va_recv hK hP (ci := 3) (q0 := 0) rfl rfl) ⟨rfl, rfl, (Nat.le_of_ble_eq_true rfl), (Nat.le_of_ble_eq_true rfl), (Nat.le_of_ble_eq_true rfl), (Nat.le_of_ble_eq_true rfl)⟩ pB_bl (pB_in hT hP hK hN) rfl hl.1 rfl (Nat.le_of_ble_eq_true rfl) dL_shade_7) hS (fun q _ h => Or.inl h) (fun q h => Or.inl h) (fun _ _ h => h.elim) (fun X ce q9 _ tz H1 locs1 ht hvm _ hB hz hk hS1 hce hcv hcl => ?_) (fun rz _ tz H1 locs1 ht hvm hp hB hz hk hS => ?_)
  · exact absurd hok hB.2
  · have hP2 : va_P D vwCl (xW a kk (g)) H1 := ht ▸ hB
    have hW2 := hW.un hk (out_un hO)
    obtain ⟨_, hpr⟩ := hp
    subst hpr
    refine lv_i2l (v := (iI (g 2 (t * 64 + r * 8 + c).toNat)).toInt64) hx hb dL_shade_10 rfl ?_
    refine ro_last (x := (iI (g 2 (t * 64 + r * 8 + c).toNat)).toInt64) hx hb hK hW2 hS dL_shade_11 (fun H2 locs2 hW3 hq2 hS => ?_)
    have hP3 : va_P D vwCl (xW a kk (g)) H2 := hP2.un (A := fun q => q = o) hq2 (x_un hO)
    have hW4 : va_P D vwCl (outW o kk (vp_updL f 0 (iI (g 2 (t * 64 + r * 8 + c).toNat)).toInt64)) H2 := by
      exact hW3
    refine lv_goto (tgt := 19) hx hb dL_shade_12 (by decide) ?_
    refine ri_iconst hx hb dL_shade_19 ?_
    exact ri_iretW (A := oA a o) (PP := (fun H => va_P D vwCl (xW a kk (g)) H ∧ va_P D vwCl (outW o kk (vp_updL f 0 (iI (g 2 (t * 64 + r * 8 + c).toNat)).toInt64)) H)) hx hb hr hlocks hS ⟨hP3, hW4⟩ dL_shade_20 rfl

set_option maxHeartbeats 4000000 in
set_option maxRecDepth 100000 in
theorem kL_shade_no (l : Launch) (D : va_G) (a : Nat → Nat) (kk : Nat → ClassId) (g : Nat → Nat → Int) (sa : Nat → Nat) (o : Nat) (f : Nat → Int64) (hst : l.stackTraces = false) (t : Int) (c : Int) (r : Int) (hA : aDs 17 a) (hO : ∀ i, i < 17 → a i ≠ o) (hI : XInv g) (yt : -2147483648 ≤ t ∧ t < 2147483648) (yc : -2147483648 ≤ c ∧ c < 2147483648) (yr : -2147483648 ≤ r ∧ r < 2147483648) (hno : ¬ ((0 ≤ t ∧ t ≤ 4) ∧ ((0 ≤ c ∧ c ≤ 7) ∧ (0 ≤ r ∧ r ≤ 7)))) : WI l yL_shade wsL_shade ({ frames := 8, cells := 1, slots := 6, locals := 127 }) [.ref (a 0), .int (iI t), .int (iI c), .int (iI r), .ref o] (lB sa D a kk g o f) (1) (fun H => va_P D vwCl (xW a kk g) H ∧ va_P D vwCl (outW o kk f) H) (oA a o) 1 6 := by
  refine va_MetW (cc := cL_shade) (maxL := 6) (ret := some .int) (hh := [(0, 12, 15, 13)]) (by decide) rfl ?_
  intro zp ze s zm av zb zt zc s₁ B hml hv
  obtain ⟨rfl, hT, hP, hW, hK, hN, hC⟩ := hv
  have hx := B.exec
  have hb := B.bytes
  have hr := B.returns
  have hts := atoms_spec (ws := wsL_shade) B.pre
  have hown : s.vm.findClass RL = some zm.cls := findClass_of_methodNamed B.named
  have hlocks := B.notSynchronized
  have hxt := vx_table (x := yL_shade) B (hts (.codeWith yL_shade cL_shade 6 (some .int) [(0, 12, 15, 13)]) (List.mem_of_getElem? (i := 0) rfl))
  have hS : va_S (oA a o) s.heap s.heap [] := va_S.rf
  have CF : CallFix zp zm zc cL_shade 6 s ([.ref (a 0), .int (iI t), .int (iI c), .int (iI r), .ref o] : List Value).toArray wsL_shade RL := ⟨hx, hb, hml, hown, hts⟩
  have hl := lv_entry ([.ref (a 0), .int (iI t), .int (iI c), .int (iI r), .ref o] : List Value) (n := 6) (Nat.le_of_ble_eq_true rfl)
  rw [lg_entry_eq]
  generalize (lg_sl ([.ref (a 0), .int (iI t), .int (iI c), .int (iI r), .ref o] : List Value) ++ List.replicate (6 - (lg_sl ([.ref (a 0), .int (iI t), .int (iI c), .int (iI r), .ref o] : List Value)).length) Slot.unset).toArray = ls at hl ⊢
  have hl : lv_has ls 6 [(0, .ref (a 0)), (1, .int (iI t)), (2, .int (iI c)), (3, .int (iI r)), (4, .ref o)] := hl
  refine lv_aload hx hb dL_shade_0 (lv_at hl 4 rfl) ?_
  refine ri_iconst hx hb dL_shade_2 ?_
  refine lv_aload_n hx hb dL_shade_3 rfl (lv_at hl 0 rfl) ?_
  refine lv_iload_n hx hb dL_shade_4 rfl (lv_at hl 1 rfl) ?_
  refine lv_iload_n hx hb dL_shade_5 rfl (lv_at hl 2 rfl) ?_
  refine lv_iload_n hx hb dL_shade_6 rfl (lv_at hl 3 rfl) ?_
  refine vx_calli (ri_runVX (b := a 0) (As := [.int (iI t), .int (iI c), .int (iI r)]) (rest := [.int (iI 0), .ref o]) CF (k_X3_shade l D a kk g sa hst t c r hA hI yt yc yr) gL_shade_X3_shade f_X3_shade rfl (va_recv hK hP (ci := 3) (q0 := 0) rfl rfl) ⟨rfl, rfl, (Nat.le_of_ble_eq_true rfl), (Nat.le_of_ble_eq_true rfl), (Nat.le_of_ble_eq_true rfl), (Nat.le_of_ble_eq_true rfl)⟩ pB_bl (pB_in hT hP hK hN) rfl hl.1 rfl (Nat.le_of_ble_eq_true rfl) dL_shade_7) hS (fun q _ h => Or.inl h) (fun q h => Or.inl h) (fun _ _ h => h.elim) (fun X ce q9 _ tz H1 locs1 ht hvm _ hB hz hk hS1 hce hcv hcl => ?_) (fun rz _ tz H1 locs1 ht hvm hp hB hz hk hS => ?_)
  · have hP1 := hP.un hk (fun _ _ _ z => z)
    have hW1 := hW.un hk (fun _ _ _ z => z)
    obtain ⟨hX, hB⟩ := hB
    subst hX
    refine vx_catch hown [] ⟨0, 12, 15, 13⟩ [] hxt (fun z hz => absurd hz List.not_mem_nil) rfl (by decide) (hts _ (List.mem_of_getElem? (i := 1) rfl)) (va_Nw.use rfl hT.2.2.2.2.2.2.2.2.1) hce hcv hcl ?_
    refine lv_astore (lv' := (5, .ref q9) :: [(0, .ref (a 0)), (1, .int (iI t)), (2, .int (iI c)), (3, .int (iI r)), (4, .ref o)]) hx hb dL_shade_15 hl (by decide) rfl (fun ls hl => ?_)
    refine ri_iconst hx hb dL_shade_17 ?_
    exact ri_iretW (A := oA a o) (PP := (fun H => va_P D vwCl (xW a kk g) H ∧ va_P D vwCl (outW o kk f) H)) hx hb hr hlocks hS1 ⟨hP1, hW1⟩ dL_shade_18 rfl
  · exact absurd hp.1 hno

set_option maxHeartbeats 4000000 in
set_option maxRecDepth 100000 in
theorem kL_setPart_ok (l : Launch) (D : va_G) (a : Nat → Nat) (kk : Nat → ClassId) (g : Nat → Nat → Int) (sa : Nat → Nat) (o : Nat) (f : Nat → Int64) (hst : l.stackTraces = false) (t : Int) (c : Int) (r : Int) (w : Int) (h : Int) (hA : aDs 17 a) (hO : ∀ i, i < 17 → a i ≠ o) (hI : XInv g) (yt : -2147483648 ≤ t ∧ t < 2147483648) (yc : -2147483648 ≤ c ∧ c < 2147483648) (yr : -2147483648 ≤ r ∧ r < 2147483648) (yw : -2147483648 ≤ w ∧ w < 2147483648) (yh : -2147483648 ≤ h ∧ h < 2147483648) (hok : (0 ≤ t ∧ t ≤ 4) ∧ ((0 ≤ c ∧ c ≤ 7) ∧ (0 ≤ r ∧ r ≤ 7)) ∧ (1 ≤ w ∧ w ≤ 8 - c) ∧ (1 ≤ h ∧ h ≤ 8 - r)) : WI l yL_setPart wsL_setPart ({ frames := 8, cells := 1, slots := 6, locals := 129 }) [.ref (a 0), .int (iI t), .int (iI c), .int (iI r), .int (iI w), .int (iI h)] (lB sa D a kk g o f) (0) (fun H => va_P D vwCl (xW a kk (putX 9 (putX 4 g t c r w h) t 0 0 0 0)) H ∧ va_P D vwCl (outW o kk (f)) H) (oA a o) 1 6 := by
  refine va_MetW (cc := cL_setPart) (maxL := 7) (ret := some .int) (hh := [(0, 11, 14, 13)]) (by decide) rfl ?_
  intro zp ze s zm av zb zt zc s₁ B hml hv
  obtain ⟨rfl, hT, hP, hW, hK, hN, hC⟩ := hv
  have hx := B.exec
  have hb := B.bytes
  have hr := B.returns
  have hts := atoms_spec (ws := wsL_setPart) B.pre
  have hown : s.vm.findClass RL = some zm.cls := findClass_of_methodNamed B.named
  have hlocks := B.notSynchronized
  have hxt := vx_table (x := yL_setPart) B (hts (.codeWith yL_setPart cL_setPart 7 (some .int) [(0, 11, 14, 13)]) (List.mem_of_getElem? (i := 0) rfl))
  have hS : va_S (oA a o) s.heap s.heap [] := va_S.rf
  have CF : CallFix zp zm zc cL_setPart 7 s ([.ref (a 0), .int (iI t), .int (iI c), .int (iI r), .int (iI w), .int (iI h)] : List Value).toArray wsL_setPart RL := ⟨hx, hb, hml, hown, hts⟩
  have hl := lv_entry ([.ref (a 0), .int (iI t), .int (iI c), .int (iI r), .int (iI w), .int (iI h)] : List Value) (n := 7) (Nat.le_of_ble_eq_true rfl)
  rw [lg_entry_eq]
  generalize (lg_sl ([.ref (a 0), .int (iI t), .int (iI c), .int (iI r), .int (iI w), .int (iI h)] : List Value) ++ List.replicate (7 - (lg_sl ([.ref (a 0), .int (iI t), .int (iI c), .int (iI r), .int (iI w), .int (iI h)] : List Value)).length) Slot.unset).toArray = ls at hl ⊢
  have hl : lv_has ls 7 [(0, .ref (a 0)), (1, .int (iI t)), (2, .int (iI c)), (3, .int (iI r)), (4, .int (iI w)), (5, .int (iI h))] := hl
  refine lv_aload_n hx hb dL_setPart_0 rfl (lv_at hl 0 rfl) ?_
  refine lv_iload_n hx hb dL_setPart_1 rfl (lv_at hl 1 rfl) ?_
  refine lv_iload_n hx hb dL_setPart_2 rfl (lv_at hl 2 rfl) ?_
  refine lv_iload_n hx hb dL_setPart_3 rfl (lv_at hl 3 rfl) ?_
  refine lv_iload hx hb dL_setPart_4 (lv_at hl 4 rfl) ?_
  refine lv_iload hx hb dL_setPart_6 (lv_at hl 5 rfl) ?_
  refine vx_callv (ri_runVX (b := a 0) (As := [.int (iI t), .int (iI c), .int (iI r), .int (iI w), .int (iI h)]) (rest := []) CF (k_X3_setPart l D a kk g sa hst t c r w h hA hI yt yc yr yw yh) gL_setPart_X3_setPart f_X3_setPart rfl (va_recv hK hP (ci := 3) (q0 := 0) rfl rfl) ⟨rfl, rfl, (Nat.le_of_ble_eq_true rfl), (Nat.le_of_ble_eq_true rfl), (Nat.le_of_ble_eq_true rfl), (Nat.le_of_ble_eq_true rfl)⟩ pB_bl (pB_in hT hP hK hN) rfl hl.1 rfl (Nat.le_of_ble_eq_true rfl) dL_setPart_8) hS (fun q _ h => Or.inl h) (fun q h => Or.inl h) (fun _ _ h => h.elim) (fun X ce q9 _ tz H1 locs1 ht hvm _ hB hz hk hS1 hce hcv hcl => ?_) (fun _ tz H1 locs1 ht hvm hp hB hz hk hS => ?_)
  · exact absurd hok hB.2
  · have hP2 : va_P D vwCl (xW a kk (putX 9 (putX 4 g t c r w h) t 0 0 0 0)) H1 := ht ▸ hB
    have hW2 := hW.un hk (out_un hO)
    refine lv_goto (tgt := 18) hx hb dL_setPart_11 (by decide) ?_
    refine ri_iconst hx hb dL_setPart_18 ?_
    exact ri_iretW (A := oA a o) (PP := (fun H => va_P D vwCl (xW a kk (putX 9 (putX 4 g t c r w h) t 0 0 0 0)) H ∧ va_P D vwCl (outW o kk (f)) H)) hx hb hr hlocks hS ⟨hP2, hW2⟩ dL_setPart_19 rfl

set_option maxHeartbeats 4000000 in
set_option maxRecDepth 100000 in
theorem kL_setPart_no (l : Launch) (D : va_G) (a : Nat → Nat) (kk : Nat → ClassId) (g : Nat → Nat → Int) (sa : Nat → Nat) (o : Nat) (f : Nat → Int64) (hst : l.stackTraces = false) (t : Int) (c : Int) (r : Int) (w : Int) (h : Int) (hA : aDs 17 a) (hO : ∀ i, i < 17 → a i ≠ o) (hI : XInv g) (yt : -2147483648 ≤ t ∧ t < 2147483648) (yc : -2147483648 ≤ c ∧ c < 2147483648) (yr : -2147483648 ≤ r ∧ r < 2147483648) (yw : -2147483648 ≤ w ∧ w < 2147483648) (yh : -2147483648 ≤ h ∧ h < 2147483648) (hno : ¬ ((0 ≤ t ∧ t ≤ 4) ∧ ((0 ≤ c ∧ c ≤ 7) ∧ (0 ≤ r ∧ r ≤ 7)) ∧ (1 ≤ w ∧ w ≤ 8 - c) ∧ (1 ≤ h ∧ h ≤ 8 - r))) : WI l yL_setPart wsL_setPart ({ frames := 8, cells := 1, slots := 6, locals := 129 }) [.ref (a 0), .int (iI t), .int (iI c), .int (iI r), .int (iI w), .int (iI h)] (lB sa D a kk g o f) (1) (fun H => va_P D vwCl (xW a kk g) H ∧ va_P D vwCl (outW o kk f) H) (oA a o) 1 6 := by
  refine va_MetW (cc := cL_setPart) (maxL := 7) (ret := some .int) (hh := [(0, 11, 14, 13)]) (by decide) rfl ?_
  intro zp ze s zm av zb zt zc s₁ B hml hv
  obtain ⟨rfl, hT, hP, hW, hK, hN, hC⟩ := hv
  have hx := B.exec
  have hb := B.bytes
  have hr := B.returns
  have hts := atoms_spec (ws := wsL_setPart) B.pre
  have hown : s.vm.findClass RL = some zm.cls := findClass_of_methodNamed B.named
  have hlocks := B.notSynchronized
  have hxt := vx_table (x := yL_setPart) B (hts (.codeWith yL_setPart cL_setPart 7 (some .int) [(0, 11, 14, 13)]) (List.mem_of_getElem? (i := 0) rfl))
  have hS : va_S (oA a o) s.heap s.heap [] := va_S.rf
  have CF : CallFix zp zm zc cL_setPart 7 s ([.ref (a 0), .int (iI t), .int (iI c), .int (iI r), .int (iI w), .int (iI h)] : List Value).toArray wsL_setPart RL := ⟨hx, hb, hml, hown, hts⟩
  have hl := lv_entry ([.ref (a 0), .int (iI t), .int (iI c), .int (iI r), .int (iI w), .int (iI h)] : List Value) (n := 7) (Nat.le_of_ble_eq_true rfl)
  rw [lg_entry_eq]
  generalize (lg_sl ([.ref (a 0), .int (iI t), .int (iI c), .int (iI r), .int (iI w), .int (iI h)] : List Value) ++ List.replicate (7 - (lg_sl ([.ref (a 0), .int (iI t), .int (iI c), .int (iI r), .int (iI w), .int (iI h)] : List Value)).length) Slot.unset).toArray = ls at hl ⊢
  have hl : lv_has ls 7 [(0, .ref (a 0)), (1, .int (iI t)), (2, .int (iI c)), (3, .int (iI r)), (4, .int (iI w)), (5, .int (iI h))] := hl
  refine lv_aload_n hx hb dL_setPart_0 rfl (lv_at hl 0 rfl) ?_
  refine lv_iload_n hx hb dL_setPart_1 rfl (lv_at hl 1 rfl) ?_
  refine lv_iload_n hx hb dL_setPart_2 rfl (lv_at hl 2 rfl) ?_
  refine lv_iload_n hx hb dL_setPart_3 rfl (lv_at hl 3 rfl) ?_
  refine lv_iload hx hb dL_setPart_4 (lv_at hl 4 rfl) ?_
  refine lv_iload hx hb dL_setPart_6 (lv_at hl 5 rfl) ?_
  refine vx_callv (ri_runVX (b := a 0) (As := [.int (iI t), .int (iI c), .int (iI r), .int (iI w), .int (iI h)]) (rest := []) CF (k_X3_setPart l D a kk g sa hst t c r w h hA hI yt yc yr yw yh) gL_setPart_X3_setPart f_X3_setPart rfl (va_recv hK hP (ci := 3) (q0 := 0) rfl rfl) ⟨rfl, rfl, (Nat.le_of_ble_eq_true rfl), (Nat.le_of_ble_eq_true rfl), (Nat.le_of_ble_eq_true rfl), (Nat.le_of_ble_eq_true rfl)⟩ pB_bl (pB_in hT hP hK hN) rfl hl.1 rfl (Nat.le_of_ble_eq_true rfl) dL_setPart_8) hS (fun q _ h => Or.inl h) (fun q h => Or.inl h) (fun _ _ h => h.elim) (fun X ce q9 _ tz H1 locs1 ht hvm _ hB hz hk hS1 hce hcv hcl => ?_) (fun _ tz H1 locs1 ht hvm hp hB hz hk hS => ?_)
  · have hP1 := hP.un hk (fun _ _ _ z => z)
    have hW1 := hW.un hk (fun _ _ _ z => z)
    obtain ⟨hX, hB⟩ := hB
    subst hX
    refine vx_catch hown [] ⟨0, 11, 14, 13⟩ [] hxt (fun z hz => absurd hz List.not_mem_nil) rfl (by decide) (hts _ (List.mem_of_getElem? (i := 1) rfl)) (va_Nw.use rfl hT.2.2.2.2.2.2.2.2.1) hce hcv hcl ?_
    refine lv_astore (lv' := (6, .ref q9) :: [(0, .ref (a 0)), (1, .int (iI t)), (2, .int (iI c)), (3, .int (iI r)), (4, .int (iI w)), (5, .int (iI h))]) hx hb dL_setPart_14 hl (by decide) rfl (fun ls hl => ?_)
    refine ri_iconst hx hb dL_setPart_16 ?_
    exact ri_iretW (A := oA a o) (PP := (fun H => va_P D vwCl (xW a kk g) H ∧ va_P D vwCl (outW o kk f) H)) hx hb hr hlocks hS1 ⟨hP1, hW1⟩ dL_setPart_17 rfl
  · exact absurd hp hno

set_option maxHeartbeats 4000000 in
set_option maxRecDepth 100000 in
theorem kL_setMask_ok (l : Launch) (D : va_G) (a : Nat → Nat) (kk : Nat → ClassId) (g : Nat → Nat → Int) (sa : Nat → Nat) (o : Nat) (f : Nat → Int64) (hst : l.stackTraces = false) (t : Int) (c : Int) (r : Int) (w : Int) (h : Int) (hA : aDs 17 a) (hO : ∀ i, i < 17 → a i ≠ o) (hI : XInv g) (yt : -2147483648 ≤ t ∧ t < 2147483648) (yc : -2147483648 ≤ c ∧ c < 2147483648) (yr : -2147483648 ≤ r ∧ r < 2147483648) (yw : -2147483648 ≤ w ∧ w < 2147483648) (yh : -2147483648 ≤ h ∧ h < 2147483648) (hok : ((0 ≤ t ∧ t ≤ 4) ∧ (-8 ≤ c ∧ c ≤ 8) ∧ (-8 ≤ r ∧ r ≤ 8) ∧ (1 ≤ w ∧ w ≤ 8) ∧ (1 ≤ h ∧ h ≤ 8)) ∧ g 5 t.toNat < g 7 t.toNat) : WI l yL_setMask wsL_setMask ({ frames := 8, cells := 2, slots := 12, locals := 129 }) [.ref (a 0), .int (iI t), .int (iI c), .int (iI r), .int (iI w), .int (iI h)] (lB sa D a kk g o f) (0) (fun H => va_P D vwCl (xW a kk (putX 9 g t c r w h)) H ∧ va_P D vwCl (outW o kk (f)) H) (oA a o) 2 12 := by
  refine va_MetW (cc := cL_setMask) (maxL := 7) (ret := some .int) (hh := [(0, 11, 14, 13), (0, 11, 18, 26)]) (by decide) rfl ?_
  intro zp ze s zm av zb zt zc s₁ B hml hv
  obtain ⟨rfl, hT, hP, hW, hK, hN, hC⟩ := hv
  have hx := B.exec
  have hb := B.bytes
  have hr := B.returns
  have hts := atoms_spec (ws := wsL_setMask) B.pre
  have hown : s.vm.findClass RL = some zm.cls := findClass_of_methodNamed B.named
  have hlocks := B.notSynchronized
  have hxt := vx_table (x := yL_setMask) B (hts (.codeWith yL_setMask cL_setMask 7 (some .int) [(0, 11, 14, 13), (0, 11, 18, 26)]) (List.mem_of_getElem? (i := 0) rfl))
  have hS : va_S (oA a o) s.heap s.heap [] := va_S.rf
  have CF : CallFix zp zm zc cL_setMask 7 s ([.ref (a 0), .int (iI t), .int (iI c), .int (iI r), .int (iI w), .int (iI h)] : List Value).toArray wsL_setMask RL := ⟨hx, hb, hml, hown, hts⟩
  have hl := lv_entry ([.ref (a 0), .int (iI t), .int (iI c), .int (iI r), .int (iI w), .int (iI h)] : List Value) (n := 7) (Nat.le_of_ble_eq_true rfl)
  rw [lg_entry_eq]
  generalize (lg_sl ([.ref (a 0), .int (iI t), .int (iI c), .int (iI r), .int (iI w), .int (iI h)] : List Value) ++ List.replicate (7 - (lg_sl ([.ref (a 0), .int (iI t), .int (iI c), .int (iI r), .int (iI w), .int (iI h)] : List Value)).length) Slot.unset).toArray = ls at hl ⊢
  have hl : lv_has ls 7 [(0, .ref (a 0)), (1, .int (iI t)), (2, .int (iI c)), (3, .int (iI r)), (4, .int (iI w)), (5, .int (iI h))] := hl
  refine lv_aload_n hx hb dL_setMask_0 rfl (lv_at hl 0 rfl) ?_
  refine lv_iload_n hx hb dL_setMask_1 rfl (lv_at hl 1 rfl) ?_
  refine lv_iload_n hx hb dL_setMask_2 rfl (lv_at hl 2 rfl) ?_
  refine lv_iload_n hx hb dL_setMask_3 rfl (lv_at hl 3 rfl) ?_
  refine lv_iload hx hb dL_setMask_4 (lv_at hl 4 rfl) ?_
  refine lv_iload hx hb dL_setMask_6 (lv_at hl 5 rfl) ?_
  refine vx_callv (ri_runVX (b := a 0) (As := [.int (iI t), .int (iI c), .int (iI r), .int (iI w), .int (iI h)]) (rest := []) CF (k_X3_setMask l D a kk g sa hst t c r w h hA hI yt yc yr yw yh) gL_setMask_X3_setMask f_X3_setMask rfl (va_recv hK hP (ci := 3) (q0 := 0) rfl rfl) ⟨rfl, rfl, (Nat.le_of_ble_eq_true rfl), (Nat.le_of_ble_eq_true rfl), (Nat.le_of_ble_eq_true rfl), (Nat.le_of_ble_eq_true rfl)⟩ pB_bl (pB_in hT hP hK hN) rfl hl.1 rfl (Nat.le_of_ble_eq_true rfl) dL_setMask_8) hS (fun q _ h => Or.inl h) (fun q h => Or.inl h) (fun _ _ h => h.elim) (fun X ce q9 _ tz H1 locs1 ht hvm _ hB hz hk hS1 hce hcv hcl => ?_) (fun _ tz H1 locs1 ht hvm hp hB hz hk hS => ?_)
  · exact Or.elim hB (fun z => absurd hok.1 z.2) (fun z => absurd hok.2 z.2.2)
  · have hP2 : va_P D vwCl (xW a kk (putX 9 g t c r w h)) H1 := ht ▸ hB
    have hW2 := hW.un hk (out_un hO)
    refine lv_goto (tgt := 22) hx hb dL_setMask_11 (by decide) ?_
    refine ri_iconst hx hb dL_setMask_22 ?_
    exact ri_iretW (A := oA a o) (PP := (fun H => va_P D vwCl (xW a kk (putX 9 g t c r w h)) H ∧ va_P D vwCl (outW o kk (f)) H)) hx hb hr hlocks hS ⟨hP2, hW2⟩ dL_setMask_23 rfl

set_option maxHeartbeats 4000000 in
set_option maxRecDepth 100000 in
theorem kL_setMask_no (l : Launch) (D : va_G) (a : Nat → Nat) (kk : Nat → ClassId) (g : Nat → Nat → Int) (sa : Nat → Nat) (o : Nat) (f : Nat → Int64) (hst : l.stackTraces = false) (t : Int) (c : Int) (r : Int) (w : Int) (h : Int) (hA : aDs 17 a) (hO : ∀ i, i < 17 → a i ≠ o) (hI : XInv g) (yt : -2147483648 ≤ t ∧ t < 2147483648) (yc : -2147483648 ≤ c ∧ c < 2147483648) (yr : -2147483648 ≤ r ∧ r < 2147483648) (yw : -2147483648 ≤ w ∧ w < 2147483648) (yh : -2147483648 ≤ h ∧ h < 2147483648) (pl : Int) (hno : (pl = 1 ∧ ¬ ((0 ≤ t ∧ t ≤ 4) ∧ (-8 ≤ c ∧ c ≤ 8) ∧ (-8 ≤ r ∧ r ≤ 8) ∧ (1 ≤ w ∧ w ≤ 8) ∧ (1 ≤ h ∧ h ≤ 8))) ∨ (pl = 2 ∧ ((0 ≤ t ∧ t ≤ 4) ∧ (-8 ≤ c ∧ c ≤ 8) ∧ (-8 ≤ r ∧ r ≤ 8) ∧ (1 ≤ w ∧ w ≤ 8) ∧ (1 ≤ h ∧ h ≤ 8)) ∧ ¬ (g 5 t.toNat < g 7 t.toNat))) : WI l yL_setMask wsL_setMask ({ frames := 8, cells := 2, slots := 12, locals := 129 }) [.ref (a 0), .int (iI t), .int (iI c), .int (iI r), .int (iI w), .int (iI h)] (lB sa D a kk g o f) (pl) (fun H => va_P D vwCl (xW a kk g) H ∧ va_P D vwCl (outW o kk f) H) (oA a o) 2 12 := by
  refine va_MetW (cc := cL_setMask) (maxL := 7) (ret := some .int) (hh := [(0, 11, 14, 13), (0, 11, 18, 26)]) (by decide) rfl ?_
  intro zp ze s zm av zb zt zc s₁ B hml hv
  obtain ⟨rfl, hT, hP, hW, hK, hN, hC⟩ := hv
  have hx := B.exec
  have hb := B.bytes
  have hr := B.returns
  have hts := atoms_spec (ws := wsL_setMask) B.pre
  have hown : s.vm.findClass RL = some zm.cls := findClass_of_methodNamed B.named
  have hlocks := B.notSynchronized
  have hxt := vx_table (x := yL_setMask) B (hts (.codeWith yL_setMask cL_setMask 7 (some .int) [(0, 11, 14, 13), (0, 11, 18, 26)]) (List.mem_of_getElem? (i := 0) rfl))
  have hS : va_S (oA a o) s.heap s.heap [] := va_S.rf
  have CF : CallFix zp zm zc cL_setMask 7 s ([.ref (a 0), .int (iI t), .int (iI c), .int (iI r), .int (iI w), .int (iI h)] : List Value).toArray wsL_setMask RL := ⟨hx, hb, hml, hown, hts⟩
  have hl := lv_entry ([.ref (a 0), .int (iI t), .int (iI c), .int (iI r), .int (iI w), .int (iI h)] : List Value) (n := 7) (Nat.le_of_ble_eq_true rfl)
  rw [lg_entry_eq]
  generalize (lg_sl ([.ref (a 0), .int (iI t), .int (iI c), .int (iI r), .int (iI w), .int (iI h)] : List Value) ++ List.replicate (7 - (lg_sl ([.ref (a 0), .int (iI t), .int (iI c), .int (iI r), .int (iI w), .int (iI h)] : List Value)).length) Slot.unset).toArray = ls at hl ⊢
  have hl : lv_has ls 7 [(0, .ref (a 0)), (1, .int (iI t)), (2, .int (iI c)), (3, .int (iI r)), (4, .int (iI w)), (5, .int (iI h))] := hl
  refine lv_aload_n hx hb dL_setMask_0 rfl (lv_at hl 0 rfl) ?_
  refine lv_iload_n hx hb dL_setMask_1 rfl (lv_at hl 1 rfl) ?_
  refine lv_iload_n hx hb dL_setMask_2 rfl (lv_at hl 2 rfl) ?_
  refine lv_iload_n hx hb dL_setMask_3 rfl (lv_at hl 3 rfl) ?_
  refine lv_iload hx hb dL_setMask_4 (lv_at hl 4 rfl) ?_
  refine lv_iload hx hb dL_setMask_6 (lv_at hl 5 rfl) ?_
  refine vx_callv (ri_runVX (b := a 0) (As := [.int (iI t), .int (iI c), .int (iI r), .int (iI w), .int (iI h)]) (rest := []) CF (k_X3_setMask l D a kk g sa hst t c r w h hA hI yt yc yr yw yh) gL_setMask_X3_setMask f_X3_setMask rfl (va_recv hK hP (ci := 3) (q0 := 0) rfl rfl) ⟨rfl, rfl, (Nat.le_of_ble_eq_true rfl), (Nat.le_of_ble_eq_true rfl), (Nat.le_of_ble_eq_true rfl), (Nat.le_of_ble_eq_true rfl)⟩ pB_bl (pB_in hT hP hK hN) rfl hl.1 rfl (Nat.le_of_ble_eq_true rfl) dL_setMask_8) hS (fun q _ h => Or.inl h) (fun q h => Or.inl h) (fun _ _ h => h.elim) (fun X ce q9 _ tz H1 locs1 ht hvm _ hB hz hk hS1 hce hcv hcl => ?_) (fun _ tz H1 locs1 ht hvm hp hB hz hk hS => ?_)
  · have hP1 := hP.un hk (fun _ _ _ z => z)
    have hW1 := hW.un hk (fun _ _ _ z => z)
    rcases (show _ ∨ _ from hB) with ⟨hX, hB9⟩ | ⟨hX, hB9⟩
    · subst hX
      have e1 : pl = 1 := hno.elim (fun z => z.1) (fun z => absurd z.2.1 hB9)
      refine vx_catch hown [] ⟨0, 11, 14, 13⟩ [⟨0, 11, 18, 26⟩] hxt (fun z hz => absurd hz List.not_mem_nil) rfl (by decide) (hts _ (List.mem_of_getElem? (i := 1) rfl)) (va_Nw.use rfl hT.2.2.2.2.2.2.2.2.1) hce hcv hcl ?_
      refine lv_astore (lv' := (6, .ref q9) :: [(0, .ref (a 0)), (1, .int (iI t)), (2, .int (iI c)), (3, .int (iI r)), (4, .int (iI w)), (5, .int (iI h))]) hx hb dL_setMask_14 hl (by decide) rfl (fun ls hl => ?_)
      refine ri_iconst hx hb dL_setMask_16 ?_
      exact ri_iretW (A := oA a o) (PP := (fun H => va_P D vwCl (xW a kk g) H ∧ va_P D vwCl (outW o kk f) H)) hx hb hr hlocks hS1 ⟨hP1, hW1⟩ dL_setMask_17 e1.symm
    · subst hX
      have e1 : pl = 2 := hno.elim (fun z => absurd hB9.1 z.2) (fun z => z.1)
      refine vx_catch hown [⟨0, 11, 14, 13⟩] ⟨0, 11, 18, 26⟩ [] hxt (fun z hz => by rw [List.mem_singleton.mp hz]; exact Or.inr ⟨by decide, "java/lang/IllegalArgumentException", hts _ (List.mem_of_getElem? (i := 1) rfl), hC⟩) rfl (by decide) (hts _ (List.mem_of_getElem? (i := 2) rfl)) (va_Nw.use rfl hT.2.2.2.2.2.2.2.2.2) hce hcv hcl ?_
      refine lv_astore (lv' := (6, .ref q9) :: [(0, .ref (a 0)), (1, .int (iI t)), (2, .int (iI c)), (3, .int (iI r)), (4, .int (iI w)), (5, .int (iI h))]) hx hb dL_setMask_18 hl (by decide) rfl (fun ls hl => ?_)
      refine ri_iconst hx hb dL_setMask_20 ?_
      exact ri_iretW (A := oA a o) (PP := (fun H => va_P D vwCl (xW a kk g) H ∧ va_P D vwCl (outW o kk f) H)) hx hb hr hlocks hS1 ⟨hP1, hW1⟩ dL_setMask_21 e1.symm
  · exact (hno.elim (fun z => z.2 hp.1) (fun z => z.2.2 hp.2)).elim

set_option maxHeartbeats 4000000 in
set_option maxRecDepth 100000 in
theorem kL_approve_ok (l : Launch) (D : va_G) (a : Nat → Nat) (kk : Nat → ClassId) (g : Nat → Nat → Int) (sa : Nat → Nat) (o : Nat) (f : Nat → Int64) (hst : l.stackTraces = false) (b : Int) (t : Int) (hA : aDs 17 a) (hO : ∀ i, i < 17 → a i ≠ o) (hI : XInv g) (yb : -2147483648 ≤ b ∧ b < 2147483648) (yt : -2147483648 ≤ t ∧ t < 2147483648) (hok : (0 ≤ b ∧ b ≤ 3) ∧ (0 ≤ t ∧ t ≤ 4)) : WI l yL_approve wsL_approve ({ frames := 8, cells := 1, slots := 6, locals := 128 }) [.ref (a 0), .int (iI b), .int (iI t), .ref o] (lB sa D a kk g o f) (0) (fun H => va_P D vwCl (xW a kk (cpG g t (5 + b * 5 + t))) H ∧ va_P D vwCl (outW o kk (vp_updL f 0 (iI (bp (g 3 (5 + b * 5 + t).toNat = 1))).toInt64)) H) (oA a o) 1 6 := by
  refine va_MetW (cc := cL_approve) (maxL := 5) (ret := some .int) (hh := [(0, 17, 20, 13)]) (by decide) rfl ?_
  intro zp ze s zm av zb zt zc s₁ B hml hv
  obtain ⟨rfl, hT, hP, hW, hK, hN, hC⟩ := hv
  have hx := B.exec
  have hb := B.bytes
  have hr := B.returns
  have hts := atoms_spec (ws := wsL_approve) B.pre
  have hown : s.vm.findClass RL = some zm.cls := findClass_of_methodNamed B.named
  have hlocks := B.notSynchronized
  have hxt := vx_table (x := yL_approve) B (hts (.codeWith yL_approve cL_approve 5 (some .int) [(0, 17, 20, 13)]) (List.mem_of_getElem? (i := 0) rfl))
  have hS : va_S (oA a o) s.heap s.heap [] := va_S.rf
  have CF : CallFix zp zm zc cL_approve 5 s ([.ref (a 0), .int (iI b), .int (iI t), .ref o] : List Value).toArray wsL_approve RL := ⟨hx, hb, hml, hown, hts⟩
  have hl := lv_entry ([.ref (a 0), .int (iI b), .int (iI t), .ref o] : List Value) (n := 5) (Nat.le_of_ble_eq_true rfl)
  rw [lg_entry_eq]
  generalize (lg_sl ([.ref (a 0), .int (iI b), .int (iI t), .ref o] : List Value) ++ List.replicate (5 - (lg_sl ([.ref (a 0), .int (iI b), .int (iI t), .ref o] : List Value)).length) Slot.unset).toArray = ls at hl ⊢
  have hl : lv_has ls 5 [(0, .ref (a 0)), (1, .int (iI b)), (2, .int (iI t)), (3, .ref o)] := hl
  refine lv_aload_n hx hb dL_approve_0 rfl (lv_at hl 3 rfl) ?_
  refine ri_iconst hx hb dL_approve_1 ?_
  refine lv_aload_n hx hb dL_approve_2 rfl (lv_at hl 0 rfl) ?_
  refine lv_iload_n hx hb dL_approve_3 rfl (lv_at hl 1 rfl) ?_
  refine lv_iload_n hx hb dL_approve_4 rfl (lv_at hl 2 rfl) ?_
  refine vx_calli (ri_runVX (b := a 0) (As := [.int (iI b), .int (iI t)]) (rest := [.int (iI 0), .ref o]) CF (k_X3_approve l D a kk g sa hst b t hA hI yb yt) gL_approve_X3_approve f_X3_approve rfl (va_recv hK hP (ci := 3) (q0 := 0) rfl rfl) ⟨rfl, rfl, (Nat.le_of_ble_eq_true rfl), (Nat.le_of_ble_eq_true rfl), (Nat.le_of_ble_eq_true rfl), (Nat.le_of_ble_eq_true rfl)⟩ pB_bl (pB_in hT hP hK hN) rfl hl.1 rfl (Nat.le_of_ble_eq_true rfl) dL_approve_5) hS (fun q _ h => Or.inl h) (fun q h => Or.inl h) (fun _ _ h => h.elim) (fun X ce q9 _ tz H1 locs1 ht hvm _ hB hz hk hS1 hce hcv hcl => ?_) (fun rz _ tz H1 locs1 ht hvm hp hB hz hk hS => ?_)
  · exact absurd hok hB.2
  · have hP2 : va_P D vwCl (xW a kk (cpG g t (5 + b * 5 + t))) H1 := ht ▸ hB
    have hW2 := hW.un hk (out_un hO)
    obtain ⟨_, hpr⟩ := hp
    subst hpr
    refine ri_ifeq_b (tgt := 15) hx hb dL_approve_8 (by decide) (fun hq => ?_) (fun hq => ?_)
    · refine lv_lconst (v := 0) hx hb dL_approve_15 rfl ?_
      refine ro_last (x := 0) hx hb hK hW2 hS dL_approve_16 (fun H2 locs2 hW3 hq2 hS => ?_)
      have hP3 : va_P D vwCl (xW a kk (cpG g t (5 + b * 5 + t))) H2 := hP2.un (A := fun q => q = o) hq2 (x_un hO)
      have hW4 : va_P D vwCl (outW o kk (vp_updL f 0 (iI (bp (g 3 (5 + b * 5 + t).toNat = 1))).toInt64)) H2 := by
        rw [bp_f hq]; exact hW3
      refine lv_goto (tgt := 24) hx hb dL_approve_17 (by decide) ?_
      refine ri_iconst hx hb dL_approve_24 ?_
      exact ri_iretW (A := oA a o) (PP := (fun H => va_P D vwCl (xW a kk (cpG g t (5 + b * 5 + t))) H ∧ va_P D vwCl (outW o kk (vp_updL f 0 (iI (bp (g 3 (5 + b * 5 + t).toNat = 1))).toInt64)) H)) hx hb hr hlocks hS ⟨hP3, hW4⟩ dL_approve_25 rfl
    · refine lv_lconst (v := 1) hx hb dL_approve_11 rfl ?_
      refine lv_goto (tgt := 16) hx hb dL_approve_12 (by decide) ?_
      refine ro_last (x := 1) hx hb hK hW2 hS dL_approve_16 (fun H2 locs2 hW3 hq2 hS => ?_)
      have hP3 : va_P D vwCl (xW a kk (cpG g t (5 + b * 5 + t))) H2 := hP2.un (A := fun q => q = o) hq2 (x_un hO)
      have hW4 : va_P D vwCl (outW o kk (vp_updL f 0 (iI (bp (g 3 (5 + b * 5 + t).toNat = 1))).toInt64)) H2 := by
        rw [bp_t hq]; exact hW3
      refine lv_goto (tgt := 24) hx hb dL_approve_17 (by decide) ?_
      refine ri_iconst hx hb dL_approve_24 ?_
      exact ri_iretW (A := oA a o) (PP := (fun H => va_P D vwCl (xW a kk (cpG g t (5 + b * 5 + t))) H ∧ va_P D vwCl (outW o kk (vp_updL f 0 (iI (bp (g 3 (5 + b * 5 + t).toNat = 1))).toInt64)) H)) hx hb hr hlocks hS ⟨hP3, hW4⟩ dL_approve_25 rfl

set_option maxHeartbeats 4000000 in
set_option maxRecDepth 100000 in
theorem kL_approve_no (l : Launch) (D : va_G) (a : Nat → Nat) (kk : Nat → ClassId) (g : Nat → Nat → Int) (sa : Nat → Nat) (o : Nat) (f : Nat → Int64) (hst : l.stackTraces = false) (b : Int) (t : Int) (hA : aDs 17 a) (hO : ∀ i, i < 17 → a i ≠ o) (hI : XInv g) (yb : -2147483648 ≤ b ∧ b < 2147483648) (yt : -2147483648 ≤ t ∧ t < 2147483648) (hno : ¬ ((0 ≤ b ∧ b ≤ 3) ∧ (0 ≤ t ∧ t ≤ 4))) : WI l yL_approve wsL_approve ({ frames := 8, cells := 1, slots := 6, locals := 128 }) [.ref (a 0), .int (iI b), .int (iI t), .ref o] (lB sa D a kk g o f) (1) (fun H => va_P D vwCl (xW a kk g) H ∧ va_P D vwCl (outW o kk f) H) (oA a o) 1 6 := by
  refine va_MetW (cc := cL_approve) (maxL := 5) (ret := some .int) (hh := [(0, 17, 20, 13)]) (by decide) rfl ?_
  intro zp ze s zm av zb zt zc s₁ B hml hv
  obtain ⟨rfl, hT, hP, hW, hK, hN, hC⟩ := hv
  have hx := B.exec
  have hb := B.bytes
  have hr := B.returns
  have hts := atoms_spec (ws := wsL_approve) B.pre
  have hown : s.vm.findClass RL = some zm.cls := findClass_of_methodNamed B.named
  have hlocks := B.notSynchronized
  have hxt := vx_table (x := yL_approve) B (hts (.codeWith yL_approve cL_approve 5 (some .int) [(0, 17, 20, 13)]) (List.mem_of_getElem? (i := 0) rfl))
  have hS : va_S (oA a o) s.heap s.heap [] := va_S.rf
  have CF : CallFix zp zm zc cL_approve 5 s ([.ref (a 0), .int (iI b), .int (iI t), .ref o] : List Value).toArray wsL_approve RL := ⟨hx, hb, hml, hown, hts⟩
  have hl := lv_entry ([.ref (a 0), .int (iI b), .int (iI t), .ref o] : List Value) (n := 5) (Nat.le_of_ble_eq_true rfl)
  rw [lg_entry_eq]
  generalize (lg_sl ([.ref (a 0), .int (iI b), .int (iI t), .ref o] : List Value) ++ List.replicate (5 - (lg_sl ([.ref (a 0), .int (iI b), .int (iI t), .ref o] : List Value)).length) Slot.unset).toArray = ls at hl ⊢
  have hl : lv_has ls 5 [(0, .ref (a 0)), (1, .int (iI b)), (2, .int (iI t)), (3, .ref o)] := hl
  refine lv_aload_n hx hb dL_approve_0 rfl (lv_at hl 3 rfl) ?_
  refine ri_iconst hx hb dL_approve_1 ?_
  refine lv_aload_n hx hb dL_approve_2 rfl (lv_at hl 0 rfl) ?_
  refine lv_iload_n hx hb dL_approve_3 rfl (lv_at hl 1 rfl) ?_
  refine lv_iload_n hx hb dL_approve_4 rfl (lv_at hl 2 rfl) ?_
  refine vx_calli (ri_runVX (b := a 0) (As := [.int (iI b), .int (iI t)]) (rest := [.int (iI 0), .ref o]) CF (k_X3_approve l D a kk g sa hst b t hA hI yb yt) gL_approve_X3_approve f_X3_approve rfl (va_recv hK hP (ci := 3) (q0 := 0) rfl rfl) ⟨rfl, rfl, (Nat.le_of_ble_eq_true rfl), (Nat.le_of_ble_eq_true rfl), (Nat.le_of_ble_eq_true rfl), (Nat.le_of_ble_eq_true rfl)⟩ pB_bl (pB_in hT hP hK hN) rfl hl.1 rfl (Nat.le_of_ble_eq_true rfl) dL_approve_5) hS (fun q _ h => Or.inl h) (fun q h => Or.inl h) (fun _ _ h => h.elim) (fun X ce q9 _ tz H1 locs1 ht hvm _ hB hz hk hS1 hce hcv hcl => ?_) (fun rz _ tz H1 locs1 ht hvm hp hB hz hk hS => ?_)
  · have hP1 := hP.un hk (fun _ _ _ z => z)
    have hW1 := hW.un hk (fun _ _ _ z => z)
    obtain ⟨hX, hB⟩ := hB
    subst hX
    refine vx_catch hown [] ⟨0, 17, 20, 13⟩ [] hxt (fun z hz => absurd hz List.not_mem_nil) rfl (by decide) (hts _ (List.mem_of_getElem? (i := 1) rfl)) (va_Nw.use rfl hT.2.2.2.2.2.2.2.2.1) hce hcv hcl ?_
    refine lv_astore (lv' := (4, .ref q9) :: [(0, .ref (a 0)), (1, .int (iI b)), (2, .int (iI t)), (3, .ref o)]) hx hb dL_approve_20 hl (by decide) rfl (fun ls hl => ?_)
    refine ri_iconst hx hb dL_approve_22 ?_
    exact ri_iretW (A := oA a o) (PP := (fun H => va_P D vwCl (xW a kk g) H ∧ va_P D vwCl (outW o kk f) H)) hx hb hr hlocks hS1 ⟨hP1, hW1⟩ dL_approve_23 rfl
  · exact absurd hp.1 hno

set_option maxHeartbeats 4000000 in
set_option maxRecDepth 100000 in
theorem kL_begin_ok (l : Launch) (D : va_G) (a : Nat → Nat) (kk : Nat → ClassId) (g : Nat → Nat → Int) (sa : Nat → Nat) (o : Nat) (f : Nat → Int64) (hst : l.stackTraces = false) (b : Int) (hA : aDs 17 a) (hO : ∀ i, i < 17 → a i ≠ o) (hI : XInv g) (yb : -2147483648 ≤ b ∧ b < 2147483648) (hok : 1 ≤ b ∧ b ≤ 3) : WI l yL_begin wsL_begin ({ frames := 8, cells := 1, slots := 6, locals := 127 }) [.ref (a 0), .int (iI b), .ref o] (lB sa D a kk g o f) (0) (fun H => va_P D vwCl (xW a kk (begG g b 5)) H ∧ va_P D vwCl (outW o kk (vp_updL f 0 (iI (begC g b 5)).toInt64)) H) (oA a o) 1 6 := by
  refine va_MetW (cc := cL_begin) (maxL := 4) (ret := some .int) (hh := [(0, 9, 12, 13)]) (by decide) rfl ?_
  intro zp ze s zm av zb zt zc s₁ B hml hv
  obtain ⟨rfl, hT, hP, hW, hK, hN, hC⟩ := hv
  have hx := B.exec
  have hb := B.bytes
  have hr := B.returns
  have hts := atoms_spec (ws := wsL_begin) B.pre
  have hown : s.vm.findClass RL = some zm.cls := findClass_of_methodNamed B.named
  have hlocks := B.notSynchronized
  have hxt := vx_table (x := yL_begin) B (hts (.codeWith yL_begin cL_begin 4 (some .int) [(0, 9, 12, 13)]) (List.mem_of_getElem? (i := 0) rfl))
  have hS : va_S (oA a o) s.heap s.heap [] := va_S.rf
  have CF : CallFix zp zm zc cL_begin 4 s ([.ref (a 0), .int (iI b), .ref o] : List Value).toArray wsL_begin RL := ⟨hx, hb, hml, hown, hts⟩
  have hl := lv_entry ([.ref (a 0), .int (iI b), .ref o] : List Value) (n := 4) (Nat.le_of_ble_eq_true rfl)
  rw [lg_entry_eq]
  generalize (lg_sl ([.ref (a 0), .int (iI b), .ref o] : List Value) ++ List.replicate (4 - (lg_sl ([.ref (a 0), .int (iI b), .ref o] : List Value)).length) Slot.unset).toArray = ls at hl ⊢
  have hl : lv_has ls 4 [(0, .ref (a 0)), (1, .int (iI b)), (2, .ref o)] := hl
  refine lv_aload_n hx hb dL_begin_0 rfl (lv_at hl 2 rfl) ?_
  refine ri_iconst hx hb dL_begin_1 ?_
  refine lv_aload_n hx hb dL_begin_2 rfl (lv_at hl 0 rfl) ?_
  refine lv_iload_n hx hb dL_begin_3 rfl (lv_at hl 1 rfl) ?_
  refine vx_calli (ri_runVX (b := a 0) (As := [.int (iI b)]) (rest := [.int (iI 0), .ref o]) CF (k_X3_begin l D a kk g sa hst b hA hI yb) gL_begin_X3_begin f_X3_begin rfl (va_recv hK hP (ci := 3) (q0 := 0) rfl rfl) ⟨rfl, rfl, (Nat.le_of_ble_eq_true rfl), (Nat.le_of_ble_eq_true rfl), (Nat.le_of_ble_eq_true rfl), (Nat.le_of_ble_eq_true rfl)⟩ pB_bl (pB_in hT hP hK hN) rfl hl.1 rfl (Nat.le_of_ble_eq_true rfl) dL_begin_4) hS (fun q _ h => Or.inl h) (fun q h => Or.inl h) (fun _ _ h => h.elim) (fun X ce q9 _ tz H1 locs1 ht hvm _ hB hz hk hS1 hce hcv hcl => ?_) (fun rz _ tz H1 locs1 ht hvm hp hB hz hk hS => ?_)
  · exact absurd hok hB.2
  · have hP2 : va_P D vwCl (xW a kk (begG g b 5)) H1 := ht ▸ hB
    have hW2 := hW.un hk (out_un hO)
    obtain ⟨_, hpr⟩ := hp
    subst hpr
    refine lv_i2l (v := (iI (begC g b 5)).toInt64) hx hb dL_begin_7 rfl ?_
    refine ro_last (x := (iI (begC g b 5)).toInt64) hx hb hK hW2 hS dL_begin_8 (fun H2 locs2 hW3 hq2 hS => ?_)
    have hP3 : va_P D vwCl (xW a kk (begG g b 5)) H2 := hP2.un (A := fun q => q = o) hq2 (x_un hO)
    have hW4 : va_P D vwCl (outW o kk (vp_updL f 0 (iI (begC g b 5)).toInt64)) H2 := by
      exact hW3
    refine lv_goto (tgt := 15) hx hb dL_begin_9 (by decide) ?_
    refine ri_iconst hx hb dL_begin_15 ?_
    exact ri_iretW (A := oA a o) (PP := (fun H => va_P D vwCl (xW a kk (begG g b 5)) H ∧ va_P D vwCl (outW o kk (vp_updL f 0 (iI (begC g b 5)).toInt64)) H)) hx hb hr hlocks hS ⟨hP3, hW4⟩ dL_begin_16 rfl

set_option maxHeartbeats 4000000 in
set_option maxRecDepth 100000 in
theorem kL_begin_no (l : Launch) (D : va_G) (a : Nat → Nat) (kk : Nat → ClassId) (g : Nat → Nat → Int) (sa : Nat → Nat) (o : Nat) (f : Nat → Int64) (hst : l.stackTraces = false) (b : Int) (hA : aDs 17 a) (hO : ∀ i, i < 17 → a i ≠ o) (hI : XInv g) (yb : -2147483648 ≤ b ∧ b < 2147483648) (hno : ¬ (1 ≤ b ∧ b ≤ 3)) : WI l yL_begin wsL_begin ({ frames := 8, cells := 1, slots := 6, locals := 127 }) [.ref (a 0), .int (iI b), .ref o] (lB sa D a kk g o f) (1) (fun H => va_P D vwCl (xW a kk g) H ∧ va_P D vwCl (outW o kk f) H) (oA a o) 1 6 := by
  refine va_MetW (cc := cL_begin) (maxL := 4) (ret := some .int) (hh := [(0, 9, 12, 13)]) (by decide) rfl ?_
  intro zp ze s zm av zb zt zc s₁ B hml hv
  obtain ⟨rfl, hT, hP, hW, hK, hN, hC⟩ := hv
  have hx := B.exec
  have hb := B.bytes
  have hr := B.returns
  have hts := atoms_spec (ws := wsL_begin) B.pre
  have hown : s.vm.findClass RL = some zm.cls := findClass_of_methodNamed B.named
  have hlocks := B.notSynchronized
  have hxt := vx_table (x := yL_begin) B (hts (.codeWith yL_begin cL_begin 4 (some .int) [(0, 9, 12, 13)]) (List.mem_of_getElem? (i := 0) rfl))
  have hS : va_S (oA a o) s.heap s.heap [] := va_S.rf
  have CF : CallFix zp zm zc cL_begin 4 s ([.ref (a 0), .int (iI b), .ref o] : List Value).toArray wsL_begin RL := ⟨hx, hb, hml, hown, hts⟩
  have hl := lv_entry ([.ref (a 0), .int (iI b), .ref o] : List Value) (n := 4) (Nat.le_of_ble_eq_true rfl)
  rw [lg_entry_eq]
  generalize (lg_sl ([.ref (a 0), .int (iI b), .ref o] : List Value) ++ List.replicate (4 - (lg_sl ([.ref (a 0), .int (iI b), .ref o] : List Value)).length) Slot.unset).toArray = ls at hl ⊢
  have hl : lv_has ls 4 [(0, .ref (a 0)), (1, .int (iI b)), (2, .ref o)] := hl
  refine lv_aload_n hx hb dL_begin_0 rfl (lv_at hl 2 rfl) ?_
  refine ri_iconst hx hb dL_begin_1 ?_
  refine lv_aload_n hx hb dL_begin_2 rfl (lv_at hl 0 rfl) ?_
  refine lv_iload_n hx hb dL_begin_3 rfl (lv_at hl 1 rfl) ?_
  refine vx_calli (ri_runVX (b := a 0) (As := [.int (iI b)]) (rest := [.int (iI 0), .ref o]) CF (k_X3_begin l D a kk g sa hst b hA hI yb) gL_begin_X3_begin f_X3_begin rfl (va_recv hK hP (ci := 3) (q0 := 0) rfl rfl) ⟨rfl, rfl, (Nat.le_of_ble_eq_true rfl), (Nat.le_of_ble_eq_true rfl), (Nat.le_of_ble_eq_true rfl), (Nat.le_of_ble_eq_true rfl)⟩ pB_bl (pB_in hT hP hK hN) rfl hl.1 rfl (Nat.le_of_ble_eq_true rfl) dL_begin_4) hS (fun q _ h => Or.inl h) (fun q h => Or.inl h) (fun _ _ h => h.elim) (fun X ce q9 _ tz H1 locs1 ht hvm _ hB hz hk hS1 hce hcv hcl => ?_) (fun rz _ tz H1 locs1 ht hvm hp hB hz hk hS => ?_)
  · have hP1 := hP.un hk (fun _ _ _ z => z)
    have hW1 := hW.un hk (fun _ _ _ z => z)
    obtain ⟨hX, hB⟩ := hB
    subst hX
    refine vx_catch hown [] ⟨0, 9, 12, 13⟩ [] hxt (fun z hz => absurd hz List.not_mem_nil) rfl (by decide) (hts _ (List.mem_of_getElem? (i := 1) rfl)) (va_Nw.use rfl hT.2.2.2.2.2.2.2.2.1) hce hcv hcl ?_
    refine lv_astore_n (lv' := (3, .ref q9) :: [(0, .ref (a 0)), (1, .int (iI b)), (2, .ref o)]) hx hb dL_begin_12 rfl hl (by decide) rfl (fun ls hl => ?_)
    refine ri_iconst hx hb dL_begin_13 ?_
    exact ri_iretW (A := oA a o) (PP := (fun H => va_P D vwCl (xW a kk g) H ∧ va_P D vwCl (outW o kk f) H)) hx hb hr hlocks hS1 ⟨hP1, hW1⟩ dL_begin_14 rfl
  · exact absurd hp.1 hno

set_option maxHeartbeats 4000000 in
set_option maxRecDepth 100000 in
theorem kL_join_ok (l : Launch) (D : va_G) (a : Nat → Nat) (kk : Nat → ClassId) (g : Nat → Nat → Int) (sa : Nat → Nat) (o : Nat) (f : Nat → Int64) (hst : l.stackTraces = false) (b : Int) (hA : aDs 17 a) (hO : ∀ i, i < 17 → a i ≠ o) (hI : XInv g) (yb : -2147483648 ≤ b ∧ b < 2147483648) (hok : 1 ≤ b ∧ b ≤ 3) : WI l yL_join wsL_join ({ frames := 8, cells := 1, slots := 6, locals := 134 }) [.ref (a 0), .int (iI b), .ref o] (lB sa D a kk g o f) (0) (fun H => va_P D vwCl (xW a kk (joiG g b 5)) H ∧ va_P D vwCl (outW o kk (vp_updL f 0 (iI (joiC g b 5)).toInt64)) H) (oA a o) 1 6 := by
  refine va_MetW (cc := cL_join) (maxL := 4) (ret := some .int) (hh := [(0, 9, 12, 13)]) (by decide) rfl ?_
  intro zp ze s zm av zb zt zc s₁ B hml hv
  obtain ⟨rfl, hT, hP, hW, hK, hN, hC⟩ := hv
  have hx := B.exec
  have hb := B.bytes
  have hr := B.returns
  have hts := atoms_spec (ws := wsL_join) B.pre
  have hown : s.vm.findClass RL = some zm.cls := findClass_of_methodNamed B.named
  have hlocks := B.notSynchronized
  have hxt := vx_table (x := yL_join) B (hts (.codeWith yL_join cL_join 4 (some .int) [(0, 9, 12, 13)]) (List.mem_of_getElem? (i := 0) rfl))
  have hS : va_S (oA a o) s.heap s.heap [] := va_S.rf
  have CF : CallFix zp zm zc cL_join 4 s ([.ref (a 0), .int (iI b), .ref o] : List Value).toArray wsL_join RL := ⟨hx, hb, hml, hown, hts⟩
  have hl := lv_entry ([.ref (a 0), .int (iI b), .ref o] : List Value) (n := 4) (Nat.le_of_ble_eq_true rfl)
  rw [lg_entry_eq]
  generalize (lg_sl ([.ref (a 0), .int (iI b), .ref o] : List Value) ++ List.replicate (4 - (lg_sl ([.ref (a 0), .int (iI b), .ref o] : List Value)).length) Slot.unset).toArray = ls at hl ⊢
  have hl : lv_has ls 4 [(0, .ref (a 0)), (1, .int (iI b)), (2, .ref o)] := hl
  refine lv_aload_n hx hb dL_join_0 rfl (lv_at hl 2 rfl) ?_
  refine ri_iconst hx hb dL_join_1 ?_
  refine lv_aload_n hx hb dL_join_2 rfl (lv_at hl 0 rfl) ?_
  refine lv_iload_n hx hb dL_join_3 rfl (lv_at hl 1 rfl) ?_
  refine vx_calli (ri_runVX (b := a 0) (As := [.int (iI b)]) (rest := [.int (iI 0), .ref o]) CF (k_X3_join l D a kk g sa hst b hA hI yb) gL_join_X3_join f_X3_join rfl (va_recv hK hP (ci := 3) (q0 := 0) rfl rfl) ⟨rfl, rfl, (Nat.le_of_ble_eq_true rfl), (Nat.le_of_ble_eq_true rfl), (Nat.le_of_ble_eq_true rfl), (Nat.le_of_ble_eq_true rfl)⟩ pB_bl (pB_in hT hP hK hN) rfl hl.1 rfl (Nat.le_of_ble_eq_true rfl) dL_join_4) hS (fun q _ h => Or.inl h) (fun q h => Or.inl h) (fun _ _ h => h.elim) (fun X ce q9 _ tz H1 locs1 ht hvm _ hB hz hk hS1 hce hcv hcl => ?_) (fun rz _ tz H1 locs1 ht hvm hp hB hz hk hS => ?_)
  · exact absurd hok hB.2
  · have hP2 : va_P D vwCl (xW a kk (joiG g b 5)) H1 := ht ▸ hB
    have hW2 := hW.un hk (out_un hO)
    obtain ⟨_, hpr⟩ := hp
    subst hpr
    refine lv_i2l (v := (iI (joiC g b 5)).toInt64) hx hb dL_join_7 rfl ?_
    refine ro_last (x := (iI (joiC g b 5)).toInt64) hx hb hK hW2 hS dL_join_8 (fun H2 locs2 hW3 hq2 hS => ?_)
    have hP3 : va_P D vwCl (xW a kk (joiG g b 5)) H2 := hP2.un (A := fun q => q = o) hq2 (x_un hO)
    have hW4 : va_P D vwCl (outW o kk (vp_updL f 0 (iI (joiC g b 5)).toInt64)) H2 := by
      exact hW3
    refine lv_goto (tgt := 15) hx hb dL_join_9 (by decide) ?_
    refine ri_iconst hx hb dL_join_15 ?_
    exact ri_iretW (A := oA a o) (PP := (fun H => va_P D vwCl (xW a kk (joiG g b 5)) H ∧ va_P D vwCl (outW o kk (vp_updL f 0 (iI (joiC g b 5)).toInt64)) H)) hx hb hr hlocks hS ⟨hP3, hW4⟩ dL_join_16 rfl

set_option maxHeartbeats 4000000 in
set_option maxRecDepth 100000 in
theorem kL_join_no (l : Launch) (D : va_G) (a : Nat → Nat) (kk : Nat → ClassId) (g : Nat → Nat → Int) (sa : Nat → Nat) (o : Nat) (f : Nat → Int64) (hst : l.stackTraces = false) (b : Int) (hA : aDs 17 a) (hO : ∀ i, i < 17 → a i ≠ o) (hI : XInv g) (yb : -2147483648 ≤ b ∧ b < 2147483648) (hno : ¬ (1 ≤ b ∧ b ≤ 3)) : WI l yL_join wsL_join ({ frames := 8, cells := 1, slots := 6, locals := 134 }) [.ref (a 0), .int (iI b), .ref o] (lB sa D a kk g o f) (1) (fun H => va_P D vwCl (xW a kk g) H ∧ va_P D vwCl (outW o kk f) H) (oA a o) 1 6 := by
  refine va_MetW (cc := cL_join) (maxL := 4) (ret := some .int) (hh := [(0, 9, 12, 13)]) (by decide) rfl ?_
  intro zp ze s zm av zb zt zc s₁ B hml hv
  obtain ⟨rfl, hT, hP, hW, hK, hN, hC⟩ := hv
  have hx := B.exec
  have hb := B.bytes
  have hr := B.returns
  have hts := atoms_spec (ws := wsL_join) B.pre
  have hown : s.vm.findClass RL = some zm.cls := findClass_of_methodNamed B.named
  have hlocks := B.notSynchronized
  have hxt := vx_table (x := yL_join) B (hts (.codeWith yL_join cL_join 4 (some .int) [(0, 9, 12, 13)]) (List.mem_of_getElem? (i := 0) rfl))
  have hS : va_S (oA a o) s.heap s.heap [] := va_S.rf
  have CF : CallFix zp zm zc cL_join 4 s ([.ref (a 0), .int (iI b), .ref o] : List Value).toArray wsL_join RL := ⟨hx, hb, hml, hown, hts⟩
  have hl := lv_entry ([.ref (a 0), .int (iI b), .ref o] : List Value) (n := 4) (Nat.le_of_ble_eq_true rfl)
  rw [lg_entry_eq]
  generalize (lg_sl ([.ref (a 0), .int (iI b), .ref o] : List Value) ++ List.replicate (4 - (lg_sl ([.ref (a 0), .int (iI b), .ref o] : List Value)).length) Slot.unset).toArray = ls at hl ⊢
  have hl : lv_has ls 4 [(0, .ref (a 0)), (1, .int (iI b)), (2, .ref o)] := hl
  refine lv_aload_n hx hb dL_join_0 rfl (lv_at hl 2 rfl) ?_
  refine ri_iconst hx hb dL_join_1 ?_
  refine lv_aload_n hx hb dL_join_2 rfl (lv_at hl 0 rfl) ?_
  refine lv_iload_n hx hb dL_join_3 rfl (lv_at hl 1 rfl) ?_
  refine vx_calli (ri_runVX (b := a 0) (As := [.int (iI b)]) (rest := [.int (iI 0), .ref o]) CF (k_X3_join l D a kk g sa hst b hA hI yb) gL_join_X3_join f_X3_join rfl (va_recv hK hP (ci := 3) (q0 := 0) rfl rfl) ⟨rfl, rfl, (Nat.le_of_ble_eq_true rfl), (Nat.le_of_ble_eq_true rfl), (Nat.le_of_ble_eq_true rfl), (Nat.le_of_ble_eq_true rfl)⟩ pB_bl (pB_in hT hP hK hN) rfl hl.1 rfl (Nat.le_of_ble_eq_true rfl) dL_join_4) hS (fun q _ h => Or.inl h) (fun q h => Or.inl h) (fun _ _ h => h.elim) (fun X ce q9 _ tz H1 locs1 ht hvm _ hB hz hk hS1 hce hcv hcl => ?_) (fun rz _ tz H1 locs1 ht hvm hp hB hz hk hS => ?_)
  · have hP1 := hP.un hk (fun _ _ _ z => z)
    have hW1 := hW.un hk (fun _ _ _ z => z)
    obtain ⟨hX, hB⟩ := hB
    subst hX
    refine vx_catch hown [] ⟨0, 9, 12, 13⟩ [] hxt (fun z hz => absurd hz List.not_mem_nil) rfl (by decide) (hts _ (List.mem_of_getElem? (i := 1) rfl)) (va_Nw.use rfl hT.2.2.2.2.2.2.2.2.1) hce hcv hcl ?_
    refine lv_astore_n (lv' := (3, .ref q9) :: [(0, .ref (a 0)), (1, .int (iI b)), (2, .ref o)]) hx hb dL_join_12 rfl hl (by decide) rfl (fun ls hl => ?_)
    refine ri_iconst hx hb dL_join_13 ?_
    exact ri_iretW (A := oA a o) (PP := (fun H => va_P D vwCl (xW a kk g) H ∧ va_P D vwCl (outW o kk f) H)) hx hb hr hlocks hS1 ⟨hP1, hW1⟩ dL_join_14 rfl
  · exact absurd hp.1 hno

set_option maxHeartbeats 4000000 in
set_option maxRecDepth 100000 in
theorem kL_isApproved_ok (l : Launch) (D : va_G) (a : Nat → Nat) (kk : Nat → ClassId) (g : Nat → Nat → Int) (sa : Nat → Nat) (o : Nat) (f : Nat → Int64) (hst : l.stackTraces = false) (b : Int) (t : Int) (hA : aDs 17 a) (hO : ∀ i, i < 17 → a i ≠ o) (hI : XInv g) (yb : -2147483648 ≤ b ∧ b < 2147483648) (yt : -2147483648 ≤ t ∧ t < 2147483648) (hok : (0 ≤ b ∧ b ≤ 3) ∧ (0 ≤ t ∧ t ≤ 4)) : WI l yL_isApproved wsL_isApproved ({ frames := 8, cells := 1, slots := 6, locals := 126 }) [.ref (a 0), .int (iI b), .int (iI t), .ref o] (lB sa D a kk g o f) (0) (fun H => va_P D vwCl (xW a kk (g)) H ∧ va_P D vwCl (outW o kk (vp_updL f 0 (iI (bp (g 3 (5 + b * 5 + t).toNat = 1))).toInt64)) H) (oA a o) 1 6 := by
  refine va_MetW (cc := cL_isApproved) (maxL := 5) (ret := some .int) (hh := [(0, 17, 20, 13)]) (by decide) rfl ?_
  intro zp ze s zm av zb zt zc s₁ B hml hv
  obtain ⟨rfl, hT, hP, hW, hK, hN, hC⟩ := hv
  have hx := B.exec
  have hb := B.bytes
  have hr := B.returns
  have hts := atoms_spec (ws := wsL_isApproved) B.pre
  have hown : s.vm.findClass RL = some zm.cls := findClass_of_methodNamed B.named
  have hlocks := B.notSynchronized
  have hxt := vx_table (x := yL_isApproved) B (hts (.codeWith yL_isApproved cL_isApproved 5 (some .int) [(0, 17, 20, 13)]) (List.mem_of_getElem? (i := 0) rfl))
  have hS : va_S (oA a o) s.heap s.heap [] := va_S.rf
  have CF : CallFix zp zm zc cL_isApproved 5 s ([.ref (a 0), .int (iI b), .int (iI t), .ref o] : List Value).toArray wsL_isApproved RL := ⟨hx, hb, hml, hown, hts⟩
  have hl := lv_entry ([.ref (a 0), .int (iI b), .int (iI t), .ref o] : List Value) (n := 5) (Nat.le_of_ble_eq_true rfl)
  rw [lg_entry_eq]
  generalize (lg_sl ([.ref (a 0), .int (iI b), .int (iI t), .ref o] : List Value) ++ List.replicate (5 - (lg_sl ([.ref (a 0), .int (iI b), .int (iI t), .ref o] : List Value)).length) Slot.unset).toArray = ls at hl ⊢
  have hl : lv_has ls 5 [(0, .ref (a 0)), (1, .int (iI b)), (2, .int (iI t)), (3, .ref o)] := hl
  refine lv_aload_n hx hb dL_isApproved_0 rfl (lv_at hl 3 rfl) ?_
  refine ri_iconst hx hb dL_isApproved_1 ?_
  refine lv_aload_n hx hb dL_isApproved_2 rfl (lv_at hl 0 rfl) ?_
  refine lv_iload_n hx hb dL_isApproved_3 rfl (lv_at hl 1 rfl) ?_
  refine lv_iload_n hx hb dL_isApproved_4 rfl (lv_at hl 2 rfl) ?_
  refine vx_calli (ri_runVX (b := a 0) (As := [.int (iI b), .int (iI t)]) (rest := [.int (iI 0), .ref o]) CF (k_X3_isApproved l D a kk g sa hst b t hA hI yb yt) gL_isApproved_X3_isApproved f_X3_isApproved rfl (va_recv hK hP (ci := 3) (q0 := 0) rfl rfl) ⟨rfl, rfl, (Nat.le_of_ble_eq_true rfl), (Nat.le_of_ble_eq_true rfl), (Nat.le_of_ble_eq_true rfl), (Nat.le_of_ble_eq_true rfl)⟩ pB_bl (pB_in hT hP hK hN) rfl hl.1 rfl (Nat.le_of_ble_eq_true rfl) dL_isApproved_5) hS (fun q _ h => Or.inl h) (fun q h => Or.inl h) (fun _ _ h => h.elim) (fun X ce q9 _ tz H1 locs1 ht hvm _ hB hz hk hS1 hce hcv hcl => ?_) (fun rz _ tz H1 locs1 ht hvm hp hB hz hk hS => ?_)
  · exact absurd hok hB.2
  · have hP2 : va_P D vwCl (xW a kk (g)) H1 := ht ▸ hB
    have hW2 := hW.un hk (out_un hO)
    obtain ⟨_, hpr⟩ := hp
    subst hpr
    refine ri_ifeq_b (tgt := 15) hx hb dL_isApproved_8 (by decide) (fun hq => ?_) (fun hq => ?_)
    · refine lv_lconst (v := 0) hx hb dL_isApproved_15 rfl ?_
      refine ro_last (x := 0) hx hb hK hW2 hS dL_isApproved_16 (fun H2 locs2 hW3 hq2 hS => ?_)
      have hP3 : va_P D vwCl (xW a kk (g)) H2 := hP2.un (A := fun q => q = o) hq2 (x_un hO)
      have hW4 : va_P D vwCl (outW o kk (vp_updL f 0 (iI (bp (g 3 (5 + b * 5 + t).toNat = 1))).toInt64)) H2 := by
        rw [bp_f hq]; exact hW3
      refine lv_goto (tgt := 24) hx hb dL_isApproved_17 (by decide) ?_
      refine ri_iconst hx hb dL_isApproved_24 ?_
      exact ri_iretW (A := oA a o) (PP := (fun H => va_P D vwCl (xW a kk (g)) H ∧ va_P D vwCl (outW o kk (vp_updL f 0 (iI (bp (g 3 (5 + b * 5 + t).toNat = 1))).toInt64)) H)) hx hb hr hlocks hS ⟨hP3, hW4⟩ dL_isApproved_25 rfl
    · refine lv_lconst (v := 1) hx hb dL_isApproved_11 rfl ?_
      refine lv_goto (tgt := 16) hx hb dL_isApproved_12 (by decide) ?_
      refine ro_last (x := 1) hx hb hK hW2 hS dL_isApproved_16 (fun H2 locs2 hW3 hq2 hS => ?_)
      have hP3 : va_P D vwCl (xW a kk (g)) H2 := hP2.un (A := fun q => q = o) hq2 (x_un hO)
      have hW4 : va_P D vwCl (outW o kk (vp_updL f 0 (iI (bp (g 3 (5 + b * 5 + t).toNat = 1))).toInt64)) H2 := by
        rw [bp_t hq]; exact hW3
      refine lv_goto (tgt := 24) hx hb dL_isApproved_17 (by decide) ?_
      refine ri_iconst hx hb dL_isApproved_24 ?_
      exact ri_iretW (A := oA a o) (PP := (fun H => va_P D vwCl (xW a kk (g)) H ∧ va_P D vwCl (outW o kk (vp_updL f 0 (iI (bp (g 3 (5 + b * 5 + t).toNat = 1))).toInt64)) H)) hx hb hr hlocks hS ⟨hP3, hW4⟩ dL_isApproved_25 rfl

set_option maxHeartbeats 4000000 in
set_option maxRecDepth 100000 in
theorem kL_isApproved_no (l : Launch) (D : va_G) (a : Nat → Nat) (kk : Nat → ClassId) (g : Nat → Nat → Int) (sa : Nat → Nat) (o : Nat) (f : Nat → Int64) (hst : l.stackTraces = false) (b : Int) (t : Int) (hA : aDs 17 a) (hO : ∀ i, i < 17 → a i ≠ o) (hI : XInv g) (yb : -2147483648 ≤ b ∧ b < 2147483648) (yt : -2147483648 ≤ t ∧ t < 2147483648) (hno : ¬ ((0 ≤ b ∧ b ≤ 3) ∧ (0 ≤ t ∧ t ≤ 4))) : WI l yL_isApproved wsL_isApproved ({ frames := 8, cells := 1, slots := 6, locals := 126 }) [.ref (a 0), .int (iI b), .int (iI t), .ref o] (lB sa D a kk g o f) (1) (fun H => va_P D vwCl (xW a kk g) H ∧ va_P D vwCl (outW o kk f) H) (oA a o) 1 6 := by
  refine va_MetW (cc := cL_isApproved) (maxL := 5) (ret := some .int) (hh := [(0, 17, 20, 13)]) (by decide) rfl ?_
  intro zp ze s zm av zb zt zc s₁ B hml hv
  obtain ⟨rfl, hT, hP, hW, hK, hN, hC⟩ := hv
  have hx := B.exec
  have hb := B.bytes
  have hr := B.returns
  have hts := atoms_spec (ws := wsL_isApproved) B.pre
  have hown : s.vm.findClass RL = some zm.cls := findClass_of_methodNamed B.named
  have hlocks := B.notSynchronized
  have hxt := vx_table (x := yL_isApproved) B (hts (.codeWith yL_isApproved cL_isApproved 5 (some .int) [(0, 17, 20, 13)]) (List.mem_of_getElem? (i := 0) rfl))
  have hS : va_S (oA a o) s.heap s.heap [] := va_S.rf
  have CF : CallFix zp zm zc cL_isApproved 5 s ([.ref (a 0), .int (iI b), .int (iI t), .ref o] : List Value).toArray wsL_isApproved RL := ⟨hx, hb, hml, hown, hts⟩
  have hl := lv_entry ([.ref (a 0), .int (iI b), .int (iI t), .ref o] : List Value) (n := 5) (Nat.le_of_ble_eq_true rfl)
  rw [lg_entry_eq]
  generalize (lg_sl ([.ref (a 0), .int (iI b), .int (iI t), .ref o] : List Value) ++ List.replicate (5 - (lg_sl ([.ref (a 0), .int (iI b), .int (iI t), .ref o] : List Value)).length) Slot.unset).toArray = ls at hl ⊢
  have hl : lv_has ls 5 [(0, .ref (a 0)), (1, .int (iI b)), (2, .int (iI t)), (3, .ref o)] := hl
  refine lv_aload_n hx hb dL_isApproved_0 rfl (lv_at hl 3 rfl) ?_
  refine ri_iconst hx hb dL_isApproved_1 ?_
  refine lv_aload_n hx hb dL_isApproved_2 rfl (lv_at hl 0 rfl) ?_
  refine lv_iload_n hx hb dL_isApproved_3 rfl (lv_at hl 1 rfl) ?_
  refine lv_iload_n hx hb dL_isApproved_4 rfl (lv_at hl 2 rfl) ?_
  refine vx_calli (ri_runVX (b := a 0) (As := [.int (iI b), .int (iI t)]) (rest := [.int (iI 0), .ref o]) CF (k_X3_isApproved l D a kk g sa hst b t hA hI yb yt) gL_isApproved_X3_isApproved f_X3_isApproved rfl (va_recv hK hP (ci := 3) (q0 := 0) rfl rfl) ⟨rfl, rfl, (Nat.le_of_ble_eq_true rfl), (Nat.le_of_ble_eq_true rfl), (Nat.le_of_ble_eq_true rfl), (Nat.le_of_ble_eq_true rfl)⟩ pB_bl (pB_in hT hP hK hN) rfl hl.1 rfl (Nat.le_of_ble_eq_true rfl) dL_isApproved_5) hS (fun q _ h => Or.inl h) (fun q h => Or.inl h) (fun _ _ h => h.elim) (fun X ce q9 _ tz H1 locs1 ht hvm _ hB hz hk hS1 hce hcv hcl => ?_) (fun rz _ tz H1 locs1 ht hvm hp hB hz hk hS => ?_)
  · have hP1 := hP.un hk (fun _ _ _ z => z)
    have hW1 := hW.un hk (fun _ _ _ z => z)
    obtain ⟨hX, hB⟩ := hB
    subst hX
    refine vx_catch hown [] ⟨0, 17, 20, 13⟩ [] hxt (fun z hz => absurd hz List.not_mem_nil) rfl (by decide) (hts _ (List.mem_of_getElem? (i := 1) rfl)) (va_Nw.use rfl hT.2.2.2.2.2.2.2.2.1) hce hcv hcl ?_
    refine lv_astore (lv' := (4, .ref q9) :: [(0, .ref (a 0)), (1, .int (iI b)), (2, .int (iI t)), (3, .ref o)]) hx hb dL_isApproved_20 hl (by decide) rfl (fun ls hl => ?_)
    refine ri_iconst hx hb dL_isApproved_22 ?_
    exact ri_iretW (A := oA a o) (PP := (fun H => va_P D vwCl (xW a kk g) H ∧ va_P D vwCl (outW o kk f) H)) hx hb hr hlocks hS1 ⟨hP1, hW1⟩ dL_isApproved_23 rfl
  · exact absurd hp.1 hno

set_option maxHeartbeats 4000000 in
set_option maxRecDepth 100000 in
theorem kL_differences_ok (l : Launch) (D : va_G) (a : Nat → Nat) (kk : Nat → ClassId) (g : Nat → Nat → Int) (sa : Nat → Nat) (o : Nat) (f : Nat → Int64) (hst : l.stackTraces = false) (b : Int) (t : Int) (n : Int) (hA : aDs 17 a) (hO : ∀ i, i < 17 → a i ≠ o) (hI : XInv g) (yb : -2147483648 ≤ b ∧ b < 2147483648) (yt : -2147483648 ≤ t ∧ t < 2147483648) (yn : -2147483648 ≤ n ∧ n < 2147483648) (hok : cmpA b t n ∧ g 3 (5 + b * 5 + t).toNat = 1) : WI l yL_differences wsL_differences ({ frames := 9, cells := 2, slots := 12, locals := 154 }) [.ref (a 0), .int (iI b), .int (iI t), .int (iI n), .ref o] (lB sa D a kk g o f) (0) (fun H => va_P D vwCl (xW a kk (g)) H ∧ va_P D vwCl (outW o kk (vp_updL f 0 (iI (cntE (cmpD (px (g 2) t) (px (g 2) (5 + b * 5 + t)) n (g 5 t.toNat) (g 6 t.toNat) (g 7 t.toNat) (g 8 t.toNat) (g 10 t.toNat) (g 11 t.toNat) (g 12 t.toNat) (g 13 t.toNat)) 64)).toInt64)) H) (oA a o) 2 12 := by
  refine va_MetW (cc := cL_differences) (maxL := 6) (ret := some .int) (hh := [(0, 12, 15, 13), (0, 12, 19, 26)]) (by decide) rfl ?_
  intro zp ze s zm av zb zt zc s₁ B hml hv
  obtain ⟨rfl, hT, hP, hW, hK, hN, hC⟩ := hv
  have hx := B.exec
  have hb := B.bytes
  have hr := B.returns
  have hts := atoms_spec (ws := wsL_differences) B.pre
  have hown : s.vm.findClass RL = some zm.cls := findClass_of_methodNamed B.named
  have hlocks := B.notSynchronized
  have hxt := vx_table (x := yL_differences) B (hts (.codeWith yL_differences cL_differences 6 (some .int) [(0, 12, 15, 13), (0, 12, 19, 26)]) (List.mem_of_getElem? (i := 0) rfl))
  have hS : va_S (oA a o) s.heap s.heap [] := va_S.rf
  have CF : CallFix zp zm zc cL_differences 6 s ([.ref (a 0), .int (iI b), .int (iI t), .int (iI n), .ref o] : List Value).toArray wsL_differences RL := ⟨hx, hb, hml, hown, hts⟩
  have hl := lv_entry ([.ref (a 0), .int (iI b), .int (iI t), .int (iI n), .ref o] : List Value) (n := 6) (Nat.le_of_ble_eq_true rfl)
  rw [lg_entry_eq]
  generalize (lg_sl ([.ref (a 0), .int (iI b), .int (iI t), .int (iI n), .ref o] : List Value) ++ List.replicate (6 - (lg_sl ([.ref (a 0), .int (iI b), .int (iI t), .int (iI n), .ref o] : List Value)).length) Slot.unset).toArray = ls at hl ⊢
  have hl : lv_has ls 6 [(0, .ref (a 0)), (1, .int (iI b)), (2, .int (iI t)), (3, .int (iI n)), (4, .ref o)] := hl
  refine lv_aload hx hb dL_differences_0 (lv_at hl 4 rfl) ?_
  refine ri_iconst hx hb dL_differences_2 ?_
  refine lv_aload_n hx hb dL_differences_3 rfl (lv_at hl 0 rfl) ?_
  refine lv_iload_n hx hb dL_differences_4 rfl (lv_at hl 1 rfl) ?_
  refine lv_iload_n hx hb dL_differences_5 rfl (lv_at hl 2 rfl) ?_
  refine lv_iload_n hx hb dL_differences_6 rfl (lv_at hl 3 rfl) ?_
  refine vx_calli (ri_runVX (b := a 0) (As := [.int (iI b), .int (iI t), .int (iI n)]) (rest := [.int (iI 0), .ref o]) CF (k_X3_differences l D a kk g sa hst b t n hA hI yb yt yn) gL_differences_X3_differences f_X3_differences rfl (va_recv hK hP (ci := 3) (q0 := 0) rfl rfl) ⟨rfl, rfl, (Nat.le_of_ble_eq_true rfl), (Nat.le_of_ble_eq_true rfl), (Nat.le_of_ble_eq_true rfl), (Nat.le_of_ble_eq_true rfl)⟩ pB_bl (pB_in hT hP hK hN) rfl hl.1 rfl (Nat.le_of_ble_eq_true rfl) dL_differences_7) hS (fun q _ h => Or.inl h) (fun q h => Or.inl h) (fun _ _ h => h.elim) (fun X ce q9 _ tz H1 locs1 ht hvm _ hB hz hk hS1 hce hcv hcl => ?_) (fun rz _ tz H1 locs1 ht hvm hp hB hz hk hS => ?_)
  · exact Or.elim hB (fun z => absurd hok.1 z.2) (fun z => absurd hok.2 z.2.2)
  · have hP2 : va_P D vwCl (xW a kk (g)) H1 := ht ▸ hB
    have hW2 := hW.un hk (out_un hO)
    obtain ⟨_, hpr⟩ := hp
    subst hpr
    refine lv_i2l (v := (iI (cntE (cmpD (px (g 2) t) (px (g 2) (5 + b * 5 + t)) n (g 5 t.toNat) (g 6 t.toNat) (g 7 t.toNat) (g 8 t.toNat) (g 10 t.toNat) (g 11 t.toNat) (g 12 t.toNat) (g 13 t.toNat)) 64)).toInt64) hx hb dL_differences_10 rfl ?_
    refine ro_last (x := (iI (cntE (cmpD (px (g 2) t) (px (g 2) (5 + b * 5 + t)) n (g 5 t.toNat) (g 6 t.toNat) (g 7 t.toNat) (g 8 t.toNat) (g 10 t.toNat) (g 11 t.toNat) (g 12 t.toNat) (g 13 t.toNat)) 64)).toInt64) hx hb hK hW2 hS dL_differences_11 (fun H2 locs2 hW3 hq2 hS => ?_)
    have hP3 : va_P D vwCl (xW a kk (g)) H2 := hP2.un (A := fun q => q = o) hq2 (x_un hO)
    have hW4 : va_P D vwCl (outW o kk (vp_updL f 0 (iI (cntE (cmpD (px (g 2) t) (px (g 2) (5 + b * 5 + t)) n (g 5 t.toNat) (g 6 t.toNat) (g 7 t.toNat) (g 8 t.toNat) (g 10 t.toNat) (g 11 t.toNat) (g 12 t.toNat) (g 13 t.toNat)) 64)).toInt64)) H2 := by
      exact hW3
    refine lv_goto (tgt := 23) hx hb dL_differences_12 (by decide) ?_
    refine ri_iconst hx hb dL_differences_23 ?_
    exact ri_iretW (A := oA a o) (PP := (fun H => va_P D vwCl (xW a kk (g)) H ∧ va_P D vwCl (outW o kk (vp_updL f 0 (iI (cntE (cmpD (px (g 2) t) (px (g 2) (5 + b * 5 + t)) n (g 5 t.toNat) (g 6 t.toNat) (g 7 t.toNat) (g 8 t.toNat) (g 10 t.toNat) (g 11 t.toNat) (g 12 t.toNat) (g 13 t.toNat)) 64)).toInt64)) H)) hx hb hr hlocks hS ⟨hP3, hW4⟩ dL_differences_24 rfl

set_option maxHeartbeats 4000000 in
set_option maxRecDepth 100000 in
theorem kL_differences_no (l : Launch) (D : va_G) (a : Nat → Nat) (kk : Nat → ClassId) (g : Nat → Nat → Int) (sa : Nat → Nat) (o : Nat) (f : Nat → Int64) (hst : l.stackTraces = false) (b : Int) (t : Int) (n : Int) (hA : aDs 17 a) (hO : ∀ i, i < 17 → a i ≠ o) (hI : XInv g) (yb : -2147483648 ≤ b ∧ b < 2147483648) (yt : -2147483648 ≤ t ∧ t < 2147483648) (yn : -2147483648 ≤ n ∧ n < 2147483648) (pl : Int) (hno : (pl = 1 ∧ ¬ (cmpA b t n)) ∨ (pl = 2 ∧ (cmpA b t n) ∧ ¬ (g 3 (5 + b * 5 + t).toNat = 1))) : WI l yL_differences wsL_differences ({ frames := 9, cells := 2, slots := 12, locals := 154 }) [.ref (a 0), .int (iI b), .int (iI t), .int (iI n), .ref o] (lB sa D a kk g o f) (pl) (fun H => va_P D vwCl (xW a kk g) H ∧ va_P D vwCl (outW o kk f) H) (oA a o) 2 12 := by
  refine va_MetW (cc := cL_differences) (maxL := 6) (ret := some .int) (hh := [(0, 12, 15, 13), (0, 12, 19, 26)]) (by decide) rfl ?_
  intro zp ze s zm av zb zt zc s₁ B hml hv
  obtain ⟨rfl, hT, hP, hW, hK, hN, hC⟩ := hv
  have hx := B.exec
  have hb := B.bytes
  have hr := B.returns
  have hts := atoms_spec (ws := wsL_differences) B.pre
  have hown : s.vm.findClass RL = some zm.cls := findClass_of_methodNamed B.named
  have hlocks := B.notSynchronized
  have hxt := vx_table (x := yL_differences) B (hts (.codeWith yL_differences cL_differences 6 (some .int) [(0, 12, 15, 13), (0, 12, 19, 26)]) (List.mem_of_getElem? (i := 0) rfl))
  have hS : va_S (oA a o) s.heap s.heap [] := va_S.rf
  have CF : CallFix zp zm zc cL_differences 6 s ([.ref (a 0), .int (iI b), .int (iI t), .int (iI n), .ref o] : List Value).toArray wsL_differences RL := ⟨hx, hb, hml, hown, hts⟩
  have hl := lv_entry ([.ref (a 0), .int (iI b), .int (iI t), .int (iI n), .ref o] : List Value) (n := 6) (Nat.le_of_ble_eq_true rfl)
  rw [lg_entry_eq]
  generalize (lg_sl ([.ref (a 0), .int (iI b), .int (iI t), .int (iI n), .ref o] : List Value) ++ List.replicate (6 - (lg_sl ([.ref (a 0), .int (iI b), .int (iI t), .int (iI n), .ref o] : List Value)).length) Slot.unset).toArray = ls at hl ⊢
  have hl : lv_has ls 6 [(0, .ref (a 0)), (1, .int (iI b)), (2, .int (iI t)), (3, .int (iI n)), (4, .ref o)] := hl
  refine lv_aload hx hb dL_differences_0 (lv_at hl 4 rfl) ?_
  refine ri_iconst hx hb dL_differences_2 ?_
  refine lv_aload_n hx hb dL_differences_3 rfl (lv_at hl 0 rfl) ?_
  refine lv_iload_n hx hb dL_differences_4 rfl (lv_at hl 1 rfl) ?_
  refine lv_iload_n hx hb dL_differences_5 rfl (lv_at hl 2 rfl) ?_
  refine lv_iload_n hx hb dL_differences_6 rfl (lv_at hl 3 rfl) ?_
  refine vx_calli (ri_runVX (b := a 0) (As := [.int (iI b), .int (iI t), .int (iI n)]) (rest := [.int (iI 0), .ref o]) CF (k_X3_differences l D a kk g sa hst b t n hA hI yb yt yn) gL_differences_X3_differences f_X3_differences rfl (va_recv hK hP (ci := 3) (q0 := 0) rfl rfl) ⟨rfl, rfl, (Nat.le_of_ble_eq_true rfl), (Nat.le_of_ble_eq_true rfl), (Nat.le_of_ble_eq_true rfl), (Nat.le_of_ble_eq_true rfl)⟩ pB_bl (pB_in hT hP hK hN) rfl hl.1 rfl (Nat.le_of_ble_eq_true rfl) dL_differences_7) hS (fun q _ h => Or.inl h) (fun q h => Or.inl h) (fun _ _ h => h.elim) (fun X ce q9 _ tz H1 locs1 ht hvm _ hB hz hk hS1 hce hcv hcl => ?_) (fun rz _ tz H1 locs1 ht hvm hp hB hz hk hS => ?_)
  · have hP1 := hP.un hk (fun _ _ _ z => z)
    have hW1 := hW.un hk (fun _ _ _ z => z)
    rcases (show _ ∨ _ from hB) with ⟨hX, hB9⟩ | ⟨hX, hB9⟩
    · subst hX
      have e1 : pl = 1 := hno.elim (fun z => z.1) (fun z => absurd z.2.1 hB9)
      refine vx_catch hown [] ⟨0, 12, 15, 13⟩ [⟨0, 12, 19, 26⟩] hxt (fun z hz => absurd hz List.not_mem_nil) rfl (by decide) (hts _ (List.mem_of_getElem? (i := 1) rfl)) (va_Nw.use rfl hT.2.2.2.2.2.2.2.2.1) hce hcv hcl ?_
      refine lv_astore (lv' := (5, .ref q9) :: [(0, .ref (a 0)), (1, .int (iI b)), (2, .int (iI t)), (3, .int (iI n)), (4, .ref o)]) hx hb dL_differences_15 hl (by decide) rfl (fun ls hl => ?_)
      refine ri_iconst hx hb dL_differences_17 ?_
      exact ri_iretW (A := oA a o) (PP := (fun H => va_P D vwCl (xW a kk g) H ∧ va_P D vwCl (outW o kk f) H)) hx hb hr hlocks hS1 ⟨hP1, hW1⟩ dL_differences_18 e1.symm
    · subst hX
      have e1 : pl = 2 := hno.elim (fun z => absurd hB9.1 z.2) (fun z => z.1)
      refine vx_catch hown [⟨0, 12, 15, 13⟩] ⟨0, 12, 19, 26⟩ [] hxt (fun z hz => by rw [List.mem_singleton.mp hz]; exact Or.inr ⟨by decide, "java/lang/IllegalArgumentException", hts _ (List.mem_of_getElem? (i := 1) rfl), hC⟩) rfl (by decide) (hts _ (List.mem_of_getElem? (i := 2) rfl)) (va_Nw.use rfl hT.2.2.2.2.2.2.2.2.2) hce hcv hcl ?_
      refine lv_astore (lv' := (5, .ref q9) :: [(0, .ref (a 0)), (1, .int (iI b)), (2, .int (iI t)), (3, .int (iI n)), (4, .ref o)]) hx hb dL_differences_19 hl (by decide) rfl (fun ls hl => ?_)
      refine ri_iconst hx hb dL_differences_21 ?_
      exact ri_iretW (A := oA a o) (PP := (fun H => va_P D vwCl (xW a kk g) H ∧ va_P D vwCl (outW o kk f) H)) hx hb hr hlocks hS1 ⟨hP1, hW1⟩ dL_differences_22 e1.symm
  · exact (hno.elim (fun z => z.2 hp.1.1) (fun z => z.2.2 hp.1.2)).elim

set_option maxHeartbeats 4000000 in
set_option maxRecDepth 100000 in
theorem kL_firstDifference_ok (l : Launch) (D : va_G) (a : Nat → Nat) (kk : Nat → ClassId) (g : Nat → Nat → Int) (sa : Nat → Nat) (o : Nat) (f : Nat → Int64) (hst : l.stackTraces = false) (b : Int) (t : Int) (n : Int) (hA : aDs 17 a) (hO : ∀ i, i < 17 → a i ≠ o) (hI : XInv g) (yb : -2147483648 ≤ b ∧ b < 2147483648) (yt : -2147483648 ≤ t ∧ t < 2147483648) (yn : -2147483648 ≤ n ∧ n < 2147483648) (hok : cmpA b t n ∧ g 3 (5 + b * 5 + t).toNat = 1) : WI l yL_firstDifference wsL_firstDifference ({ frames := 9, cells := 2, slots := 12, locals := 175 }) [.ref (a 0), .int (iI b), .int (iI t), .int (iI n), .ref o] (lB sa D a kk g o f) (0) (fun H => va_P D vwCl (xW a kk (g)) H ∧ va_P D vwCl (outW o kk (vp_updL f 0 (iI (fdE (cmpD (px (g 2) t) (px (g 2) (5 + b * 5 + t)) n (g 5 t.toNat) (g 6 t.toNat) (g 7 t.toNat) (g 8 t.toNat) (g 10 t.toNat) (g 11 t.toNat) (g 12 t.toNat) (g 13 t.toNat)))).toInt64)) H) (oA a o) 2 12 := by
  refine va_MetW (cc := cL_firstDifference) (maxL := 6) (ret := some .int) (hh := [(0, 12, 15, 13), (0, 12, 19, 26)]) (by decide) rfl ?_
  intro zp ze s zm av zb zt zc s₁ B hml hv
  obtain ⟨rfl, hT, hP, hW, hK, hN, hC⟩ := hv
  have hx := B.exec
  have hb := B.bytes
  have hr := B.returns
  have hts := atoms_spec (ws := wsL_firstDifference) B.pre
  have hown : s.vm.findClass RL = some zm.cls := findClass_of_methodNamed B.named
  have hlocks := B.notSynchronized
  have hxt := vx_table (x := yL_firstDifference) B (hts (.codeWith yL_firstDifference cL_firstDifference 6 (some .int) [(0, 12, 15, 13), (0, 12, 19, 26)]) (List.mem_of_getElem? (i := 0) rfl))
  have hS : va_S (oA a o) s.heap s.heap [] := va_S.rf
  have CF : CallFix zp zm zc cL_firstDifference 6 s ([.ref (a 0), .int (iI b), .int (iI t), .int (iI n), .ref o] : List Value).toArray wsL_firstDifference RL := ⟨hx, hb, hml, hown, hts⟩
  have hl := lv_entry ([.ref (a 0), .int (iI b), .int (iI t), .int (iI n), .ref o] : List Value) (n := 6) (Nat.le_of_ble_eq_true rfl)
  rw [lg_entry_eq]
  generalize (lg_sl ([.ref (a 0), .int (iI b), .int (iI t), .int (iI n), .ref o] : List Value) ++ List.replicate (6 - (lg_sl ([.ref (a 0), .int (iI b), .int (iI t), .int (iI n), .ref o] : List Value)).length) Slot.unset).toArray = ls at hl ⊢
  have hl : lv_has ls 6 [(0, .ref (a 0)), (1, .int (iI b)), (2, .int (iI t)), (3, .int (iI n)), (4, .ref o)] := hl
  refine lv_aload hx hb dL_firstDifference_0 (lv_at hl 4 rfl) ?_
  refine ri_iconst hx hb dL_firstDifference_2 ?_
  refine lv_aload_n hx hb dL_firstDifference_3 rfl (lv_at hl 0 rfl) ?_
  refine lv_iload_n hx hb dL_firstDifference_4 rfl (lv_at hl 1 rfl) ?_
  refine lv_iload_n hx hb dL_firstDifference_5 rfl (lv_at hl 2 rfl) ?_
  refine lv_iload_n hx hb dL_firstDifference_6 rfl (lv_at hl 3 rfl) ?_
  refine vx_calli (ri_runVX (b := a 0) (As := [.int (iI b), .int (iI t), .int (iI n)]) (rest := [.int (iI 0), .ref o]) CF (k_X3_firstDifference l D a kk g sa hst b t n hA hI yb yt yn) gL_firstDifference_X3_firstDifference f_X3_firstDifference rfl (va_recv hK hP (ci := 3) (q0 := 0) rfl rfl) ⟨rfl, rfl, (Nat.le_of_ble_eq_true rfl), (Nat.le_of_ble_eq_true rfl), (Nat.le_of_ble_eq_true rfl), (Nat.le_of_ble_eq_true rfl)⟩ pB_bl (pB_in hT hP hK hN) rfl hl.1 rfl (Nat.le_of_ble_eq_true rfl) dL_firstDifference_7) hS (fun q _ h => Or.inl h) (fun q h => Or.inl h) (fun _ _ h => h.elim) (fun X ce q9 _ tz H1 locs1 ht hvm _ hB hz hk hS1 hce hcv hcl => ?_) (fun rz _ tz H1 locs1 ht hvm hp hB hz hk hS => ?_)
  · exact Or.elim hB (fun z => absurd hok.1 z.2) (fun z => absurd hok.2 z.2.2)
  · have hP2 : va_P D vwCl (xW a kk (g)) H1 := ht ▸ hB
    have hW2 := hW.un hk (out_un hO)
    obtain ⟨_, hpr⟩ := hp
    subst hpr
    refine lv_i2l (v := (iI (fdE (cmpD (px (g 2) t) (px (g 2) (5 + b * 5 + t)) n (g 5 t.toNat) (g 6 t.toNat) (g 7 t.toNat) (g 8 t.toNat) (g 10 t.toNat) (g 11 t.toNat) (g 12 t.toNat) (g 13 t.toNat)))).toInt64) hx hb dL_firstDifference_10 rfl ?_
    refine ro_last (x := (iI (fdE (cmpD (px (g 2) t) (px (g 2) (5 + b * 5 + t)) n (g 5 t.toNat) (g 6 t.toNat) (g 7 t.toNat) (g 8 t.toNat) (g 10 t.toNat) (g 11 t.toNat) (g 12 t.toNat) (g 13 t.toNat)))).toInt64) hx hb hK hW2 hS dL_firstDifference_11 (fun H2 locs2 hW3 hq2 hS => ?_)
    have hP3 : va_P D vwCl (xW a kk (g)) H2 := hP2.un (A := fun q => q = o) hq2 (x_un hO)
    have hW4 : va_P D vwCl (outW o kk (vp_updL f 0 (iI (fdE (cmpD (px (g 2) t) (px (g 2) (5 + b * 5 + t)) n (g 5 t.toNat) (g 6 t.toNat) (g 7 t.toNat) (g 8 t.toNat) (g 10 t.toNat) (g 11 t.toNat) (g 12 t.toNat) (g 13 t.toNat)))).toInt64)) H2 := by
      exact hW3
    refine lv_goto (tgt := 23) hx hb dL_firstDifference_12 (by decide) ?_
    refine ri_iconst hx hb dL_firstDifference_23 ?_
    exact ri_iretW (A := oA a o) (PP := (fun H => va_P D vwCl (xW a kk (g)) H ∧ va_P D vwCl (outW o kk (vp_updL f 0 (iI (fdE (cmpD (px (g 2) t) (px (g 2) (5 + b * 5 + t)) n (g 5 t.toNat) (g 6 t.toNat) (g 7 t.toNat) (g 8 t.toNat) (g 10 t.toNat) (g 11 t.toNat) (g 12 t.toNat) (g 13 t.toNat)))).toInt64)) H)) hx hb hr hlocks hS ⟨hP3, hW4⟩ dL_firstDifference_24 rfl

set_option maxHeartbeats 4000000 in
set_option maxRecDepth 100000 in
theorem kL_firstDifference_no (l : Launch) (D : va_G) (a : Nat → Nat) (kk : Nat → ClassId) (g : Nat → Nat → Int) (sa : Nat → Nat) (o : Nat) (f : Nat → Int64) (hst : l.stackTraces = false) (b : Int) (t : Int) (n : Int) (hA : aDs 17 a) (hO : ∀ i, i < 17 → a i ≠ o) (hI : XInv g) (yb : -2147483648 ≤ b ∧ b < 2147483648) (yt : -2147483648 ≤ t ∧ t < 2147483648) (yn : -2147483648 ≤ n ∧ n < 2147483648) (pl : Int) (hno : (pl = 1 ∧ ¬ (cmpA b t n)) ∨ (pl = 2 ∧ (cmpA b t n) ∧ ¬ (g 3 (5 + b * 5 + t).toNat = 1))) : WI l yL_firstDifference wsL_firstDifference ({ frames := 9, cells := 2, slots := 12, locals := 175 }) [.ref (a 0), .int (iI b), .int (iI t), .int (iI n), .ref o] (lB sa D a kk g o f) (pl) (fun H => va_P D vwCl (xW a kk g) H ∧ va_P D vwCl (outW o kk f) H) (oA a o) 2 12 := by
  refine va_MetW (cc := cL_firstDifference) (maxL := 6) (ret := some .int) (hh := [(0, 12, 15, 13), (0, 12, 19, 26)]) (by decide) rfl ?_
  intro zp ze s zm av zb zt zc s₁ B hml hv
  obtain ⟨rfl, hT, hP, hW, hK, hN, hC⟩ := hv
  have hx := B.exec
  have hb := B.bytes
  have hr := B.returns
  have hts := atoms_spec (ws := wsL_firstDifference) B.pre
  have hown : s.vm.findClass RL = some zm.cls := findClass_of_methodNamed B.named
  have hlocks := B.notSynchronized
  have hxt := vx_table (x := yL_firstDifference) B (hts (.codeWith yL_firstDifference cL_firstDifference 6 (some .int) [(0, 12, 15, 13), (0, 12, 19, 26)]) (List.mem_of_getElem? (i := 0) rfl))
  have hS : va_S (oA a o) s.heap s.heap [] := va_S.rf
  have CF : CallFix zp zm zc cL_firstDifference 6 s ([.ref (a 0), .int (iI b), .int (iI t), .int (iI n), .ref o] : List Value).toArray wsL_firstDifference RL := ⟨hx, hb, hml, hown, hts⟩
  have hl := lv_entry ([.ref (a 0), .int (iI b), .int (iI t), .int (iI n), .ref o] : List Value) (n := 6) (Nat.le_of_ble_eq_true rfl)
  rw [lg_entry_eq]
  generalize (lg_sl ([.ref (a 0), .int (iI b), .int (iI t), .int (iI n), .ref o] : List Value) ++ List.replicate (6 - (lg_sl ([.ref (a 0), .int (iI b), .int (iI t), .int (iI n), .ref o] : List Value)).length) Slot.unset).toArray = ls at hl ⊢
  have hl : lv_has ls 6 [(0, .ref (a 0)), (1, .int (iI b)), (2, .int (iI t)), (3, .int (iI n)), (4, .ref o)] := hl
  refine lv_aload hx hb dL_firstDifference_0 (lv_at hl 4 rfl) ?_
  refine ri_iconst hx hb dL_firstDifference_2 ?_
  refine lv_aload_n hx hb dL_firstDifference_3 rfl (lv_at hl 0 rfl) ?_
  refine lv_iload_n hx hb dL_firstDifference_4 rfl (lv_at hl 1 rfl) ?_
  refine lv_iload_n hx hb dL_firstDifference_5 rfl (lv_at hl 2 rfl) ?_
  refine lv_iload_n hx hb dL_firstDifference_6 rfl (lv_at hl 3 rfl) ?_
  refine vx_calli (ri_runVX (b := a 0) (As := [.int (iI b), .int (iI t), .int (iI n)]) (rest := [.int (iI 0), .ref o]) CF (k_X3_firstDifference l D a kk g sa hst b t n hA hI yb yt yn) gL_firstDifference_X3_firstDifference f_X3_firstDifference rfl (va_recv hK hP (ci := 3) (q0 := 0) rfl rfl) ⟨rfl, rfl, (Nat.le_of_ble_eq_true rfl), (Nat.le_of_ble_eq_true rfl), (Nat.le_of_ble_eq_true rfl), (Nat.le_of_ble_eq_true rfl)⟩ pB_bl (pB_in hT hP hK hN) rfl hl.1 rfl (Nat.le_of_ble_eq_true rfl) dL_firstDifference_7) hS (fun q _ h => Or.inl h) (fun q h => Or.inl h) (fun _ _ h => h.elim) (fun X ce q9 _ tz H1 locs1 ht hvm _ hB hz hk hS1 hce hcv hcl => ?_) (fun rz _ tz H1 locs1 ht hvm hp hB hz hk hS => ?_)
  · have hP1 := hP.un hk (fun _ _ _ z => z)
    have hW1 := hW.un hk (fun _ _ _ z => z)
    rcases (show _ ∨ _ from hB) with ⟨hX, hB9⟩ | ⟨hX, hB9⟩
    · subst hX
      have e1 : pl = 1 := hno.elim (fun z => z.1) (fun z => absurd z.2.1 hB9)
      refine vx_catch hown [] ⟨0, 12, 15, 13⟩ [⟨0, 12, 19, 26⟩] hxt (fun z hz => absurd hz List.not_mem_nil) rfl (by decide) (hts _ (List.mem_of_getElem? (i := 1) rfl)) (va_Nw.use rfl hT.2.2.2.2.2.2.2.2.1) hce hcv hcl ?_
      refine lv_astore (lv' := (5, .ref q9) :: [(0, .ref (a 0)), (1, .int (iI b)), (2, .int (iI t)), (3, .int (iI n)), (4, .ref o)]) hx hb dL_firstDifference_15 hl (by decide) rfl (fun ls hl => ?_)
      refine ri_iconst hx hb dL_firstDifference_17 ?_
      exact ri_iretW (A := oA a o) (PP := (fun H => va_P D vwCl (xW a kk g) H ∧ va_P D vwCl (outW o kk f) H)) hx hb hr hlocks hS1 ⟨hP1, hW1⟩ dL_firstDifference_18 e1.symm
    · subst hX
      have e1 : pl = 2 := hno.elim (fun z => absurd hB9.1 z.2) (fun z => z.1)
      refine vx_catch hown [⟨0, 12, 15, 13⟩] ⟨0, 12, 19, 26⟩ [] hxt (fun z hz => by rw [List.mem_singleton.mp hz]; exact Or.inr ⟨by decide, "java/lang/IllegalArgumentException", hts _ (List.mem_of_getElem? (i := 1) rfl), hC⟩) rfl (by decide) (hts _ (List.mem_of_getElem? (i := 2) rfl)) (va_Nw.use rfl hT.2.2.2.2.2.2.2.2.2) hce hcv hcl ?_
      refine lv_astore (lv' := (5, .ref q9) :: [(0, .ref (a 0)), (1, .int (iI b)), (2, .int (iI t)), (3, .int (iI n)), (4, .ref o)]) hx hb dL_firstDifference_19 hl (by decide) rfl (fun ls hl => ?_)
      refine ri_iconst hx hb dL_firstDifference_21 ?_
      exact ri_iretW (A := oA a o) (PP := (fun H => va_P D vwCl (xW a kk g) H ∧ va_P D vwCl (outW o kk f) H)) hx hb hr hlocks hS1 ⟨hP1, hW1⟩ dL_firstDifference_22 e1.symm
  · exact (hno.elim (fun z => z.2 hp.1.1) (fun z => z.2.2 hp.1.2)).elim

set_option maxHeartbeats 4000000 in
set_option maxRecDepth 100000 in
theorem kL_move_ok (l : Launch) (D : va_G) (a : Nat → Nat) (kk : Nat → ClassId) (g : Nat → Nat → Int) (sa : Nat → Nat) (o : Nat) (f : Nat → Int64) (hst : l.stackTraces = false) (b : Int) (t : Int) (n : Int) (hA : aDs 17 a) (hO : ∀ i, i < 17 → a i ≠ o) (hI : XInv g) (yb : -2147483648 ≤ b ∧ b < 2147483648) (yt : -2147483648 ≤ t ∧ t < 2147483648) (yn : -2147483648 ≤ n ∧ n < 2147483648) (hok : cmpA b t n ∧ g 3 (5 + b * 5 + t).toNat = 1) : WI l yL_move wsL_move ({ frames := 9, cells := 2, slots := 12, locals := 150 }) [.ref (a 0), .int (iI b), .int (iI t), .int (iI n), .ref o] (lB sa D a kk g o f) (0) (fun H => va_P D vwCl (xW a kk (g)) H ∧ va_P D vwCl (outW o kk (vp_updL f 0 (iI (mvN (fitP (px (g 2) t) (px (g 2) (5 + b * 5 + t)) n (g 5 t.toNat) (g 6 t.toNat) (g 7 t.toNat) (g 8 t.toNat)))).toInt64)) H) (oA a o) 2 12 := by
  refine va_MetW (cc := cL_move) (maxL := 6) (ret := some .int) (hh := [(0, 12, 15, 13), (0, 12, 19, 26)]) (by decide) rfl ?_
  intro zp ze s zm av zb zt zc s₁ B hml hv
  obtain ⟨rfl, hT, hP, hW, hK, hN, hC⟩ := hv
  have hx := B.exec
  have hb := B.bytes
  have hr := B.returns
  have hts := atoms_spec (ws := wsL_move) B.pre
  have hown : s.vm.findClass RL = some zm.cls := findClass_of_methodNamed B.named
  have hlocks := B.notSynchronized
  have hxt := vx_table (x := yL_move) B (hts (.codeWith yL_move cL_move 6 (some .int) [(0, 12, 15, 13), (0, 12, 19, 26)]) (List.mem_of_getElem? (i := 0) rfl))
  have hS : va_S (oA a o) s.heap s.heap [] := va_S.rf
  have CF : CallFix zp zm zc cL_move 6 s ([.ref (a 0), .int (iI b), .int (iI t), .int (iI n), .ref o] : List Value).toArray wsL_move RL := ⟨hx, hb, hml, hown, hts⟩
  have hl := lv_entry ([.ref (a 0), .int (iI b), .int (iI t), .int (iI n), .ref o] : List Value) (n := 6) (Nat.le_of_ble_eq_true rfl)
  rw [lg_entry_eq]
  generalize (lg_sl ([.ref (a 0), .int (iI b), .int (iI t), .int (iI n), .ref o] : List Value) ++ List.replicate (6 - (lg_sl ([.ref (a 0), .int (iI b), .int (iI t), .int (iI n), .ref o] : List Value)).length) Slot.unset).toArray = ls at hl ⊢
  have hl : lv_has ls 6 [(0, .ref (a 0)), (1, .int (iI b)), (2, .int (iI t)), (3, .int (iI n)), (4, .ref o)] := hl
  refine lv_aload hx hb dL_move_0 (lv_at hl 4 rfl) ?_
  refine ri_iconst hx hb dL_move_2 ?_
  refine lv_aload_n hx hb dL_move_3 rfl (lv_at hl 0 rfl) ?_
  refine lv_iload_n hx hb dL_move_4 rfl (lv_at hl 1 rfl) ?_
  refine lv_iload_n hx hb dL_move_5 rfl (lv_at hl 2 rfl) ?_
  refine lv_iload_n hx hb dL_move_6 rfl (lv_at hl 3 rfl) ?_
  refine vx_calli (ri_runVX (b := a 0) (As := [.int (iI b), .int (iI t), .int (iI n)]) (rest := [.int (iI 0), .ref o]) CF (k_X3_move l D a kk g sa hst b t n hA hI yb yt yn) gL_move_X3_move f_X3_move rfl (va_recv hK hP (ci := 3) (q0 := 0) rfl rfl) ⟨rfl, rfl, (Nat.le_of_ble_eq_true rfl), (Nat.le_of_ble_eq_true rfl), (Nat.le_of_ble_eq_true rfl), (Nat.le_of_ble_eq_true rfl)⟩ pB_bl (pB_in hT hP hK hN) rfl hl.1 rfl (Nat.le_of_ble_eq_true rfl) dL_move_7) hS (fun q _ h => Or.inl h) (fun q h => Or.inl h) (fun _ _ h => h.elim) (fun X ce q9 _ tz H1 locs1 ht hvm _ hB hz hk hS1 hce hcv hcl => ?_) (fun rz _ tz H1 locs1 ht hvm hp hB hz hk hS => ?_)
  · exact Or.elim hB (fun z => absurd hok.1 z.2) (fun z => absurd hok.2 z.2.2)
  · have hP2 : va_P D vwCl (xW a kk (g)) H1 := ht ▸ hB
    have hW2 := hW.un hk (out_un hO)
    obtain ⟨_, hpr⟩ := hp
    subst hpr
    refine lv_i2l (v := (iI (mvN (fitP (px (g 2) t) (px (g 2) (5 + b * 5 + t)) n (g 5 t.toNat) (g 6 t.toNat) (g 7 t.toNat) (g 8 t.toNat)))).toInt64) hx hb dL_move_10 rfl ?_
    refine ro_last (x := (iI (mvN (fitP (px (g 2) t) (px (g 2) (5 + b * 5 + t)) n (g 5 t.toNat) (g 6 t.toNat) (g 7 t.toNat) (g 8 t.toNat)))).toInt64) hx hb hK hW2 hS dL_move_11 (fun H2 locs2 hW3 hq2 hS => ?_)
    have hP3 : va_P D vwCl (xW a kk (g)) H2 := hP2.un (A := fun q => q = o) hq2 (x_un hO)
    have hW4 : va_P D vwCl (outW o kk (vp_updL f 0 (iI (mvN (fitP (px (g 2) t) (px (g 2) (5 + b * 5 + t)) n (g 5 t.toNat) (g 6 t.toNat) (g 7 t.toNat) (g 8 t.toNat)))).toInt64)) H2 := by
      exact hW3
    refine lv_goto (tgt := 23) hx hb dL_move_12 (by decide) ?_
    refine ri_iconst hx hb dL_move_23 ?_
    exact ri_iretW (A := oA a o) (PP := (fun H => va_P D vwCl (xW a kk (g)) H ∧ va_P D vwCl (outW o kk (vp_updL f 0 (iI (mvN (fitP (px (g 2) t) (px (g 2) (5 + b * 5 + t)) n (g 5 t.toNat) (g 6 t.toNat) (g 7 t.toNat) (g 8 t.toNat)))).toInt64)) H)) hx hb hr hlocks hS ⟨hP3, hW4⟩ dL_move_24 rfl

set_option maxHeartbeats 4000000 in
set_option maxRecDepth 100000 in
theorem kL_move_no (l : Launch) (D : va_G) (a : Nat → Nat) (kk : Nat → ClassId) (g : Nat → Nat → Int) (sa : Nat → Nat) (o : Nat) (f : Nat → Int64) (hst : l.stackTraces = false) (b : Int) (t : Int) (n : Int) (hA : aDs 17 a) (hO : ∀ i, i < 17 → a i ≠ o) (hI : XInv g) (yb : -2147483648 ≤ b ∧ b < 2147483648) (yt : -2147483648 ≤ t ∧ t < 2147483648) (yn : -2147483648 ≤ n ∧ n < 2147483648) (pl : Int) (hno : (pl = 1 ∧ ¬ (cmpA b t n)) ∨ (pl = 2 ∧ (cmpA b t n) ∧ ¬ (g 3 (5 + b * 5 + t).toNat = 1))) : WI l yL_move wsL_move ({ frames := 9, cells := 2, slots := 12, locals := 150 }) [.ref (a 0), .int (iI b), .int (iI t), .int (iI n), .ref o] (lB sa D a kk g o f) (pl) (fun H => va_P D vwCl (xW a kk g) H ∧ va_P D vwCl (outW o kk f) H) (oA a o) 2 12 := by
  refine va_MetW (cc := cL_move) (maxL := 6) (ret := some .int) (hh := [(0, 12, 15, 13), (0, 12, 19, 26)]) (by decide) rfl ?_
  intro zp ze s zm av zb zt zc s₁ B hml hv
  obtain ⟨rfl, hT, hP, hW, hK, hN, hC⟩ := hv
  have hx := B.exec
  have hb := B.bytes
  have hr := B.returns
  have hts := atoms_spec (ws := wsL_move) B.pre
  have hown : s.vm.findClass RL = some zm.cls := findClass_of_methodNamed B.named
  have hlocks := B.notSynchronized
  have hxt := vx_table (x := yL_move) B (hts (.codeWith yL_move cL_move 6 (some .int) [(0, 12, 15, 13), (0, 12, 19, 26)]) (List.mem_of_getElem? (i := 0) rfl))
  have hS : va_S (oA a o) s.heap s.heap [] := va_S.rf
  have CF : CallFix zp zm zc cL_move 6 s ([.ref (a 0), .int (iI b), .int (iI t), .int (iI n), .ref o] : List Value).toArray wsL_move RL := ⟨hx, hb, hml, hown, hts⟩
  have hl := lv_entry ([.ref (a 0), .int (iI b), .int (iI t), .int (iI n), .ref o] : List Value) (n := 6) (Nat.le_of_ble_eq_true rfl)
  rw [lg_entry_eq]
  generalize (lg_sl ([.ref (a 0), .int (iI b), .int (iI t), .int (iI n), .ref o] : List Value) ++ List.replicate (6 - (lg_sl ([.ref (a 0), .int (iI b), .int (iI t), .int (iI n), .ref o] : List Value)).length) Slot.unset).toArray = ls at hl ⊢
  have hl : lv_has ls 6 [(0, .ref (a 0)), (1, .int (iI b)), (2, .int (iI t)), (3, .int (iI n)), (4, .ref o)] := hl
  refine lv_aload hx hb dL_move_0 (lv_at hl 4 rfl) ?_
  refine ri_iconst hx hb dL_move_2 ?_
  refine lv_aload_n hx hb dL_move_3 rfl (lv_at hl 0 rfl) ?_
  refine lv_iload_n hx hb dL_move_4 rfl (lv_at hl 1 rfl) ?_
  refine lv_iload_n hx hb dL_move_5 rfl (lv_at hl 2 rfl) ?_
  refine lv_iload_n hx hb dL_move_6 rfl (lv_at hl 3 rfl) ?_
  refine vx_calli (ri_runVX (b := a 0) (As := [.int (iI b), .int (iI t), .int (iI n)]) (rest := [.int (iI 0), .ref o]) CF (k_X3_move l D a kk g sa hst b t n hA hI yb yt yn) gL_move_X3_move f_X3_move rfl (va_recv hK hP (ci := 3) (q0 := 0) rfl rfl) ⟨rfl, rfl, (Nat.le_of_ble_eq_true rfl), (Nat.le_of_ble_eq_true rfl), (Nat.le_of_ble_eq_true rfl), (Nat.le_of_ble_eq_true rfl)⟩ pB_bl (pB_in hT hP hK hN) rfl hl.1 rfl (Nat.le_of_ble_eq_true rfl) dL_move_7) hS (fun q _ h => Or.inl h) (fun q h => Or.inl h) (fun _ _ h => h.elim) (fun X ce q9 _ tz H1 locs1 ht hvm _ hB hz hk hS1 hce hcv hcl => ?_) (fun rz _ tz H1 locs1 ht hvm hp hB hz hk hS => ?_)
  · have hP1 := hP.un hk (fun _ _ _ z => z)
    have hW1 := hW.un hk (fun _ _ _ z => z)
    rcases (show _ ∨ _ from hB) with ⟨hX, hB9⟩ | ⟨hX, hB9⟩
    · subst hX
      have e1 : pl = 1 := hno.elim (fun z => z.1) (fun z => absurd z.2.1 hB9)
      refine vx_catch hown [] ⟨0, 12, 15, 13⟩ [⟨0, 12, 19, 26⟩] hxt (fun z hz => absurd hz List.not_mem_nil) rfl (by decide) (hts _ (List.mem_of_getElem? (i := 1) rfl)) (va_Nw.use rfl hT.2.2.2.2.2.2.2.2.1) hce hcv hcl ?_
      refine lv_astore (lv' := (5, .ref q9) :: [(0, .ref (a 0)), (1, .int (iI b)), (2, .int (iI t)), (3, .int (iI n)), (4, .ref o)]) hx hb dL_move_15 hl (by decide) rfl (fun ls hl => ?_)
      refine ri_iconst hx hb dL_move_17 ?_
      exact ri_iretW (A := oA a o) (PP := (fun H => va_P D vwCl (xW a kk g) H ∧ va_P D vwCl (outW o kk f) H)) hx hb hr hlocks hS1 ⟨hP1, hW1⟩ dL_move_18 e1.symm
    · subst hX
      have e1 : pl = 2 := hno.elim (fun z => absurd hB9.1 z.2) (fun z => z.1)
      refine vx_catch hown [⟨0, 12, 15, 13⟩] ⟨0, 12, 19, 26⟩ [] hxt (fun z hz => by rw [List.mem_singleton.mp hz]; exact Or.inr ⟨by decide, "java/lang/IllegalArgumentException", hts _ (List.mem_of_getElem? (i := 1) rfl), hC⟩) rfl (by decide) (hts _ (List.mem_of_getElem? (i := 2) rfl)) (va_Nw.use rfl hT.2.2.2.2.2.2.2.2.2) hce hcv hcl ?_
      refine lv_astore (lv' := (5, .ref q9) :: [(0, .ref (a 0)), (1, .int (iI b)), (2, .int (iI t)), (3, .int (iI n)), (4, .ref o)]) hx hb dL_move_19 hl (by decide) rfl (fun ls hl => ?_)
      refine ri_iconst hx hb dL_move_21 ?_
      exact ri_iretW (A := oA a o) (PP := (fun H => va_P D vwCl (xW a kk g) H ∧ va_P D vwCl (outW o kk f) H)) hx hb hr hlocks hS1 ⟨hP1, hW1⟩ dL_move_22 e1.symm
  · exact (hno.elim (fun z => z.2 hp.1.1) (fun z => z.2.2 hp.1.2)).elim

set_option maxHeartbeats 4000000 in
set_option maxRecDepth 100000 in
theorem kL_soft_ok (l : Launch) (D : va_G) (a : Nat → Nat) (kk : Nat → ClassId) (g : Nat → Nat → Int) (sa : Nat → Nat) (o : Nat) (f : Nat → Int64) (hst : l.stackTraces = false) (b : Int) (t : Int) (n : Int) (hA : aDs 17 a) (hO : ∀ i, i < 17 → a i ≠ o) (hI : XInv g) (yb : -2147483648 ≤ b ∧ b < 2147483648) (yt : -2147483648 ≤ t ∧ t < 2147483648) (yn : -2147483648 ≤ n ∧ n < 2147483648) (hok : cmpA b t n ∧ g 3 (5 + b * 5 + t).toNat = 1) : WI l yL_soft wsL_soft ({ frames := 9, cells := 2, slots := 12, locals := 153 }) [.ref (a 0), .int (iI b), .int (iI t), .int (iI n), .ref o] (lB sa D a kk g o f) (0) (fun H => va_P D vwCl (xW a kk (g)) H ∧ va_P D vwCl (outW o kk (vp_updL f 0 (iI (cntE (sofD (px (g 2) t) (px (g 2) (5 + b * 5 + t)) n) 64)).toInt64)) H) (oA a o) 2 12 := by
  refine va_MetW (cc := cL_soft) (maxL := 6) (ret := some .int) (hh := [(0, 12, 15, 13), (0, 12, 19, 26)]) (by decide) rfl ?_
  intro zp ze s zm av zb zt zc s₁ B hml hv
  obtain ⟨rfl, hT, hP, hW, hK, hN, hC⟩ := hv
  have hx := B.exec
  have hb := B.bytes
  have hr := B.returns
  have hts := atoms_spec (ws := wsL_soft) B.pre
  have hown : s.vm.findClass RL = some zm.cls := findClass_of_methodNamed B.named
  have hlocks := B.notSynchronized
  have hxt := vx_table (x := yL_soft) B (hts (.codeWith yL_soft cL_soft 6 (some .int) [(0, 12, 15, 13), (0, 12, 19, 26)]) (List.mem_of_getElem? (i := 0) rfl))
  have hS : va_S (oA a o) s.heap s.heap [] := va_S.rf
  have CF : CallFix zp zm zc cL_soft 6 s ([.ref (a 0), .int (iI b), .int (iI t), .int (iI n), .ref o] : List Value).toArray wsL_soft RL := ⟨hx, hb, hml, hown, hts⟩
  have hl := lv_entry ([.ref (a 0), .int (iI b), .int (iI t), .int (iI n), .ref o] : List Value) (n := 6) (Nat.le_of_ble_eq_true rfl)
  rw [lg_entry_eq]
  generalize (lg_sl ([.ref (a 0), .int (iI b), .int (iI t), .int (iI n), .ref o] : List Value) ++ List.replicate (6 - (lg_sl ([.ref (a 0), .int (iI b), .int (iI t), .int (iI n), .ref o] : List Value)).length) Slot.unset).toArray = ls at hl ⊢
  have hl : lv_has ls 6 [(0, .ref (a 0)), (1, .int (iI b)), (2, .int (iI t)), (3, .int (iI n)), (4, .ref o)] := hl
  refine lv_aload hx hb dL_soft_0 (lv_at hl 4 rfl) ?_
  refine ri_iconst hx hb dL_soft_2 ?_
  refine lv_aload_n hx hb dL_soft_3 rfl (lv_at hl 0 rfl) ?_
  refine lv_iload_n hx hb dL_soft_4 rfl (lv_at hl 1 rfl) ?_
  refine lv_iload_n hx hb dL_soft_5 rfl (lv_at hl 2 rfl) ?_
  refine lv_iload_n hx hb dL_soft_6 rfl (lv_at hl 3 rfl) ?_
  refine vx_calli (ri_runVX (b := a 0) (As := [.int (iI b), .int (iI t), .int (iI n)]) (rest := [.int (iI 0), .ref o]) CF (k_X3_soft l D a kk g sa hst b t n hA hI yb yt yn) gL_soft_X3_soft f_X3_soft rfl (va_recv hK hP (ci := 3) (q0 := 0) rfl rfl) ⟨rfl, rfl, (Nat.le_of_ble_eq_true rfl), (Nat.le_of_ble_eq_true rfl), (Nat.le_of_ble_eq_true rfl), (Nat.le_of_ble_eq_true rfl)⟩ pB_bl (pB_in hT hP hK hN) rfl hl.1 rfl (Nat.le_of_ble_eq_true rfl) dL_soft_7) hS (fun q _ h => Or.inl h) (fun q h => Or.inl h) (fun _ _ h => h.elim) (fun X ce q9 _ tz H1 locs1 ht hvm _ hB hz hk hS1 hce hcv hcl => ?_) (fun rz _ tz H1 locs1 ht hvm hp hB hz hk hS => ?_)
  · exact Or.elim hB (fun z => absurd hok.1 z.2) (fun z => absurd hok.2 z.2.2)
  · have hP2 : va_P D vwCl (xW a kk (g)) H1 := ht ▸ hB
    have hW2 := hW.un hk (out_un hO)
    obtain ⟨_, hpr⟩ := hp
    subst hpr
    refine lv_i2l (v := (iI (cntE (sofD (px (g 2) t) (px (g 2) (5 + b * 5 + t)) n) 64)).toInt64) hx hb dL_soft_10 rfl ?_
    refine ro_last (x := (iI (cntE (sofD (px (g 2) t) (px (g 2) (5 + b * 5 + t)) n) 64)).toInt64) hx hb hK hW2 hS dL_soft_11 (fun H2 locs2 hW3 hq2 hS => ?_)
    have hP3 : va_P D vwCl (xW a kk (g)) H2 := hP2.un (A := fun q => q = o) hq2 (x_un hO)
    have hW4 : va_P D vwCl (outW o kk (vp_updL f 0 (iI (cntE (sofD (px (g 2) t) (px (g 2) (5 + b * 5 + t)) n) 64)).toInt64)) H2 := by
      exact hW3
    refine lv_goto (tgt := 23) hx hb dL_soft_12 (by decide) ?_
    refine ri_iconst hx hb dL_soft_23 ?_
    exact ri_iretW (A := oA a o) (PP := (fun H => va_P D vwCl (xW a kk (g)) H ∧ va_P D vwCl (outW o kk (vp_updL f 0 (iI (cntE (sofD (px (g 2) t) (px (g 2) (5 + b * 5 + t)) n) 64)).toInt64)) H)) hx hb hr hlocks hS ⟨hP3, hW4⟩ dL_soft_24 rfl

set_option maxHeartbeats 4000000 in
set_option maxRecDepth 100000 in
theorem kL_soft_no (l : Launch) (D : va_G) (a : Nat → Nat) (kk : Nat → ClassId) (g : Nat → Nat → Int) (sa : Nat → Nat) (o : Nat) (f : Nat → Int64) (hst : l.stackTraces = false) (b : Int) (t : Int) (n : Int) (hA : aDs 17 a) (hO : ∀ i, i < 17 → a i ≠ o) (hI : XInv g) (yb : -2147483648 ≤ b ∧ b < 2147483648) (yt : -2147483648 ≤ t ∧ t < 2147483648) (yn : -2147483648 ≤ n ∧ n < 2147483648) (pl : Int) (hno : (pl = 1 ∧ ¬ (cmpA b t n)) ∨ (pl = 2 ∧ (cmpA b t n) ∧ ¬ (g 3 (5 + b * 5 + t).toNat = 1))) : WI l yL_soft wsL_soft ({ frames := 9, cells := 2, slots := 12, locals := 153 }) [.ref (a 0), .int (iI b), .int (iI t), .int (iI n), .ref o] (lB sa D a kk g o f) (pl) (fun H => va_P D vwCl (xW a kk g) H ∧ va_P D vwCl (outW o kk f) H) (oA a o) 2 12 := by
  refine va_MetW (cc := cL_soft) (maxL := 6) (ret := some .int) (hh := [(0, 12, 15, 13), (0, 12, 19, 26)]) (by decide) rfl ?_
  intro zp ze s zm av zb zt zc s₁ B hml hv
  obtain ⟨rfl, hT, hP, hW, hK, hN, hC⟩ := hv
  have hx := B.exec
  have hb := B.bytes
  have hr := B.returns
  have hts := atoms_spec (ws := wsL_soft) B.pre
  have hown : s.vm.findClass RL = some zm.cls := findClass_of_methodNamed B.named
  have hlocks := B.notSynchronized
  have hxt := vx_table (x := yL_soft) B (hts (.codeWith yL_soft cL_soft 6 (some .int) [(0, 12, 15, 13), (0, 12, 19, 26)]) (List.mem_of_getElem? (i := 0) rfl))
  have hS : va_S (oA a o) s.heap s.heap [] := va_S.rf
  have CF : CallFix zp zm zc cL_soft 6 s ([.ref (a 0), .int (iI b), .int (iI t), .int (iI n), .ref o] : List Value).toArray wsL_soft RL := ⟨hx, hb, hml, hown, hts⟩
  have hl := lv_entry ([.ref (a 0), .int (iI b), .int (iI t), .int (iI n), .ref o] : List Value) (n := 6) (Nat.le_of_ble_eq_true rfl)
  rw [lg_entry_eq]
  generalize (lg_sl ([.ref (a 0), .int (iI b), .int (iI t), .int (iI n), .ref o] : List Value) ++ List.replicate (6 - (lg_sl ([.ref (a 0), .int (iI b), .int (iI t), .int (iI n), .ref o] : List Value)).length) Slot.unset).toArray = ls at hl ⊢
  have hl : lv_has ls 6 [(0, .ref (a 0)), (1, .int (iI b)), (2, .int (iI t)), (3, .int (iI n)), (4, .ref o)] := hl
  refine lv_aload hx hb dL_soft_0 (lv_at hl 4 rfl) ?_
  refine ri_iconst hx hb dL_soft_2 ?_
  refine lv_aload_n hx hb dL_soft_3 rfl (lv_at hl 0 rfl) ?_
  refine lv_iload_n hx hb dL_soft_4 rfl (lv_at hl 1 rfl) ?_
  refine lv_iload_n hx hb dL_soft_5 rfl (lv_at hl 2 rfl) ?_
  refine lv_iload_n hx hb dL_soft_6 rfl (lv_at hl 3 rfl) ?_
  refine vx_calli (ri_runVX (b := a 0) (As := [.int (iI b), .int (iI t), .int (iI n)]) (rest := [.int (iI 0), .ref o]) CF (k_X3_soft l D a kk g sa hst b t n hA hI yb yt yn) gL_soft_X3_soft f_X3_soft rfl (va_recv hK hP (ci := 3) (q0 := 0) rfl rfl) ⟨rfl, rfl, (Nat.le_of_ble_eq_true rfl), (Nat.le_of_ble_eq_true rfl), (Nat.le_of_ble_eq_true rfl), (Nat.le_of_ble_eq_true rfl)⟩ pB_bl (pB_in hT hP hK hN) rfl hl.1 rfl (Nat.le_of_ble_eq_true rfl) dL_soft_7) hS (fun q _ h => Or.inl h) (fun q h => Or.inl h) (fun _ _ h => h.elim) (fun X ce q9 _ tz H1 locs1 ht hvm _ hB hz hk hS1 hce hcv hcl => ?_) (fun rz _ tz H1 locs1 ht hvm hp hB hz hk hS => ?_)
  · have hP1 := hP.un hk (fun _ _ _ z => z)
    have hW1 := hW.un hk (fun _ _ _ z => z)
    rcases (show _ ∨ _ from hB) with ⟨hX, hB9⟩ | ⟨hX, hB9⟩
    · subst hX
      have e1 : pl = 1 := hno.elim (fun z => z.1) (fun z => absurd z.2.1 hB9)
      refine vx_catch hown [] ⟨0, 12, 15, 13⟩ [⟨0, 12, 19, 26⟩] hxt (fun z hz => absurd hz List.not_mem_nil) rfl (by decide) (hts _ (List.mem_of_getElem? (i := 1) rfl)) (va_Nw.use rfl hT.2.2.2.2.2.2.2.2.1) hce hcv hcl ?_
      refine lv_astore (lv' := (5, .ref q9) :: [(0, .ref (a 0)), (1, .int (iI b)), (2, .int (iI t)), (3, .int (iI n)), (4, .ref o)]) hx hb dL_soft_15 hl (by decide) rfl (fun ls hl => ?_)
      refine ri_iconst hx hb dL_soft_17 ?_
      exact ri_iretW (A := oA a o) (PP := (fun H => va_P D vwCl (xW a kk g) H ∧ va_P D vwCl (outW o kk f) H)) hx hb hr hlocks hS1 ⟨hP1, hW1⟩ dL_soft_18 e1.symm
    · subst hX
      have e1 : pl = 2 := hno.elim (fun z => absurd hB9.1 z.2) (fun z => z.1)
      refine vx_catch hown [⟨0, 12, 15, 13⟩] ⟨0, 12, 19, 26⟩ [] hxt (fun z hz => by rw [List.mem_singleton.mp hz]; exact Or.inr ⟨by decide, "java/lang/IllegalArgumentException", hts _ (List.mem_of_getElem? (i := 1) rfl), hC⟩) rfl (by decide) (hts _ (List.mem_of_getElem? (i := 2) rfl)) (va_Nw.use rfl hT.2.2.2.2.2.2.2.2.2) hce hcv hcl ?_
      refine lv_astore (lv' := (5, .ref q9) :: [(0, .ref (a 0)), (1, .int (iI b)), (2, .int (iI t)), (3, .int (iI n)), (4, .ref o)]) hx hb dL_soft_19 hl (by decide) rfl (fun ls hl => ?_)
      refine ri_iconst hx hb dL_soft_21 ?_
      exact ri_iretW (A := oA a o) (PP := (fun H => va_P D vwCl (xW a kk g) H ∧ va_P D vwCl (outW o kk f) H)) hx hb hr hlocks hS1 ⟨hP1, hW1⟩ dL_soft_22 e1.symm
  · exact (hno.elim (fun z => z.2 hp.1.1) (fun z => z.2.2 hp.1.2)).elim

set_option maxHeartbeats 4000000 in
set_option maxRecDepth 100000 in
theorem kL_run_ok (l : Launch) (D : va_G) (a : Nat → Nat) (kk : Nat → ClassId) (g : Nat → Nat → Int) (sa : Nat → Nat) (o : Nat) (f : Nat → Int64) (hst : l.stackTraces = false) (b : Int) (t : Int) (n : Int) (hA : aDs 17 a) (hO : ∀ i, i < 17 → a i ≠ o) (hI : XInv g) (yb : -2147483648 ≤ b ∧ b < 2147483648) (yt : -2147483648 ≤ t ∧ t < 2147483648) (yn : -2147483648 ≤ n ∧ n < 2147483648) (hok : cmpA b t n ∧ g 3 (5 + b * 5 + t).toNat = 1) : WI l yL_run wsL_run ({ frames := 9, cells := 2, slots := 12, locals := 176 }) [.ref (a 0), .int (iI b), .int (iI t), .int (iI n), .ref o] (lB sa D a kk g o f) (0) (fun H => va_P D vwCl (xW a kk (hisG g t (bp (fdE (cmpD (px (g 2) t) (px (g 2) (5 + b * 5 + t)) n (g 5 t.toNat) (g 6 t.toNat) (g 7 t.toNat) (g 8 t.toNat) (g 10 t.toNat) (g 11 t.toNat) (g 12 t.toNat) (g 13 t.toNat)) < 0)))) H ∧ va_P D vwCl (outW o kk (vp_updL f 0 (iI (bp (fdE (cmpD (px (g 2) t) (px (g 2) (5 + b * 5 + t)) n (g 5 t.toNat) (g 6 t.toNat) (g 7 t.toNat) (g 8 t.toNat) (g 10 t.toNat) (g 11 t.toNat) (g 12 t.toNat) (g 13 t.toNat)) < 0))).toInt64)) H) (oA a o) 2 12 := by
  refine va_MetW (cc := cL_run) (maxL := 6) (ret := some .int) (hh := [(0, 19, 22, 13), (0, 19, 26, 26)]) (by decide) rfl ?_
  intro zp ze s zm av zb zt zc s₁ B hml hv
  obtain ⟨rfl, hT, hP, hW, hK, hN, hC⟩ := hv
  have hx := B.exec
  have hb := B.bytes
  have hr := B.returns
  have hts := atoms_spec (ws := wsL_run) B.pre
  have hown : s.vm.findClass RL = some zm.cls := findClass_of_methodNamed B.named
  have hlocks := B.notSynchronized
  have hxt := vx_table (x := yL_run) B (hts (.codeWith yL_run cL_run 6 (some .int) [(0, 19, 22, 13), (0, 19, 26, 26)]) (List.mem_of_getElem? (i := 0) rfl))
  have hS : va_S (oA a o) s.heap s.heap [] := va_S.rf
  have CF : CallFix zp zm zc cL_run 6 s ([.ref (a 0), .int (iI b), .int (iI t), .int (iI n), .ref o] : List Value).toArray wsL_run RL := ⟨hx, hb, hml, hown, hts⟩
  have hl := lv_entry ([.ref (a 0), .int (iI b), .int (iI t), .int (iI n), .ref o] : List Value) (n := 6) (Nat.le_of_ble_eq_true rfl)
  rw [lg_entry_eq]
  generalize (lg_sl ([.ref (a 0), .int (iI b), .int (iI t), .int (iI n), .ref o] : List Value) ++ List.replicate (6 - (lg_sl ([.ref (a 0), .int (iI b), .int (iI t), .int (iI n), .ref o] : List Value)).length) Slot.unset).toArray = ls at hl ⊢
  have hl : lv_has ls 6 [(0, .ref (a 0)), (1, .int (iI b)), (2, .int (iI t)), (3, .int (iI n)), (4, .ref o)] := hl
  refine lv_aload hx hb dL_run_0 (lv_at hl 4 rfl) ?_
  refine ri_iconst hx hb dL_run_2 ?_
  refine lv_aload_n hx hb dL_run_3 rfl (lv_at hl 0 rfl) ?_
  refine lv_iload_n hx hb dL_run_4 rfl (lv_at hl 1 rfl) ?_
  refine lv_iload_n hx hb dL_run_5 rfl (lv_at hl 2 rfl) ?_
  refine lv_iload_n hx hb dL_run_6 rfl (lv_at hl 3 rfl) ?_
  refine vx_calli (ri_runVX (b := a 0) (As := [.int (iI b), .int (iI t), .int (iI n)]) (rest := [.int (iI 0), .ref o]) CF (k_X3_run l D a kk g sa hst b t n hA hI yb yt yn) gL_run_X3_run f_X3_run rfl (va_recv hK hP (ci := 3) (q0 := 0) rfl rfl) ⟨rfl, rfl, (Nat.le_of_ble_eq_true rfl), (Nat.le_of_ble_eq_true rfl), (Nat.le_of_ble_eq_true rfl), (Nat.le_of_ble_eq_true rfl)⟩ pB_bl (pB_in hT hP hK hN) rfl hl.1 rfl (Nat.le_of_ble_eq_true rfl) dL_run_7) hS (fun q _ h => Or.inl h) (fun q h => Or.inl h) (fun _ _ h => h.elim) (fun X ce q9 _ tz H1 locs1 ht hvm _ hB hz hk hS1 hce hcv hcl => ?_) (fun rz _ tz H1 locs1 ht hvm hp hB hz hk hS => ?_)
  · exact Or.elim hB (fun z => absurd hok.1 z.2) (fun z => absurd hok.2 z.2.2)
  · have hP2 : va_P D vwCl (xW a kk (hisG g t (bp (fdE (cmpD (px (g 2) t) (px (g 2) (5 + b * 5 + t)) n (g 5 t.toNat) (g 6 t.toNat) (g 7 t.toNat) (g 8 t.toNat) (g 10 t.toNat) (g 11 t.toNat) (g 12 t.toNat) (g 13 t.toNat)) < 0)))) H1 := ht ▸ hB
    have hW2 := hW.un hk (out_un hO)
    obtain ⟨_, hpr⟩ := hp
    subst hpr
    refine ri_ifeq_b (tgt := 17) hx hb dL_run_10 (by decide) (fun hq => ?_) (fun hq => ?_)
    · refine lv_lconst (v := 0) hx hb dL_run_17 rfl ?_
      refine ro_last (x := 0) hx hb hK hW2 hS dL_run_18 (fun H2 locs2 hW3 hq2 hS => ?_)
      have hP3 : va_P D vwCl (xW a kk (hisG g t (bp (fdE (cmpD (px (g 2) t) (px (g 2) (5 + b * 5 + t)) n (g 5 t.toNat) (g 6 t.toNat) (g 7 t.toNat) (g 8 t.toNat) (g 10 t.toNat) (g 11 t.toNat) (g 12 t.toNat) (g 13 t.toNat)) < 0)))) H2 := hP2.un (A := fun q => q = o) hq2 (x_un hO)
      have hW4 : va_P D vwCl (outW o kk (vp_updL f 0 (iI (bp (fdE (cmpD (px (g 2) t) (px (g 2) (5 + b * 5 + t)) n (g 5 t.toNat) (g 6 t.toNat) (g 7 t.toNat) (g 8 t.toNat) (g 10 t.toNat) (g 11 t.toNat) (g 12 t.toNat) (g 13 t.toNat)) < 0))).toInt64)) H2 := by
        rw [bp_f hq]; exact hW3
      refine lv_goto (tgt := 30) hx hb dL_run_19 (by decide) ?_
      refine ri_iconst hx hb dL_run_30 ?_
      exact ri_iretW (A := oA a o) (PP := (fun H => va_P D vwCl (xW a kk (hisG g t (bp (fdE (cmpD (px (g 2) t) (px (g 2) (5 + b * 5 + t)) n (g 5 t.toNat) (g 6 t.toNat) (g 7 t.toNat) (g 8 t.toNat) (g 10 t.toNat) (g 11 t.toNat) (g 12 t.toNat) (g 13 t.toNat)) < 0)))) H ∧ va_P D vwCl (outW o kk (vp_updL f 0 (iI (bp (fdE (cmpD (px (g 2) t) (px (g 2) (5 + b * 5 + t)) n (g 5 t.toNat) (g 6 t.toNat) (g 7 t.toNat) (g 8 t.toNat) (g 10 t.toNat) (g 11 t.toNat) (g 12 t.toNat) (g 13 t.toNat)) < 0))).toInt64)) H)) hx hb hr hlocks hS ⟨hP3, hW4⟩ dL_run_31 rfl
    · refine lv_lconst (v := 1) hx hb dL_run_13 rfl ?_
      refine lv_goto (tgt := 18) hx hb dL_run_14 (by decide) ?_
      refine ro_last (x := 1) hx hb hK hW2 hS dL_run_18 (fun H2 locs2 hW3 hq2 hS => ?_)
      have hP3 : va_P D vwCl (xW a kk (hisG g t (bp (fdE (cmpD (px (g 2) t) (px (g 2) (5 + b * 5 + t)) n (g 5 t.toNat) (g 6 t.toNat) (g 7 t.toNat) (g 8 t.toNat) (g 10 t.toNat) (g 11 t.toNat) (g 12 t.toNat) (g 13 t.toNat)) < 0)))) H2 := hP2.un (A := fun q => q = o) hq2 (x_un hO)
      have hW4 : va_P D vwCl (outW o kk (vp_updL f 0 (iI (bp (fdE (cmpD (px (g 2) t) (px (g 2) (5 + b * 5 + t)) n (g 5 t.toNat) (g 6 t.toNat) (g 7 t.toNat) (g 8 t.toNat) (g 10 t.toNat) (g 11 t.toNat) (g 12 t.toNat) (g 13 t.toNat)) < 0))).toInt64)) H2 := by
        rw [bp_t hq]; exact hW3
      refine lv_goto (tgt := 30) hx hb dL_run_19 (by decide) ?_
      refine ri_iconst hx hb dL_run_30 ?_
      exact ri_iretW (A := oA a o) (PP := (fun H => va_P D vwCl (xW a kk (hisG g t (bp (fdE (cmpD (px (g 2) t) (px (g 2) (5 + b * 5 + t)) n (g 5 t.toNat) (g 6 t.toNat) (g 7 t.toNat) (g 8 t.toNat) (g 10 t.toNat) (g 11 t.toNat) (g 12 t.toNat) (g 13 t.toNat)) < 0)))) H ∧ va_P D vwCl (outW o kk (vp_updL f 0 (iI (bp (fdE (cmpD (px (g 2) t) (px (g 2) (5 + b * 5 + t)) n (g 5 t.toNat) (g 6 t.toNat) (g 7 t.toNat) (g 8 t.toNat) (g 10 t.toNat) (g 11 t.toNat) (g 12 t.toNat) (g 13 t.toNat)) < 0))).toInt64)) H)) hx hb hr hlocks hS ⟨hP3, hW4⟩ dL_run_31 rfl

set_option maxHeartbeats 4000000 in
set_option maxRecDepth 100000 in
theorem kL_run_no (l : Launch) (D : va_G) (a : Nat → Nat) (kk : Nat → ClassId) (g : Nat → Nat → Int) (sa : Nat → Nat) (o : Nat) (f : Nat → Int64) (hst : l.stackTraces = false) (b : Int) (t : Int) (n : Int) (hA : aDs 17 a) (hO : ∀ i, i < 17 → a i ≠ o) (hI : XInv g) (yb : -2147483648 ≤ b ∧ b < 2147483648) (yt : -2147483648 ≤ t ∧ t < 2147483648) (yn : -2147483648 ≤ n ∧ n < 2147483648) (pl : Int) (hno : (pl = 1 ∧ ¬ (cmpA b t n)) ∨ (pl = 2 ∧ (cmpA b t n) ∧ ¬ (g 3 (5 + b * 5 + t).toNat = 1))) : WI l yL_run wsL_run ({ frames := 9, cells := 2, slots := 12, locals := 176 }) [.ref (a 0), .int (iI b), .int (iI t), .int (iI n), .ref o] (lB sa D a kk g o f) (pl) (fun H => va_P D vwCl (xW a kk g) H ∧ va_P D vwCl (outW o kk f) H) (oA a o) 2 12 := by
  refine va_MetW (cc := cL_run) (maxL := 6) (ret := some .int) (hh := [(0, 19, 22, 13), (0, 19, 26, 26)]) (by decide) rfl ?_
  intro zp ze s zm av zb zt zc s₁ B hml hv
  obtain ⟨rfl, hT, hP, hW, hK, hN, hC⟩ := hv
  have hx := B.exec
  have hb := B.bytes
  have hr := B.returns
  have hts := atoms_spec (ws := wsL_run) B.pre
  have hown : s.vm.findClass RL = some zm.cls := findClass_of_methodNamed B.named
  have hlocks := B.notSynchronized
  have hxt := vx_table (x := yL_run) B (hts (.codeWith yL_run cL_run 6 (some .int) [(0, 19, 22, 13), (0, 19, 26, 26)]) (List.mem_of_getElem? (i := 0) rfl))
  have hS : va_S (oA a o) s.heap s.heap [] := va_S.rf
  have CF : CallFix zp zm zc cL_run 6 s ([.ref (a 0), .int (iI b), .int (iI t), .int (iI n), .ref o] : List Value).toArray wsL_run RL := ⟨hx, hb, hml, hown, hts⟩
  have hl := lv_entry ([.ref (a 0), .int (iI b), .int (iI t), .int (iI n), .ref o] : List Value) (n := 6) (Nat.le_of_ble_eq_true rfl)
  rw [lg_entry_eq]
  generalize (lg_sl ([.ref (a 0), .int (iI b), .int (iI t), .int (iI n), .ref o] : List Value) ++ List.replicate (6 - (lg_sl ([.ref (a 0), .int (iI b), .int (iI t), .int (iI n), .ref o] : List Value)).length) Slot.unset).toArray = ls at hl ⊢
  have hl : lv_has ls 6 [(0, .ref (a 0)), (1, .int (iI b)), (2, .int (iI t)), (3, .int (iI n)), (4, .ref o)] := hl
  refine lv_aload hx hb dL_run_0 (lv_at hl 4 rfl) ?_
  refine ri_iconst hx hb dL_run_2 ?_
  refine lv_aload_n hx hb dL_run_3 rfl (lv_at hl 0 rfl) ?_
  refine lv_iload_n hx hb dL_run_4 rfl (lv_at hl 1 rfl) ?_
  refine lv_iload_n hx hb dL_run_5 rfl (lv_at hl 2 rfl) ?_
  refine lv_iload_n hx hb dL_run_6 rfl (lv_at hl 3 rfl) ?_
  refine vx_calli (ri_runVX (b := a 0) (As := [.int (iI b), .int (iI t), .int (iI n)]) (rest := [.int (iI 0), .ref o]) CF (k_X3_run l D a kk g sa hst b t n hA hI yb yt yn) gL_run_X3_run f_X3_run rfl (va_recv hK hP (ci := 3) (q0 := 0) rfl rfl) ⟨rfl, rfl, (Nat.le_of_ble_eq_true rfl), (Nat.le_of_ble_eq_true rfl), (Nat.le_of_ble_eq_true rfl), (Nat.le_of_ble_eq_true rfl)⟩ pB_bl (pB_in hT hP hK hN) rfl hl.1 rfl (Nat.le_of_ble_eq_true rfl) dL_run_7) hS (fun q _ h => Or.inl h) (fun q h => Or.inl h) (fun _ _ h => h.elim) (fun X ce q9 _ tz H1 locs1 ht hvm _ hB hz hk hS1 hce hcv hcl => ?_) (fun rz _ tz H1 locs1 ht hvm hp hB hz hk hS => ?_)
  · have hP1 := hP.un hk (fun _ _ _ z => z)
    have hW1 := hW.un hk (fun _ _ _ z => z)
    rcases (show _ ∨ _ from hB) with ⟨hX, hB9⟩ | ⟨hX, hB9⟩
    · subst hX
      have e1 : pl = 1 := hno.elim (fun z => z.1) (fun z => absurd z.2.1 hB9)
      refine vx_catch hown [] ⟨0, 19, 22, 13⟩ [⟨0, 19, 26, 26⟩] hxt (fun z hz => absurd hz List.not_mem_nil) rfl (by decide) (hts _ (List.mem_of_getElem? (i := 1) rfl)) (va_Nw.use rfl hT.2.2.2.2.2.2.2.2.1) hce hcv hcl ?_
      refine lv_astore (lv' := (5, .ref q9) :: [(0, .ref (a 0)), (1, .int (iI b)), (2, .int (iI t)), (3, .int (iI n)), (4, .ref o)]) hx hb dL_run_22 hl (by decide) rfl (fun ls hl => ?_)
      refine ri_iconst hx hb dL_run_24 ?_
      exact ri_iretW (A := oA a o) (PP := (fun H => va_P D vwCl (xW a kk g) H ∧ va_P D vwCl (outW o kk f) H)) hx hb hr hlocks hS1 ⟨hP1, hW1⟩ dL_run_25 e1.symm
    · subst hX
      have e1 : pl = 2 := hno.elim (fun z => absurd hB9.1 z.2) (fun z => z.1)
      refine vx_catch hown [⟨0, 19, 22, 13⟩] ⟨0, 19, 26, 26⟩ [] hxt (fun z hz => by rw [List.mem_singleton.mp hz]; exact Or.inr ⟨by decide, "java/lang/IllegalArgumentException", hts _ (List.mem_of_getElem? (i := 1) rfl), hC⟩) rfl (by decide) (hts _ (List.mem_of_getElem? (i := 2) rfl)) (va_Nw.use rfl hT.2.2.2.2.2.2.2.2.2) hce hcv hcl ?_
      refine lv_astore (lv' := (5, .ref q9) :: [(0, .ref (a 0)), (1, .int (iI b)), (2, .int (iI t)), (3, .int (iI n)), (4, .ref o)]) hx hb dL_run_26 hl (by decide) rfl (fun ls hl => ?_)
      refine ri_iconst hx hb dL_run_28 ?_
      exact ri_iretW (A := oA a o) (PP := (fun H => va_P D vwCl (xW a kk g) H ∧ va_P D vwCl (outW o kk f) H)) hx hb hr hlocks hS1 ⟨hP1, hW1⟩ dL_run_29 e1.symm
  · exact (hno.elim (fun z => z.2 hp.1.1) (fun z => z.2.2 hp.1.2)).elim

set_option maxHeartbeats 4000000 in
set_option maxRecDepth 100000 in
theorem kL_runs_ok (l : Launch) (D : va_G) (a : Nat → Nat) (kk : Nat → ClassId) (g : Nat → Nat → Int) (sa : Nat → Nat) (o : Nat) (f : Nat → Int64) (hst : l.stackTraces = false) (t : Int) (hA : aDs 17 a) (hO : ∀ i, i < 17 → a i ≠ o) (hI : XInv g) (yt : -2147483648 ≤ t ∧ t < 2147483648) (hok : 0 ≤ t ∧ t ≤ 4) : WI l yL_runs wsL_runs ({ frames := 8, cells := 1, slots := 6, locals := 125 }) [.ref (a 0), .int (iI t), .ref o] (lB sa D a kk g o f) (0) (fun H => va_P D vwCl (xW a kk (g)) H ∧ va_P D vwCl (outW o kk (vp_updL f 0 (iI (g 16 t.toNat)).toInt64)) H) (oA a o) 1 6 := by
  refine va_MetW (cc := cL_runs) (maxL := 4) (ret := some .int) (hh := [(0, 9, 12, 13)]) (by decide) rfl ?_
  intro zp ze s zm av zb zt zc s₁ B hml hv
  obtain ⟨rfl, hT, hP, hW, hK, hN, hC⟩ := hv
  have hx := B.exec
  have hb := B.bytes
  have hr := B.returns
  have hts := atoms_spec (ws := wsL_runs) B.pre
  have hown : s.vm.findClass RL = some zm.cls := findClass_of_methodNamed B.named
  have hlocks := B.notSynchronized
  have hxt := vx_table (x := yL_runs) B (hts (.codeWith yL_runs cL_runs 4 (some .int) [(0, 9, 12, 13)]) (List.mem_of_getElem? (i := 0) rfl))
  have hS : va_S (oA a o) s.heap s.heap [] := va_S.rf
  have CF : CallFix zp zm zc cL_runs 4 s ([.ref (a 0), .int (iI t), .ref o] : List Value).toArray wsL_runs RL := ⟨hx, hb, hml, hown, hts⟩
  have hl := lv_entry ([.ref (a 0), .int (iI t), .ref o] : List Value) (n := 4) (Nat.le_of_ble_eq_true rfl)
  rw [lg_entry_eq]
  generalize (lg_sl ([.ref (a 0), .int (iI t), .ref o] : List Value) ++ List.replicate (4 - (lg_sl ([.ref (a 0), .int (iI t), .ref o] : List Value)).length) Slot.unset).toArray = ls at hl ⊢
  have hl : lv_has ls 4 [(0, .ref (a 0)), (1, .int (iI t)), (2, .ref o)] := hl
  refine lv_aload_n hx hb dL_runs_0 rfl (lv_at hl 2 rfl) ?_
  refine ri_iconst hx hb dL_runs_1 ?_
  refine lv_aload_n hx hb dL_runs_2 rfl (lv_at hl 0 rfl) ?_
  refine lv_iload_n hx hb dL_runs_3 rfl (lv_at hl 1 rfl) ?_
  refine vx_calli (ri_runVX (b := a 0) (As := [.int (iI t)]) (rest := [.int (iI 0), .ref o]) CF (k_X3_runs l D a kk g sa hst t hA hI yt) gL_runs_X3_runs f_X3_runs rfl (va_recv hK hP (ci := 3) (q0 := 0) rfl rfl) ⟨rfl, rfl, (Nat.le_of_ble_eq_true rfl), (Nat.le_of_ble_eq_true rfl), (Nat.le_of_ble_eq_true rfl), (Nat.le_of_ble_eq_true rfl)⟩ pB_bl (pB_in hT hP hK hN) rfl hl.1 rfl (Nat.le_of_ble_eq_true rfl) dL_runs_4) hS (fun q _ h => Or.inl h) (fun q h => Or.inl h) (fun _ _ h => h.elim) (fun X ce q9 _ tz H1 locs1 ht hvm _ hB hz hk hS1 hce hcv hcl => ?_) (fun rz _ tz H1 locs1 ht hvm hp hB hz hk hS => ?_)
  · exact absurd hok hB.2
  · have hP2 : va_P D vwCl (xW a kk (g)) H1 := ht ▸ hB
    have hW2 := hW.un hk (out_un hO)
    obtain ⟨_, hpr⟩ := hp
    subst hpr
    refine lv_i2l (v := (iI (g 16 t.toNat)).toInt64) hx hb dL_runs_7 rfl ?_
    refine ro_last (x := (iI (g 16 t.toNat)).toInt64) hx hb hK hW2 hS dL_runs_8 (fun H2 locs2 hW3 hq2 hS => ?_)
    have hP3 : va_P D vwCl (xW a kk (g)) H2 := hP2.un (A := fun q => q = o) hq2 (x_un hO)
    have hW4 : va_P D vwCl (outW o kk (vp_updL f 0 (iI (g 16 t.toNat)).toInt64)) H2 := by
      exact hW3
    refine lv_goto (tgt := 15) hx hb dL_runs_9 (by decide) ?_
    refine ri_iconst hx hb dL_runs_15 ?_
    exact ri_iretW (A := oA a o) (PP := (fun H => va_P D vwCl (xW a kk (g)) H ∧ va_P D vwCl (outW o kk (vp_updL f 0 (iI (g 16 t.toNat)).toInt64)) H)) hx hb hr hlocks hS ⟨hP3, hW4⟩ dL_runs_16 rfl

set_option maxHeartbeats 4000000 in
set_option maxRecDepth 100000 in
theorem kL_runs_no (l : Launch) (D : va_G) (a : Nat → Nat) (kk : Nat → ClassId) (g : Nat → Nat → Int) (sa : Nat → Nat) (o : Nat) (f : Nat → Int64) (hst : l.stackTraces = false) (t : Int) (hA : aDs 17 a) (hO : ∀ i, i < 17 → a i ≠ o) (hI : XInv g) (yt : -2147483648 ≤ t ∧ t < 2147483648) (hno : ¬ (0 ≤ t ∧ t ≤ 4)) : WI l yL_runs wsL_runs ({ frames := 8, cells := 1, slots := 6, locals := 125 }) [.ref (a 0), .int (iI t), .ref o] (lB sa D a kk g o f) (1) (fun H => va_P D vwCl (xW a kk g) H ∧ va_P D vwCl (outW o kk f) H) (oA a o) 1 6 := by
  refine va_MetW (cc := cL_runs) (maxL := 4) (ret := some .int) (hh := [(0, 9, 12, 13)]) (by decide) rfl ?_
  intro zp ze s zm av zb zt zc s₁ B hml hv
  obtain ⟨rfl, hT, hP, hW, hK, hN, hC⟩ := hv
  have hx := B.exec
  have hb := B.bytes
  have hr := B.returns
  have hts := atoms_spec (ws := wsL_runs) B.pre
  have hown : s.vm.findClass RL = some zm.cls := findClass_of_methodNamed B.named
  have hlocks := B.notSynchronized
  have hxt := vx_table (x := yL_runs) B (hts (.codeWith yL_runs cL_runs 4 (some .int) [(0, 9, 12, 13)]) (List.mem_of_getElem? (i := 0) rfl))
  have hS : va_S (oA a o) s.heap s.heap [] := va_S.rf
  have CF : CallFix zp zm zc cL_runs 4 s ([.ref (a 0), .int (iI t), .ref o] : List Value).toArray wsL_runs RL := ⟨hx, hb, hml, hown, hts⟩
  have hl := lv_entry ([.ref (a 0), .int (iI t), .ref o] : List Value) (n := 4) (Nat.le_of_ble_eq_true rfl)
  rw [lg_entry_eq]
  generalize (lg_sl ([.ref (a 0), .int (iI t), .ref o] : List Value) ++ List.replicate (4 - (lg_sl ([.ref (a 0), .int (iI t), .ref o] : List Value)).length) Slot.unset).toArray = ls at hl ⊢
  have hl : lv_has ls 4 [(0, .ref (a 0)), (1, .int (iI t)), (2, .ref o)] := hl
  refine lv_aload_n hx hb dL_runs_0 rfl (lv_at hl 2 rfl) ?_
  refine ri_iconst hx hb dL_runs_1 ?_
  refine lv_aload_n hx hb dL_runs_2 rfl (lv_at hl 0 rfl) ?_
  refine lv_iload_n hx hb dL_runs_3 rfl (lv_at hl 1 rfl) ?_
  refine vx_calli (ri_runVX (b := a 0) (As := [.int (iI t)]) (rest := [.int (iI 0), .ref o]) CF (k_X3_runs l D a kk g sa hst t hA hI yt) gL_runs_X3_runs f_X3_runs rfl (va_recv hK hP (ci := 3) (q0 := 0) rfl rfl) ⟨rfl, rfl, (Nat.le_of_ble_eq_true rfl), (Nat.le_of_ble_eq_true rfl), (Nat.le_of_ble_eq_true rfl), (Nat.le_of_ble_eq_true rfl)⟩ pB_bl (pB_in hT hP hK hN) rfl hl.1 rfl (Nat.le_of_ble_eq_true rfl) dL_runs_4) hS (fun q _ h => Or.inl h) (fun q h => Or.inl h) (fun _ _ h => h.elim) (fun X ce q9 _ tz H1 locs1 ht hvm _ hB hz hk hS1 hce hcv hcl => ?_) (fun rz _ tz H1 locs1 ht hvm hp hB hz hk hS => ?_)
  · have hP1 := hP.un hk (fun _ _ _ z => z)
    have hW1 := hW.un hk (fun _ _ _ z => z)
    obtain ⟨hX, hB⟩ := hB
    subst hX
    refine vx_catch hown [] ⟨0, 9, 12, 13⟩ [] hxt (fun z hz => absurd hz List.not_mem_nil) rfl (by decide) (hts _ (List.mem_of_getElem? (i := 1) rfl)) (va_Nw.use rfl hT.2.2.2.2.2.2.2.2.1) hce hcv hcl ?_
    refine lv_astore_n (lv' := (3, .ref q9) :: [(0, .ref (a 0)), (1, .int (iI t)), (2, .ref o)]) hx hb dL_runs_12 rfl hl (by decide) rfl (fun ls hl => ?_)
    refine ri_iconst hx hb dL_runs_13 ?_
    exact ri_iretW (A := oA a o) (PP := (fun H => va_P D vwCl (xW a kk g) H ∧ va_P D vwCl (outW o kk f) H)) hx hb hr hlocks hS1 ⟨hP1, hW1⟩ dL_runs_14 rfl
  · exact absurd hp.1 hno

set_option maxHeartbeats 4000000 in
set_option maxRecDepth 100000 in
theorem kL_doubt_ok (l : Launch) (D : va_G) (a : Nat → Nat) (kk : Nat → ClassId) (g : Nat → Nat → Int) (sa : Nat → Nat) (o : Nat) (f : Nat → Int64) (hst : l.stackTraces = false) (t : Int) (hA : aDs 17 a) (hO : ∀ i, i < 17 → a i ≠ o) (hI : XInv g) (yt : -2147483648 ≤ t ∧ t < 2147483648) (hok : 0 ≤ t ∧ t ≤ 4) : WI l yL_doubt wsL_doubt ({ frames := 8, cells := 1, slots := 6, locals := 126 }) [.ref (a 0), .int (iI t), .ref o] (lB sa D a kk g o f) (0) (fun H => va_P D vwCl (xW a kk (g)) H ∧ va_P D vwCl (outW o kk (vp_updL f 0 (iI (dbt (g 15 t.toNat) (g 16 t.toNat))).toInt64)) H) (oA a o) 1 6 := by
  refine va_MetW (cc := cL_doubt) (maxL := 4) (ret := some .int) (hh := [(0, 9, 12, 13)]) (by decide) rfl ?_
  intro zp ze s zm av zb zt zc s₁ B hml hv
  obtain ⟨rfl, hT, hP, hW, hK, hN, hC⟩ := hv
  have hx := B.exec
  have hb := B.bytes
  have hr := B.returns
  have hts := atoms_spec (ws := wsL_doubt) B.pre
  have hown : s.vm.findClass RL = some zm.cls := findClass_of_methodNamed B.named
  have hlocks := B.notSynchronized
  have hxt := vx_table (x := yL_doubt) B (hts (.codeWith yL_doubt cL_doubt 4 (some .int) [(0, 9, 12, 13)]) (List.mem_of_getElem? (i := 0) rfl))
  have hS : va_S (oA a o) s.heap s.heap [] := va_S.rf
  have CF : CallFix zp zm zc cL_doubt 4 s ([.ref (a 0), .int (iI t), .ref o] : List Value).toArray wsL_doubt RL := ⟨hx, hb, hml, hown, hts⟩
  have hl := lv_entry ([.ref (a 0), .int (iI t), .ref o] : List Value) (n := 4) (Nat.le_of_ble_eq_true rfl)
  rw [lg_entry_eq]
  generalize (lg_sl ([.ref (a 0), .int (iI t), .ref o] : List Value) ++ List.replicate (4 - (lg_sl ([.ref (a 0), .int (iI t), .ref o] : List Value)).length) Slot.unset).toArray = ls at hl ⊢
  have hl : lv_has ls 4 [(0, .ref (a 0)), (1, .int (iI t)), (2, .ref o)] := hl
  refine lv_aload_n hx hb dL_doubt_0 rfl (lv_at hl 2 rfl) ?_
  refine ri_iconst hx hb dL_doubt_1 ?_
  refine lv_aload_n hx hb dL_doubt_2 rfl (lv_at hl 0 rfl) ?_
  refine lv_iload_n hx hb dL_doubt_3 rfl (lv_at hl 1 rfl) ?_
  refine vx_calli (ri_runVX (b := a 0) (As := [.int (iI t)]) (rest := [.int (iI 0), .ref o]) CF (k_X3_doubt l D a kk g sa hst t hA hI yt) gL_doubt_X3_doubt f_X3_doubt rfl (va_recv hK hP (ci := 3) (q0 := 0) rfl rfl) ⟨rfl, rfl, (Nat.le_of_ble_eq_true rfl), (Nat.le_of_ble_eq_true rfl), (Nat.le_of_ble_eq_true rfl), (Nat.le_of_ble_eq_true rfl)⟩ pB_bl (pB_in hT hP hK hN) rfl hl.1 rfl (Nat.le_of_ble_eq_true rfl) dL_doubt_4) hS (fun q _ h => Or.inl h) (fun q h => Or.inl h) (fun _ _ h => h.elim) (fun X ce q9 _ tz H1 locs1 ht hvm _ hB hz hk hS1 hce hcv hcl => ?_) (fun rz _ tz H1 locs1 ht hvm hp hB hz hk hS => ?_)
  · exact absurd hok hB.2
  · have hP2 : va_P D vwCl (xW a kk (g)) H1 := ht ▸ hB
    have hW2 := hW.un hk (out_un hO)
    obtain ⟨_, hpr⟩ := hp
    subst hpr
    refine lv_i2l (v := (iI (dbt (g 15 t.toNat) (g 16 t.toNat))).toInt64) hx hb dL_doubt_7 rfl ?_
    refine ro_last (x := (iI (dbt (g 15 t.toNat) (g 16 t.toNat))).toInt64) hx hb hK hW2 hS dL_doubt_8 (fun H2 locs2 hW3 hq2 hS => ?_)
    have hP3 : va_P D vwCl (xW a kk (g)) H2 := hP2.un (A := fun q => q = o) hq2 (x_un hO)
    have hW4 : va_P D vwCl (outW o kk (vp_updL f 0 (iI (dbt (g 15 t.toNat) (g 16 t.toNat))).toInt64)) H2 := by
      exact hW3
    refine lv_goto (tgt := 15) hx hb dL_doubt_9 (by decide) ?_
    refine ri_iconst hx hb dL_doubt_15 ?_
    exact ri_iretW (A := oA a o) (PP := (fun H => va_P D vwCl (xW a kk (g)) H ∧ va_P D vwCl (outW o kk (vp_updL f 0 (iI (dbt (g 15 t.toNat) (g 16 t.toNat))).toInt64)) H)) hx hb hr hlocks hS ⟨hP3, hW4⟩ dL_doubt_16 rfl

set_option maxHeartbeats 4000000 in
set_option maxRecDepth 100000 in
theorem kL_doubt_no (l : Launch) (D : va_G) (a : Nat → Nat) (kk : Nat → ClassId) (g : Nat → Nat → Int) (sa : Nat → Nat) (o : Nat) (f : Nat → Int64) (hst : l.stackTraces = false) (t : Int) (hA : aDs 17 a) (hO : ∀ i, i < 17 → a i ≠ o) (hI : XInv g) (yt : -2147483648 ≤ t ∧ t < 2147483648) (hno : ¬ (0 ≤ t ∧ t ≤ 4)) : WI l yL_doubt wsL_doubt ({ frames := 8, cells := 1, slots := 6, locals := 126 }) [.ref (a 0), .int (iI t), .ref o] (lB sa D a kk g o f) (1) (fun H => va_P D vwCl (xW a kk g) H ∧ va_P D vwCl (outW o kk f) H) (oA a o) 1 6 := by
  refine va_MetW (cc := cL_doubt) (maxL := 4) (ret := some .int) (hh := [(0, 9, 12, 13)]) (by decide) rfl ?_
  intro zp ze s zm av zb zt zc s₁ B hml hv
  obtain ⟨rfl, hT, hP, hW, hK, hN, hC⟩ := hv
  have hx := B.exec
  have hb := B.bytes
  have hr := B.returns
  have hts := atoms_spec (ws := wsL_doubt) B.pre
  have hown : s.vm.findClass RL = some zm.cls := findClass_of_methodNamed B.named
  have hlocks := B.notSynchronized
  have hxt := vx_table (x := yL_doubt) B (hts (.codeWith yL_doubt cL_doubt 4 (some .int) [(0, 9, 12, 13)]) (List.mem_of_getElem? (i := 0) rfl))
  have hS : va_S (oA a o) s.heap s.heap [] := va_S.rf
  have CF : CallFix zp zm zc cL_doubt 4 s ([.ref (a 0), .int (iI t), .ref o] : List Value).toArray wsL_doubt RL := ⟨hx, hb, hml, hown, hts⟩
  have hl := lv_entry ([.ref (a 0), .int (iI t), .ref o] : List Value) (n := 4) (Nat.le_of_ble_eq_true rfl)
  rw [lg_entry_eq]
  generalize (lg_sl ([.ref (a 0), .int (iI t), .ref o] : List Value) ++ List.replicate (4 - (lg_sl ([.ref (a 0), .int (iI t), .ref o] : List Value)).length) Slot.unset).toArray = ls at hl ⊢
  have hl : lv_has ls 4 [(0, .ref (a 0)), (1, .int (iI t)), (2, .ref o)] := hl
  refine lv_aload_n hx hb dL_doubt_0 rfl (lv_at hl 2 rfl) ?_
  refine ri_iconst hx hb dL_doubt_1 ?_
  refine lv_aload_n hx hb dL_doubt_2 rfl (lv_at hl 0 rfl) ?_
  refine lv_iload_n hx hb dL_doubt_3 rfl (lv_at hl 1 rfl) ?_
  refine vx_calli (ri_runVX (b := a 0) (As := [.int (iI t)]) (rest := [.int (iI 0), .ref o]) CF (k_X3_doubt l D a kk g sa hst t hA hI yt) gL_doubt_X3_doubt f_X3_doubt rfl (va_recv hK hP (ci := 3) (q0 := 0) rfl rfl) ⟨rfl, rfl, (Nat.le_of_ble_eq_true rfl), (Nat.le_of_ble_eq_true rfl), (Nat.le_of_ble_eq_true rfl), (Nat.le_of_ble_eq_true rfl)⟩ pB_bl (pB_in hT hP hK hN) rfl hl.1 rfl (Nat.le_of_ble_eq_true rfl) dL_doubt_4) hS (fun q _ h => Or.inl h) (fun q h => Or.inl h) (fun _ _ h => h.elim) (fun X ce q9 _ tz H1 locs1 ht hvm _ hB hz hk hS1 hce hcv hcl => ?_) (fun rz _ tz H1 locs1 ht hvm hp hB hz hk hS => ?_)
  · have hP1 := hP.un hk (fun _ _ _ z => z)
    have hW1 := hW.un hk (fun _ _ _ z => z)
    obtain ⟨hX, hB⟩ := hB
    subst hX
    refine vx_catch hown [] ⟨0, 9, 12, 13⟩ [] hxt (fun z hz => absurd hz List.not_mem_nil) rfl (by decide) (hts _ (List.mem_of_getElem? (i := 1) rfl)) (va_Nw.use rfl hT.2.2.2.2.2.2.2.2.1) hce hcv hcl ?_
    refine lv_astore_n (lv' := (3, .ref q9) :: [(0, .ref (a 0)), (1, .int (iI t)), (2, .ref o)]) hx hb dL_doubt_12 rfl hl (by decide) rfl (fun ls hl => ?_)
    refine ri_iconst hx hb dL_doubt_13 ?_
    exact ri_iretW (A := oA a o) (PP := (fun H => va_P D vwCl (xW a kk g) H ∧ va_P D vwCl (outW o kk f) H)) hx hb hr hlocks hS1 ⟨hP1, hW1⟩ dL_doubt_14 rfl
  · exact absurd hp.1 hno
