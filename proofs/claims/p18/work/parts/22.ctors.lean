/-! ===== constructors ===== -/
theorem va_D_fst {A : Nat → Prop} {ws ws' : va_W} (hD : va_D A ws) (h : ws.map Prod.fst = ws'.map Prod.fst) : va_D A ws' := by
  have key : ∀ (k : Nat) (q : Nat × va_E), ws'[k]? = some q → ∃ q2 : Nat × va_E, ws[k]? = some q2 ∧ q2.1 = q.1 := by
    intro k q hq
    have h1 : (ws'.map Prod.fst)[k]? = some q.1 := by rw [List.getElem?_map, hq]; rfl
    rw [← h, List.getElem?_map] at h1
    cases hk : ws[k]? with
    | none => rw [hk] at h1; cases h1
    | some q2 => rw [hk] at h1; exact ⟨q2, rfl, Option.some.inj h1⟩
  refine ⟨fun i j p q hi hj e => ?_, fun k q hq => ?_⟩
  · obtain ⟨p2, h1, h2⟩ := key i p hi
    obtain ⟨q2, h3, h4⟩ := key j q hj
    exact hD.1 i j p2 q2 h1 h3 (by rw [h2, h4]; exact e)
  · obtain ⟨q2, h1, h2⟩ := key k q hq
    rw [← h2]
    exact hD.2 k q2 h1
theorem va_D_one {a : Nat} {e : va_E} {sz : Nat} : va_D (va_A [(a, e)] sz) [(a, e)] := by
  have key : ∀ (k : Nat) (q : Nat × va_E), [(a, e)][k]? = some q → k = 0 := by
    intro k q h
    have := (List.getElem?_eq_some_iff.mp h).1
    exact Nat.lt_one_iff.mp this
  exact ⟨fun i j p q hi hj _ => (key i p hi).trans (key j q hj).symm, fun k q hq => va_A.in hq⟩
theorem ra_int {s : State} {c1 c2 : ClassId} (h1 : va_RA s c1 .int) (h2 : va_RA s c2 .int) : c1 = c2 := by
  have e1 : s.vm.findClass ("[" ++ FieldType.int.toString) = some c1 := h1
  have e2 : s.vm.findClass ("[" ++ FieldType.int.toString) = some c2 := h2
  exact Option.some.inj (e1.symm.trans e2)
theorem ra_bool {s : State} {c1 c2 : ClassId} (h1 : va_RA s c1 .boolean) (h2 : va_RA s c2 .boolean) : c1 = c2 := by
  have e1 : s.vm.findClass ("[" ++ FieldType.boolean.toString) = some c1 := h1
  have e2 : s.vm.findClass ("[" ++ FieldType.boolean.toString) = some c2 := h2
  exact Option.some.inj (e1.symm.trans e2)
theorem ra_long {s : State} {c1 c2 : ClassId} (h1 : va_RA s c1 .long) (h2 : va_RA s c2 .long) : c1 = c2 := by
  have e1 : s.vm.findClass ("[" ++ FieldType.long.toString) = some c1 := h1
  have e2 : s.vm.findClass ("[" ++ FieldType.long.toString) = some c2 := h2
  exact Option.some.inj (e1.symm.trans e2)
section RINEW
variable {p : Program} {l : Launch} {e : Env} {R : Room} {s : State} {m : MethodId} {args : Array Value} {below : List Frame} {meth : Method} {c : Code} {H : Heap} {locs : List Loc} {cells slots : Nat} {Q : State → Prop}
variable {cc : ByteArray} {pc : Nat} {ls : Array Slot} {rest : List Value} {D : va_G} {cl : List vw_C} {tys : List (ClassId × FieldType)} {ws : va_W} {A : Nat → Prop} {H0 : Heap}
theorem ri_newa (hexec : p.tables.exec = Jvm.exec) (hb : c.code = cc) {atype : ArrayType} {ty : FieldType} (harr : (Cond.arrayClass (newarray.typeOf atype)).before args s = true) (hty : newarray.typeOf atype = ty) (hu : ∀ c1 c2 : ClassId, va_RA s c1 ty → va_RA s c2 ty → c1 = c2) (hK : va_K D cl tys s) (hP : va_P D cl ws H) (hD : va_D A ws) (hS : va_S A H0 H locs) (hA : ∀ q, H0.size ≤ q → A q) (t0 : Nat) {cK : ClassId} (ht : tys[t0]? = some (cK, ty))
    {n : Int32} {N' : Nat} {a0 : vp_A} (ha : ∀ cA : ClassId, vp_cell cA a0 = arrV cA N' (fun _ => defaultValue ty)) (hn : ¬ n < 0) (hN : n.toNatClampNeg = N') (hbytes : N' * componentBytes ty ≤ 536870912) (hcells : cells + 1 ≤ R.cells) (hslots : slots + N' ≤ R.slots) (hdg : decode cc pc = .ok (.newarray atype, 2))
    (kk : ∀ (q : Nat) (H1 : Heap), va_P D cl (ws ++ [(q, .inl (cK, a0))]) H1 → va_D A (ws ++ [(q, .inl (cK, a0))]) → va_S A H0 H1 locs → W p l e R s m args below meth c H1 locs (cells + 1) (slots + N') Q (F0 m (pc + 2) ls (.ref q :: rest))) : W p l e R s m args below meth c H locs cells slots Q (F0 m pc ls (.int n :: rest)) := by
  refine va_newa hexec hb harr hty hK hP hD hS hA ha hn hN hbytes hcells hslots hdg (fun q cA H1 hK1 hP1 hD1 hS1 => ?_)
  have e1 : cA = cK := hu cA cK (hK1.2 tys.length (cA, ty) (by rw [List.getElem?_append_right (Nat.le_refl _), Nat.sub_self]; rfl)).2 (hK.2 t0 (cK, ty) ht).2
  subst e1
  exact kk q H1 hP1 hD1 hS1
end RINEW
def z0 : Nat → Nat → Int := fun _ _ => 0
/-- what the constructor of Pictures has laid: the tests' own pictures are there -/
def z1 : Nat → Nat → Int := fun n j => if n = 3 ∧ j < 5 then 1 else 0
/-- a new cell, and the classes -/
def nB (D : va_G) (kk : Nat → ClassId) (h0 sz ci : Nat) (fs : List Value) (U : State) : Prop := U.heap.size = sz ∧ va_P D vwCl [(h0, .inr (ci, fs))] U.heap ∧ va_K D vwCl (TY kk) U ∧ xN U
theorem nB_bl {D : va_G} {kk : Nat → ClassId} {h0 sz ci : Nat} {fs : List Value} : Bl (nB D kk h0 sz ci fs) := fun U g mk a h => ⟨h.1, h.2.1, va_K.moved (u := U) (U := U.calling g mk a) (Vm.Alike.refl U.vm) h.2.2.1, xN_bl U g mk a h.2.2.2⟩
theorem nB_to {D : va_G} {kk : Nat → ClassId} {h0 ci : Nat} {fs : List Value} {s : State} {H : Heap} (hP : va_P D vwCl [(h0, .inr (ci, fs))] H) (hK : va_K D vwCl (TY kk) s) (hN : xN s) : ∀ U : State, U.heap = H → s.WarmedH U.vm → nB D kk h0 H.size ci fs U := fun U hU hW => ⟨by rw [hU], by rw [hU]; exact hP, va_K.moved hW.alike hK, xN_warm hW hN⟩
/-- the cells of Pictures, of Histories, alone -/
def pW (a : Nat → Nat) (kk : Nat → ClassId) (f h : Nat → Int) : va_W := [(a 0, .inr (1, [.ref (a 1), .ref (a 2)])), (a 1, .inl (kk 0, 2880, .inl (fun j => iI (f j)))), (a 2, .inl (kk 1, 45, .inl (fun j => iI (h j))))]
def hW (a : Nat → Nat) (kk : Nat → ClassId) (f h : Nat → Int) : va_W := [(a 0, .inr (0, [.ref (a 1), .ref (a 2)])), (a 1, .inl (kk 0, 5, .inl (fun j => iI (f j)))), (a 2, .inl (kk 0, 5, .inl (fun j => iI (h j))))]

set_option maxHeartbeats 4000000 in
set_option maxRecDepth 100000 in
theorem k_X0_init (l : Launch) (D : va_G) (kk : Nat → ClassId) (h0 sz : Nat) : Met l yX0_init wsX0_init ({ frames := 1, cells := 2, slots := 10, locals := 12 }) (va_Pc [.ref h0] (nB D kk h0 sz 0 [.null, .null])) (va_Qv (fun a : Nat → Nat => a 0 = h0) (fun a t => va_P D vwCl (hW a kk (z0 1) (z0 2)) t.heap ∧ va_D (va_A [(h0, .inr (0, [.null, .null]))] sz) (hW a kk (z0 1) (z0 2))) (va_A [(h0, .inr (0, [.null, .null]))] sz)) 2 10 (va_A [(h0, .inr (0, [.null, .null]))] sz) := by
  refine Met.ofW (cc := cX0_init) (maxL := 1) (ret := none) (by decide) rfl ?_
  intro p e s m args below meth c s₁ B hml hv
  obtain ⟨rfl, hsz, hP, hK, hN⟩ := hv
  have hx := B.exec
  have hb := B.bytes
  have hr := B.returns
  have hts := atoms_spec (ws := wsX0_init) B.pre
  have hown : s.vm.findClass RX0 = some m.cls := findClass_of_methodNamed B.named
  have hlocks := B.notSynchronized
  have hin : meth.name = "<init>" := (name_of_methodNamed B.named B.method).1
  subst hsz
  have hD : va_D (va_A [(h0, .inr (0, [.null, .null]))] s.heap.size) [(h0, .inr (0, [.null, .null]))] := va_D_one
  generalize hAe : va_A [(h0, .inr (0, [.null, .null]))] s.heap.size = A at hD ⊢
  have hA : ∀ q : Nat, s.heap.size ≤ q → A q := fun q h => by rw [← hAe]; exact Or.inr h
  have hS : va_S A s.heap s.heap [] := va_S.rf
  have hl := lv_entry ([.ref h0]) (n := 1) (Nat.le_of_ble_eq_true rfl)
  rw [lg_entry_eq]
  generalize (lg_sl ([.ref h0]) ++ List.replicate (1 - (lg_sl ([.ref h0])).length) Slot.unset).toArray = ls at hl ⊢
  have hl : lv_has ls 1 [(0, .ref h0)] := hl
  have hinC : ∀ w ∈ wsX00, w ∈ wsX0_init := (fun _ h => List.mem_cons_of_mem _ (List.mem_append_right _ h))
  refine lv_aload_n hx hb dX0_init_0 rfl (lv_at hl 0 rfl) ?_
  refine W.objInit hx hb hown (hts _ (List.mem_of_getElem? (i := 1) rfl)) (hts _ (List.mem_of_getElem? (i := 2) rfl)) (hts _ (List.mem_of_getElem? (i := 3) rfl)) rfl (by rw [hml]; exact hl.1) rfl dX0_init_1 (Nat.le_of_ble_eq_true rfl) (Nat.le_of_ble_eq_true rfl) ?_
  refine W.eq (g2 := F0 m 4 ls []) rfl ?_
  refine lv_aload_n hx hb dX0_init_4 rfl (lv_at hl 0 rfl) ?_
  refine ri_iconst (n := 5) hx hb dX0_init_5 ?_
  refine ri_newa (atype := .int) (ty := .int) (a0 := (5, .inl (fun _ => iI 0))) (N' := 5) hx hb (hts _ (List.mem_of_getElem? (i := 4) rfl)) rfl (fun _ _ h1 h2 => ra_int h1 h2) hK hP hD hS hA 0 rfl (fun _ => rfl) (by decide +kernel) (by decide +kernel) (Nat.le_of_ble_eq_true rfl) (Nat.le_of_ble_eq_true rfl) (Nat.le_of_ble_eq_true rfl) dX0_init_6 (fun q1 H hP hD hS => ?_)
  have hP : va_P D vwCl [(h0, .inr (0, [.null, .null])), (q1, .inl (kk 0, 5, .inl (fun _ => iI 0)))] H := hP
  have hD : va_D A [(h0, .inr (0, [.null, .null])), (q1, .inl (kk 0, 5, .inl (fun _ => iI 0)))] := hD
  refine va_putF (D := D) (ci := 0) (v := .ref q1) (ty := .array .int) (C := RX0) (T := TX0) (N := 2) hx hb hts hinC tyX0 tyX0_ok nmX0 hown hK hP hD hS 0 rfl rfl 0 (by decide) (hts _ (List.mem_of_getElem? (i := 5) rfl)) (fun _ h9 => h9) rfl hin rfl (by decide +kernel) rfl rfl (Nat.le_of_ble_eq_true rfl) dX0_init_8 (fun H locs hP hD hS => ?_)
  have hP : va_P D vwCl [(h0, .inr (0, [.ref q1, .null])), (q1, .inl (kk 0, 5, .inl (fun _ => iI 0)))] H := hP
  have hD : va_D A [(h0, .inr (0, [.ref q1, .null])), (q1, .inl (kk 0, 5, .inl (fun _ => iI 0)))] := hD
  refine lv_aload_n hx hb dX0_init_11 rfl (lv_at hl 0 rfl) ?_
  refine ri_iconst (n := 5) hx hb dX0_init_12 ?_
  refine ri_newa (atype := .int) (ty := .int) (a0 := (5, .inl (fun _ => iI 0))) (N' := 5) hx hb (hts _ (List.mem_of_getElem? (i := 4) rfl)) rfl (fun _ _ h1 h2 => ra_int h1 h2) hK hP hD hS hA 0 rfl (fun _ => rfl) (by decide +kernel) (by decide +kernel) (Nat.le_of_ble_eq_true rfl) (Nat.le_of_ble_eq_true rfl) (Nat.le_of_ble_eq_true rfl) dX0_init_13 (fun q2 H hP hD hS => ?_)
  have hP : va_P D vwCl [(h0, .inr (0, [.ref q1, .null])), (q1, .inl (kk 0, 5, .inl (fun _ => iI 0))), (q2, .inl (kk 0, 5, .inl (fun _ => iI 0)))] H := hP
  have hD : va_D A [(h0, .inr (0, [.ref q1, .null])), (q1, .inl (kk 0, 5, .inl (fun _ => iI 0))), (q2, .inl (kk 0, 5, .inl (fun _ => iI 0)))] := hD
  refine va_putF (D := D) (ci := 0) (v := .ref q2) (ty := .array .int) (C := RX0) (T := TX0) (N := 2) hx hb hts hinC tyX0 tyX0_ok nmX0 hown hK hP hD hS 0 rfl rfl 1 (by decide) (hts _ (List.mem_of_getElem? (i := 6) rfl)) (fun _ h9 => h9) rfl hin rfl (by decide +kernel) rfl rfl (Nat.le_of_ble_eq_true rfl) dX0_init_15 (fun H locs hP hD hS => ?_)
  have hP : va_P D vwCl [(h0, .inr (0, [.ref q1, .ref q2])), (q1, .inl (kk 0, 5, .inl (fun _ => iI 0))), (q2, .inl (kk 0, 5, .inl (fun _ => iI 0)))] H := hP
  have hD : va_D A [(h0, .inr (0, [.ref q1, .ref q2])), (q1, .inl (kk 0, 5, .inl (fun _ => iI 0))), (q2, .inl (kk 0, 5, .inl (fun _ => iI 0)))] := hD
  exact W.vret hx hb hr (fun t ht hW => ⟨⟨(fun i => ([h0, q1, q2]).getD i 0), rfl, rfl, by rw [ht]; exact hP, hD⟩, hS.F ht⟩) hS.2.2 dX0_init_18

set_option maxHeartbeats 4000000 in
set_option maxRecDepth 100000 in
theorem k_X1_init (l : Launch) (D : va_G) (kk : Nat → ClassId) (h0 sz : Nat) : Met l yX1_init wsX1_init ({ frames := 1, cells := 2, slots := 2925, locals := 12 }) (va_Pc [.ref h0] (nB D kk h0 sz 1 [.null, .null])) (va_Qv (fun a : Nat → Nat => a 0 = h0) (fun a t => va_P D vwCl (pW a kk (z1 2) (z1 3)) t.heap ∧ va_D (va_A [(h0, .inr (1, [.null, .null]))] sz) (pW a kk (z1 2) (z1 3))) (va_A [(h0, .inr (1, [.null, .null]))] sz)) 2 2925 (va_A [(h0, .inr (1, [.null, .null]))] sz) := by
  refine Met.ofW (cc := cX1_init) (maxL := 2) (ret := none) (by decide) rfl ?_
  intro p e s m args below meth c s₁ B hml hv
  obtain ⟨rfl, hsz, hP, hK, hN⟩ := hv
  have hx := B.exec
  have hb := B.bytes
  have hr := B.returns
  have hts := atoms_spec (ws := wsX1_init) B.pre
  have hown : s.vm.findClass RX1 = some m.cls := findClass_of_methodNamed B.named
  have hlocks := B.notSynchronized
  have hin : meth.name = "<init>" := (name_of_methodNamed B.named B.method).1
  subst hsz
  have hD : va_D (va_A [(h0, .inr (1, [.null, .null]))] s.heap.size) [(h0, .inr (1, [.null, .null]))] := va_D_one
  generalize hAe : va_A [(h0, .inr (1, [.null, .null]))] s.heap.size = A at hD ⊢
  have hA : ∀ q : Nat, s.heap.size ≤ q → A q := fun q h => by rw [← hAe]; exact Or.inr h
  have hS : va_S A s.heap s.heap [] := va_S.rf
  have hl := lv_entry ([.ref h0]) (n := 2) (Nat.le_of_ble_eq_true rfl)
  rw [lg_entry_eq]
  generalize (lg_sl ([.ref h0]) ++ List.replicate (2 - (lg_sl ([.ref h0])).length) Slot.unset).toArray = ls at hl ⊢
  have hl : lv_has ls 2 [(0, .ref h0)] := hl
  have hinC : ∀ w ∈ wsX10, w ∈ wsX1_init := (fun _ h => List.mem_cons_of_mem _ (List.mem_append_right _ h))
  refine lv_aload_n hx hb dX1_init_0 rfl (lv_at hl 0 rfl) ?_
  refine W.objInit hx hb hown (hts _ (List.mem_of_getElem? (i := 1) rfl)) (hts _ (List.mem_of_getElem? (i := 2) rfl)) (hts _ (List.mem_of_getElem? (i := 3) rfl)) rfl (by rw [hml]; exact hl.1) rfl dX1_init_1 (Nat.le_of_ble_eq_true rfl) (Nat.le_of_ble_eq_true rfl) ?_
  refine W.eq (g2 := F0 m 4 ls []) rfl ?_
  refine lv_aload_n hx hb dX1_init_4 rfl (lv_at hl 0 rfl) ?_
  refine ri_sipush (n := 2880) hx hb dX1_init_5 (by decide) ?_
  refine ri_newa (atype := .int) (ty := .int) (a0 := (2880, .inl (fun _ => iI 0))) (N' := 2880) hx hb (hts _ (List.mem_of_getElem? (i := 4) rfl)) rfl (fun _ _ h1 h2 => ra_int h1 h2) hK hP hD hS hA 0 rfl (fun _ => rfl) (by decide +kernel) (by decide +kernel) (Nat.le_of_ble_eq_true rfl) (Nat.le_of_ble_eq_true rfl) (Nat.le_of_ble_eq_true rfl) dX1_init_8 (fun q1 H hP hD hS => ?_)
  have hP : va_P D vwCl [(h0, .inr (1, [.null, .null])), (q1, .inl (kk 0, 2880, .inl (fun _ => iI 0)))] H := hP
  have hD : va_D A [(h0, .inr (1, [.null, .null])), (q1, .inl (kk 0, 2880, .inl (fun _ => iI 0)))] := hD
  refine va_putF (D := D) (ci := 1) (v := .ref q1) (ty := .array .int) (C := RX1) (T := TX1) (N := 2) hx hb hts hinC tyX1 tyX1_ok nmX1 hown hK hP hD hS 0 rfl rfl 0 (by decide) (hts _ (List.mem_of_getElem? (i := 5) rfl)) (fun _ h9 => h9) rfl hin rfl (by decide +kernel) rfl rfl (Nat.le_of_ble_eq_true rfl) dX1_init_10 (fun H locs hP hD hS => ?_)
  have hP : va_P D vwCl [(h0, .inr (1, [.ref q1, .null])), (q1, .inl (kk 0, 2880, .inl (fun _ => iI 0)))] H := hP
  have hD : va_D A [(h0, .inr (1, [.ref q1, .null])), (q1, .inl (kk 0, 2880, .inl (fun _ => iI 0)))] := hD
  refine lv_aload_n hx hb dX1_init_13 rfl (lv_at hl 0 rfl) ?_
  refine ri_bipush (n := 45) hx hb dX1_init_14 (by decide) ?_
  refine ri_newa (atype := .boolean) (ty := .boolean) (a0 := (45, .inl (fun _ => iI 0))) (N' := 45) hx hb (hts _ (List.mem_of_getElem? (i := 6) rfl)) rfl (fun _ _ h1 h2 => ra_bool h1 h2) hK hP hD hS hA 1 rfl (fun _ => rfl) (by decide +kernel) (by decide +kernel) (Nat.le_of_ble_eq_true rfl) (Nat.le_of_ble_eq_true rfl) (Nat.le_of_ble_eq_true rfl) dX1_init_16 (fun q2 H hP hD hS => ?_)
  have hP : va_P D vwCl [(h0, .inr (1, [.ref q1, .null])), (q1, .inl (kk 0, 2880, .inl (fun _ => iI 0))), (q2, .inl (kk 1, 45, .inl (fun _ => iI 0)))] H := hP
  have hD : va_D A [(h0, .inr (1, [.ref q1, .null])), (q1, .inl (kk 0, 2880, .inl (fun _ => iI 0))), (q2, .inl (kk 1, 45, .inl (fun _ => iI 0)))] := hD
  refine va_putF (D := D) (ci := 1) (v := .ref q2) (ty := .array .boolean) (C := RX1) (T := TX1) (N := 2) hx hb hts hinC tyX1 tyX1_ok nmX1 hown hK hP hD hS 0 rfl rfl 1 (by decide) (hts _ (List.mem_of_getElem? (i := 7) rfl)) (fun _ h9 => h9) rfl hin rfl (by decide +kernel) rfl rfl (Nat.le_of_ble_eq_true rfl) dX1_init_18 (fun H locs hP hD hS => ?_)
  have hP : va_P D vwCl [(h0, .inr (1, [.ref q1, .ref q2])), (q1, .inl (kk 0, 2880, .inl (fun _ => iI 0))), (q2, .inl (kk 1, 45, .inl (fun _ => iI 0)))] H := hP
  have hD : va_D A [(h0, .inr (1, [.ref q1, .ref q2])), (q1, .inl (kk 0, 2880, .inl (fun _ => iI 0))), (q2, .inl (kk 1, 45, .inl (fun _ => iI 0)))] := hD
  refine lv_iconst (v := iI 0) hx hb dX1_init_21 rfl ?_
  refine lv_istore_n (lv' := [(1, .int (iI 0)), (0, .ref h0)]) hx hb dX1_init_22 rfl hl (by decide) rfl (fun ls hl => ?_)
  have L : ∀ (n k : Nat), k ≤ 5 → 5 - k < n → ∀ (H : Heap) (locs : List Loc), va_P D vwCl [(h0, .inr (1, [.ref q1, .ref q2])), (q1, .inl (kk 0, 2880, .inl (fun _ => iI 0))), (q2, .inl (kk 1, 45, .inl (fun j => iI (if j < k then 1 else 0))))] H → va_S A s.heap H locs → ∀ (ls : Array Slot), lv_has ls 2 [(1, .int (iI (k : Int))), (0, .ref h0)] → W p l e { frames := 1, cells := 2, slots := 2925, locals := 12 } s m (#[Value.ref h0]) below meth c H locs 2 2925 (MQ below (va_Qv (fun a : Nat → Nat => a 0 = h0) (fun a t => va_P D vwCl (pW a kk (z1 2) (z1 3)) t.heap ∧ va_D A (pW a kk (z1 2) (z1 3))) A) (#[Value.ref h0]) s 2 2925 A) (F0 m 23 ls []) := by
    intro n
    induction n with
    | zero => intro k _ h; exact absurd h (Nat.not_lt_zero _)
    | succ n ih =>
      intro k hk hn H locs hP hS ls hl
      have hD3 : va_D A [(h0, .inr (1, [.ref q1, .ref q2])), (q1, .inl (kk 0, 2880, .inl (fun _ => iI 0))), (q2, .inl (kk 1, 45, .inl (fun j => iI (if j < k then 1 else 0))))] := va_D_fst hD rfl
      refine lv_iload_n hx hb dX1_init_23 rfl (lv_at hl 0 rfl) ?_
      refine ri_iconst hx hb dX1_init_24 ?_
      refine ri_icmp_ge (tgt := 41) hx hb (by omega) dX1_init_25 (by decide) (fun h25 => ?_) (fun h25 => ?_)
      · have e5 : k = 5 := by omega
        subst e5
        have hP9 : va_P D vwCl (pW (fun i => ([h0, q1, q2]).getD i 0) kk (z1 2) (z1 3)) H := by
          have e1 : (fun j => iI (z1 3 j)) = (fun j : Nat => iI (if j < 5 then 1 else 0)) := by
            funext j
            unfold z1
            by_cases q : j < 5
            · rw [if_pos ⟨rfl, q⟩, if_pos q]
            · rw [if_neg (fun z => q z.2), if_neg q]
          have e2 : (fun j => iI (z1 2 j)) = (fun _ : Nat => iI 0) := by
            funext j
            unfold z1
            rw [if_neg (fun z => absurd z.1 (by decide))]
          unfold pW
          rw [e1, e2]
          exact hP
        exact W.vret hx hb hr (fun t ht hW => ⟨⟨(fun i => ([h0, q1, q2]).getD i 0), rfl, rfl, by rw [ht]; exact hP9, va_D_fst hD rfl⟩, hS.F ht⟩) hS.2.2 dX1_init_41
      · refine lv_aload_n hx hb dX1_init_28 rfl (lv_at hl 1 rfl) ?_
        refine va_get (D := D) (ci := 1) (v := .ref q2) (C := RX1) (T := TX1) (N := 2) hx hb hts hinC hown hK hP 0 rfl rfl 1 (by decide) (hts _ (List.mem_of_getElem? (i := 7) rfl)) (fun _ h9 => h9) rfl dX1_init_29 ?_
        refine lv_iload_n hx hb dX1_init_32 rfl (lv_at hl 0 rfl) ?_
        refine ri_iconst hx hb dX1_init_33 ?_
        refine ri_zast hx hb hK hP hD3 hS 2 1 rfl rfl (by omega) (by decide) (Or.inr rfl) dX1_init_34 (fun H locs hP hS => ?_)
        refine ri_iinc (lv' := [(1, .int (iI ((k : Int) + 1))), (0, .ref h0)]) hx hb dX1_init_35 hl (k := 0) rfl (by decide) rfl (fun ls hl => ?_)
        refine lv_goto (tgt := 23) hx hb dX1_init_38 (by decide) ?_
        have e1 : updI (fun j => if j < k then 1 else 0) ((k : Int)).toNat 1 = (fun j => if j < k + 1 then 1 else 0) := by
          funext j
          unfold updI
          rw [Int.toNat_natCast]
          by_cases q : j = k
          · rw [if_pos q, if_pos (by omega)]
          · rw [if_neg q]
            show (if j < k then (1 : Int) else 0) = _
            by_cases q2 : j < k
            · rw [if_pos q2, if_pos (by omega)]
            · rw [if_neg q2, if_neg (by omega)]
        rw [e1] at hP
        exact ih (k + 1) (by omega) (by omega) _ _ hP hS ls hl
  refine L 6 0 (by decide) (by decide) H locs ?_ hS ls hl
  have e0 : (fun j : Nat => iI (if j < 0 then 1 else 0)) = (fun _ : Nat => iI 0) := by
    funext j
    rw [if_neg (Nat.not_lt_zero j)]
  rw [e0]
  exact hP

set_option maxHeartbeats 4000000 in
set_option maxRecDepth 100000 in
theorem k_X2_init (l : Launch) (D : va_G) (kk : Nat → ClassId) (h0 sz : Nat) : Met l yX2_init wsX2_init ({ frames := 1, cells := 4, slots := 20, locals := 12 }) (va_Pc [.ref h0] (nB D kk h0 sz 2 [.null, .null, .null, .null])) (va_Qv (fun a : Nat → Nat => a 0 = h0) (fun a t => va_P D vwCl (rW a kk z0) t.heap ∧ va_D (va_A [(h0, .inr (2, [.null, .null, .null, .null]))] sz) (rW a kk z0)) (va_A [(h0, .inr (2, [.null, .null, .null, .null]))] sz)) 4 20 (va_A [(h0, .inr (2, [.null, .null, .null, .null]))] sz) := by
  refine Met.ofW (cc := cX2_init) (maxL := 1) (ret := none) (by decide) rfl ?_
  intro p e s m args below meth c s₁ B hml hv
  obtain ⟨rfl, hsz, hP, hK, hN⟩ := hv
  have hx := B.exec
  have hb := B.bytes
  have hr := B.returns
  have hts := atoms_spec (ws := wsX2_init) B.pre
  have hown : s.vm.findClass RX2 = some m.cls := findClass_of_methodNamed B.named
  have hlocks := B.notSynchronized
  have hin : meth.name = "<init>" := (name_of_methodNamed B.named B.method).1
  subst hsz
  have hD : va_D (va_A [(h0, .inr (2, [.null, .null, .null, .null]))] s.heap.size) [(h0, .inr (2, [.null, .null, .null, .null]))] := va_D_one
  generalize hAe : va_A [(h0, .inr (2, [.null, .null, .null, .null]))] s.heap.size = A at hD ⊢
  have hA : ∀ q : Nat, s.heap.size ≤ q → A q := fun q h => by rw [← hAe]; exact Or.inr h
  have hS : va_S A s.heap s.heap [] := va_S.rf
  have hl := lv_entry ([.ref h0]) (n := 1) (Nat.le_of_ble_eq_true rfl)
  rw [lg_entry_eq]
  generalize (lg_sl ([.ref h0]) ++ List.replicate (1 - (lg_sl ([.ref h0])).length) Slot.unset).toArray = ls at hl ⊢
  have hl : lv_has ls 1 [(0, .ref h0)] := hl
  have hinC : ∀ w ∈ wsX20, w ∈ wsX2_init := (fun _ h => List.mem_cons_of_mem _ (List.mem_append_right _ h))
  refine lv_aload_n hx hb dX2_init_0 rfl (lv_at hl 0 rfl) ?_
  refine W.objInit hx hb hown (hts _ (List.mem_of_getElem? (i := 1) rfl)) (hts _ (List.mem_of_getElem? (i := 2) rfl)) (hts _ (List.mem_of_getElem? (i := 3) rfl)) rfl (by rw [hml]; exact hl.1) rfl dX2_init_1 (Nat.le_of_ble_eq_true rfl) (Nat.le_of_ble_eq_true rfl) ?_
  refine W.eq (g2 := F0 m 4 ls []) rfl ?_
  refine lv_aload_n hx hb dX2_init_4 rfl (lv_at hl 0 rfl) ?_
  refine ri_iconst (n := 5) hx hb dX2_init_5 ?_
  refine ri_newa (atype := .int) (ty := .int) (a0 := (5, .inl (fun _ => iI 0))) (N' := 5) hx hb (hts _ (List.mem_of_getElem? (i := 4) rfl)) rfl (fun _ _ h1 h2 => ra_int h1 h2) hK hP hD hS hA 0 rfl (fun _ => rfl) (by decide +kernel) (by decide +kernel) (Nat.le_of_ble_eq_true rfl) (Nat.le_of_ble_eq_true rfl) (Nat.le_of_ble_eq_true rfl) dX2_init_6 (fun q1 H hP hD hS => ?_)
  have hP : va_P D vwCl [(h0, .inr (2, [.null, .null, .null, .null])), (q1, .inl (kk 0, 5, .inl (fun _ => iI 0)))] H := hP
  have hD : va_D A [(h0, .inr (2, [.null, .null, .null, .null])), (q1, .inl (kk 0, 5, .inl (fun _ => iI 0)))] := hD
  refine va_putF (D := D) (ci := 2) (v := .ref q1) (ty := .array .int) (C := RX2) (T := TX2) (N := 4) hx hb hts hinC tyX2 tyX2_ok nmX2 hown hK hP hD hS 0 rfl rfl 0 (by decide) (hts _ (List.mem_of_getElem? (i := 5) rfl)) (fun _ h9 => h9) rfl hin rfl (by decide +kernel) rfl rfl (Nat.le_of_ble_eq_true rfl) dX2_init_8 (fun H locs hP hD hS => ?_)
  have hP : va_P D vwCl [(h0, .inr (2, [.ref q1, .null, .null, .null])), (q1, .inl (kk 0, 5, .inl (fun _ => iI 0)))] H := hP
  have hD : va_D A [(h0, .inr (2, [.ref q1, .null, .null, .null])), (q1, .inl (kk 0, 5, .inl (fun _ => iI 0)))] := hD
  refine lv_aload_n hx hb dX2_init_11 rfl (lv_at hl 0 rfl) ?_
  refine ri_iconst (n := 5) hx hb dX2_init_12 ?_
  refine ri_newa (atype := .int) (ty := .int) (a0 := (5, .inl (fun _ => iI 0))) (N' := 5) hx hb (hts _ (List.mem_of_getElem? (i := 4) rfl)) rfl (fun _ _ h1 h2 => ra_int h1 h2) hK hP hD hS hA 0 rfl (fun _ => rfl) (by decide +kernel) (by decide +kernel) (Nat.le_of_ble_eq_true rfl) (Nat.le_of_ble_eq_true rfl) (Nat.le_of_ble_eq_true rfl) dX2_init_13 (fun q2 H hP hD hS => ?_)
  have hP : va_P D vwCl [(h0, .inr (2, [.ref q1, .null, .null, .null])), (q1, .inl (kk 0, 5, .inl (fun _ => iI 0))), (q2, .inl (kk 0, 5, .inl (fun _ => iI 0)))] H := hP
  have hD : va_D A [(h0, .inr (2, [.ref q1, .null, .null, .null])), (q1, .inl (kk 0, 5, .inl (fun _ => iI 0))), (q2, .inl (kk 0, 5, .inl (fun _ => iI 0)))] := hD
  refine va_putF (D := D) (ci := 2) (v := .ref q2) (ty := .array .int) (C := RX2) (T := TX2) (N := 4) hx hb hts hinC tyX2 tyX2_ok nmX2 hown hK hP hD hS 0 rfl rfl 1 (by decide) (hts _ (List.mem_of_getElem? (i := 6) rfl)) (fun _ h9 => h9) rfl hin rfl (by decide +kernel) rfl rfl (Nat.le_of_ble_eq_true rfl) dX2_init_15 (fun H locs hP hD hS => ?_)
  have hP : va_P D vwCl [(h0, .inr (2, [.ref q1, .ref q2, .null, .null])), (q1, .inl (kk 0, 5, .inl (fun _ => iI 0))), (q2, .inl (kk 0, 5, .inl (fun _ => iI 0)))] H := hP
  have hD : va_D A [(h0, .inr (2, [.ref q1, .ref q2, .null, .null])), (q1, .inl (kk 0, 5, .inl (fun _ => iI 0))), (q2, .inl (kk 0, 5, .inl (fun _ => iI 0)))] := hD
  refine lv_aload_n hx hb dX2_init_18 rfl (lv_at hl 0 rfl) ?_
  refine ri_iconst (n := 5) hx hb dX2_init_19 ?_
  refine ri_newa (atype := .int) (ty := .int) (a0 := (5, .inl (fun _ => iI 0))) (N' := 5) hx hb (hts _ (List.mem_of_getElem? (i := 4) rfl)) rfl (fun _ _ h1 h2 => ra_int h1 h2) hK hP hD hS hA 0 rfl (fun _ => rfl) (by decide +kernel) (by decide +kernel) (Nat.le_of_ble_eq_true rfl) (Nat.le_of_ble_eq_true rfl) (Nat.le_of_ble_eq_true rfl) dX2_init_20 (fun q3 H hP hD hS => ?_)
  have hP : va_P D vwCl [(h0, .inr (2, [.ref q1, .ref q2, .null, .null])), (q1, .inl (kk 0, 5, .inl (fun _ => iI 0))), (q2, .inl (kk 0, 5, .inl (fun _ => iI 0))), (q3, .inl (kk 0, 5, .inl (fun _ => iI 0)))] H := hP
  have hD : va_D A [(h0, .inr (2, [.ref q1, .ref q2, .null, .null])), (q1, .inl (kk 0, 5, .inl (fun _ => iI 0))), (q2, .inl (kk 0, 5, .inl (fun _ => iI 0))), (q3, .inl (kk 0, 5, .inl (fun _ => iI 0)))] := hD
  refine va_putF (D := D) (ci := 2) (v := .ref q3) (ty := .array .int) (C := RX2) (T := TX2) (N := 4) hx hb hts hinC tyX2 tyX2_ok nmX2 hown hK hP hD hS 0 rfl rfl 2 (by decide) (hts _ (List.mem_of_getElem? (i := 7) rfl)) (fun _ h9 => h9) rfl hin rfl (by decide +kernel) rfl rfl (Nat.le_of_ble_eq_true rfl) dX2_init_22 (fun H locs hP hD hS => ?_)
  have hP : va_P D vwCl [(h0, .inr (2, [.ref q1, .ref q2, .ref q3, .null])), (q1, .inl (kk 0, 5, .inl (fun _ => iI 0))), (q2, .inl (kk 0, 5, .inl (fun _ => iI 0))), (q3, .inl (kk 0, 5, .inl (fun _ => iI 0)))] H := hP
  have hD : va_D A [(h0, .inr (2, [.ref q1, .ref q2, .ref q3, .null])), (q1, .inl (kk 0, 5, .inl (fun _ => iI 0))), (q2, .inl (kk 0, 5, .inl (fun _ => iI 0))), (q3, .inl (kk 0, 5, .inl (fun _ => iI 0)))] := hD
  refine lv_aload_n hx hb dX2_init_25 rfl (lv_at hl 0 rfl) ?_
  refine ri_iconst (n := 5) hx hb dX2_init_26 ?_
  refine ri_newa (atype := .int) (ty := .int) (a0 := (5, .inl (fun _ => iI 0))) (N' := 5) hx hb (hts _ (List.mem_of_getElem? (i := 4) rfl)) rfl (fun _ _ h1 h2 => ra_int h1 h2) hK hP hD hS hA 0 rfl (fun _ => rfl) (by decide +kernel) (by decide +kernel) (Nat.le_of_ble_eq_true rfl) (Nat.le_of_ble_eq_true rfl) (Nat.le_of_ble_eq_true rfl) dX2_init_27 (fun q4 H hP hD hS => ?_)
  have hP : va_P D vwCl [(h0, .inr (2, [.ref q1, .ref q2, .ref q3, .null])), (q1, .inl (kk 0, 5, .inl (fun _ => iI 0))), (q2, .inl (kk 0, 5, .inl (fun _ => iI 0))), (q3, .inl (kk 0, 5, .inl (fun _ => iI 0))), (q4, .inl (kk 0, 5, .inl (fun _ => iI 0)))] H := hP
  have hD : va_D A [(h0, .inr (2, [.ref q1, .ref q2, .ref q3, .null])), (q1, .inl (kk 0, 5, .inl (fun _ => iI 0))), (q2, .inl (kk 0, 5, .inl (fun _ => iI 0))), (q3, .inl (kk 0, 5, .inl (fun _ => iI 0))), (q4, .inl (kk 0, 5, .inl (fun _ => iI 0)))] := hD
  refine va_putF (D := D) (ci := 2) (v := .ref q4) (ty := .array .int) (C := RX2) (T := TX2) (N := 4) hx hb hts hinC tyX2 tyX2_ok nmX2 hown hK hP hD hS 0 rfl rfl 3 (by decide) (hts _ (List.mem_of_getElem? (i := 8) rfl)) (fun _ h9 => h9) rfl hin rfl (by decide +kernel) rfl rfl (Nat.le_of_ble_eq_true rfl) dX2_init_29 (fun H locs hP hD hS => ?_)
  have hP : va_P D vwCl [(h0, .inr (2, [.ref q1, .ref q2, .ref q3, .ref q4])), (q1, .inl (kk 0, 5, .inl (fun _ => iI 0))), (q2, .inl (kk 0, 5, .inl (fun _ => iI 0))), (q3, .inl (kk 0, 5, .inl (fun _ => iI 0))), (q4, .inl (kk 0, 5, .inl (fun _ => iI 0)))] H := hP
  have hD : va_D A [(h0, .inr (2, [.ref q1, .ref q2, .ref q3, .ref q4])), (q1, .inl (kk 0, 5, .inl (fun _ => iI 0))), (q2, .inl (kk 0, 5, .inl (fun _ => iI 0))), (q3, .inl (kk 0, 5, .inl (fun _ => iI 0))), (q4, .inl (kk 0, 5, .inl (fun _ => iI 0)))] := hD
  exact W.vret hx hb hr (fun t ht hW => ⟨⟨(fun i => ([h0, q1, q2, q3, q4]).getD i 0), rfl, rfl, by rw [ht]; exact hP, hD⟩, hS.F ht⟩) hS.2.2 dX2_init_32

set_option maxHeartbeats 4000000 in
set_option maxRecDepth 100000 in
theorem k_X3_init (l : Launch) (D : va_G) (kk : Nat → ClassId) (h0 sz : Nat) : Met l yX3_init wsX3_init ({ frames := 2, cells := 16, slots := 2987, locals := 33 }) (va_Pc [.ref h0] (nB D kk h0 sz 3 [.null, .null, .null, .null])) (va_Qv (fun a : Nat → Nat => a 0 = h0) (fun a t => va_P D vwCl (xW a kk z1) t.heap ∧ va_D (va_A [(h0, .inr (3, [.null, .null, .null, .null]))] sz) (xW a kk z1)) (va_A [(h0, .inr (3, [.null, .null, .null, .null]))] sz)) 16 2987 (va_A [(h0, .inr (3, [.null, .null, .null, .null]))] sz) := by
  refine Met.ofW (cc := cX3_init) (maxL := 1) (ret := none) (by decide) rfl ?_
  intro p e s m args below meth c s₁ B hml hv
  obtain ⟨rfl, hsz, hP, hK, hN⟩ := hv
  have hx := B.exec
  have hb := B.bytes
  have hr := B.returns
  have hts := atoms_spec (ws := wsX3_init) B.pre
  have hown : s.vm.findClass RX3 = some m.cls := findClass_of_methodNamed B.named
  have hlocks := B.notSynchronized
  have hin : meth.name = "<init>" := (name_of_methodNamed B.named B.method).1
  subst hsz
  have hD : va_D (va_A [(h0, .inr (3, [.null, .null, .null, .null]))] s.heap.size) [(h0, .inr (3, [.null, .null, .null, .null]))] := va_D_one
  generalize hAe : va_A [(h0, .inr (3, [.null, .null, .null, .null]))] s.heap.size = A at hD ⊢
  have hA : ∀ q : Nat, s.heap.size ≤ q → A q := fun q h => by rw [← hAe]; exact Or.inr h
  have hS : va_S A s.heap s.heap [] := va_S.rf
  have hl := lv_entry ([.ref h0]) (n := 1) (Nat.le_of_ble_eq_true rfl)
  rw [lg_entry_eq]
  generalize (lg_sl ([.ref h0]) ++ List.replicate (1 - (lg_sl ([.ref h0])).length) Slot.unset).toArray = ls at hl ⊢
  have hl : lv_has ls 1 [(0, .ref h0)] := hl
  have hin0 : ∀ w ∈ wsX00, w ∈ wsX3_init := (fun _ h => List.mem_cons_of_mem _ (List.mem_append_right _ h))
  have hin1 : ∀ w ∈ wsX10, w ∈ wsX3_init := (fun _ h => List.mem_cons_of_mem _ (List.mem_append_left _ (List.mem_append_left _ (List.mem_append_left _ (List.mem_append_right _ h)))))
  have hin2 : ∀ w ∈ wsX20, w ∈ wsX3_init := (fun _ h => List.mem_cons_of_mem _ (List.mem_append_left _ (List.mem_append_right _ h)))
  have hin3 : ∀ w ∈ wsX30, w ∈ wsX3_init := (fun _ h => List.mem_cons_of_mem _ (List.mem_append_left _ (List.mem_append_left _ (List.mem_append_right _ h))))
  refine lv_aload_n hx hb dX3_init_0 rfl (lv_at hl 0 rfl) ?_
  refine W.objInit hx hb hown (hts _ (List.mem_of_getElem? (i := 1) rfl)) (hts _ (List.mem_of_getElem? (i := 2) rfl)) (hts _ (List.mem_of_getElem? (i := 3) rfl)) rfl (by rw [hml]; exact hl.1) rfl dX3_init_1 (Nat.le_of_ble_eq_true rfl) (Nat.le_of_ble_eq_true rfl) ?_
  refine W.eq (g2 := F0 m 4 ls []) rfl ?_
  refine lv_aload_n hx hb dX3_init_4 rfl (lv_at hl 0 rfl) ?_
  refine va_new (ci := 1) (fs := [.null, .null]) (C := RX1) (T := TX1) (N := 2) hx hb hts hin1 tyX1 tyX1_ok hown (hts _ (List.mem_of_getElem? (i := 4) rfl)) (hts _ (List.mem_of_getElem? (i := 5) rfl)) (hts _ (List.mem_of_getElem? (i := 6) rfl)) hK hP hD hS hA rfl (by decide) (Nat.le_of_ble_eq_true rfl) (Nat.le_of_ble_eq_true rfl) dX3_init_5 (fun q0 H hP hD hS => ?_)
  have hP : va_P D vwCl [(h0, .inr (3, [.null, .null, .null, .null])), (q0, .inr (1, [.null, .null]))] H := hP
  have hD : va_D A [(h0, .inr (3, [.null, .null, .null, .null])), (q0, .inr (1, [.null, .null]))] := hD
  refine lv_dup hx hb dX3_init_8 rfl ?_
  have hPc := hP.sub (ws' := [(q0, .inr (1, [.null, .null]))]) [1] rfl
  have hFc := va_free (wc := [(q0, .inr (1, [.null, .null]))]) hD hS hA [1] rfl
  refine va_callv (va_runI (As := []) (rest := [.ref q0, .ref h0]) ⟨hx, hb, hml, hown, hts⟩ (k_X1_init l D kk q0 H.size) (cwI 0 hts gX3_init_X1_init rfl rfl rfl (hts _ (List.mem_of_getElem? (i := 6) rfl)) (hts _ (List.mem_of_getElem? (i := 17) rfl)) (hts _ (List.mem_of_getElem? (i := 18) rfl)) rfl (by decide +kernel) ⟨(Nat.le_of_ble_eq_true rfl), (Nat.le_of_ble_eq_true rfl)⟩) ⟨Bl_pc nB_bl, fun U hU hW => ⟨rfl, nB_to hPc hK hN U hU hW⟩⟩ rfl rfl hl.1 rfl (lv_room (Nat.le_of_ble_eq_true rfl)) dX3_init_9 ⟨(Nat.le_of_ble_eq_true rfl), (Nat.le_of_ble_eq_true rfl)⟩) hS (fun q _ h => hFc q h) hFc (fun b t H1 locs ht hvm hw hB hz1 hk1 hS => ?_)
  obtain ⟨hP1, hD1⟩ := hB
  rw [ht] at hP1
  have hw : b 0 = q0 := hw
  subst hw
  obtain ⟨hP, hD⟩ := va_join (wr := [(h0, .inr (3, [.null, .null, .null, .null]))]) (w1 := [(b 0, .inr (1, [.ref (b 1), .ref (b 2)])), (b 1, .inl (kk 0, 2880, .inl (fun j => iI (z1 2 j)))), (b 2, .inl (kk 1, 45, .inl (fun j => iI (z1 3 j))))]) hP hD [1] [0] rfl rfl (by decide) (by decide) hk1 hFc hP1 hD1
  generalize H1 = H at hP hS ⊢
  have hP : va_P D vwCl [(h0, .inr (3, [.null, .null, .null, .null])), (b 0, .inr (1, [.ref (b 1), .ref (b 2)])), (b 1, .inl (kk 0, 2880, .inl (fun j => iI (z1 2 j)))), (b 2, .inl (kk 1, 45, .inl (fun j => iI (z1 3 j))))] H := hP
  have hD : va_D A [(h0, .inr (3, [.null, .null, .null, .null])), (b 0, .inr (1, [.ref (b 1), .ref (b 2)])), (b 1, .inl (kk 0, 2880, .inl (fun j => iI (z1 2 j)))), (b 2, .inl (kk 1, 45, .inl (fun j => iI (z1 3 j))))] := hD
  refine va_putF (D := D) (ci := 3) (v := .ref (b 0)) (ty := .object "PictureProof$Pictures") (C := RX3) (T := TX3) (N := 4) hx hb hts hin3 tyX3 tyX3_ok nmX3 hown hK hP hD hS 0 rfl rfl 0 (by decide) (hts _ (List.mem_of_getElem? (i := 7) rfl)) (fun _ h9 => h9) rfl hin rfl (by decide +kernel) rfl rfl (Nat.le_of_ble_eq_true rfl) dX3_init_12 (fun H locs hP hD hS => ?_)
  have hP : va_P D vwCl [(h0, .inr (3, [.ref (b 0), .null, .null, .null])), (b 0, .inr (1, [.ref (b 1), .ref (b 2)])), (b 1, .inl (kk 0, 2880, .inl (fun j => iI (z1 2 j)))), (b 2, .inl (kk 1, 45, .inl (fun j => iI (z1 3 j))))] H := hP
  have hD : va_D A [(h0, .inr (3, [.ref (b 0), .null, .null, .null])), (b 0, .inr (1, [.ref (b 1), .ref (b 2)])), (b 1, .inl (kk 0, 2880, .inl (fun j => iI (z1 2 j)))), (b 2, .inl (kk 1, 45, .inl (fun j => iI (z1 3 j))))] := hD
  refine lv_aload_n hx hb dX3_init_15 rfl (lv_at hl 0 rfl) ?_
  refine va_new (ci := 2) (fs := [.null, .null, .null, .null]) (C := RX2) (T := TX2) (N := 4) hx hb hts hin2 tyX2 tyX2_ok hown (hts _ (List.mem_of_getElem? (i := 8) rfl)) (hts _ (List.mem_of_getElem? (i := 9) rfl)) (hts _ (List.mem_of_getElem? (i := 10) rfl)) hK hP hD hS hA rfl (by decide) (Nat.le_of_ble_eq_true rfl) (Nat.le_of_ble_eq_true rfl) dX3_init_16 (fun q1 H hP hD hS => ?_)
  have hP : va_P D vwCl [(h0, .inr (3, [.ref (b 0), .null, .null, .null])), (b 0, .inr (1, [.ref (b 1), .ref (b 2)])), (b 1, .inl (kk 0, 2880, .inl (fun j => iI (z1 2 j)))), (b 2, .inl (kk 1, 45, .inl (fun j => iI (z1 3 j)))), (q1, .inr (2, [.null, .null, .null, .null]))] H := hP
  have hD : va_D A [(h0, .inr (3, [.ref (b 0), .null, .null, .null])), (b 0, .inr (1, [.ref (b 1), .ref (b 2)])), (b 1, .inl (kk 0, 2880, .inl (fun j => iI (z1 2 j)))), (b 2, .inl (kk 1, 45, .inl (fun j => iI (z1 3 j)))), (q1, .inr (2, [.null, .null, .null, .null]))] := hD
  refine lv_dup hx hb dX3_init_19 rfl ?_
  have hPc := hP.sub (ws' := [(q1, .inr (2, [.null, .null, .null, .null]))]) [4] rfl
  have hFc := va_free (wc := [(q1, .inr (2, [.null, .null, .null, .null]))]) hD hS hA [4] rfl
  refine va_callv (va_runIN (As := []) (rest := [.ref q1, .ref h0]) ⟨hx, hb, hml, hown, hts⟩ (k_X2_init l D kk q1 H.size) ⟨va_cnB 0 hts gX3_init_X2_init_n18 rfl rfl rfl hN.2.2.2.2.1 (hts _ (List.mem_of_getElem? (i := 10) rfl)) ⟨by decide +kernel, by decide +kernel, by decide +kernel⟩ ⟨(Nat.le_of_ble_eq_true rfl), (Nat.le_of_ble_eq_true rfl)⟩, rfl, hts _ (List.mem_of_getElem? (i := 25) rfl)⟩ ⟨Bl_pc nB_bl, fun U hU hW => ⟨rfl, nB_to hPc hK hN U hU hW⟩⟩ rfl rfl hl.1 rfl (lv_room (Nat.le_of_ble_eq_true rfl)) dX3_init_20 ⟨(Nat.le_of_ble_eq_true rfl), (Nat.le_of_ble_eq_true rfl)⟩) hS (fun q _ h => hFc q h) hFc (fun c1 t H1 locs ht hvm hw hB hz1 hk1 hS => ?_)
  obtain ⟨hP1, hD1⟩ := hB
  rw [ht] at hP1
  have hw : c1 0 = q1 := hw
  subst hw
  obtain ⟨hP, hD⟩ := va_join (wr := [(h0, .inr (3, [.ref (b 0), .null, .null, .null])), (b 0, .inr (1, [.ref (b 1), .ref (b 2)])), (b 1, .inl (kk 0, 2880, .inl (fun j => iI (z1 2 j)))), (b 2, .inl (kk 1, 45, .inl (fun j => iI (z1 3 j))))]) (w1 := [(c1 0, .inr (2, [.ref (c1 1), .ref (c1 2), .ref (c1 3), .ref (c1 4)])), (c1 1, .inl (kk 0, 5, .inl (fun j => iI (z0 1 j)))), (c1 2, .inl (kk 0, 5, .inl (fun j => iI (z0 2 j)))), (c1 3, .inl (kk 0, 5, .inl (fun j => iI (z0 3 j)))), (c1 4, .inl (kk 0, 5, .inl (fun j => iI (z0 4 j))))]) hP hD [4] [0, 1, 2, 3] rfl rfl (by decide) (by decide) hk1 hFc hP1 hD1
  generalize H1 = H at hP hS ⊢
  have hP : va_P D vwCl [(h0, .inr (3, [.ref (b 0), .null, .null, .null])), (b 0, .inr (1, [.ref (b 1), .ref (b 2)])), (b 1, .inl (kk 0, 2880, .inl (fun j => iI (z1 2 j)))), (b 2, .inl (kk 1, 45, .inl (fun j => iI (z1 3 j)))), (c1 0, .inr (2, [.ref (c1 1), .ref (c1 2), .ref (c1 3), .ref (c1 4)])), (c1 1, .inl (kk 0, 5, .inl (fun j => iI (z0 1 j)))), (c1 2, .inl (kk 0, 5, .inl (fun j => iI (z0 2 j)))), (c1 3, .inl (kk 0, 5, .inl (fun j => iI (z0 3 j)))), (c1 4, .inl (kk 0, 5, .inl (fun j => iI (z0 4 j))))] H := hP
  have hD : va_D A [(h0, .inr (3, [.ref (b 0), .null, .null, .null])), (b 0, .inr (1, [.ref (b 1), .ref (b 2)])), (b 1, .inl (kk 0, 2880, .inl (fun j => iI (z1 2 j)))), (b 2, .inl (kk 1, 45, .inl (fun j => iI (z1 3 j)))), (c1 0, .inr (2, [.ref (c1 1), .ref (c1 2), .ref (c1 3), .ref (c1 4)])), (c1 1, .inl (kk 0, 5, .inl (fun j => iI (z0 1 j)))), (c1 2, .inl (kk 0, 5, .inl (fun j => iI (z0 2 j)))), (c1 3, .inl (kk 0, 5, .inl (fun j => iI (z0 3 j)))), (c1 4, .inl (kk 0, 5, .inl (fun j => iI (z0 4 j))))] := hD
  refine va_putF (D := D) (ci := 3) (v := .ref (c1 0)) (ty := .object "PictureProof$Rectangles") (C := RX3) (T := TX3) (N := 4) hx hb hts hin3 tyX3 tyX3_ok nmX3 hown hK hP hD hS 0 rfl rfl 1 (by decide) (hts _ (List.mem_of_getElem? (i := 11) rfl)) (fun _ h9 => h9) rfl hin rfl (by decide +kernel) rfl rfl (Nat.le_of_ble_eq_true rfl) dX3_init_23 (fun H locs hP hD hS => ?_)
  have hP : va_P D vwCl [(h0, .inr (3, [.ref (b 0), .ref (c1 0), .null, .null])), (b 0, .inr (1, [.ref (b 1), .ref (b 2)])), (b 1, .inl (kk 0, 2880, .inl (fun j => iI (z1 2 j)))), (b 2, .inl (kk 1, 45, .inl (fun j => iI (z1 3 j)))), (c1 0, .inr (2, [.ref (c1 1), .ref (c1 2), .ref (c1 3), .ref (c1 4)])), (c1 1, .inl (kk 0, 5, .inl (fun j => iI (z0 1 j)))), (c1 2, .inl (kk 0, 5, .inl (fun j => iI (z0 2 j)))), (c1 3, .inl (kk 0, 5, .inl (fun j => iI (z0 3 j)))), (c1 4, .inl (kk 0, 5, .inl (fun j => iI (z0 4 j))))] H := hP
  have hD : va_D A [(h0, .inr (3, [.ref (b 0), .ref (c1 0), .null, .null])), (b 0, .inr (1, [.ref (b 1), .ref (b 2)])), (b 1, .inl (kk 0, 2880, .inl (fun j => iI (z1 2 j)))), (b 2, .inl (kk 1, 45, .inl (fun j => iI (z1 3 j)))), (c1 0, .inr (2, [.ref (c1 1), .ref (c1 2), .ref (c1 3), .ref (c1 4)])), (c1 1, .inl (kk 0, 5, .inl (fun j => iI (z0 1 j)))), (c1 2, .inl (kk 0, 5, .inl (fun j => iI (z0 2 j)))), (c1 3, .inl (kk 0, 5, .inl (fun j => iI (z0 3 j)))), (c1 4, .inl (kk 0, 5, .inl (fun j => iI (z0 4 j))))] := hD
  refine lv_aload_n hx hb dX3_init_26 rfl (lv_at hl 0 rfl) ?_
  refine va_new (ci := 2) (fs := [.null, .null, .null, .null]) (C := RX2) (T := TX2) (N := 4) hx hb hts hin2 tyX2 tyX2_ok hown (hts _ (List.mem_of_getElem? (i := 8) rfl)) (hts _ (List.mem_of_getElem? (i := 9) rfl)) (hts _ (List.mem_of_getElem? (i := 10) rfl)) hK hP hD hS hA rfl (by decide) (Nat.le_of_ble_eq_true rfl) (Nat.le_of_ble_eq_true rfl) dX3_init_27 (fun q2 H hP hD hS => ?_)
  have hP : va_P D vwCl [(h0, .inr (3, [.ref (b 0), .ref (c1 0), .null, .null])), (b 0, .inr (1, [.ref (b 1), .ref (b 2)])), (b 1, .inl (kk 0, 2880, .inl (fun j => iI (z1 2 j)))), (b 2, .inl (kk 1, 45, .inl (fun j => iI (z1 3 j)))), (c1 0, .inr (2, [.ref (c1 1), .ref (c1 2), .ref (c1 3), .ref (c1 4)])), (c1 1, .inl (kk 0, 5, .inl (fun j => iI (z0 1 j)))), (c1 2, .inl (kk 0, 5, .inl (fun j => iI (z0 2 j)))), (c1 3, .inl (kk 0, 5, .inl (fun j => iI (z0 3 j)))), (c1 4, .inl (kk 0, 5, .inl (fun j => iI (z0 4 j)))), (q2, .inr (2, [.null, .null, .null, .null]))] H := hP
  have hD : va_D A [(h0, .inr (3, [.ref (b 0), .ref (c1 0), .null, .null])), (b 0, .inr (1, [.ref (b 1), .ref (b 2)])), (b 1, .inl (kk 0, 2880, .inl (fun j => iI (z1 2 j)))), (b 2, .inl (kk 1, 45, .inl (fun j => iI (z1 3 j)))), (c1 0, .inr (2, [.ref (c1 1), .ref (c1 2), .ref (c1 3), .ref (c1 4)])), (c1 1, .inl (kk 0, 5, .inl (fun j => iI (z0 1 j)))), (c1 2, .inl (kk 0, 5, .inl (fun j => iI (z0 2 j)))), (c1 3, .inl (kk 0, 5, .inl (fun j => iI (z0 3 j)))), (c1 4, .inl (kk 0, 5, .inl (fun j => iI (z0 4 j)))), (q2, .inr (2, [.null, .null, .null, .null]))] := hD
  refine lv_dup hx hb dX3_init_30 rfl ?_
  have hPc := hP.sub (ws' := [(q2, .inr (2, [.null, .null, .null, .null]))]) [9] rfl
  have hFc := va_free (wc := [(q2, .inr (2, [.null, .null, .null, .null]))]) hD hS hA [9] rfl
  refine va_callv (va_runIN (As := []) (rest := [.ref q2, .ref h0]) ⟨hx, hb, hml, hown, hts⟩ (k_X2_init l D kk q2 H.size) ⟨va_cnB 0 hts gX3_init_X2_init_n18 rfl rfl rfl hN.2.2.2.2.1 (hts _ (List.mem_of_getElem? (i := 10) rfl)) ⟨by decide +kernel, by decide +kernel, by decide +kernel⟩ ⟨(Nat.le_of_ble_eq_true rfl), (Nat.le_of_ble_eq_true rfl)⟩, rfl, hts _ (List.mem_of_getElem? (i := 25) rfl)⟩ ⟨Bl_pc nB_bl, fun U hU hW => ⟨rfl, nB_to hPc hK hN U hU hW⟩⟩ rfl rfl hl.1 rfl (lv_room (Nat.le_of_ble_eq_true rfl)) dX3_init_31 ⟨(Nat.le_of_ble_eq_true rfl), (Nat.le_of_ble_eq_true rfl)⟩) hS (fun q _ h => hFc q h) hFc (fun c2 t H1 locs ht hvm hw hB hz1 hk1 hS => ?_)
  obtain ⟨hP1, hD1⟩ := hB
  rw [ht] at hP1
  have hw : c2 0 = q2 := hw
  subst hw
  obtain ⟨hP, hD⟩ := va_join (wr := [(h0, .inr (3, [.ref (b 0), .ref (c1 0), .null, .null])), (b 0, .inr (1, [.ref (b 1), .ref (b 2)])), (b 1, .inl (kk 0, 2880, .inl (fun j => iI (z1 2 j)))), (b 2, .inl (kk 1, 45, .inl (fun j => iI (z1 3 j)))), (c1 0, .inr (2, [.ref (c1 1), .ref (c1 2), .ref (c1 3), .ref (c1 4)])), (c1 1, .inl (kk 0, 5, .inl (fun j => iI (z0 1 j)))), (c1 2, .inl (kk 0, 5, .inl (fun j => iI (z0 2 j)))), (c1 3, .inl (kk 0, 5, .inl (fun j => iI (z0 3 j)))), (c1 4, .inl (kk 0, 5, .inl (fun j => iI (z0 4 j))))]) (w1 := [(c2 0, .inr (2, [.ref (c2 1), .ref (c2 2), .ref (c2 3), .ref (c2 4)])), (c2 1, .inl (kk 0, 5, .inl (fun j => iI (z0 1 j)))), (c2 2, .inl (kk 0, 5, .inl (fun j => iI (z0 2 j)))), (c2 3, .inl (kk 0, 5, .inl (fun j => iI (z0 3 j)))), (c2 4, .inl (kk 0, 5, .inl (fun j => iI (z0 4 j))))]) hP hD [9] [0, 1, 2, 3, 4, 5, 6, 7, 8] rfl rfl (by decide) (by decide) hk1 hFc hP1 hD1
  generalize H1 = H at hP hS ⊢
  have hP : va_P D vwCl [(h0, .inr (3, [.ref (b 0), .ref (c1 0), .null, .null])), (b 0, .inr (1, [.ref (b 1), .ref (b 2)])), (b 1, .inl (kk 0, 2880, .inl (fun j => iI (z1 2 j)))), (b 2, .inl (kk 1, 45, .inl (fun j => iI (z1 3 j)))), (c1 0, .inr (2, [.ref (c1 1), .ref (c1 2), .ref (c1 3), .ref (c1 4)])), (c1 1, .inl (kk 0, 5, .inl (fun j => iI (z0 1 j)))), (c1 2, .inl (kk 0, 5, .inl (fun j => iI (z0 2 j)))), (c1 3, .inl (kk 0, 5, .inl (fun j => iI (z0 3 j)))), (c1 4, .inl (kk 0, 5, .inl (fun j => iI (z0 4 j)))), (c2 0, .inr (2, [.ref (c2 1), .ref (c2 2), .ref (c2 3), .ref (c2 4)])), (c2 1, .inl (kk 0, 5, .inl (fun j => iI (z0 1 j)))), (c2 2, .inl (kk 0, 5, .inl (fun j => iI (z0 2 j)))), (c2 3, .inl (kk 0, 5, .inl (fun j => iI (z0 3 j)))), (c2 4, .inl (kk 0, 5, .inl (fun j => iI (z0 4 j))))] H := hP
  have hD : va_D A [(h0, .inr (3, [.ref (b 0), .ref (c1 0), .null, .null])), (b 0, .inr (1, [.ref (b 1), .ref (b 2)])), (b 1, .inl (kk 0, 2880, .inl (fun j => iI (z1 2 j)))), (b 2, .inl (kk 1, 45, .inl (fun j => iI (z1 3 j)))), (c1 0, .inr (2, [.ref (c1 1), .ref (c1 2), .ref (c1 3), .ref (c1 4)])), (c1 1, .inl (kk 0, 5, .inl (fun j => iI (z0 1 j)))), (c1 2, .inl (kk 0, 5, .inl (fun j => iI (z0 2 j)))), (c1 3, .inl (kk 0, 5, .inl (fun j => iI (z0 3 j)))), (c1 4, .inl (kk 0, 5, .inl (fun j => iI (z0 4 j)))), (c2 0, .inr (2, [.ref (c2 1), .ref (c2 2), .ref (c2 3), .ref (c2 4)])), (c2 1, .inl (kk 0, 5, .inl (fun j => iI (z0 1 j)))), (c2 2, .inl (kk 0, 5, .inl (fun j => iI (z0 2 j)))), (c2 3, .inl (kk 0, 5, .inl (fun j => iI (z0 3 j)))), (c2 4, .inl (kk 0, 5, .inl (fun j => iI (z0 4 j))))] := hD
  refine va_putF (D := D) (ci := 3) (v := .ref (c2 0)) (ty := .object "PictureProof$Rectangles") (C := RX3) (T := TX3) (N := 4) hx hb hts hin3 tyX3 tyX3_ok nmX3 hown hK hP hD hS 0 rfl rfl 2 (by decide) (hts _ (List.mem_of_getElem? (i := 12) rfl)) (fun _ h9 => h9) rfl hin rfl (by decide +kernel) rfl rfl (Nat.le_of_ble_eq_true rfl) dX3_init_34 (fun H locs hP hD hS => ?_)
  have hP : va_P D vwCl [(h0, .inr (3, [.ref (b 0), .ref (c1 0), .ref (c2 0), .null])), (b 0, .inr (1, [.ref (b 1), .ref (b 2)])), (b 1, .inl (kk 0, 2880, .inl (fun j => iI (z1 2 j)))), (b 2, .inl (kk 1, 45, .inl (fun j => iI (z1 3 j)))), (c1 0, .inr (2, [.ref (c1 1), .ref (c1 2), .ref (c1 3), .ref (c1 4)])), (c1 1, .inl (kk 0, 5, .inl (fun j => iI (z0 1 j)))), (c1 2, .inl (kk 0, 5, .inl (fun j => iI (z0 2 j)))), (c1 3, .inl (kk 0, 5, .inl (fun j => iI (z0 3 j)))), (c1 4, .inl (kk 0, 5, .inl (fun j => iI (z0 4 j)))), (c2 0, .inr (2, [.ref (c2 1), .ref (c2 2), .ref (c2 3), .ref (c2 4)])), (c2 1, .inl (kk 0, 5, .inl (fun j => iI (z0 1 j)))), (c2 2, .inl (kk 0, 5, .inl (fun j => iI (z0 2 j)))), (c2 3, .inl (kk 0, 5, .inl (fun j => iI (z0 3 j)))), (c2 4, .inl (kk 0, 5, .inl (fun j => iI (z0 4 j))))] H := hP
  have hD : va_D A [(h0, .inr (3, [.ref (b 0), .ref (c1 0), .ref (c2 0), .null])), (b 0, .inr (1, [.ref (b 1), .ref (b 2)])), (b 1, .inl (kk 0, 2880, .inl (fun j => iI (z1 2 j)))), (b 2, .inl (kk 1, 45, .inl (fun j => iI (z1 3 j)))), (c1 0, .inr (2, [.ref (c1 1), .ref (c1 2), .ref (c1 3), .ref (c1 4)])), (c1 1, .inl (kk 0, 5, .inl (fun j => iI (z0 1 j)))), (c1 2, .inl (kk 0, 5, .inl (fun j => iI (z0 2 j)))), (c1 3, .inl (kk 0, 5, .inl (fun j => iI (z0 3 j)))), (c1 4, .inl (kk 0, 5, .inl (fun j => iI (z0 4 j)))), (c2 0, .inr (2, [.ref (c2 1), .ref (c2 2), .ref (c2 3), .ref (c2 4)])), (c2 1, .inl (kk 0, 5, .inl (fun j => iI (z0 1 j)))), (c2 2, .inl (kk 0, 5, .inl (fun j => iI (z0 2 j)))), (c2 3, .inl (kk 0, 5, .inl (fun j => iI (z0 3 j)))), (c2 4, .inl (kk 0, 5, .inl (fun j => iI (z0 4 j))))] := hD
  refine lv_aload_n hx hb dX3_init_37 rfl (lv_at hl 0 rfl) ?_
  refine va_new (ci := 0) (fs := [.null, .null]) (C := RX0) (T := TX0) (N := 2) hx hb hts hin0 tyX0 tyX0_ok hown (hts _ (List.mem_of_getElem? (i := 13) rfl)) (hts _ (List.mem_of_getElem? (i := 14) rfl)) (hts _ (List.mem_of_getElem? (i := 15) rfl)) hK hP hD hS hA rfl (by decide) (Nat.le_of_ble_eq_true rfl) (Nat.le_of_ble_eq_true rfl) dX3_init_38 (fun q3 H hP hD hS => ?_)
  have hP : va_P D vwCl [(h0, .inr (3, [.ref (b 0), .ref (c1 0), .ref (c2 0), .null])), (b 0, .inr (1, [.ref (b 1), .ref (b 2)])), (b 1, .inl (kk 0, 2880, .inl (fun j => iI (z1 2 j)))), (b 2, .inl (kk 1, 45, .inl (fun j => iI (z1 3 j)))), (c1 0, .inr (2, [.ref (c1 1), .ref (c1 2), .ref (c1 3), .ref (c1 4)])), (c1 1, .inl (kk 0, 5, .inl (fun j => iI (z0 1 j)))), (c1 2, .inl (kk 0, 5, .inl (fun j => iI (z0 2 j)))), (c1 3, .inl (kk 0, 5, .inl (fun j => iI (z0 3 j)))), (c1 4, .inl (kk 0, 5, .inl (fun j => iI (z0 4 j)))), (c2 0, .inr (2, [.ref (c2 1), .ref (c2 2), .ref (c2 3), .ref (c2 4)])), (c2 1, .inl (kk 0, 5, .inl (fun j => iI (z0 1 j)))), (c2 2, .inl (kk 0, 5, .inl (fun j => iI (z0 2 j)))), (c2 3, .inl (kk 0, 5, .inl (fun j => iI (z0 3 j)))), (c2 4, .inl (kk 0, 5, .inl (fun j => iI (z0 4 j)))), (q3, .inr (0, [.null, .null]))] H := hP
  have hD : va_D A [(h0, .inr (3, [.ref (b 0), .ref (c1 0), .ref (c2 0), .null])), (b 0, .inr (1, [.ref (b 1), .ref (b 2)])), (b 1, .inl (kk 0, 2880, .inl (fun j => iI (z1 2 j)))), (b 2, .inl (kk 1, 45, .inl (fun j => iI (z1 3 j)))), (c1 0, .inr (2, [.ref (c1 1), .ref (c1 2), .ref (c1 3), .ref (c1 4)])), (c1 1, .inl (kk 0, 5, .inl (fun j => iI (z0 1 j)))), (c1 2, .inl (kk 0, 5, .inl (fun j => iI (z0 2 j)))), (c1 3, .inl (kk 0, 5, .inl (fun j => iI (z0 3 j)))), (c1 4, .inl (kk 0, 5, .inl (fun j => iI (z0 4 j)))), (c2 0, .inr (2, [.ref (c2 1), .ref (c2 2), .ref (c2 3), .ref (c2 4)])), (c2 1, .inl (kk 0, 5, .inl (fun j => iI (z0 1 j)))), (c2 2, .inl (kk 0, 5, .inl (fun j => iI (z0 2 j)))), (c2 3, .inl (kk 0, 5, .inl (fun j => iI (z0 3 j)))), (c2 4, .inl (kk 0, 5, .inl (fun j => iI (z0 4 j)))), (q3, .inr (0, [.null, .null]))] := hD
  refine lv_dup hx hb dX3_init_41 rfl ?_
  have hPc := hP.sub (ws' := [(q3, .inr (0, [.null, .null]))]) [14] rfl
  have hFc := va_free (wc := [(q3, .inr (0, [.null, .null]))]) hD hS hA [14] rfl
  refine va_callv (va_runIN (As := []) (rest := [.ref q3, .ref h0]) ⟨hx, hb, hml, hown, hts⟩ (k_X0_init l D kk q3 H.size) ⟨va_cnB 0 hts gX3_init_X0_init_n28 rfl rfl rfl hN.2.2.2.2.2 (hts _ (List.mem_of_getElem? (i := 15) rfl)) ⟨by decide +kernel, by decide +kernel, by decide +kernel⟩ ⟨(Nat.le_of_ble_eq_true rfl), (Nat.le_of_ble_eq_true rfl)⟩, rfl, hts _ (List.mem_of_getElem? (i := 32) rfl)⟩ ⟨Bl_pc nB_bl, fun U hU hW => ⟨rfl, nB_to hPc hK hN U hU hW⟩⟩ rfl rfl hl.1 rfl (lv_room (Nat.le_of_ble_eq_true rfl)) dX3_init_42 ⟨(Nat.le_of_ble_eq_true rfl), (Nat.le_of_ble_eq_true rfl)⟩) hS (fun q _ h => hFc q h) hFc (fun d t H1 locs ht hvm hw hB hz1 hk1 hS => ?_)
  obtain ⟨hP1, hD1⟩ := hB
  rw [ht] at hP1
  have hw : d 0 = q3 := hw
  subst hw
  obtain ⟨hP, hD⟩ := va_join (wr := [(h0, .inr (3, [.ref (b 0), .ref (c1 0), .ref (c2 0), .null])), (b 0, .inr (1, [.ref (b 1), .ref (b 2)])), (b 1, .inl (kk 0, 2880, .inl (fun j => iI (z1 2 j)))), (b 2, .inl (kk 1, 45, .inl (fun j => iI (z1 3 j)))), (c1 0, .inr (2, [.ref (c1 1), .ref (c1 2), .ref (c1 3), .ref (c1 4)])), (c1 1, .inl (kk 0, 5, .inl (fun j => iI (z0 1 j)))), (c1 2, .inl (kk 0, 5, .inl (fun j => iI (z0 2 j)))), (c1 3, .inl (kk 0, 5, .inl (fun j => iI (z0 3 j)))), (c1 4, .inl (kk 0, 5, .inl (fun j => iI (z0 4 j)))), (c2 0, .inr (2, [.ref (c2 1), .ref (c2 2), .ref (c2 3), .ref (c2 4)])), (c2 1, .inl (kk 0, 5, .inl (fun j => iI (z0 1 j)))), (c2 2, .inl (kk 0, 5, .inl (fun j => iI (z0 2 j)))), (c2 3, .inl (kk 0, 5, .inl (fun j => iI (z0 3 j)))), (c2 4, .inl (kk 0, 5, .inl (fun j => iI (z0 4 j))))]) (w1 := [(d 0, .inr (0, [.ref (d 1), .ref (d 2)])), (d 1, .inl (kk 0, 5, .inl (fun j => iI (z0 1 j)))), (d 2, .inl (kk 0, 5, .inl (fun j => iI (z0 2 j))))]) hP hD [14] [0, 1, 2, 3, 4, 5, 6, 7, 8, 9, 10, 11, 12, 13] rfl rfl (by decide) (by decide) hk1 hFc hP1 hD1
  generalize H1 = H at hP hS ⊢
  have hP : va_P D vwCl [(h0, .inr (3, [.ref (b 0), .ref (c1 0), .ref (c2 0), .null])), (b 0, .inr (1, [.ref (b 1), .ref (b 2)])), (b 1, .inl (kk 0, 2880, .inl (fun j => iI (z1 2 j)))), (b 2, .inl (kk 1, 45, .inl (fun j => iI (z1 3 j)))), (c1 0, .inr (2, [.ref (c1 1), .ref (c1 2), .ref (c1 3), .ref (c1 4)])), (c1 1, .inl (kk 0, 5, .inl (fun j => iI (z0 1 j)))), (c1 2, .inl (kk 0, 5, .inl (fun j => iI (z0 2 j)))), (c1 3, .inl (kk 0, 5, .inl (fun j => iI (z0 3 j)))), (c1 4, .inl (kk 0, 5, .inl (fun j => iI (z0 4 j)))), (c2 0, .inr (2, [.ref (c2 1), .ref (c2 2), .ref (c2 3), .ref (c2 4)])), (c2 1, .inl (kk 0, 5, .inl (fun j => iI (z0 1 j)))), (c2 2, .inl (kk 0, 5, .inl (fun j => iI (z0 2 j)))), (c2 3, .inl (kk 0, 5, .inl (fun j => iI (z0 3 j)))), (c2 4, .inl (kk 0, 5, .inl (fun j => iI (z0 4 j)))), (d 0, .inr (0, [.ref (d 1), .ref (d 2)])), (d 1, .inl (kk 0, 5, .inl (fun j => iI (z0 1 j)))), (d 2, .inl (kk 0, 5, .inl (fun j => iI (z0 2 j))))] H := hP
  have hD : va_D A [(h0, .inr (3, [.ref (b 0), .ref (c1 0), .ref (c2 0), .null])), (b 0, .inr (1, [.ref (b 1), .ref (b 2)])), (b 1, .inl (kk 0, 2880, .inl (fun j => iI (z1 2 j)))), (b 2, .inl (kk 1, 45, .inl (fun j => iI (z1 3 j)))), (c1 0, .inr (2, [.ref (c1 1), .ref (c1 2), .ref (c1 3), .ref (c1 4)])), (c1 1, .inl (kk 0, 5, .inl (fun j => iI (z0 1 j)))), (c1 2, .inl (kk 0, 5, .inl (fun j => iI (z0 2 j)))), (c1 3, .inl (kk 0, 5, .inl (fun j => iI (z0 3 j)))), (c1 4, .inl (kk 0, 5, .inl (fun j => iI (z0 4 j)))), (c2 0, .inr (2, [.ref (c2 1), .ref (c2 2), .ref (c2 3), .ref (c2 4)])), (c2 1, .inl (kk 0, 5, .inl (fun j => iI (z0 1 j)))), (c2 2, .inl (kk 0, 5, .inl (fun j => iI (z0 2 j)))), (c2 3, .inl (kk 0, 5, .inl (fun j => iI (z0 3 j)))), (c2 4, .inl (kk 0, 5, .inl (fun j => iI (z0 4 j)))), (d 0, .inr (0, [.ref (d 1), .ref (d 2)])), (d 1, .inl (kk 0, 5, .inl (fun j => iI (z0 1 j)))), (d 2, .inl (kk 0, 5, .inl (fun j => iI (z0 2 j))))] := hD
  refine va_putF (D := D) (ci := 3) (v := .ref (d 0)) (ty := .object "PictureProof$Histories") (C := RX3) (T := TX3) (N := 4) hx hb hts hin3 tyX3 tyX3_ok nmX3 hown hK hP hD hS 0 rfl rfl 3 (by decide) (hts _ (List.mem_of_getElem? (i := 16) rfl)) (fun _ h9 => h9) rfl hin rfl (by decide +kernel) rfl rfl (Nat.le_of_ble_eq_true rfl) dX3_init_45 (fun H locs hP hD hS => ?_)
  have hP : va_P D vwCl [(h0, .inr (3, [.ref (b 0), .ref (c1 0), .ref (c2 0), .ref (d 0)])), (b 0, .inr (1, [.ref (b 1), .ref (b 2)])), (b 1, .inl (kk 0, 2880, .inl (fun j => iI (z1 2 j)))), (b 2, .inl (kk 1, 45, .inl (fun j => iI (z1 3 j)))), (c1 0, .inr (2, [.ref (c1 1), .ref (c1 2), .ref (c1 3), .ref (c1 4)])), (c1 1, .inl (kk 0, 5, .inl (fun j => iI (z0 1 j)))), (c1 2, .inl (kk 0, 5, .inl (fun j => iI (z0 2 j)))), (c1 3, .inl (kk 0, 5, .inl (fun j => iI (z0 3 j)))), (c1 4, .inl (kk 0, 5, .inl (fun j => iI (z0 4 j)))), (c2 0, .inr (2, [.ref (c2 1), .ref (c2 2), .ref (c2 3), .ref (c2 4)])), (c2 1, .inl (kk 0, 5, .inl (fun j => iI (z0 1 j)))), (c2 2, .inl (kk 0, 5, .inl (fun j => iI (z0 2 j)))), (c2 3, .inl (kk 0, 5, .inl (fun j => iI (z0 3 j)))), (c2 4, .inl (kk 0, 5, .inl (fun j => iI (z0 4 j)))), (d 0, .inr (0, [.ref (d 1), .ref (d 2)])), (d 1, .inl (kk 0, 5, .inl (fun j => iI (z0 1 j)))), (d 2, .inl (kk 0, 5, .inl (fun j => iI (z0 2 j))))] H := hP
  have hD : va_D A [(h0, .inr (3, [.ref (b 0), .ref (c1 0), .ref (c2 0), .ref (d 0)])), (b 0, .inr (1, [.ref (b 1), .ref (b 2)])), (b 1, .inl (kk 0, 2880, .inl (fun j => iI (z1 2 j)))), (b 2, .inl (kk 1, 45, .inl (fun j => iI (z1 3 j)))), (c1 0, .inr (2, [.ref (c1 1), .ref (c1 2), .ref (c1 3), .ref (c1 4)])), (c1 1, .inl (kk 0, 5, .inl (fun j => iI (z0 1 j)))), (c1 2, .inl (kk 0, 5, .inl (fun j => iI (z0 2 j)))), (c1 3, .inl (kk 0, 5, .inl (fun j => iI (z0 3 j)))), (c1 4, .inl (kk 0, 5, .inl (fun j => iI (z0 4 j)))), (c2 0, .inr (2, [.ref (c2 1), .ref (c2 2), .ref (c2 3), .ref (c2 4)])), (c2 1, .inl (kk 0, 5, .inl (fun j => iI (z0 1 j)))), (c2 2, .inl (kk 0, 5, .inl (fun j => iI (z0 2 j)))), (c2 3, .inl (kk 0, 5, .inl (fun j => iI (z0 3 j)))), (c2 4, .inl (kk 0, 5, .inl (fun j => iI (z0 4 j)))), (d 0, .inr (0, [.ref (d 1), .ref (d 2)])), (d 1, .inl (kk 0, 5, .inl (fun j => iI (z0 1 j)))), (d 2, .inl (kk 0, 5, .inl (fun j => iI (z0 2 j))))] := hD
  exact W.vret hx hb hr (fun t ht hW => ⟨⟨(fun i => ([h0, b 0, b 1, b 2, c1 0, c1 1, c1 2, c1 3, c1 4, c2 0, c2 1, c2 2, c2 3, c2 4, d 0, d 1, d 2]).getD i 0), rfl, rfl, by rw [ht]; exact hP, hD⟩, hS.F ht⟩) hS.2.2 dX3_init_48
