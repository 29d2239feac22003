/-! ===== growth: what is thrown is a new cell ===== -/
section PZ
variable {p : Program} {l : Launch} {e : Env} {R : Room} {s : State} {m : MethodId} {args : Array Value} {below : List Frame} {meth : Method} {c : Code} {H : Heap} {locs : List Loc} {cells slots : Nat} {Q : State → Prop}
variable {ls : Array Slot} {rest : List Value} {free : Addr → Prop} {Qc : Array Value → State → Outcome → State → Prop} {XC : String → State → State → Prop}
/-- the kit's row of a throw, that tells of the new cell too -/
theorem pz_throwS {cc : ByteArray} {pc : Nat} (hexec : p.tables.exec = Jvm.exec) (hb : c.code = cc) (hl : l.stackTraces = false) {own cls text : String} {names : List String} {ik is ic mc ms sa : Nat} {A : Nat → Prop}
    (hown : s.vm.findClass own = some m.cls) (hcls : Bundle.fit cls = true) (hnames : ∀ n ∈ names, Bundle.fit n = true)
    (hk : (Cond.classLink own ik cls).before args s = true) (hini : (Cond.initialized cls).before args s = true) (hstr : vk_R own is text sa s) (hat : ∀ w ∈ vx_atS own ic cls names, w.before args s = true)
    (hgood : ∀ w ∈ Cond.classLink own ik cls :: Cond.initialized cls :: vx_atS own ic cls names, vx_ot w = true)
    (hU : vx_Zq Bundle.tN "UNASSIGNED_STACK" Bundle.steD A s s.heap) (hN : vx_Zq Bundle.tN "SUPPRESSED_SENTINEL" Bundle.listD A s s.heap) (hS : va_S A s.heap H locs) (hsize : ls.size = c.maxLocals)
    (d0 : decode cc pc = .ok (.new ik, 3)) (d3 : decode cc (pc + 3) = .ok (.dup, 1)) (d4 : decode cc (pc + 4) = .ok (.ldc is, 2)) (d6 : decode cc (pc + 6) = .ok (.invokespecial ic, 3)) (d9 : decode cc (pc + 9) = .ok (.athrow, 1))
    (hout : ∀ x ∈ c.exceptionTable.toList, covers x (pc + 9) = false)
    (hRframes : names.length + 3 < R.frames) (hRlocals : (rest.map fun v => v.category).sum + (13 * (names.length + 1) + 43) ≤ R.locals) (hRcells : cells + 1 ≤ R.cells) (hRslots : slots + 6 ≤ R.slots) (hlocks : meth.locks = false)
    (hx : ∀ t : State, s.vm.Alike t.vm → H.size + 1 ≤ t.heap.size → (∀ q : Nat, q < H.size → t.heap[q]? = H[q]?) → XC cls s t)
    (hf : ∀ z ∈ locs, free z.base) (hc : cells + 1 ≤ mc) (hs : slots + 6 ≤ ms) :
    W p l e R s m args below meth c H locs cells slots (vx_MQ below Qc XC args s mc ms free) (F0 m pc ls rest) := by
  intro T hT X
  have htr : e.platform.stackTraces = false := (show e.platform.stackTraces = l.stackTraces by rw [X.admits.platform]).trans hl
  have Y := vx_rebase X (R' := { frames := R.frames, locals := R.locals, cells := 1, slots := 6 }) (Nat.le_refl _) (Nat.le_refl _) hRcells hRslots
  obtain ⟨s', hA⟩ : ∃ z, z = (T.setVm s.vm).setFrames (.invoking m args :: below) := ⟨_, rfl⟩
  rw [← hA] at Y
  have hvm : s'.vm = s.vm := by rw [hA]; rfl
  have hhp : s'.heap = H := by rw [hA]; exact hT
  have hW0 : s.WarmedH s'.vm := by rw [hvm]; exact State.WarmedH.refl s
  have hat' : ∀ w ∈ vx_atS own ic cls names, w.before args s' = true := fun w hw => vx_ot_at hW0 hvm.symm (hgood w (List.mem_cons_of_mem _ (List.mem_cons_of_mem _ hw))) (hat w hw)
  have hk' : (Cond.classLink own ik cls).before args s' = true := vx_ot_at hW0 hvm.symm (hgood _ List.mem_cons_self) hk
  have hini' : (Cond.initialized cls).before args s' = true := vx_ot_at hW0 hvm.symm (hgood _ (List.mem_cons_of_mem _ List.mem_cons_self)) hini
  have hU' : vx_Zq Bundle.tN "UNASSIGNED_STACK" Bundle.steD A s' s'.heap := by rw [hhp]; exact vx_Zq.moved hW0.alike (hU.kept hS.2.1)
  have hN' : vx_Zq Bundle.tN "SUPPRESSED_SENTINEL" Bundle.listD A s' s'.heap := by rw [hhp]; exact vx_Zq.moved hW0.alike (hN.kept hS.2.1)
  have h : ∀ w ∈ Bundle.ownAtoms own ic cls names, w.before args s' = true := vx_own hat' (vx_isRefq hU'.1) (vx_isRefq hN'.1) hU'.2.word hN'.2.word
  have hown' : s'.vm.findClass own = some m.cls := by rw [hvm]; exact hown
  have hins : (Cond.instantiable cls 6).before args s' = true := h _ (by simp [Bundle.ownAtoms])
  obtain ⟨vm₁, cX, kX, hfX, hkX, -, -, X₁, st1⟩ := Y.newCold hexec (own := own) (C := cls) (index := ik) (n := 6) hown' hk' hins hini'
    (g := F0 m pc ls rest) rfl (by rw [hb]; exact d0) (Nat.le_refl _) (Nat.le_refl _)
  generalize hT1 : (T.setVm vm₁).pushCell { cls := cX, slots := kX.instanceTypes.map defaultValue, vm := .none } = T1 at X₁ st1
  have hcat : (Value.ref T.heap.size).category = 1 := rfl
  have hcellA : T1.heap[T.heap.size]? = some (freshCell cX kX) := by rw [← hT1]; exact State.heap_pushCell_size _ _
  have d3' : decode c.code (pc + 3) = .ok (.dup, 1) := by rw [hb]; exact d3
  have d4' : decode c.code (pc + 4) = .ok (.ldc is, 2) := by rw [hb]; exact d4
  have hstr' : vk_R own is text sa s' := vk_R.warm hW0 hstr
  obtain ⟨U, hsteps, hrun, hend, hW, hsame, ce, hce, hO⟩ := X₁.ctorThrowS hexec htr (own := own) (cls := cls) (names := names) (ic := ic) hown' hcls hnames h (fun x hx => nomatch hx) hfX hkX hcellA (by rw [hhp, hT]; exact Nat.le_refl _) (msg := .ref sa) rfl
    (g := { method := m, pc := pc + 6, locals := ls, stack := .ref sa :: .ref T.heap.size :: .ref T.heap.size :: rest, locked := none }) rfl hsize rfl rfl (rest := rest) rfl
    (by rw [hb]; exact d6) (by rw [hb]; exact d9) hout hRframes (by simp only [List.map_cons, List.sum_cons, hcat]; omega) hlocks
  obtain ⟨f1, f2⟩ := vx_frame hsame
  rw [hhp] at f1 f2
  have hWs : s.WarmedH U.vm := State.WarmedH.trans hW0 hW
  have hcl : s.vm.findClass cls = some ce.cls := by
    have h9 := hO.cls
    rw [hvm] at h9
    exact h9
  have hall : s.sameButNew ({ U with vm := s.vm } : State) locs mc ms := by
    subst hA
    obtain ⟨e1, e2⟩ := hsame
    rw [State.setFrames_setFrames] at e1
    have h2 : (T.setVm s.vm).sameButNew ({ U with vm := s.vm } : State) [] (0 + 1) (0 + 6) := ⟨e1, e2⟩
    have h3 := X.same.trans h2
    rw [List.append_nil] at h3
    exact h3.mono hc hs
  refine ⟨U, ?_, .threw T.heap.size, hrun, hend, Or.inr ⟨T.heap.size, rfl, cls, ce, locs, hx U hWs.alike (by have h9 := (Array.getElem?_eq_some_iff.mp hce).1; rw [hT] at h9; exact h9) (fun q hq => f2 q hq (fun z hz => nomatch hz)), hce, hO.vm, hcl, hWs, hall, hf⟩⟩
  refine st1 _ ?_
  show Steps p.tables e below (T1.setTop { method := m, pc := pc + 3, locals := ls, stack := .ref T.heap.size :: rest, locked := none }) _
  jvm_step X₁.here [X₁.here.top, hexec, d3', Value.category]
  exact X₁.ldcString hexec (own := own) (text := text) (index := is) (a := sa) hown' hstr'.1 hstr'.2
    (g := { method := m, pc := pc + 4, locals := ls, stack := .ref T.heap.size :: .ref T.heap.size :: rest, locked := none }) rfl d4' _ hsteps
end PZ
section PZ2
variable {p : Program} {l : Launch} {e : Env} {R : Room} {s : State} {m : MethodId} {args : Array Value} {below : List Frame} {meth : Method} {c : Code} {H : Heap} {locs : List Loc} {cells slots : Nat} {Q : State → Prop}
variable {pc : Nat} {ls : Array Slot} {rest st0 : List Value} {mc ms : Nat} {a : Array Value}
/-- a check that can't throw here -/
theorem ri_chkN {A : Nat → Prop} {ok : Prop} {E : String → Prop} (hr : vx_Run p l e R s m args below meth c s.heap locs cells slots mc ms (F0 m pc ls st0) rest (va_Qv (fun _ : Unit => ok) (fun _ t => t.heap = s.heap) (fun _ => False) a) (vx_X (fun _ : Unit => True) (fun X _ _ => E X) (fun _ => False)) (fun _ => False)) (hS : va_S A s.heap s.heap locs) (hE : ∀ X, ¬ E X)
    (kk : ∀ locs1 : List Loc, ok → va_S A s.heap s.heap locs1 → W p l e R s m args below meth c s.heap locs1 (cells + mc) (slots + ms) Q (F0 m (pc + 3) ls rest)) : W p l e R s m args below meth c s.heap locs cells slots Q (F0 m pc ls st0) :=
  vx_callv hr hS (fun _ _ h => h.elim) (fun _ h => h.elim) (fun _ _ h => h.elim)
    (fun X ce q9 _ t H1 locs1 ht hvm _ hB hz hk hS1 hce hcv hcl => (hE X hB).elim)
    (fun _ t H1 locs1 ht _ hp hB _ _ hS1 => by
      have e : H1 = s.heap := ht.symm.trans hB
      subst e
      exact kk locs1 hp hS1)
variable {A A0 : Nat → Prop} {H0 : Heap} {PP : Heap → Prop} {ok : Prop} {E : String → Prop} {v : Int}
/-- a call that can't throw here: its answer, its cells; what else was there stays -/
theorem ri_xi (hr : vx_Run p l e R s m args below meth c H locs cells slots mc ms (F0 m pc ls st0) rest (va_Qi (fun (r : Int32) (_ : Unit) => ok ∧ r = iI v) (fun _ t => PP t.heap) A a) (vx_X (fun _ : Unit => True) (fun X _ _ => E X) (fun _ => False)) A) (hS : va_S A0 H0 H locs) (hA : ∀ q, A q → A0 q) (hE : ∀ X, ¬ E X)
    (kk : ∀ (H1 : Heap) (locs1 : List Loc), PP H1 → H.size ≤ H1.size → (∀ q : Nat, q < H.size → ¬ A q → H1[q]? = H[q]?) → va_S A0 H0 H1 locs1 → W p l e R s m args below meth c H1 locs1 (cells + mc) (slots + ms) Q (F0 m (pc + 3) ls (.int (iI v) :: rest))) : W p l e R s m args below meth c H locs cells slots Q (F0 m pc ls st0) :=
  vx_calli hr hS (fun q _ h => hA q h) hA (fun _ _ h => h.elim)
    (fun X ce q9 _ t H1 locs1 ht hvm _ hB hz hk hS1 hce hcv hcl => (hE X hB).elim)
    (fun r _ t H1 locs1 ht _ hp hB hz hk hS1 => by
      obtain ⟨_, rfl⟩ := hp
      exact kk H1 locs1 (by rw [← ht]; exact hB) hz hk hS1)
/-- .. of a method that never throws -/
theorem ri_wz (hr : va_Run p l e R s m args below meth c H locs cells slots mc ms (F0 m pc ls st0) rest (va_Qi (fun (r : Int32) (_ : Unit) => r = iI v) (fun _ t => PP t.heap) A a) A) (hS : va_S A0 H0 H locs) (hA : ∀ q, A q → A0 q)
    (kk : ∀ (H1 : Heap) (locs1 : List Loc), PP H1 → H.size ≤ H1.size → (∀ q : Nat, q < H.size → ¬ A q → H1[q]? = H[q]?) → va_S A0 H0 H1 locs1 → W p l e R s m args below meth c H1 locs1 (cells + mc) (slots + ms) Q (F0 m (pc + 3) ls (.int (iI v) :: rest))) : W p l e R s m args below meth c H locs cells slots Q (F0 m pc ls st0) :=
  va_calli hr hS (fun q _ h => hA q h) hA (fun r _ t H1 locs1 ht _ hp hB hz hk hS1 => by rw [hp]; exact kk H1 locs1 (by rw [← ht]; exact hB) hz hk hS1)
end PZ2

set_option maxHeartbeats 4000000 in
set_option maxRecDepth 100000 in
theorem kg_X3_checkComparison (l : Launch) (D : va_G) (a : Nat → Nat) (kk : Nat → ClassId) (g : Nat → Nat → Int) (sa : Nat → Nat) (H0 : Heap) (hst : l.stackTraces = false) (b : Int) (t : Int) (n : Int) (hI : XInv g) (hcm : cmpA b t n) (hng : ¬ g 3 (5 + b * 5 + t).toNat = 1) : vx_Met l yX3_checkComparison wsX3_checkComparison ({ frames := 7, cells := 2, slots := 12, locals := 104 }) (va_Pc [.ref (a 0), .int (iI b), .int (iI t), .int (iI n)] (dB H0 sa D kk (xW a kk g))) (va_Qv (fun _ : Unit => False) (fun _ _ => True) (fun _ => False)) (vx_X (fun _ : Unit => True) (fun X _ t9 => X = "java/lang/IllegalStateException" ∧ H0.size + 1 ≤ t9.heap.size) (fun _ => False)) 2 12 (fun _ : Nat => False) := by
  obtain ⟨hb0, ht0, hn0⟩ := id hcm
  refine ri_entX (cc := cX3_checkComparison) (maxL := 4) (ret := none) (by decide) rfl (Nat.le_of_ble_eq_true rfl) ?_
  intro zp ze s zm zb zt zc hx hb hr hts hown hlocks hml hxt hB ls hl
  have hown : s.vm.findClass RX3 = some zm.cls := hown
  have CF : CallFix zp zm zc cX3_checkComparison 4 s ([.ref (a 0), .int (iI b), .int (iI t), .int (iI n)] : List Value).toArray wsX3_checkComparison RX3 := ⟨hx, hb, hml, hown, hts⟩
  obtain ⟨⟨hH0, hT⟩, hP, hK, hN⟩ := hB
  subst hH0
  have hinX3 : ∀ w ∈ wsX30, w ∈ wsX3_checkComparison := (fun _ h => List.mem_cons_of_mem _ (List.mem_append_left _ (List.mem_append_left _ (List.mem_append_left _ (List.mem_append_right _ h)))))
  have hS : va_S (fun _ : Nat => False) s.heap s.heap [] := va_S.rf
  have hl : lv_has ls 4 [(0, .ref (a 0)), (1, .int (iI b)), (2, .int (iI t)), (3, .int (iI n))] := hl
  refine lv_iload_n hx hb dX3_checkComparison_0 rfl (lv_at hl 1 rfl) ?_
  refine ri_rd (ri_runS (As := [.int (iI b)]) (rest := []) CF (k_X3_isBranch l b (by omega)) gX3_checkComparison_X3_isBranch f_X3_isBranch ⟨rfl, rfl, Nat.le_of_ble_eq_true rfl, Nat.le_of_ble_eq_true rfl, Nat.le_of_ble_eq_true rfl, Nat.le_of_ble_eq_true rfl⟩ tB_bl tB_in rfl hl.1 rfl (Nat.le_of_ble_eq_true rfl) dX3_checkComparison_1) ?_
  refine ri_ifeq_b (tgt := 25) hx hb dX3_checkComparison_4 (by decide) (fun h4 => absurd hb0 h4) (fun h4 => ?_)
  refine lv_iload_n hx hb dX3_checkComparison_7 rfl (lv_at hl 2 rfl) ?_
  refine ri_rd (ri_runS (As := [.int (iI t)]) (rest := []) CF (k_X3_isTest l t (by omega)) gX3_checkComparison_X3_isTest f_X3_isTest ⟨rfl, rfl, Nat.le_of_ble_eq_true rfl, Nat.le_of_ble_eq_true rfl, Nat.le_of_ble_eq_true rfl, Nat.le_of_ble_eq_true rfl⟩ tB_bl tB_in rfl hl.1 rfl (Nat.le_of_ble_eq_true rfl) dX3_checkComparison_8) ?_
  refine ri_ifeq_b (tgt := 25) hx hb dX3_checkComparison_11 (by decide) (fun h11 => absurd ht0 h11) (fun h11 => ?_)
  refine lv_iload_n hx hb dX3_checkComparison_14 rfl (lv_at hl 3 rfl) ?_
  refine ri_rd (ri_runS (As := [.int (iI n)]) (rest := []) CF (k_X3_isShade l n (by omega)) gX3_checkComparison_X3_isShade f_X3_isShade ⟨rfl, rfl, Nat.le_of_ble_eq_true rfl, Nat.le_of_ble_eq_true rfl, Nat.le_of_ble_eq_true rfl, Nat.le_of_ble_eq_true rfl⟩ tB_bl tB_in rfl hl.1 rfl (Nat.le_of_ble_eq_true rfl) dX3_checkComparison_15) ?_
  refine ri_ifeq_b (tgt := 25) hx hb dX3_checkComparison_18 (by decide) (fun h18 => absurd hn0 h18) (fun h18 => ?_)
  refine ri_iconst hx hb dX3_checkComparison_21 ?_
  refine lv_goto (tgt := 26) hx hb dX3_checkComparison_22 (by decide) ?_
  refine ri_eq ((bp_t hcm).symm) ?_
  refine ri_chkN (A := (fun _ : Nat => False)) (ri_runSX (As := [.int (iI (bp (cmpA b t n)))]) (rest := []) CF (k_X3_checkArguments l sa s.heap hst (cmpA b t n)) gX3_checkComparison_X3_checkArguments f_X3_checkArguments ⟨rfl, rfl, Nat.le_of_ble_eq_true rfl, Nat.le_of_ble_eq_true rfl, Nat.le_of_ble_eq_true rfl, Nat.le_of_ble_eq_true rfl⟩ cB_bl (cB_in hT) rfl hl.1 rfl (Nat.le_of_ble_eq_true rfl) dX3_checkComparison_26) hS (fun X hX => hX.2 hcm) (fun locs hok hS => ?_)
  refine lv_aload_n hx hb dX3_checkComparison_29 rfl (lv_at hl 0 rfl) ?_
  refine va_get (D := D) (ci := 3) (v := .ref (a 1)) (C := RX3) (T := TX3) (N := 4) hx hb hts hinX3 hown hK hP 0 rfl rfl 0 (by decide) (hts _ (List.mem_of_getElem? (i := 3) rfl)) (fun _ h9 => h9) rfl dX3_checkComparison_30 ?_
  refine lv_iload_n hx hb dX3_checkComparison_33 rfl (lv_at hl 1 rfl) ?_
  refine lv_iload_n hx hb dX3_checkComparison_34 rfl (lv_at hl 2 rfl) ?_
  refine ri_rd (ri_runS (As := [.int (iI b), .int (iI t)]) (rest := [.ref (a 1)]) CF (k_X3_approvedSlot l b t) gX3_checkComparison_X3_approvedSlot f_X3_approvedSlot ⟨rfl, rfl, Nat.le_of_ble_eq_true rfl, Nat.le_of_ble_eq_true rfl, Nat.le_of_ble_eq_true rfl, Nat.le_of_ble_eq_true rfl⟩ tB_bl tB_in rfl hl.1 rfl (Nat.le_of_ble_eq_true rfl) dX3_checkComparison_35) ?_
  refine ri_rd (ri_runV (b := a 1) (As := [.int (iI (5 + b * 5 + t))]) (rest := []) CF (k_X1_has l D a kk g (5 + b * 5 + t) hI (by omega)) gX3_checkComparison_X1_has f_X1_has rfl (va_recv hK hP (ci := 1) (q0 := 1) rfl rfl) ⟨rfl, rfl, Nat.le_of_ble_eq_true rfl, Nat.le_of_ble_eq_true rfl, Nat.le_of_ble_eq_true rfl, Nat.le_of_ble_eq_true rfl⟩ wB_bl (wB_in hP hK hN) rfl hl.1 rfl (Nat.le_of_ble_eq_true rfl) dX3_checkComparison_38) ?_
  refine ri_ifne_b (tgt := 54) hx hb dX3_checkComparison_41 (by decide) (fun h41 => absurd h41 hng) (fun h41 => ?_)
  exact pz_throwS (A := (fun _ : Nat => False)) (cls := "java/lang/IllegalStateException") (names := ["java/lang/RuntimeException", "java/lang/Exception"]) hx hb hst hown (by decide +kernel) (by decide +kernel) (hts _ (List.mem_of_getElem? (i := 1) rfl)) (hts _ (List.mem_of_getElem? (i := 2) rfl)) hT.2.2.2.2.1 (tX_hatS (fun w hw => hts w ((fun _ h => List.mem_cons_of_mem _ (List.mem_append_left _ (List.mem_append_right _ h))) w hw)) hT) (tX_goodS 77) hT.1 hT.2.1 hS (hl.1.trans hml.symm) dX3_checkComparison_44 dX3_checkComparison_47 dX3_checkComparison_48 dX3_checkComparison_50 dX3_checkComparison_53 (fun x hx9 => (hxt x hx9).elim) (Nat.le_of_ble_eq_true rfl) (Nat.le_of_ble_eq_true rfl) (Nat.le_of_ble_eq_true rfl) (Nat.le_of_ble_eq_true rfl) hlocks (fun t9 _ hz9 hk9 => ⟨(), trivial, ⟨rfl, hz9⟩, Nat.le_trans (Nat.le_succ _) hz9, fun q h1 _ => hk9 q h1⟩) (fun z hz => hS.2.2 z hz) (Nat.le_of_ble_eq_true rfl) (Nat.le_of_ble_eq_true rfl)

set_option maxHeartbeats 4000000 in
set_option maxRecDepth 100000 in
theorem kg_X3_differences (l : Launch) (D : va_G) (a : Nat → Nat) (kk : Nat → ClassId) (g : Nat → Nat → Int) (sa : Nat → Nat) (H0 : Heap) (hst : l.stackTraces = false) (b : Int) (t : Int) (n : Int) (hI : XInv g) (hcm : cmpA b t n) (hng : ¬ g 3 (5 + b * 5 + t).toNat = 1) : vx_Met l yX3_differences wsX3_differences ({ frames := 8, cells := 2, slots := 12, locals := 127 }) (va_Pc [.ref (a 0), .int (iI b), .int (iI t), .int (iI n)] (fun U => U.heap = H0 ∧ pB sa D a kk g U)) (va_Qi (fun (_ : Int32) (_ : Unit) => False) (fun _ _ => True) (aA 17 a)) (vx_X (fun _ : Unit => True) (fun X _ t9 => X = "java/lang/IllegalStateException" ∧ H0.size + 1 ≤ t9.heap.size) (fun _ => False)) 2 12 (aA 17 a) := by
  refine ri_entX (cc := cX3_differences) (maxL := 8) (ret := some .int) (by decide) rfl (Nat.le_of_ble_eq_true rfl) ?_
  intro zp ze s zm zb zt zc hx hb hr hts hown hlocks hml hxt hB ls hl
  have hown : s.vm.findClass RX3 = some zm.cls := hown
  have CF : CallFix zp zm zc cX3_differences 8 s ([.ref (a 0), .int (iI b), .int (iI t), .int (iI n)] : List Value).toArray wsX3_differences RX3 := ⟨hx, hb, hml, hown, hts⟩
  obtain ⟨hH0, hT, hP, hK, hN⟩ := hB
  subst hH0
  have hS : va_S (aA 17 a) s.heap s.heap [] := va_S.rf
  have hl : lv_has ls 8 [(0, .ref (a 0)), (1, .int (iI b)), (2, .int (iI t)), (3, .int (iI n))] := hl
  refine lv_aload_n hx hb dX3_differences_0 rfl (lv_at hl 0 rfl) ?_
  refine lv_iload_n hx hb dX3_differences_1 rfl (lv_at hl 1 rfl) ?_
  refine lv_iload_n hx hb dX3_differences_2 rfl (lv_at hl 2 rfl) ?_
  refine lv_iload_n hx hb dX3_differences_3 rfl (lv_at hl 3 rfl) ?_
  refine vx_callv (ri_runVX (b := a 0) (As := [.int (iI b), .int (iI t), .int (iI n)]) (rest := []) CF (kg_X3_checkComparison l D a kk g sa s.heap hst b t n hI hcm hng) gX3_differences_X3_checkComparison f_X3_checkComparison rfl (va_recv hK hP (ci := 3) (q0 := 0) rfl rfl) ⟨rfl, rfl, Nat.le_of_ble_eq_true rfl, Nat.le_of_ble_eq_true rfl, Nat.le_of_ble_eq_true rfl, Nat.le_of_ble_eq_true rfl⟩ dB_bl (dB_in hT hP hK hN) rfl hl.1 rfl (Nat.le_of_ble_eq_true rfl) dX3_differences_4) hS (fun _ _ h => h.elim) (fun _ h => h.elim) (fun _ _ h => h.elim) (fun X ce q9 _ t9 H1 locs1 ht hvm _ hB hz hk hS1 hce hcv hcl => ?_) (fun _ t9 H1 locs1 ht _ hp hB _ _ hS1 => hp.elim)
  exact vx_widen (k := 2) (n := 12) (Nat.le_of_ble_eq_true rfl) (Nat.le_of_ble_eq_true rfl) (vx_out (fun x hx => (hxt x hx).elim) hlocks hce hcv hcl (fun t2 ht2 _ => ⟨(), trivial, ⟨hB.1, by rw [ht2, ← ht]; exact hB.2⟩, by rw [ht2]; exact hz, fun q h1 h2 => by rw [ht2]; exact hk q h1 (fun z => z)⟩) (fun z hz2 => hS1.2.2 z hz2) (Nat.le_refl _) (Nat.le_refl _))
