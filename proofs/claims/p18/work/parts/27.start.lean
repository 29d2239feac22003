/-! ===== the start ===== -/
theorem arr_of {args : Array Value} {s : State} {ty : FieldType} (h : (Cond.arrayClass ty).before args s = true) : ∃ (cA : ClassId) (kA : Class) (comp : ClassId), s.vm.findClass ("[" ++ ty.toString) = some cA ∧ s.vm.classes[cA]? = some kA ∧ kA.kind = .array comp ty := Cond.arrayClass_spec h
theorem str_of {args : Array Value} {s : State} {own tx cls : String} {k : Nat} (h : (Cond.stringRef own k tx).before args s = true) (h2 : (Cond.exactly (.string own k) cls).before args s = true) : ∃ a : Nat, vk_R own k tx a s := by
  obtain ⟨a, c, cell, k9, h3, -⟩ := Cond.exactly_spec h2
  exact ⟨a, h, h3⟩
theorem D_l {A : Nat → Prop} {ws : va_W} {q : List Nat} (hD : va_D A ws) (h : ws.map Prod.fst = q) : (∀ i j x : Nat, q[i]? = some x → q[j]? = some x → i = j) ∧ ∀ i x : Nat, q[i]? = some x → A x := by
  have key : ∀ i x : Nat, q[i]? = some x → ∃ e : Nat × va_E, ws[i]? = some e ∧ e.1 = x := by
    intro i x hi
    rw [← h, List.getElem?_map] at hi
    cases hk : ws[i]? with
    | none => rw [hk] at hi; cases hi
    | some e => rw [hk] at hi; exact ⟨e, rfl, Option.some.inj hi⟩
  refine ⟨fun i j x h1 h2 => ?_, fun i x h1 => ?_⟩
  · obtain ⟨e1, a1, b1⟩ := key i x h1
    obtain ⟨e2, a2, b2⟩ := key j x h2
    exact hD.1 i j e1 e2 a1 a2 (b1.trans b2.symm)
  · obtain ⟨e1, a1, b1⟩ := key i x h1
    rw [← b1]
    exact hD.2 i e1 a1
def adL (a a2 : Nat → Nat) : List Nat := (List.range 17).map a ++ (List.range 17).map a2
theorem adL_a (a a2 : Nat → Nat) {i : Nat} (hi : i < 17) : (adL a a2)[i]? = some (a i) := by
  unfold adL
  rw [List.getElem?_append_left (by rw [List.length_map, List.length_range]; exact hi), List.getElem?_map, List.getElem?_range hi]
  rfl
theorem adL_m (a a2 : Nat → Nat) {j : Nat} (hj : j < 17) : (adL a a2)[17 + j]? = some (a2 j) := by
  unfold adL
  rw [List.getElem?_append_right (by rw [List.length_map, List.length_range]; omega), List.length_map, List.length_range, show 17 + j - 17 = j by omega, List.getElem?_map, List.getElem?_range hj]
  rfl

def R_law : String := "PictureProofLaw"
def lw_P (b : Addr) (xs : List Int32) (args : Array Value) (s : State) : Prop := args = #[.ref b] ∧ s.IntsAt b xs ∧ xs.length ≤ 260 ∧ (Jvm.Cond.and given_1 narrow_1).before args s = true
def lw_At (p : Program) (s : State) (m : MethodId) (meth : Method) (c : Code) (b L : Nat) (xs : Nat → Int32) : Prop :=
  p.tables.exec = Jvm.exec ∧ c.code = code ∧ meth.sig.returnType = ret ∧ c.maxLocals = 6 ∧ s.vm.findClass R_law = some m.cls ∧ (∀ w ∈ lw_tbl, w.before #[Value.ref b] s = true) ∧ va_X b L xs s s.heap ∧ b < s.heap.size ∧ meth.locks = false ∧ (Jvm.Cond.and given_1 narrow_1).before #[Value.ref b] s = true

/-- the end, in the large room: true; and where the script begins with seven times 6, at least 112 new cells -/
def pz_Q (Z : Prop) (s : State) (o : Outcome) (t : State) : Prop := o = .returned (some (.int 1)) ∧ Framed s o t [] 17000 110000 ∧ (Z → s.heap.size + 112 ≤ t.heap.size)
def pz_Z (below : List Frame) (Z : Prop) (s : State) : State → Prop := fun t => ∃ o, t.status = .running ∧ Ended t below o ∧ pz_Q Z s o t
theorem pz_ret {p : Program} {l : Launch} {e : Env} {s : State} {m : MethodId} {below : List Frame} {meth : Method} {c : Code} {b : Nat} {Z : Prop} (hx : p.tables.exec = Jvm.exec) (hb : c.code = code) (hr : meth.sig.returnType = ret) (hlocks : meth.locks = false) {pc : Nat} {H : Heap} {ls : Array Slot} (hz : Z → s.heap.size + 112 ≤ H.size) (hdg : decode code pc = .ok (.ireturn, 1)) : W p l e bigR s m #[Value.ref b] below meth c H [] 17000 110000 (pz_Z below Z s) (F0 m pc ls [.int (iI 1)]) := by
  show W p l e bigR s m #[Value.ref b] below meth c H [] 17000 110000 (pz_Z below Z s) (F0 m pc ls [.int 1])
  intro T hT X
  obtain ⟨fs, hret, hrun, hended, hW, hframe⟩ := X.leave (v := some (.int 1)) (hlocks := hlocks) (fun h => by rw [hr] at h; cases h)
  have hmeth' : T.vm.method? m = some meth := X.method'
  refine ⟨T.setFrames fs, ?_, .returned (some (.int 1)), hrun, hended, rfl, ⟨⟨_, rfl⟩, hW, hframe⟩, fun z => by show s.heap.size + 112 ≤ T.heap.size; rw [hT]; exact hz z⟩
  jvm_step X.here [X.here.top, hx, hb, hdg, hmeth', hr, ret, narrow_b1]
  (try refine ⟨rfl, ?_⟩); (try refine ⟨rfl, ?_⟩)
  first | (intro acts; rw [hret _ acts rfl rfl rfl]) | rw [hret _ _ rfl rfl rfl]
  exact Steps.refl _

set_option maxHeartbeats 4000000 in
set_option maxRecDepth 100000 in
theorem pz_start {p : Program} {e : Env} {s : State} {m : MethodId} {below : List Frame} {meth : Method} {c : Code} (l : Launch) (hflags : l.flags = flags0) {b L : Nat} {xs : Nat → Int32} (hL : L ≤ 260) (C0 : lw_At p s m meth c b L xs) : W p l e bigR s m #[Value.ref b] below meth c s.heap [] 0 0 (pz_Z below (Z7 L xs) s) (entryFrame m ([Value.ref b] : List Value).toArray 6) := by
  obtain ⟨hx, hb, hr, hml, hown, hts, hX, hbl, hlocks, hgv⟩ := id C0
  have hA : ∀ q : Nat, s.heap.size ≤ q → (fun q : Nat => s.heap.size ≤ q) q := fun _ h => h
  have hst : l.stackTraces = false := by
    unfold Launch.stackTraces
    rw [hflags]
    decide +kernel
  have hgs := flat_of_before _ hgv
  have htsL : ∀ w ∈ wsL_law, w.before (#[Value.ref b] : Array Value) s = true := fun w h => hts w (wsL_law_in w h)
  have hown : s.vm.findClass RL = some m.cls := hown
  obtain ⟨c0, iS0, hKn0⟩ := u_known (C := RX0) (T := TX0) (N := 2) (n := 2) hts inX0 (hts (.instantiable RX0 2) (List.mem_append_right _ (List.mem_of_getElem? (i := 56) (by decide +kernel))))
  obtain ⟨c1, iS1, hKn1⟩ := u_known (C := RX1) (T := TX1) (N := 2) (n := 2) hts inX1 (hts (.instantiable RX1 2) (List.mem_append_right _ (List.mem_of_getElem? (i := 22) (by decide +kernel))))
  obtain ⟨c2, iS2, hKn2⟩ := u_known (C := RX2) (T := TX2) (N := 4) (n := 4) hts inX2 (hts (.instantiable RX2 4) (List.mem_append_right _ (List.mem_of_getElem? (i := 37) (by decide +kernel))))
  obtain ⟨c3, iS3, hKn3⟩ := u_known (C := RX3) (T := TX3) (N := 4) (n := 4) hts inX3 (hts (.instantiable RX3 4) (List.mem_append_right _ (List.mem_of_getElem? (i := 14) (by decide +kernel))))
  obtain ⟨dC, dI, hKc⟩ : ∃ (dC : Nat → ClassId) (dI : Nat → Nat → Nat), ∀ (k : Nat) (q : vw_C), vwCl[k]? = some q → u_Kn s q.1 q.2.1 q.2.2 (dC k) (dI k) := by
    refine ⟨fun k => if k = 0 then c0 else if k = 1 then c1 else if k = 2 then c2 else c3, fun k => if k = 0 then iS0 else if k = 1 then iS1 else if k = 2 then iS2 else iS3, ?_⟩
    intro k q hq
    match k, hq with
    | 0, hq => cases hq; exact hKn0
    | 1, hq => cases hq; exact hKn1
    | 2, hq => cases hq; exact hKn2
    | 3, hq => cases hq; exact hKn3
    | k + 4, hq => cases hq
  obtain ⟨cI, kI, oI, fI1, fI2, fI3⟩ := arr_of (hts (.arrayClass .int) (List.mem_append_right _ (List.mem_of_getElem? (i := 34) (by decide +kernel))))
  obtain ⟨cZ, kZ, oZ, fZ1, fZ2, fZ3⟩ := arr_of (hts (.arrayClass .boolean) (List.mem_append_right _ (List.mem_of_getElem? (i := 35) (by decide +kernel))))
  obtain ⟨kk, hkk0, hkk1⟩ : ∃ kk : Nat → ClassId, kk 0 = cI ∧ kk 1 = cZ := ⟨fun n => if n = 0 then cI else cZ, rfl, rfl⟩
  subst hkk0
  subst hkk1
  have hK : va_K (dC, dI) vwCl (TY kk) s := by
    refine ⟨hKc, fun k q h => ?_⟩
    match k, h with
    | 0, h => cases h; exact ⟨fun n z => ⟨fun k h => (by cases h), kI, fI2, oI, fI3⟩, fI1⟩
    | 1, h => cases h; exact ⟨fun n z => ⟨fun k h => (by cases h), kZ, fZ2, oZ, fZ3⟩, fZ1⟩
    | k + 2, h => cases h
  have hN : xN s := ⟨va_Nw.of rfl (hts (.methodLinkNest RX0 18 yX3_isTest RX3) (List.mem_append_right _ (List.mem_of_getElem? (i := 390) (by decide +kernel)))), va_Nw.of rfl (hts (.methodLinkNest RX1 19 yX3_isWithin RX3) (List.mem_append_right _ (List.mem_of_getElem? (i := 188) (by decide +kernel)))), va_Nw.of rfl (hts (.methodLinkNest RX1 27 yX3_isCell RX3) (List.mem_append_right _ (List.mem_of_getElem? (i := 335) (by decide +kernel)))), va_Nw.of rfl (hts (.methodLinkNest RX2 24 yX3_isTest RX3) (List.mem_append_right _ (List.mem_of_getElem? (i := 254) (by decide +kernel)))), va_Nw.of rfl (hts (.methodLinkNest RX3 18 yX2_init RX3) (List.mem_append_right _ (List.mem_of_getElem? (i := 38) (by decide +kernel)))), va_Nw.of rfl (hts (.methodLinkNest RX3 28 yX0_init RX3) (List.mem_append_right _ (List.mem_of_getElem? (i := 57) (by decide +kernel))))⟩
  obtain ⟨s0, hs0⟩ := str_of (own := RX3) (k := 143) (tx := "an argument is out of range") (cls := "java/lang/String") (hts (.stringRef RX3 143 "an argument is out of range") (List.mem_append_right _ (List.mem_of_getElem? (i := 151) (by decide +kernel)))) (hgs (.exactly (.string RX3 143) "java/lang/String") (by decide +kernel))
  obtain ⟨s1, hs1⟩ := str_of (own := RX3) (k := 79) (tx := "the test has no part") (cls := "java/lang/String") (hts (.stringRef RX3 79 "the test has no part") (List.mem_append_right _ (List.mem_of_getElem? (i := 281) (by decide +kernel)))) (hgs (.exactly (.string RX3 79) "java/lang/String") (by decide +kernel))
  obtain ⟨s2, hs2⟩ := str_of (own := RX3) (k := 146) (tx := "there is no approved picture") (cls := "java/lang/String") (hts (.stringRef RX3 146 "there is no approved picture") (List.mem_append_right _ (List.mem_of_getElem? (i := 302) (by decide +kernel)))) (hgs (.exactly (.string RX3 146) "java/lang/String") (by decide +kernel))
  obtain ⟨sa, hsa0, hsa1, hsa2⟩ : ∃ sa : Nat → Nat, sa 0 = s0 ∧ sa 1 = s1 ∧ sa 2 = s2 := ⟨fun n => if n = 0 then s0 else if n = 1 then s1 else s2, rfl, rfl, rfl⟩
  subst hsa0
  subst hsa1
  subst hsa2
  have hT : tX sa (fun q => s.heap.size ≤ q) s := ⟨vx_Zqof (hts (.laysStatic Bundle.tN "UNASSIGNED_STACK" Bundle.steD) (List.mem_append_right _ (List.mem_of_getElem? (i := 138) (by decide +kernel)))) (hts (.initialized Bundle.tN) (List.mem_append_right _ (List.mem_of_getElem? (i := 5) (by decide +kernel)))) (hgs (.isRef (.static Bundle.tN "UNASSIGNED_STACK" Bundle.steD)) (by decide +kernel)) (fun a h => Nat.not_le.mpr h), vx_Zqof (hts (.laysStatic Bundle.tN "SUPPRESSED_SENTINEL" Bundle.listD) (List.mem_append_right _ (List.mem_of_getElem? (i := 140) (by decide +kernel)))) (hts (.initialized Bundle.tN) (List.mem_append_right _ (List.mem_of_getElem? (i := 5) (by decide +kernel)))) (hgs (.isRef (.static Bundle.tN "SUPPRESSED_SENTINEL" Bundle.listD)) (by decide +kernel)) (fun a h => Nat.not_le.mpr h), hs0, hs1, hs2, va_Nw.of rfl (hts (dcl "java/lang/RuntimeException") (List.mem_append_right _ (List.mem_of_getElem? (i := 115) (by decide +kernel)))), va_Nw.of rfl (hts (dcl "java/lang/Exception") (List.mem_append_right _ (List.mem_of_getElem? (i := 117) (by decide +kernel)))), va_Nw.of rfl (hts (dcl "java/lang/Throwable") (List.mem_append_right _ (List.mem_of_getElem? (i := 119) (by decide +kernel)))), va_Nw.of rfl (hts (.castable "java/lang/IllegalArgumentException" "java/lang/IllegalArgumentException") (List.mem_append_right _ (List.mem_of_getElem? (i := 113) (by decide +kernel)))), va_Nw.of rfl (hts (.castable "java/lang/IllegalStateException" "java/lang/IllegalStateException") (List.mem_append_right _ (List.mem_of_getElem? (i := 274) (by decide +kernel))))⟩
  have hC : va_Nc "java/lang/IllegalStateException" "java/lang/IllegalArgumentException" s := va_Nc.of (hgs (.not (.castable "java/lang/IllegalStateException" "java/lang/IllegalArgumentException")) (by decide +kernel))
  have hS : va_S (fun q : Nat => s.heap.size ≤ q) s.heap s.heap [] := va_S.rf
  have hP : va_P (dC, dI) vwCl [] s.heap := fun k q h => by simp at h
  have hD : va_D (fun q : Nat => s.heap.size ≤ q) [] := ⟨fun i j p q h => by simp at h, fun k q h => by simp at h⟩
  have hl := lv_entry ([.ref b]) (n := 6) (Nat.le_of_ble_eq_true rfl)
  rw [lg_entry_eq]
  generalize (lg_sl ([.ref b]) ++ List.replicate (6 - (lg_sl ([.ref b])).length) Slot.unset).toArray = ls at hl ⊢
  have hl : lv_has ls 6 [(0, .ref b)] := hl
  refine va_new (ci := 3) (fs := [.null, .null, .null, .null]) (C := RX3) (T := TX3) (N := 4) hx hb hts inX3 tyX3 tyX3_ok hown (hts (.classLink RL 9 RX3) (List.mem_append_right _ (List.mem_of_getElem? (i := 13) (by decide +kernel)))) (hts (.instantiable RX3 4) (List.mem_append_right _ (List.mem_of_getElem? (i := 14) (by decide +kernel)))) (hts (.initialized RX3) (List.mem_append_right _ (List.mem_of_getElem? (i := 1) (by decide +kernel)))) hK hP hD hS hA rfl (by decide) (Nat.le_of_ble_eq_true rfl) (Nat.le_of_ble_eq_true rfl) dL_law_0 (fun q0 H hP hD hS => ?_)
  have hP : va_P (dC, dI) vwCl ([(q0, .inr (3, [.null, .null, .null, .null]))]) H := hP
  have hD : va_D (fun q : Nat => s.heap.size ≤ q) ([(q0, .inr (3, [.null, .null, .null, .null]))]) := hD
  refine lv_dup hx hb dL_law_3 rfl ?_
  have hPc := hP.sub (ws' := [(q0, .inr (3, [.null, .null, .null, .null]))]) [0] rfl
  have hFc := va_free (wc := [(q0, .inr (3, [.null, .null, .null, .null]))]) hD hS hA [0] rfl
  refine va_callv (va_runI (As := []) (rest := [.ref q0]) ⟨hx, hb, hml, hown, htsL⟩ (k_X3_init l (dC, dI) kk q0 H.size) (cwI 0 htsL gL_law_X3_init rfl rfl rfl (hts (.initialized RX3) (List.mem_append_right _ (List.mem_of_getElem? (i := 1) (by decide +kernel)))) (hts (.methodLink RL 91 yX3_init) (List.mem_append_right _ (List.mem_of_getElem? (i := 15) (by decide +kernel)))) (hts (.instanceMethod yX3_init) (List.mem_append_right _ (List.mem_of_getElem? (i := 16) (by decide +kernel)))) rfl (by decide +kernel) ⟨(Nat.le_of_ble_eq_true rfl), (Nat.le_of_ble_eq_true rfl)⟩) ⟨Bl_pc nB_bl, fun U hU hW => ⟨rfl, nB_to hPc hK hN U hU hW⟩⟩ rfl rfl hl.1 rfl (lv_room (Nat.le_of_ble_eq_true rfl)) dL_law_4 ⟨(Nat.le_of_ble_eq_true rfl), (Nat.le_of_ble_eq_true rfl)⟩) hS (fun q _ h => hFc q h) hFc (fun a t H1 locs ht hvm hw hB hz1 hk1 hS => ?_)
  obtain ⟨hP1, hD1⟩ := hB
  rw [ht] at hP1
  have hw : a 0 = q0 := hw
  subst hw
  obtain ⟨hP, hD⟩ := va_join (wr := ([] : va_W)) (w1 := xW a kk z1) hP hD [0] [] rfl rfl (by decide) (by decide) hk1 hFc hP1 hD1
  generalize H1 = H at hP hS ⊢
  have hP : va_P (dC, dI) vwCl (([] : va_W) ++ xW a kk z1) H := hP
  have hD : va_D (fun q : Nat => s.heap.size ≤ q) (([] : va_W) ++ xW a kk z1) := hD
  have hP : va_P (dC, dI) vwCl (xW a kk z1) H := hP
  have hD : va_D (fun q : Nat => s.heap.size ≤ q) (xW a kk z1) := hD
  refine lv_astore_n (lv' := [(1, .ref (a 0)), (0, .ref b)]) hx hb dL_law_7 rfl hl (by decide) rfl (fun ls hl => ?_)
  refine va_new (ci := 3) (fs := [.null, .null, .null, .null]) (C := RX3) (T := TX3) (N := 4) hx hb hts inX3 tyX3 tyX3_ok hown (hts (.classLink RL 9 RX3) (List.mem_append_right _ (List.mem_of_getElem? (i := 13) (by decide +kernel)))) (hts (.instantiable RX3 4) (List.mem_append_right _ (List.mem_of_getElem? (i := 14) (by decide +kernel)))) (hts (.initialized RX3) (List.mem_append_right _ (List.mem_of_getElem? (i := 1) (by decide +kernel)))) hK hP hD hS hA rfl (by decide) (Nat.le_of_ble_eq_true rfl) (Nat.le_of_ble_eq_true rfl) dL_law_8 (fun q1 H hP hD hS => ?_)
  have hP : va_P (dC, dI) vwCl (xW a kk z1 ++ [(q1, .inr (3, [.null, .null, .null, .null]))]) H := hP
  have hD : va_D (fun q : Nat => s.heap.size ≤ q) (xW a kk z1 ++ [(q1, .inr (3, [.null, .null, .null, .null]))]) := hD
  refine lv_dup hx hb dL_law_11 rfl ?_
  have hPc := hP.sub (ws' := [(q1, .inr (3, [.null, .null, .null, .null]))]) [17] rfl
  have hFc := va_free (wc := [(q1, .inr (3, [.null, .null, .null, .null]))]) hD hS hA [17] rfl
  refine va_callv (va_runI (As := []) (rest := [.ref q1]) ⟨hx, hb, hml, hown, htsL⟩ (k_X3_init l (dC, dI) kk q1 H.size) (cwI 0 htsL gL_law_X3_init rfl rfl rfl (hts (.initialized RX3) (List.mem_append_right _ (List.mem_of_getElem? (i := 1) (by decide +kernel)))) (hts (.methodLink RL 91 yX3_init) (List.mem_append_right _ (List.mem_of_getElem? (i := 15) (by decide +kernel)))) (hts (.instanceMethod yX3_init) (List.mem_append_right _ (List.mem_of_getElem? (i := 16) (by decide +kernel)))) rfl (by decide +kernel) ⟨(Nat.le_of_ble_eq_true rfl), (Nat.le_of_ble_eq_true rfl)⟩) ⟨Bl_pc nB_bl, fun U hU hW => ⟨rfl, nB_to hPc hK hN U hU hW⟩⟩ rfl rfl hl.1 rfl (lv_room (Nat.le_of_ble_eq_true rfl)) dL_law_12 ⟨(Nat.le_of_ble_eq_true rfl), (Nat.le_of_ble_eq_true rfl)⟩) hS (fun q _ h => hFc q h) hFc (fun a2 t H1 locs ht hvm hw hB hz1 hk1 hS => ?_)
  obtain ⟨hP1, hD1⟩ := hB
  rw [ht] at hP1
  have hw : a2 0 = q1 := hw
  subst hw
  obtain ⟨hP, hD⟩ := va_join (wr := xW a kk z1) (w1 := xW a2 kk z1) hP hD [17] [0, 1, 2, 3, 4, 5, 6, 7, 8, 9, 10, 11, 12, 13, 14, 15, 16] rfl rfl (by decide) (by decide) hk1 hFc hP1 hD1
  generalize H1 = H at hP hS ⊢
  have hP : va_P (dC, dI) vwCl (xW a kk z1 ++ xW a2 kk z1) H := hP
  have hD : va_D (fun q : Nat => s.heap.size ≤ q) (xW a kk z1 ++ xW a2 kk z1) := hD
  refine lv_astore_n (lv' := [(2, .ref (a2 0)), (1, .ref (a 0)), (0, .ref b)]) hx hb dL_law_15 rfl hl (by decide) rfl (fun ls hl => ?_)
  refine ri_iconst hx hb dL_law_16 ?_
  refine lv_istore_n (lv' := [(3, .int (iI 0)), (2, .ref (a2 0)), (1, .ref (a 0)), (0, .ref b)]) hx hb dL_law_17 rfl hl (by decide) rfl (fun ls hl => ?_)
  have hPx : va_P (dC, dI) vwCl (xW a kk z1) H := hP.sub [0, 1, 2, 3, 4, 5, 6, 7, 8, 9, 10, 11, 12, 13, 14, 15, 16] rfl
  have hPy : va_P (dC, dI) vwCl (xW a2 kk z1) H := hP.sub [17, 18, 19, 20, 21, 22, 23, 24, 25, 26, 27, 28, 29, 30, 31, 32, 33] rfl
  obtain ⟨dd, dA⟩ := D_l hD (q := adL a a2) rfl
  have C9 : LCx p l s m meth c b L xs (dC, dI) kk a a2 sa := by
    refine ⟨⟨hx, hb, hml, hown, htsL, hts, hX, hbl, hL⟩, ⟨hst, hK, hN, hT, hC⟩, ?_, ?_, ?_, ?_, ?_⟩
    · exact fun i j hi hj e9 => dd i j (a i) (adL_a a a2 hi) (by rw [e9]; exact adL_a a a2 hj)
    · exact fun i j hi hj e9 => by have := dd (17 + i) (17 + j) (a2 i) (adL_m a a2 hi) (by rw [e9]; exact adL_m a a2 hj); omega
    · exact fun i j hi hj e9 => by have := dd i (17 + j) (a i) (adL_a a a2 hi) (by rw [e9]; exact adL_m a a2 hj); omega
    · exact fun i hi => dA i (a i) (adL_a a a2 hi)
    · exact fun j hj => dA (17 + j) (a2 j) (adL_m a a2 hj)
  exact law_loop C9 (fun H ls hz => pz_ret hx hb hr hlocks hz dL_law_158) 81 0 (by omega) (by omega) z1 H _ ls ⟨hPx, hPy, hS, XInv_z1, fun _ => ⟨fun _ => rfl, by have := hS.1; omega⟩⟩ (lv_sub hl [3, 2, 1, 0] rfl)
